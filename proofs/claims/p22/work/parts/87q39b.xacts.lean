/-! Acts: give, hand. -/
theorem xt_L_give_nnx {B : Nat} {mc : Int} {sc : Int} {tx : Int} {nr : Int} {ra : Int} {ru : Int} {dy : Int} {wa : Int} {se : Int} {f1 : Nat → Int} {f2 : Nat → Int} {f3 : Nat → Int64} {nw : Int} {zz : Int} {nn : Int} {a1 : Int} {b1 : Int} {fo : Nat → Int64} {re : Int} {g : Nat → Int} {fv : Nat → Int} {fc : Nat → Int} {r : Int} {v' : Int} {th' : Int} {re' : Int} {g' : Nat → Int} {fv' : Nat → Int} {fc' : Nat → Int} (h : kC9 B mc sc tx nr ra ru dy wa se f1 f2 f3 g) (hB : B ≤ 4000) (z0 : 0 ≤ zz) (z12 : zz ≤ 12) (g3 : g 3 = 0) (hc : F_z_L_give_nnx mc sc tx nr ra ru dy wa se f1 f2 f3 nw zz nn a1 b1 fo = Sum.inl r) (hr : F_r_give re g fv fc a1 b1 = (v', th', re', g', fv', fc')) : th' = r ∧ re' = re ∧ g' = g ∧ fc' = fc := by
  obtain ⟨hC, hZ, hW, u0, u1⟩ := h
  obtain ⟨ww1, ww2, ww3, eR, v1, v2, v3⟩ := rem_n (nw := nw) (zz := zz) (nn := nn) (mc := mc) (sc := sc) (tx := tx) (nr := nr) (ra := ra) (ru := ru) (dy := dy) (wa := wa) (se := se) (f1 := f1) (f2 := f2) (f3 := f3) z0 z12
  unfold F_z_L_give_nnx at hc
  rcases give_nn (a := a1) (b := b1) (fv := fv) (nw := nw) (zz := zz) (nn := nn) (re := re) (fc := fc) hC g3 with ⟨kq, fvq, e1, e2, e3⟩ | ⟨vq, d1q, d2q, gq, fvq, e1, e2, e3, e4, e5⟩
  · rw [e1] at hc
    rw [e2] at hr
    simp only [Prod.mk.injEq] at hr
    obtain ⟨rfl, rfl, rfl, rfl, rfl, rfl⟩ := hr
    rcases e3 with rfl | rfl <;> (simp only [kS, kC, kLet, Int32.reduceToInt, Int.reduceEq, ↓reduceIte, Sum.inl.injEq, Sum.inr.injEq, Prod.mk.injEq] at hc; obtain rfl := hc; exact ⟨rfl, rfl, rfl, rfl⟩)
  · rw [e1, eR] at hc
    simp only [kS, kC, kLet, Int32.reduceToInt, Int.reduceEq, ↓reduceIte, reduceCtorEq] at hc
theorem xs_L_give_nnx {B : Nat} {mc : Int} {sc : Int} {tx : Int} {nr : Int} {ra : Int} {ru : Int} {dy : Int} {wa : Int} {se : Int} {f1 : Nat → Int} {f2 : Nat → Int} {f3 : Nat → Int64} {nw : Int} {zz : Int} {nn : Int} {a1 : Int} {b1 : Int} {fo : Nat → Int64} {re : Int} {g : Nat → Int} {fv : Nat → Int} {fc : Nat → Int} {r : Int} {d1 : Nat → Int} {d2 : Nat → Int} {nw' : Int} {zz' : Int} {fo' : Nat → Int64} {mcO : Int} {scO : Int} {txO : Int} {nrO : Int} {raO : Int} {ruO : Int} {dyO : Int} {waO : Int} {seO : Int} {h1 : Nat → Int} {h2 : Nat → Int} {h3 : Nat → Int64} {v' : Int} {th' : Int} {re' : Int} {g' : Nat → Int} {fv' : Nat → Int} {fc' : Nat → Int} (h : kC9 B mc sc tx nr ra ru dy wa se f1 f2 f3 g) (hB : B ≤ 4000) (z0 : 0 ≤ zz) (z12 : zz ≤ 12) (g3 : g 3 = 0) (hc : F_z_L_give_nnx mc sc tx nr ra ru dy wa se f1 f2 f3 nw zz nn a1 b1 fo = Sum.inr (r, d1, d2, nw', zz', fo', mcO, scO, txO, nrO, raO, ruO, dyO, waO, seO, h1, h2, h3)) (hr : F_r_give re g fv fc a1 b1 = (v', th', re', g', fv', fc')) : r = 0 ∧ th' = 0 ∧ fo' 0 = kI2l v' ∧ kC9 (B + 6) mc sc tx nr ra ru dy wa se d1 d2 f3 g' ∧ g' 3 = g 3 ∧ (∀ j, 505 ≤ j → g' j = g j) ∧ kRmb mc sc tx nr ra ru dy wa se f1 f2 f3 zz nn nw' zz' mcO scO txO nrO raO ruO dyO waO seO h1 h2 h3 ∧ (re', fc') = F_r_remembers re g fc := by
  obtain ⟨hC, hZ, hW, u0, u1⟩ := h
  obtain ⟨ww1, ww2, ww3, eR, v1, v2, v3⟩ := rem_n (nw := nw) (zz := zz) (nn := nn) (mc := mc) (sc := sc) (tx := tx) (nr := nr) (ra := ra) (ru := ru) (dy := dy) (wa := wa) (se := se) (f1 := f1) (f2 := f2) (f3 := f3) z0 z12
  unfold F_z_L_give_nnx at hc
  rcases give_nn (a := a1) (b := b1) (fv := fv) (nw := nw) (zz := zz) (nn := nn) (re := re) (fc := fc) hC g3 with ⟨kq, fvq, e1, e2, e3⟩ | ⟨vq, d1q, d2q, gq, fvq, e1, e2, e3, e4, e5⟩
  · rw [e1] at hc
    rcases e3 with rfl | rfl <;> simp only [kS, kC, kLet, Int32.reduceToInt, Int.reduceEq, ↓reduceIte, reduceCtorEq] at hc
  · skip
    rw [e1, eR] at hc
    rw [e2] at hr
    simp only [kS, kC, kLet, Int32.reduceToInt, Int.reduceEq, ↓reduceIte, Sum.inl.injEq, Sum.inr.injEq, Prod.mk.injEq] at hc
    simp only [Prod.mk.injEq] at hr
    obtain ⟨rfl, rfl, rfl, rfl, rfl, rfl, rfl, rfl, rfl, rfl, rfl, rfl, rfl, rfl, rfl, rfl, rfl, rfl⟩ := hc
    obtain ⟨rfl, rfl, rfl, rfl, rfl, rfl⟩ := hr
    exact ⟨rfl, rfl, kUpd_at, ⟨e3, hZ, by omega, u0, u1⟩, e4, e5, ⟨rfl, rfl, rfl, rfl, rfl, rfl, rfl, rfl, rfl, rfl, rfl, v1, v2, v3⟩, rfl⟩
theorem xt_L_hand_nnx0 {B : Nat} {mc : Int} {sc : Int} {tx : Int} {nr : Int} {ra : Int} {ru : Int} {dy : Int} {wa : Int} {se : Int} {f1 : Nat → Int} {f2 : Nat → Int} {f3 : Nat → Int64} {et : Nat → Int64} {eb : Nat → Int} {ec : Nat → Int} {en : Nat → Int} {ep : Nat → Int} {es : Nat → Int} {nw : Int} {zz : Int} {nn : Int} {a1 : Int} {fo : Nat → Int64} {re : Int} {g : Nat → Int} {fv : Nat → Int} {fn : Nat → Int} {fk : Nat → Int} {fW : Nat → Int64} {fC : Nat → Int} {fg : Nat → Int} {fc : Nat → Int} {r : Int} {n0_ : Int} {n1_ : Int} {f2_ : Nat → Int64} {f3_ : Nat → Int} {f4_ : Nat → Int} {f5_ : Nat → Int} {f6_ : Nat → Int} {f7_ : Nat → Int} {v' : Int} {th' : Int} {re' : Int} {ne' : Int} {g' : Nat → Int} {fv' : Nat → Int} {fn' : Nat → Int} {fk' : Nat → Int} {fW' : Nat → Int64} {fC' : Nat → Int} {fg' : Nat → Int} {fc' : Nat → Int} (h : kC9 B mc sc tx nr ra ru dy wa se f1 f2 f3 g) (hB : B ≤ 4000) (z0 : 0 ≤ zz) (z12 : zz ≤ 12) (g3 : g 3 = 0) (ha : a1 = 0) (hc : F_z_L_hand_nnx mc sc tx nr ra ru dy wa se f1 f2 f3 et eb ec en ep es nw zz nn a1 fo = Sum.inl (r, n0_, n1_, f2_, f3_, f4_, f5_, f6_, f7_)) (hr : F_r_hand0 re g fv fn fk fW fC fg fc = (v', th', re', ne', g', fv', fn', fk', fW', fC', fg', fc')) : th' = r ∧ re' = re ∧ g' = g ∧ fc' = fc := by
  obtain ⟨hC, hZ, hW, u0, u1⟩ := h
  subst ha
  obtain ⟨ww1, ww2, ww3, eR, v1, v2, v3⟩ := rem_n (nw := nw) (zz := zz) (nn := nn) (mc := mc) (sc := sc) (tx := tx) (nr := nr) (ra := ra) (ru := ru) (dy := dy) (wa := wa) (se := se) (f1 := f1) (f2 := f2) (f3 := f3) z0 z12
  unfold F_z_L_hand_nnx at hc
  rcases hand_nn0 (et := et) (eb := eb) (ec := ec) (en := en) (ep := ep) (es := es) (fv := fv) (fn := fn) (fk := fk) (fC := fC) (fg := fg) (fW := fW) (nw := nw) (zz := zz) (nn := nn) (re := re) (fc := fc) hC g3 with ⟨bcq, ccq, etq, ebq, ecq, enq, epq, esq, fvq, fnq, fkq, fCq, fgq, fWq, e1, e2⟩ | ⟨vq, bcq, ccq, d1q, d2q, gq, etq, ebq, ecq, enq, epq, esq, fvq, fnq, fkq, fCq, fgq, fWq, e1, e2, e3, e4, e5⟩
  · rw [e1] at hc
    rw [e2] at hr
    simp only [Prod.mk.injEq] at hr
    obtain ⟨rfl, rfl, rfl, rfl, rfl, rfl, rfl, rfl, rfl, rfl, rfl, rfl⟩ := hr
    simp only [kS, kC, kLet, Int32.reduceToInt, Int.reduceEq, ↓reduceIte, Sum.inl.injEq, Sum.inr.injEq, Prod.mk.injEq] at hc
    obtain ⟨rfl, rfl, rfl, rfl, rfl, rfl, rfl, rfl, rfl⟩ := hc
    exact ⟨rfl, rfl, rfl, rfl⟩
  · rw [e1, eR] at hc
    simp only [kS, kC, kLet, Int32.reduceToInt, Int.reduceEq, ↓reduceIte, reduceCtorEq] at hc
theorem xs_L_hand_nnx0 {B : Nat} {mc : Int} {sc : Int} {tx : Int} {nr : Int} {ra : Int} {ru : Int} {dy : Int} {wa : Int} {se : Int} {f1 : Nat → Int} {f2 : Nat → Int} {f3 : Nat → Int64} {et : Nat → Int64} {eb : Nat → Int} {ec : Nat → Int} {en : Nat → Int} {ep : Nat → Int} {es : Nat → Int} {nw : Int} {zz : Int} {nn : Int} {a1 : Int} {fo : Nat → Int64} {re : Int} {g : Nat → Int} {fv : Nat → Int} {fn : Nat → Int} {fk : Nat → Int} {fW : Nat → Int64} {fC : Nat → Int} {fg : Nat → Int} {fc : Nat → Int} {r : Int} {d1 : Nat → Int} {d2 : Nat → Int} {n2_ : Int} {n3_ : Int} {f4_ : Nat → Int64} {f5_ : Nat → Int} {f6_ : Nat → Int} {f7_ : Nat → Int} {f8_ : Nat → Int} {f9_ : Nat → Int} {nw' : Int} {zz' : Int} {fo' : Nat → Int64} {mcO : Int} {scO : Int} {txO : Int} {nrO : Int} {raO : Int} {ruO : Int} {dyO : Int} {waO : Int} {seO : Int} {h1 : Nat → Int} {h2 : Nat → Int} {h3 : Nat → Int64} {v' : Int} {th' : Int} {re' : Int} {ne' : Int} {g' : Nat → Int} {fv' : Nat → Int} {fn' : Nat → Int} {fk' : Nat → Int} {fW' : Nat → Int64} {fC' : Nat → Int} {fg' : Nat → Int} {fc' : Nat → Int} (h : kC9 B mc sc tx nr ra ru dy wa se f1 f2 f3 g) (hB : B ≤ 4000) (z0 : 0 ≤ zz) (z12 : zz ≤ 12) (g3 : g 3 = 0) (ha : a1 = 0) (hc : F_z_L_hand_nnx mc sc tx nr ra ru dy wa se f1 f2 f3 et eb ec en ep es nw zz nn a1 fo = Sum.inr (r, d1, d2, n2_, n3_, f4_, f5_, f6_, f7_, f8_, f9_, nw', zz', fo', mcO, scO, txO, nrO, raO, ruO, dyO, waO, seO, h1, h2, h3)) (hr : F_r_hand0 re g fv fn fk fW fC fg fc = (v', th', re', ne', g', fv', fn', fk', fW', fC', fg', fc')) : r = 0 ∧ th' = 0 ∧ fo' 0 = kI2l v' ∧ kC9 (B + 6) mc sc tx nr ra ru dy wa se d1 d2 f3 g' ∧ g' 3 = g 3 ∧ (∀ j, 505 ≤ j → g' j = g j) ∧ kRmb mc sc tx nr ra ru dy wa se f1 f2 f3 zz nn nw' zz' mcO scO txO nrO raO ruO dyO waO seO h1 h2 h3 ∧ (re', fc') = F_r_remembers re g fc := by
  obtain ⟨hC, hZ, hW, u0, u1⟩ := h
  subst ha
  obtain ⟨ww1, ww2, ww3, eR, v1, v2, v3⟩ := rem_n (nw := nw) (zz := zz) (nn := nn) (mc := mc) (sc := sc) (tx := tx) (nr := nr) (ra := ra) (ru := ru) (dy := dy) (wa := wa) (se := se) (f1 := f1) (f2 := f2) (f3 := f3) z0 z12
  unfold F_z_L_hand_nnx at hc
  rcases hand_nn0 (et := et) (eb := eb) (ec := ec) (en := en) (ep := ep) (es := es) (fv := fv) (fn := fn) (fk := fk) (fC := fC) (fg := fg) (fW := fW) (nw := nw) (zz := zz) (nn := nn) (re := re) (fc := fc) hC g3 with ⟨bcq, ccq, etq, ebq, ecq, enq, epq, esq, fvq, fnq, fkq, fCq, fgq, fWq, e1, e2⟩ | ⟨vq, bcq, ccq, d1q, d2q, gq, etq, ebq, ecq, enq, epq, esq, fvq, fnq, fkq, fCq, fgq, fWq, e1, e2, e3, e4, e5⟩
  · rw [e1] at hc
    simp only [kS, kC, kLet, Int32.reduceToInt, Int.reduceEq, ↓reduceIte, reduceCtorEq] at hc
  · skip
    rw [e1, eR] at hc
    rw [e2] at hr
    simp only [kS, kC, kLet, Int32.reduceToInt, Int.reduceEq, ↓reduceIte, Sum.inl.injEq, Sum.inr.injEq, Prod.mk.injEq] at hc
    simp only [Prod.mk.injEq] at hr
    obtain ⟨rfl, rfl, rfl, rfl, rfl, rfl, rfl, rfl, rfl, rfl, rfl, rfl, rfl, rfl, rfl, rfl, rfl, rfl, rfl, rfl, rfl, rfl, rfl, rfl, rfl, rfl⟩ := hc
    obtain ⟨rfl, rfl, rfl, rfl, rfl, rfl, rfl, rfl, rfl, rfl, rfl, rfl⟩ := hr
    exact ⟨rfl, rfl, kUpd_at, ⟨e3, hZ, by omega, u0, u1⟩, e4, e5, ⟨rfl, rfl, rfl, rfl, rfl, rfl, rfl, rfl, rfl, rfl, rfl, v1, v2, v3⟩, rfl⟩
theorem xt_L_hand_nnx1 {B : Nat} {mc : Int} {sc : Int} {tx : Int} {nr : Int} {ra : Int} {ru : Int} {dy : Int} {wa : Int} {se : Int} {f1 : Nat → Int} {f2 : Nat → Int} {f3 : Nat → Int64} {et : Nat → Int64} {eb : Nat → Int} {ec : Nat → Int} {en : Nat → Int} {ep : Nat → Int} {es : Nat → Int} {nw : Int} {zz : Int} {nn : Int} {a1 : Int} {fo : Nat → Int64} {re : Int} {g : Nat → Int} {fv : Nat → Int} {fn : Nat → Int} {fk : Nat → Int} {fW : Nat → Int64} {fC : Nat → Int} {fg : Nat → Int} {fc : Nat → Int} {r : Int} {n0_ : Int} {n1_ : Int} {f2_ : Nat → Int64} {f3_ : Nat → Int} {f4_ : Nat → Int} {f5_ : Nat → Int} {f6_ : Nat → Int} {f7_ : Nat → Int} {v' : Int} {th' : Int} {re' : Int} {ne' : Int} {g' : Nat → Int} {fv' : Nat → Int} {fn' : Nat → Int} {fk' : Nat → Int} {fW' : Nat → Int64} {fC' : Nat → Int} {fg' : Nat → Int} {fc' : Nat → Int} (h : kC9 B mc sc tx nr ra ru dy wa se f1 f2 f3 g) (hB : B ≤ 4000) (z0 : 0 ≤ zz) (z12 : zz ≤ 12) (g3 : g 3 = 0) (ha : a1 = 1) (hc : F_z_L_hand_nnx mc sc tx nr ra ru dy wa se f1 f2 f3 et eb ec en ep es nw zz nn a1 fo = Sum.inl (r, n0_, n1_, f2_, f3_, f4_, f5_, f6_, f7_)) (hr : F_r_hand1 re g fv fn fk fW fC fg fc = (v', th', re', ne', g', fv', fn', fk', fW', fC', fg', fc')) : th' = r ∧ re' = re ∧ g' = g ∧ fc' = fc := by
  obtain ⟨hC, hZ, hW, u0, u1⟩ := h
  subst ha
  obtain ⟨ww1, ww2, ww3, eR, v1, v2, v3⟩ := rem_n (nw := nw) (zz := zz) (nn := nn) (mc := mc) (sc := sc) (tx := tx) (nr := nr) (ra := ra) (ru := ru) (dy := dy) (wa := wa) (se := se) (f1 := f1) (f2 := f2) (f3 := f3) z0 z12
  unfold F_z_L_hand_nnx at hc
  rcases hand_nn1 (et := et) (eb := eb) (ec := ec) (en := en) (ep := ep) (es := es) (fv := fv) (fn := fn) (fk := fk) (fC := fC) (fg := fg) (fW := fW) (nw := nw) (zz := zz) (nn := nn) (re := re) (fc := fc) hC g3 with ⟨bcq, ccq, etq, ebq, ecq, enq, epq, esq, fvq, fnq, fkq, fCq, fgq, fWq, e1, e2⟩ | ⟨vq, bcq, ccq, d1q, d2q, gq, etq, ebq, ecq, enq, epq, esq, fvq, fnq, fkq, fCq, fgq, fWq, e1, e2, e3, e4, e5⟩
  · rw [e1] at hc
    rw [e2] at hr
    simp only [Prod.mk.injEq] at hr
    obtain ⟨rfl, rfl, rfl, rfl, rfl, rfl, rfl, rfl, rfl, rfl, rfl, rfl⟩ := hr
    simp only [kS, kC, kLet, Int32.reduceToInt, Int.reduceEq, ↓reduceIte, Sum.inl.injEq, Sum.inr.injEq, Prod.mk.injEq] at hc
    obtain ⟨rfl, rfl, rfl, rfl, rfl, rfl, rfl, rfl, rfl⟩ := hc
    exact ⟨rfl, rfl, rfl, rfl⟩
  · rw [e1, eR] at hc
    simp only [kS, kC, kLet, Int32.reduceToInt, Int.reduceEq, ↓reduceIte, reduceCtorEq] at hc
theorem xs_L_hand_nnx1 {B : Nat} {mc : Int} {sc : Int} {tx : Int} {nr : Int} {ra : Int} {ru : Int} {dy : Int} {wa : Int} {se : Int} {f1 : Nat → Int} {f2 : Nat → Int} {f3 : Nat → Int64} {et : Nat → Int64} {eb : Nat → Int} {ec : Nat → Int} {en : Nat → Int} {ep : Nat → Int} {es : Nat → Int} {nw : Int} {zz : Int} {nn : Int} {a1 : Int} {fo : Nat → Int64} {re : Int} {g : Nat → Int} {fv : Nat → Int} {fn : Nat → Int} {fk : Nat → Int} {fW : Nat → Int64} {fC : Nat → Int} {fg : Nat → Int} {fc : Nat → Int} {r : Int} {d1 : Nat → Int} {d2 : Nat → Int} {n2_ : Int} {n3_ : Int} {f4_ : Nat → Int64} {f5_ : Nat → Int} {f6_ : Nat → Int} {f7_ : Nat → Int} {f8_ : Nat → Int} {f9_ : Nat → Int} {nw' : Int} {zz' : Int} {fo' : Nat → Int64} {mcO : Int} {scO : Int} {txO : Int} {nrO : Int} {raO : Int} {ruO : Int} {dyO : Int} {waO : Int} {seO : Int} {h1 : Nat → Int} {h2 : Nat → Int} {h3 : Nat → Int64} {v' : Int} {th' : Int} {re' : Int} {ne' : Int} {g' : Nat → Int} {fv' : Nat → Int} {fn' : Nat → Int} {fk' : Nat → Int} {fW' : Nat → Int64} {fC' : Nat → Int} {fg' : Nat → Int} {fc' : Nat → Int} (h : kC9 B mc sc tx nr ra ru dy wa se f1 f2 f3 g) (hB : B ≤ 4000) (z0 : 0 ≤ zz) (z12 : zz ≤ 12) (g3 : g 3 = 0) (ha : a1 = 1) (hc : F_z_L_hand_nnx mc sc tx nr ra ru dy wa se f1 f2 f3 et eb ec en ep es nw zz nn a1 fo = Sum.inr (r, d1, d2, n2_, n3_, f4_, f5_, f6_, f7_, f8_, f9_, nw', zz', fo', mcO, scO, txO, nrO, raO, ruO, dyO, waO, seO, h1, h2, h3)) (hr : F_r_hand1 re g fv fn fk fW fC fg fc = (v', th', re', ne', g', fv', fn', fk', fW', fC', fg', fc')) : r = 0 ∧ th' = 0 ∧ fo' 0 = kI2l v' ∧ kC9 (B + 6) mc sc tx nr ra ru dy wa se d1 d2 f3 g' ∧ g' 3 = g 3 ∧ (∀ j, 505 ≤ j → g' j = g j) ∧ kRmb mc sc tx nr ra ru dy wa se f1 f2 f3 zz nn nw' zz' mcO scO txO nrO raO ruO dyO waO seO h1 h2 h3 ∧ (re', fc') = F_r_remembers re g fc := by
  obtain ⟨hC, hZ, hW, u0, u1⟩ := h
  subst ha
  obtain ⟨ww1, ww2, ww3, eR, v1, v2, v3⟩ := rem_n (nw := nw) (zz := zz) (nn := nn) (mc := mc) (sc := sc) (tx := tx) (nr := nr) (ra := ra) (ru := ru) (dy := dy) (wa := wa) (se := se) (f1 := f1) (f2 := f2) (f3 := f3) z0 z12
  unfold F_z_L_hand_nnx at hc
  rcases hand_nn1 (et := et) (eb := eb) (ec := ec) (en := en) (ep := ep) (es := es) (fv := fv) (fn := fn) (fk := fk) (fC := fC) (fg := fg) (fW := fW) (nw := nw) (zz := zz) (nn := nn) (re := re) (fc := fc) hC g3 with ⟨bcq, ccq, etq, ebq, ecq, enq, epq, esq, fvq, fnq, fkq, fCq, fgq, fWq, e1, e2⟩ | ⟨vq, bcq, ccq, d1q, d2q, gq, etq, ebq, ecq, enq, epq, esq, fvq, fnq, fkq, fCq, fgq, fWq, e1, e2, e3, e4, e5⟩
  · rw [e1] at hc
    simp only [kS, kC, kLet, Int32.reduceToInt, Int.reduceEq, ↓reduceIte, reduceCtorEq] at hc
  · skip
    rw [e1, eR] at hc
    rw [e2] at hr
    simp only [kS, kC, kLet, Int32.reduceToInt, Int.reduceEq, ↓reduceIte, Sum.inl.injEq, Sum.inr.injEq, Prod.mk.injEq] at hc
    simp only [Prod.mk.injEq] at hr
    obtain ⟨rfl, rfl, rfl, rfl, rfl, rfl, rfl, rfl, rfl, rfl, rfl, rfl, rfl, rfl, rfl, rfl, rfl, rfl, rfl, rfl, rfl, rfl, rfl, rfl, rfl, rfl⟩ := hc
    obtain ⟨rfl, rfl, rfl, rfl, rfl, rfl, rfl, rfl, rfl, rfl, rfl, rfl⟩ := hr
    exact ⟨rfl, rfl, kUpd_at, ⟨e3, hZ, by omega, u0, u1⟩, e4, e5, ⟨rfl, rfl, rfl, rfl, rfl, rfl, rfl, rfl, rfl, rfl, rfl, v1, v2, v3⟩, rfl⟩
theorem xt_L_give_snx {B : Nat} {mc : Int} {sc : Int} {tx : Int} {nr : Int} {ra : Int} {ru : Int} {dy : Int} {wa : Int} {se : Int} {f1 : Nat → Int} {f2 : Nat → Int} {f3 : Nat → Int64} {M1 : Nat} {M2 : Nat} {M3 : Nat} {y1_ : Nat → Int} {y2_ : Nat → Int} {y3_ : Nat → Int} {y4_ : Nat → Int} {nw : Int} {zz : Int} {nn : Int} {a1 : Int} {b1 : Int} {fo : Nat → Int64} {re : Int} {g : Nat → Int} {fv : Nat → Int} {fc : Nat → Int} {r : Int} {y4' : Nat → Int} {v' : Int} {th' : Int} {re' : Int} {g' : Nat → Int} {fv' : Nat → Int} {fc' : Nat → Int} (h : kC9 B mc sc tx nr ra ru dy wa se f1 f2 f3 g) (hB : B ≤ 4000) (z0 : 0 ≤ zz) (z12 : zz ≤ 12) (g3 : g 3 = 1) (hL : LW M1 M2 M3 y1_ y2_ y3_ g) (k1 : ∀ i, kW (f1 i) = f1 i) (k2 : ∀ i, kW (f2 i) = f2 i) (kw : kW wa = wa) (hc : F_z_L_give_snx mc sc tx nr ra ru dy wa se f1 f2 f3 M1 M2 M3 y1_ y2_ y3_ y4_ nw zz nn a1 b1 fo = Sum.inl (r, y4')) (hr : F_r_give re g fv fc a1 b1 = (v', th', re', g', fv', fc')) : th' = r ∧ re' = re ∧ g' = g ∧ fc' = fc := by
  obtain ⟨hC, hZ, hW, u0, u1⟩ := h
  obtain ⟨ww1, ww2, ww3, eR, v1, v2, v3⟩ := rem_n (nw := nw) (zz := zz) (nn := nn) (mc := mc) (sc := sc) (tx := tx) (nr := nr) (ra := ra) (ru := ru) (dy := dy) (wa := wa) (se := se) (f1 := f1) (f2 := f2) (f3 := f3) z0 z12
  unfold F_z_L_give_snx at hc
  rcases give_sn (a := a1) (b := b1) (fv := fv) (nw := nw) (zz := zz) (nn := nn) (re := re) (fc := fc) (y4 := y4_) hC g3 hL k1 k2 kw with ⟨kq, y4q, fvq, e1, e2, e3⟩ | ⟨vq, d1q, d2q, y4q, gq, fvq, e1, e2, e3, e4, e5⟩
  · rw [e1] at hc
    rw [e2] at hr
    simp only [Prod.mk.injEq] at hr
    obtain ⟨rfl, rfl, rfl, rfl, rfl, rfl⟩ := hr
    rcases e3 with rfl | rfl <;> (simp only [kS, kC, kLet, Int32.reduceToInt, Int.reduceEq, ↓reduceIte, Sum.inl.injEq, Sum.inr.injEq, Prod.mk.injEq] at hc; obtain ⟨rfl, rfl⟩ := hc; exact ⟨rfl, rfl, rfl, rfl⟩)
  · rw [e1, eR] at hc
    simp only [kS, kC, kLet, Int32.reduceToInt, Int.reduceEq, ↓reduceIte, reduceCtorEq] at hc
theorem xs_L_give_snx {B : Nat} {mc : Int} {sc : Int} {tx : Int} {nr : Int} {ra : Int} {ru : Int} {dy : Int} {wa : Int} {se : Int} {f1 : Nat → Int} {f2 : Nat → Int} {f3 : Nat → Int64} {M1 : Nat} {M2 : Nat} {M3 : Nat} {y1_ : Nat → Int} {y2_ : Nat → Int} {y3_ : Nat → Int} {y4_ : Nat → Int} {nw : Int} {zz : Int} {nn : Int} {a1 : Int} {b1 : Int} {fo : Nat → Int64} {re : Int} {g : Nat → Int} {fv : Nat → Int} {fc : Nat → Int} {r : Int} {d1 : Nat → Int} {d2 : Nat → Int} {y4' : Nat → Int} {nw' : Int} {zz' : Int} {fo' : Nat → Int64} {mcO : Int} {scO : Int} {txO : Int} {nrO : Int} {raO : Int} {ruO : Int} {dyO : Int} {waO : Int} {seO : Int} {h1 : Nat → Int} {h2 : Nat → Int} {h3 : Nat → Int64} {v' : Int} {th' : Int} {re' : Int} {g' : Nat → Int} {fv' : Nat → Int} {fc' : Nat → Int} (h : kC9 B mc sc tx nr ra ru dy wa se f1 f2 f3 g) (hB : B ≤ 4000) (z0 : 0 ≤ zz) (z12 : zz ≤ 12) (g3 : g 3 = 1) (hL : LW M1 M2 M3 y1_ y2_ y3_ g) (k1 : ∀ i, kW (f1 i) = f1 i) (k2 : ∀ i, kW (f2 i) = f2 i) (kw : kW wa = wa) (hc : F_z_L_give_snx mc sc tx nr ra ru dy wa se f1 f2 f3 M1 M2 M3 y1_ y2_ y3_ y4_ nw zz nn a1 b1 fo = Sum.inr (r, d1, d2, y4', nw', zz', fo', mcO, scO, txO, nrO, raO, ruO, dyO, waO, seO, h1, h2, h3)) (hr : F_r_give re g fv fc a1 b1 = (v', th', re', g', fv', fc')) : r = 0 ∧ th' = 0 ∧ fo' 0 = kI2l v' ∧ kC9 (B + 6) mc sc tx nr ra ru dy wa se d1 d2 f3 g' ∧ g' 3 = g 3 ∧ (∀ j, 505 ≤ j → g' j = g j) ∧ kRmb mc sc tx nr ra ru dy wa se f1 f2 f3 zz nn nw' zz' mcO scO txO nrO raO ruO dyO waO seO h1 h2 h3 ∧ (re', fc') = F_r_remembers re g fc := by
  obtain ⟨hC, hZ, hW, u0, u1⟩ := h
  obtain ⟨ww1, ww2, ww3, eR, v1, v2, v3⟩ := rem_n (nw := nw) (zz := zz) (nn := nn) (mc := mc) (sc := sc) (tx := tx) (nr := nr) (ra := ra) (ru := ru) (dy := dy) (wa := wa) (se := se) (f1 := f1) (f2 := f2) (f3 := f3) z0 z12
  unfold F_z_L_give_snx at hc
  rcases give_sn (a := a1) (b := b1) (fv := fv) (nw := nw) (zz := zz) (nn := nn) (re := re) (fc := fc) (y4 := y4_) hC g3 hL k1 k2 kw with ⟨kq, y4q, fvq, e1, e2, e3⟩ | ⟨vq, d1q, d2q, y4q, gq, fvq, e1, e2, e3, e4, e5⟩
  · rw [e1] at hc
    rcases e3 with rfl | rfl <;> simp only [kS, kC, kLet, Int32.reduceToInt, Int.reduceEq, ↓reduceIte, reduceCtorEq] at hc
  · skip
    rw [e1, eR] at hc
    rw [e2] at hr
    simp only [kS, kC, kLet, Int32.reduceToInt, Int.reduceEq, ↓reduceIte, Sum.inl.injEq, Sum.inr.injEq, Prod.mk.injEq] at hc
    simp only [Prod.mk.injEq] at hr
    obtain ⟨rfl, rfl, rfl, rfl, rfl, rfl, rfl, rfl, rfl, rfl, rfl, rfl, rfl, rfl, rfl, rfl, rfl, rfl, rfl⟩ := hc
    obtain ⟨rfl, rfl, rfl, rfl, rfl, rfl⟩ := hr
    exact ⟨rfl, rfl, kUpd_at, ⟨e3, hZ, by omega, u0, u1⟩, e4, e5, ⟨rfl, rfl, rfl, rfl, rfl, rfl, rfl, rfl, rfl, rfl, rfl, v1, v2, v3⟩, rfl⟩
theorem xt_L_hand_snx0 {B : Nat} {mc : Int} {sc : Int} {tx : Int} {nr : Int} {ra : Int} {ru : Int} {dy : Int} {wa : Int} {se : Int} {f1 : Nat → Int} {f2 : Nat → Int} {f3 : Nat → Int64} {M1 : Nat} {M2 : Nat} {M3 : Nat} {y1_ : Nat → Int} {y2_ : Nat → Int} {y3_ : Nat → Int} {y4_ : Nat → Int} {et : Nat → Int64} {eb : Nat → Int} {ec : Nat → Int} {en : Nat → Int} {ep : Nat → Int} {es : Nat → Int} {nw : Int} {zz : Int} {nn : Int} {a1 : Int} {fo : Nat → Int64} {re : Int} {g : Nat → Int} {fv : Nat → Int} {fn : Nat → Int} {fk : Nat → Int} {fW : Nat → Int64} {fC : Nat → Int} {fg : Nat → Int} {fc : Nat → Int} {r : Int} {y4' : Nat → Int} {n1_ : Int} {n2_ : Int} {f3_ : Nat → Int64} {f4_ : Nat → Int} {f5_ : Nat → Int} {f6_ : Nat → Int} {f7_ : Nat → Int} {f8_ : Nat → Int} {v' : Int} {th' : Int} {re' : Int} {ne' : Int} {g' : Nat → Int} {fv' : Nat → Int} {fn' : Nat → Int} {fk' : Nat → Int} {fW' : Nat → Int64} {fC' : Nat → Int} {fg' : Nat → Int} {fc' : Nat → Int} (h : kC9 B mc sc tx nr ra ru dy wa se f1 f2 f3 g) (hB : B ≤ 4000) (z0 : 0 ≤ zz) (z12 : zz ≤ 12) (g3 : g 3 = 1) (hL : LW M1 M2 M3 y1_ y2_ y3_ g) (k1 : ∀ i, kW (f1 i) = f1 i) (k2 : ∀ i, kW (f2 i) = f2 i) (kw : kW wa = wa) (ha : a1 = 0) (hc : F_z_L_hand_snx mc sc tx nr ra ru dy wa se f1 f2 f3 M1 M2 M3 y1_ y2_ y3_ y4_ et eb ec en ep es nw zz nn a1 fo = Sum.inl (r, y4', n1_, n2_, f3_, f4_, f5_, f6_, f7_, f8_)) (hr : F_r_hand0 re g fv fn fk fW fC fg fc = (v', th', re', ne', g', fv', fn', fk', fW', fC', fg', fc')) : th' = r ∧ re' = re ∧ g' = g ∧ fc' = fc := by
  obtain ⟨hC, hZ, hW, u0, u1⟩ := h
  subst ha
  obtain ⟨ww1, ww2, ww3, eR, v1, v2, v3⟩ := rem_n (nw := nw) (zz := zz) (nn := nn) (mc := mc) (sc := sc) (tx := tx) (nr := nr) (ra := ra) (ru := ru) (dy := dy) (wa := wa) (se := se) (f1 := f1) (f2 := f2) (f3 := f3) z0 z12
  unfold F_z_L_hand_snx at hc
  rcases hand_sn0 (et := et) (eb := eb) (ec := ec) (en := en) (ep := ep) (es := es) (fv := fv) (fn := fn) (fk := fk) (fC := fC) (fg := fg) (fW := fW) (nw := nw) (zz := zz) (nn := nn) (re := re) (fc := fc) (y4 := y4_) hC g3 hL k1 k2 kw with ⟨bcq, ccq, etq, ebq, ecq, enq, epq, esq, fvq, fnq, fkq, fCq, fgq, y4q, fWq, e1, e2⟩ | ⟨vq, bcq, ccq, d1q, d2q, gq, etq, ebq, ecq, enq, epq, esq, fvq, fnq, fkq, fCq, fgq, y4q, fWq, e1, e2, e3, e4, e5⟩
  · rw [e1] at hc
    rw [e2] at hr
    simp only [Prod.mk.injEq] at hr
    obtain ⟨rfl, rfl, rfl, rfl, rfl, rfl, rfl, rfl, rfl, rfl, rfl, rfl⟩ := hr
    simp only [kS, kC, kLet, Int32.reduceToInt, Int.reduceEq, ↓reduceIte, Sum.inl.injEq, Sum.inr.injEq, Prod.mk.injEq] at hc
    obtain ⟨rfl, rfl, rfl, rfl, rfl, rfl, rfl, rfl, rfl, rfl⟩ := hc
    exact ⟨rfl, rfl, rfl, rfl⟩
  · rw [e1, eR] at hc
    simp only [kS, kC, kLet, Int32.reduceToInt, Int.reduceEq, ↓reduceIte, reduceCtorEq] at hc
theorem xs_L_hand_snx0 {B : Nat} {mc : Int} {sc : Int} {tx : Int} {nr : Int} {ra : Int} {ru : Int} {dy : Int} {wa : Int} {se : Int} {f1 : Nat → Int} {f2 : Nat → Int} {f3 : Nat → Int64} {M1 : Nat} {M2 : Nat} {M3 : Nat} {y1_ : Nat → Int} {y2_ : Nat → Int} {y3_ : Nat → Int} {y4_ : Nat → Int} {et : Nat → Int64} {eb : Nat → Int} {ec : Nat → Int} {en : Nat → Int} {ep : Nat → Int} {es : Nat → Int} {nw : Int} {zz : Int} {nn : Int} {a1 : Int} {fo : Nat → Int64} {re : Int} {g : Nat → Int} {fv : Nat → Int} {fn : Nat → Int} {fk : Nat → Int} {fW : Nat → Int64} {fC : Nat → Int} {fg : Nat → Int} {fc : Nat → Int} {r : Int} {d1 : Nat → Int} {d2 : Nat → Int} {y4' : Nat → Int} {n3_ : Int} {n4_ : Int} {f5_ : Nat → Int64} {f6_ : Nat → Int} {f7_ : Nat → Int} {f8_ : Nat → Int} {f9_ : Nat → Int} {f10_ : Nat → Int} {nw' : Int} {zz' : Int} {fo' : Nat → Int64} {mcO : Int} {scO : Int} {txO : Int} {nrO : Int} {raO : Int} {ruO : Int} {dyO : Int} {waO : Int} {seO : Int} {h1 : Nat → Int} {h2 : Nat → Int} {h3 : Nat → Int64} {v' : Int} {th' : Int} {re' : Int} {ne' : Int} {g' : Nat → Int} {fv' : Nat → Int} {fn' : Nat → Int} {fk' : Nat → Int} {fW' : Nat → Int64} {fC' : Nat → Int} {fg' : Nat → Int} {fc' : Nat → Int} (h : kC9 B mc sc tx nr ra ru dy wa se f1 f2 f3 g) (hB : B ≤ 4000) (z0 : 0 ≤ zz) (z12 : zz ≤ 12) (g3 : g 3 = 1) (hL : LW M1 M2 M3 y1_ y2_ y3_ g) (k1 : ∀ i, kW (f1 i) = f1 i) (k2 : ∀ i, kW (f2 i) = f2 i) (kw : kW wa = wa) (ha : a1 = 0) (hc : F_z_L_hand_snx mc sc tx nr ra ru dy wa se f1 f2 f3 M1 M2 M3 y1_ y2_ y3_ y4_ et eb ec en ep es nw zz nn a1 fo = Sum.inr (r, d1, d2, y4', n3_, n4_, f5_, f6_, f7_, f8_, f9_, f10_, nw', zz', fo', mcO, scO, txO, nrO, raO, ruO, dyO, waO, seO, h1, h2, h3)) (hr : F_r_hand0 re g fv fn fk fW fC fg fc = (v', th', re', ne', g', fv', fn', fk', fW', fC', fg', fc')) : r = 0 ∧ th' = 0 ∧ fo' 0 = kI2l v' ∧ kC9 (B + 6) mc sc tx nr ra ru dy wa se d1 d2 f3 g' ∧ g' 3 = g 3 ∧ (∀ j, 505 ≤ j → g' j = g j) ∧ kRmb mc sc tx nr ra ru dy wa se f1 f2 f3 zz nn nw' zz' mcO scO txO nrO raO ruO dyO waO seO h1 h2 h3 ∧ (re', fc') = F_r_remembers re g fc := by
  obtain ⟨hC, hZ, hW, u0, u1⟩ := h
  subst ha
  obtain ⟨ww1, ww2, ww3, eR, v1, v2, v3⟩ := rem_n (nw := nw) (zz := zz) (nn := nn) (mc := mc) (sc := sc) (tx := tx) (nr := nr) (ra := ra) (ru := ru) (dy := dy) (wa := wa) (se := se) (f1 := f1) (f2 := f2) (f3 := f3) z0 z12
  unfold F_z_L_hand_snx at hc
  rcases hand_sn0 (et := et) (eb := eb) (ec := ec) (en := en) (ep := ep) (es := es) (fv := fv) (fn := fn) (fk := fk) (fC := fC) (fg := fg) (fW := fW) (nw := nw) (zz := zz) (nn := nn) (re := re) (fc := fc) (y4 := y4_) hC g3 hL k1 k2 kw with ⟨bcq, ccq, etq, ebq, ecq, enq, epq, esq, fvq, fnq, fkq, fCq, fgq, y4q, fWq, e1, e2⟩ | ⟨vq, bcq, ccq, d1q, d2q, gq, etq, ebq, ecq, enq, epq, esq, fvq, fnq, fkq, fCq, fgq, y4q, fWq, e1, e2, e3, e4, e5⟩
  · rw [e1] at hc
    simp only [kS, kC, kLet, Int32.reduceToInt, Int.reduceEq, ↓reduceIte, reduceCtorEq] at hc
  · skip
    rw [e1, eR] at hc
    rw [e2] at hr
    simp only [kS, kC, kLet, Int32.reduceToInt, Int.reduceEq, ↓reduceIte, Sum.inl.injEq, Sum.inr.injEq, Prod.mk.injEq] at hc
    simp only [Prod.mk.injEq] at hr
    obtain ⟨rfl, rfl, rfl, rfl, rfl, rfl, rfl, rfl, rfl, rfl, rfl, rfl, rfl, rfl, rfl, rfl, rfl, rfl, rfl, rfl, rfl, rfl, rfl, rfl, rfl, rfl, rfl⟩ := hc
    obtain ⟨rfl, rfl, rfl, rfl, rfl, rfl, rfl, rfl, rfl, rfl, rfl, rfl⟩ := hr
    exact ⟨rfl, rfl, kUpd_at, ⟨e3, hZ, by omega, u0, u1⟩, e4, e5, ⟨rfl, rfl, rfl, rfl, rfl, rfl, rfl, rfl, rfl, rfl, rfl, v1, v2, v3⟩, rfl⟩
theorem xt_L_hand_snx1 {B : Nat} {mc : Int} {sc : Int} {tx : Int} {nr : Int} {ra : Int} {ru : Int} {dy : Int} {wa : Int} {se : Int} {f1 : Nat → Int} {f2 : Nat → Int} {f3 : Nat → Int64} {M1 : Nat} {M2 : Nat} {M3 : Nat} {y1_ : Nat → Int} {y2_ : Nat → Int} {y3_ : Nat → Int} {y4_ : Nat → Int} {et : Nat → Int64} {eb : Nat → Int} {ec : Nat → Int} {en : Nat → Int} {ep : Nat → Int} {es : Nat → Int} {nw : Int} {zz : Int} {nn : Int} {a1 : Int} {fo : Nat → Int64} {re : Int} {g : Nat → Int} {fv : Nat → Int} {fn : Nat → Int} {fk : Nat → Int} {fW : Nat → Int64} {fC : Nat → Int} {fg : Nat → Int} {fc : Nat → Int} {r : Int} {y4' : Nat → Int} {n1_ : Int} {n2_ : Int} {f3_ : Nat → Int64} {f4_ : Nat → Int} {f5_ : Nat → Int} {f6_ : Nat → Int} {f7_ : Nat → Int} {f8_ : Nat → Int} {v' : Int} {th' : Int} {re' : Int} {ne' : Int} {g' : Nat → Int} {fv' : Nat → Int} {fn' : Nat → Int} {fk' : Nat → Int} {fW' : Nat → Int64} {fC' : Nat → Int} {fg' : Nat → Int} {fc' : Nat → Int} (h : kC9 B mc sc tx nr ra ru dy wa se f1 f2 f3 g) (hB : B ≤ 4000) (z0 : 0 ≤ zz) (z12 : zz ≤ 12) (g3 : g 3 = 1) (hL : LW M1 M2 M3 y1_ y2_ y3_ g) (k1 : ∀ i, kW (f1 i) = f1 i) (k2 : ∀ i, kW (f2 i) = f2 i) (kw : kW wa = wa) (ha : a1 = 1) (hc : F_z_L_hand_snx mc sc tx nr ra ru dy wa se f1 f2 f3 M1 M2 M3 y1_ y2_ y3_ y4_ et eb ec en ep es nw zz nn a1 fo = Sum.inl (r, y4', n1_, n2_, f3_, f4_, f5_, f6_, f7_, f8_)) (hr : F_r_hand1 re g fv fn fk fW fC fg fc = (v', th', re', ne', g', fv', fn', fk', fW', fC', fg', fc')) : th' = r ∧ re' = re ∧ g' = g ∧ fc' = fc := by
  obtain ⟨hC, hZ, hW, u0, u1⟩ := h
  subst ha
  obtain ⟨ww1, ww2, ww3, eR, v1, v2, v3⟩ := rem_n (nw := nw) (zz := zz) (nn := nn) (mc := mc) (sc := sc) (tx := tx) (nr := nr) (ra := ra) (ru := ru) (dy := dy) (wa := wa) (se := se) (f1 := f1) (f2 := f2) (f3 := f3) z0 z12
  unfold F_z_L_hand_snx at hc
  rcases hand_sn1 (et := et) (eb := eb) (ec := ec) (en := en) (ep := ep) (es := es) (fv := fv) (fn := fn) (fk := fk) (fC := fC) (fg := fg) (fW := fW) (nw := nw) (zz := zz) (nn := nn) (re := re) (fc := fc) (y4 := y4_) hC g3 hL k1 k2 kw with ⟨bcq, ccq, etq, ebq, ecq, enq, epq, esq, fvq, fnq, fkq, fCq, fgq, y4q, fWq, e1, e2⟩ | ⟨vq, bcq, ccq, d1q, d2q, gq, etq, ebq, ecq, enq, epq, esq, fvq, fnq, fkq, fCq, fgq, y4q, fWq, e1, e2, e3, e4, e5⟩
  · rw [e1] at hc
    rw [e2] at hr
    simp only [Prod.mk.injEq] at hr
    obtain ⟨rfl, rfl, rfl, rfl, rfl, rfl, rfl, rfl, rfl, rfl, rfl, rfl⟩ := hr
    simp only [kS, kC, kLet, Int32.reduceToInt, Int.reduceEq, ↓reduceIte, Sum.inl.injEq, Sum.inr.injEq, Prod.mk.injEq] at hc
    obtain ⟨rfl, rfl, rfl, rfl, rfl, rfl, rfl, rfl, rfl, rfl⟩ := hc
    exact ⟨rfl, rfl, rfl, rfl⟩
  · rw [e1, eR] at hc
    simp only [kS, kC, kLet, Int32.reduceToInt, Int.reduceEq, ↓reduceIte, reduceCtorEq] at hc
theorem xs_L_hand_snx1 {B : Nat} {mc : Int} {sc : Int} {tx : Int} {nr : Int} {ra : Int} {ru : Int} {dy : Int} {wa : Int} {se : Int} {f1 : Nat → Int} {f2 : Nat → Int} {f3 : Nat → Int64} {M1 : Nat} {M2 : Nat} {M3 : Nat} {y1_ : Nat → Int} {y2_ : Nat → Int} {y3_ : Nat → Int} {y4_ : Nat → Int} {et : Nat → Int64} {eb : Nat → Int} {ec : Nat → Int} {en : Nat → Int} {ep : Nat → Int} {es : Nat → Int} {nw : Int} {zz : Int} {nn : Int} {a1 : Int} {fo : Nat → Int64} {re : Int} {g : Nat → Int} {fv : Nat → Int} {fn : Nat → Int} {fk : Nat → Int} {fW : Nat → Int64} {fC : Nat → Int} {fg : Nat → Int} {fc : Nat → Int} {r : Int} {d1 : Nat → Int} {d2 : Nat → Int} {y4' : Nat → Int} {n3_ : Int} {n4_ : Int} {f5_ : Nat → Int64} {f6_ : Nat → Int} {f7_ : Nat → Int} {f8_ : Nat → Int} {f9_ : Nat → Int} {f10_ : Nat → Int} {nw' : Int} {zz' : Int} {fo' : Nat → Int64} {mcO : Int} {scO : Int} {txO : Int} {nrO : Int} {raO : Int} {ruO : Int} {dyO : Int} {waO : Int} {seO : Int} {h1 : Nat → Int} {h2 : Nat → Int} {h3 : Nat → Int64} {v' : Int} {th' : Int} {re' : Int} {ne' : Int} {g' : Nat → Int} {fv' : Nat → Int} {fn' : Nat → Int} {fk' : Nat → Int} {fW' : Nat → Int64} {fC' : Nat → Int} {fg' : Nat → Int} {fc' : Nat → Int} (h : kC9 B mc sc tx nr ra ru dy wa se f1 f2 f3 g) (hB : B ≤ 4000) (z0 : 0 ≤ zz) (z12 : zz ≤ 12) (g3 : g 3 = 1) (hL : LW M1 M2 M3 y1_ y2_ y3_ g) (k1 : ∀ i, kW (f1 i) = f1 i) (k2 : ∀ i, kW (f2 i) = f2 i) (kw : kW wa = wa) (ha : a1 = 1) (hc : F_z_L_hand_snx mc sc tx nr ra ru dy wa se f1 f2 f3 M1 M2 M3 y1_ y2_ y3_ y4_ et eb ec en ep es nw zz nn a1 fo = Sum.inr (r, d1, d2, y4', n3_, n4_, f5_, f6_, f7_, f8_, f9_, f10_, nw', zz', fo', mcO, scO, txO, nrO, raO, ruO, dyO, waO, seO, h1, h2, h3)) (hr : F_r_hand1 re g fv fn fk fW fC fg fc = (v', th', re', ne', g', fv', fn', fk', fW', fC', fg', fc')) : r = 0 ∧ th' = 0 ∧ fo' 0 = kI2l v' ∧ kC9 (B + 6) mc sc tx nr ra ru dy wa se d1 d2 f3 g' ∧ g' 3 = g 3 ∧ (∀ j, 505 ≤ j → g' j = g j) ∧ kRmb mc sc tx nr ra ru dy wa se f1 f2 f3 zz nn nw' zz' mcO scO txO nrO raO ruO dyO waO seO h1 h2 h3 ∧ (re', fc') = F_r_remembers re g fc := by
  obtain ⟨hC, hZ, hW, u0, u1⟩ := h
  subst ha
  obtain ⟨ww1, ww2, ww3, eR, v1, v2, v3⟩ := rem_n (nw := nw) (zz := zz) (nn := nn) (mc := mc) (sc := sc) (tx := tx) (nr := nr) (ra := ra) (ru := ru) (dy := dy) (wa := wa) (se := se) (f1 := f1) (f2 := f2) (f3 := f3) z0 z12
  unfold F_z_L_hand_snx at hc
  rcases hand_sn1 (et := et) (eb := eb) (ec := ec) (en := en) (ep := ep) (es := es) (fv := fv) (fn := fn) (fk := fk) (fC := fC) (fg := fg) (fW := fW) (nw := nw) (zz := zz) (nn := nn) (re := re) (fc := fc) (y4 := y4_) hC g3 hL k1 k2 kw with ⟨bcq, ccq, etq, ebq, ecq, enq, epq, esq, fvq, fnq, fkq, fCq, fgq, y4q, fWq, e1, e2⟩ | ⟨vq, bcq, ccq, d1q, d2q, gq, etq, ebq, ecq, enq, epq, esq, fvq, fnq, fkq, fCq, fgq, y4q, fWq, e1, e2, e3, e4, e5⟩
  · rw [e1] at hc
    simp only [kS, kC, kLet, Int32.reduceToInt, Int.reduceEq, ↓reduceIte, reduceCtorEq] at hc
  · skip
    rw [e1, eR] at hc
    rw [e2] at hr
    simp only [kS, kC, kLet, Int32.reduceToInt, Int.reduceEq, ↓reduceIte, Sum.inl.injEq, Sum.inr.injEq, Prod.mk.injEq] at hc
    simp only [Prod.mk.injEq] at hr
    obtain ⟨rfl, rfl, rfl, rfl, rfl, rfl, rfl, rfl, rfl, rfl, rfl, rfl, rfl, rfl, rfl, rfl, rfl, rfl, rfl, rfl, rfl, rfl, rfl, rfl, rfl, rfl, rfl⟩ := hc
    obtain ⟨rfl, rfl, rfl, rfl, rfl, rfl, rfl, rfl, rfl, rfl, rfl, rfl⟩ := hr
    exact ⟨rfl, rfl, kUpd_at, ⟨e3, hZ, by omega, u0, u1⟩, e4, e5, ⟨rfl, rfl, rfl, rfl, rfl, rfl, rfl, rfl, rfl, rfl, rfl, v1, v2, v3⟩, rfl⟩
theorem xs_L_give_ns {B : Nat} {mc : Int} {sc : Int} {tx : Int} {nr : Int} {ra : Int} {ru : Int} {dy : Int} {wa : Int} {se : Int} {f1 : Nat → Int} {f2 : Nat → Int} {f3 : Nat → Int64} {nw : Int} {zz : Int} {nn : Int} {of1 : Nat → Int} {of2 : Nat → Int} {of3 : Nat → Int64} {a1 : Int} {b1 : Int} {fo : Nat → Int64} {re : Int} {g : Nat → Int} {fv : Nat → Int} {fc : Nat → Int} {r : Int} {d1 : Nat → Int} {d2 : Nat → Int} {nw' : Int} {zz' : Int} {mcO : Int} {scO : Int} {txO : Int} {nrO : Int} {raO : Int} {ruO : Int} {dyO : Int} {waO : Int} {seO : Int} {h1 : Nat → Int} {h2 : Nat → Int} {h3 : Nat → Int64} {fo' : Nat → Int64} {v' : Int} {th' : Int} {re' : Int} {g' : Nat → Int} {fv' : Nat → Int} {fc' : Nat → Int} (h : kC9 B mc sc tx nr ra ru dy wa se f1 f2 f3 g) (hB : B ≤ 4000) (z0 : 0 ≤ zz) (z12 : zz ≤ 12) (g3 : g 3 = 0) (hc : F_z_L_give_ns mc sc tx nr ra ru dy wa se f1 f2 f3 nw zz nn of1 of2 of3 a1 b1 fo = Sum.inl (r, d1, d2, nw', zz', mcO, scO, txO, nrO, raO, ruO, dyO, waO, seO, h1, h2, h3, fo')) (hr : F_r_give re g fv fc a1 b1 = (v', th', re', g', fv', fc')) : r = 0 ∧ th' = 0 ∧ fo' 0 = kI2l v' ∧ kC9 (B + 6) mc sc tx nr ra ru dy wa se d1 d2 f3 g' ∧ g' 3 = g 3 ∧ (∀ j, 505 ≤ j → g' j = g j) ∧ kRmb mc sc tx nr ra ru dy wa se f1 f2 f3 zz nn nw' zz' mcO scO txO nrO raO ruO dyO waO seO h1 h2 h3 ∧ (re', fc') = F_r_remembers re g fc := by
  obtain ⟨hC, hZ, hW, u0, u1⟩ := h
  obtain ⟨ww1, ww2, ww3, eR, v1, v2, v3⟩ := rem_s (nw := nw) (zz := zz) (nn := nn) (mc := mc) (sc := sc) (tx := tx) (nr := nr) (ra := ra) (ru := ru) (dy := dy) (wa := wa) (se := se) (f1 := f1) (f2 := f2) (f3 := f3) (of1 := of1) (of2 := of2) (of3 := of3) z0 z12
  unfold F_z_L_give_ns at hc
  rcases give_ns (a := a1) (b := b1) (fv := fv) (nw := nw) (zz := zz) (nn := nn) (re := re) (fc := fc) (of1 := of1) (of2 := of2) (of3 := of3) hC g3 with ⟨kq, fvq, e1, e2, e3⟩ | ⟨vq, d1q, d2q, gq, fvq, e1, e2, e3, e4, e5⟩
  · rw [e1] at hc
    rcases e3 with rfl | rfl <;> simp only [kS, kC, kLet, Int32.reduceToInt, Int.reduceEq, ↓reduceIte, reduceCtorEq] at hc
  · skip
    rw [e1, eR] at hc
    rw [e2] at hr
    simp only [kS, kC, kLet, Int32.reduceToInt, Int.reduceEq, ↓reduceIte, Sum.inl.injEq, Sum.inr.injEq, Prod.mk.injEq] at hc
    simp only [Prod.mk.injEq] at hr
    obtain ⟨rfl, rfl, rfl, rfl, rfl, rfl, rfl, rfl, rfl, rfl, rfl, rfl, rfl, rfl, rfl, rfl, rfl, rfl⟩ := hc
    obtain ⟨rfl, rfl, rfl, rfl, rfl, rfl⟩ := hr
    exact ⟨rfl, rfl, kUpd_at, ⟨e3, hZ, by omega, u0, u1⟩, e4, e5, ⟨rfl, rfl, rfl, rfl, rfl, rfl, rfl, rfl, rfl, rfl, rfl, v1, v2, v3⟩, rfl⟩
theorem xt_L_give_ns {B : Nat} {mc : Int} {sc : Int} {tx : Int} {nr : Int} {ra : Int} {ru : Int} {dy : Int} {wa : Int} {se : Int} {f1 : Nat → Int} {f2 : Nat → Int} {f3 : Nat → Int64} {nw : Int} {zz : Int} {nn : Int} {of1 : Nat → Int} {of2 : Nat → Int} {of3 : Nat → Int64} {a1 : Int} {b1 : Int} {fo : Nat → Int64} {re : Int} {g : Nat → Int} {fv : Nat → Int} {fc : Nat → Int} {r : Int} {v' : Int} {th' : Int} {re' : Int} {g' : Nat → Int} {fv' : Nat → Int} {fc' : Nat → Int} (h : kC9 B mc sc tx nr ra ru dy wa se f1 f2 f3 g) (hB : B ≤ 4000) (z0 : 0 ≤ zz) (z12 : zz ≤ 12) (g3 : g 3 = 0) (hc : F_z_L_give_ns mc sc tx nr ra ru dy wa se f1 f2 f3 nw zz nn of1 of2 of3 a1 b1 fo = Sum.inr r) (hr : F_r_give re g fv fc a1 b1 = (v', th', re', g', fv', fc')) : th' = r ∧ re' = re ∧ g' = g ∧ fc' = fc := by
  obtain ⟨hC, hZ, hW, u0, u1⟩ := h
  obtain ⟨ww1, ww2, ww3, eR, v1, v2, v3⟩ := rem_s (nw := nw) (zz := zz) (nn := nn) (mc := mc) (sc := sc) (tx := tx) (nr := nr) (ra := ra) (ru := ru) (dy := dy) (wa := wa) (se := se) (f1 := f1) (f2 := f2) (f3 := f3) (of1 := of1) (of2 := of2) (of3 := of3) z0 z12
  unfold F_z_L_give_ns at hc
  rcases give_ns (a := a1) (b := b1) (fv := fv) (nw := nw) (zz := zz) (nn := nn) (re := re) (fc := fc) (of1 := of1) (of2 := of2) (of3 := of3) hC g3 with ⟨kq, fvq, e1, e2, e3⟩ | ⟨vq, d1q, d2q, gq, fvq, e1, e2, e3, e4, e5⟩
  · rw [e1] at hc
    rw [e2] at hr
    simp only [Prod.mk.injEq] at hr
    obtain ⟨rfl, rfl, rfl, rfl, rfl, rfl⟩ := hr
    rcases e3 with rfl | rfl <;> (simp only [kS, kC, kLet, Int32.reduceToInt, Int.reduceEq, ↓reduceIte, Sum.inl.injEq, Sum.inr.injEq, Prod.mk.injEq] at hc; obtain rfl := hc; exact ⟨rfl, rfl, rfl, rfl⟩)
  · rw [e1, eR] at hc
    simp only [kS, kC, kLet, Int32.reduceToInt, Int.reduceEq, ↓reduceIte, reduceCtorEq] at hc
theorem xs_L_hand_ns0 {B : Nat} {mc : Int} {sc : Int} {tx : Int} {nr : Int} {ra : Int} {ru : Int} {dy : Int} {wa : Int} {se : Int} {f1 : Nat → Int} {f2 : Nat → Int} {f3 : Nat → Int64} {et : Nat → Int64} {eb : Nat → Int} {ec : Nat → Int} {en : Nat → Int} {ep : Nat → Int} {es : Nat → Int} {nw : Int} {zz : Int} {nn : Int} {of1 : Nat → Int} {of2 : Nat → Int} {of3 : Nat → Int64} {a1 : Int} {fo : Nat → Int64} {re : Int} {g : Nat → Int} {fv : Nat → Int} {fn : Nat → Int} {fk : Nat → Int} {fW : Nat → Int64} {fC : Nat → Int} {fg : Nat → Int} {fc : Nat → Int} {r : Int} {d1 : Nat → Int} {d2 : Nat → Int} {n2_ : Int} {n3_ : Int} {f4_ : Nat → Int64} {f5_ : Nat → Int} {f6_ : Nat → Int} {f7_ : Nat → Int} {f8_ : Nat → Int} {f9_ : Nat → Int} {nw' : Int} {zz' : Int} {mcO : Int} {scO : Int} {txO : Int} {nrO : Int} {raO : Int} {ruO : Int} {dyO : Int} {waO : Int} {seO : Int} {h1 : Nat → Int} {h2 : Nat → Int} {h3 : Nat → Int64} {fo' : Nat → Int64} {v' : Int} {th' : Int} {re' : Int} {ne' : Int} {g' : Nat → Int} {fv' : Nat → Int} {fn' : Nat → Int} {fk' : Nat → Int} {fW' : Nat → Int64} {fC' : Nat → Int} {fg' : Nat → Int} {fc' : Nat → Int} (h : kC9 B mc sc tx nr ra ru dy wa se f1 f2 f3 g) (hB : B ≤ 4000) (z0 : 0 ≤ zz) (z12 : zz ≤ 12) (g3 : g 3 = 0) (ha : a1 = 0) (hc : F_z_L_hand_ns mc sc tx nr ra ru dy wa se f1 f2 f3 et eb ec en ep es nw zz nn of1 of2 of3 a1 fo = Sum.inl (r, d1, d2, n2_, n3_, f4_, f5_, f6_, f7_, f8_, f9_, nw', zz', mcO, scO, txO, nrO, raO, ruO, dyO, waO, seO, h1, h2, h3, fo')) (hr : F_r_hand0 re g fv fn fk fW fC fg fc = (v', th', re', ne', g', fv', fn', fk', fW', fC', fg', fc')) : r = 0 ∧ th' = 0 ∧ fo' 0 = kI2l v' ∧ kC9 (B + 6) mc sc tx nr ra ru dy wa se d1 d2 f3 g' ∧ g' 3 = g 3 ∧ (∀ j, 505 ≤ j → g' j = g j) ∧ kRmb mc sc tx nr ra ru dy wa se f1 f2 f3 zz nn nw' zz' mcO scO txO nrO raO ruO dyO waO seO h1 h2 h3 ∧ (re', fc') = F_r_remembers re g fc := by
  obtain ⟨hC, hZ, hW, u0, u1⟩ := h
  subst ha
  obtain ⟨ww1, ww2, ww3, eR, v1, v2, v3⟩ := rem_s (nw := nw) (zz := zz) (nn := nn) (mc := mc) (sc := sc) (tx := tx) (nr := nr) (ra := ra) (ru := ru) (dy := dy) (wa := wa) (se := se) (f1 := f1) (f2 := f2) (f3 := f3) (of1 := of1) (of2 := of2) (of3 := of3) z0 z12
  unfold F_z_L_hand_ns at hc
  rcases hand_ns0 (et := et) (eb := eb) (ec := ec) (en := en) (ep := ep) (es := es) (fv := fv) (fn := fn) (fk := fk) (fC := fC) (fg := fg) (fW := fW) (nw := nw) (zz := zz) (nn := nn) (re := re) (fc := fc) (of1 := of1) (of2 := of2) (of3 := of3) hC g3 with ⟨bcq, ccq, etq, ebq, ecq, enq, epq, esq, fvq, fnq, fkq, fCq, fgq, fWq, e1, e2⟩ | ⟨vq, bcq, ccq, d1q, d2q, gq, etq, ebq, ecq, enq, epq, esq, fvq, fnq, fkq, fCq, fgq, fWq, e1, e2, e3, e4, e5⟩
  · rw [e1] at hc
    simp only [kS, kC, kLet, Int32.reduceToInt, Int.reduceEq, ↓reduceIte, reduceCtorEq] at hc
  · skip
    rw [e1, eR] at hc
    rw [e2] at hr
    simp only [kS, kC, kLet, Int32.reduceToInt, Int.reduceEq, ↓reduceIte, Sum.inl.injEq, Sum.inr.injEq, Prod.mk.injEq] at hc
    simp only [Prod.mk.injEq] at hr
    obtain ⟨rfl, rfl, rfl, rfl, rfl, rfl, rfl, rfl, rfl, rfl, rfl, rfl, rfl, rfl, rfl, rfl, rfl, rfl, rfl, rfl, rfl, rfl, rfl, rfl, rfl, rfl⟩ := hc
    obtain ⟨rfl, rfl, rfl, rfl, rfl, rfl, rfl, rfl, rfl, rfl, rfl, rfl⟩ := hr
    exact ⟨rfl, rfl, kUpd_at, ⟨e3, hZ, by omega, u0, u1⟩, e4, e5, ⟨rfl, rfl, rfl, rfl, rfl, rfl, rfl, rfl, rfl, rfl, rfl, v1, v2, v3⟩, rfl⟩
theorem xt_L_hand_ns0 {B : Nat} {mc : Int} {sc : Int} {tx : Int} {nr : Int} {ra : Int} {ru : Int} {dy : Int} {wa : Int} {se : Int} {f1 : Nat → Int} {f2 : Nat → Int} {f3 : Nat → Int64} {et : Nat → Int64} {eb : Nat → Int} {ec : Nat → Int} {en : Nat → Int} {ep : Nat → Int} {es : Nat → Int} {nw : Int} {zz : Int} {nn : Int} {of1 : Nat → Int} {of2 : Nat → Int} {of3 : Nat → Int64} {a1 : Int} {fo : Nat → Int64} {re : Int} {g : Nat → Int} {fv : Nat → Int} {fn : Nat → Int} {fk : Nat → Int} {fW : Nat → Int64} {fC : Nat → Int} {fg : Nat → Int} {fc : Nat → Int} {r : Int} {n0_ : Int} {n1_ : Int} {f2_ : Nat → Int64} {f3_ : Nat → Int} {f4_ : Nat → Int} {f5_ : Nat → Int} {f6_ : Nat → Int} {f7_ : Nat → Int} {v' : Int} {th' : Int} {re' : Int} {ne' : Int} {g' : Nat → Int} {fv' : Nat → Int} {fn' : Nat → Int} {fk' : Nat → Int} {fW' : Nat → Int64} {fC' : Nat → Int} {fg' : Nat → Int} {fc' : Nat → Int} (h : kC9 B mc sc tx nr ra ru dy wa se f1 f2 f3 g) (hB : B ≤ 4000) (z0 : 0 ≤ zz) (z12 : zz ≤ 12) (g3 : g 3 = 0) (ha : a1 = 0) (hc : F_z_L_hand_ns mc sc tx nr ra ru dy wa se f1 f2 f3 et eb ec en ep es nw zz nn of1 of2 of3 a1 fo = Sum.inr (r, n0_, n1_, f2_, f3_, f4_, f5_, f6_, f7_)) (hr : F_r_hand0 re g fv fn fk fW fC fg fc = (v', th', re', ne', g', fv', fn', fk', fW', fC', fg', fc')) : th' = r ∧ re' = re ∧ g' = g ∧ fc' = fc := by
  obtain ⟨hC, hZ, hW, u0, u1⟩ := h
  subst ha
  obtain ⟨ww1, ww2, ww3, eR, v1, v2, v3⟩ := rem_s (nw := nw) (zz := zz) (nn := nn) (mc := mc) (sc := sc) (tx := tx) (nr := nr) (ra := ra) (ru := ru) (dy := dy) (wa := wa) (se := se) (f1 := f1) (f2 := f2) (f3 := f3) (of1 := of1) (of2 := of2) (of3 := of3) z0 z12
  unfold F_z_L_hand_ns at hc
  rcases hand_ns0 (et := et) (eb := eb) (ec := ec) (en := en) (ep := ep) (es := es) (fv := fv) (fn := fn) (fk := fk) (fC := fC) (fg := fg) (fW := fW) (nw := nw) (zz := zz) (nn := nn) (re := re) (fc := fc) (of1 := of1) (of2 := of2) (of3 := of3) hC g3 with ⟨bcq, ccq, etq, ebq, ecq, enq, epq, esq, fvq, fnq, fkq, fCq, fgq, fWq, e1, e2⟩ | ⟨vq, bcq, ccq, d1q, d2q, gq, etq, ebq, ecq, enq, epq, esq, fvq, fnq, fkq, fCq, fgq, fWq, e1, e2, e3, e4, e5⟩
  · rw [e1] at hc
    rw [e2] at hr
    simp only [Prod.mk.injEq] at hr
    obtain ⟨rfl, rfl, rfl, rfl, rfl, rfl, rfl, rfl, rfl, rfl, rfl, rfl⟩ := hr
    simp only [kS, kC, kLet, Int32.reduceToInt, Int.reduceEq, ↓reduceIte, Sum.inl.injEq, Sum.inr.injEq, Prod.mk.injEq] at hc
    obtain ⟨rfl, rfl, rfl, rfl, rfl, rfl, rfl, rfl, rfl⟩ := hc
    exact ⟨rfl, rfl, rfl, rfl⟩
  · rw [e1, eR] at hc
    simp only [kS, kC, kLet, Int32.reduceToInt, Int.reduceEq, ↓reduceIte, reduceCtorEq] at hc
theorem xs_L_hand_ns1 {B : Nat} {mc : Int} {sc : Int} {tx : Int} {nr : Int} {ra : Int} {ru : Int} {dy : Int} {wa : Int} {se : Int} {f1 : Nat → Int} {f2 : Nat → Int} {f3 : Nat → Int64} {et : Nat → Int64} {eb : Nat → Int} {ec : Nat → Int} {en : Nat → Int} {ep : Nat → Int} {es : Nat → Int} {nw : Int} {zz : Int} {nn : Int} {of1 : Nat → Int} {of2 : Nat → Int} {of3 : Nat → Int64} {a1 : Int} {fo : Nat → Int64} {re : Int} {g : Nat → Int} {fv : Nat → Int} {fn : Nat → Int} {fk : Nat → Int} {fW : Nat → Int64} {fC : Nat → Int} {fg : Nat → Int} {fc : Nat → Int} {r : Int} {d1 : Nat → Int} {d2 : Nat → Int} {n2_ : Int} {n3_ : Int} {f4_ : Nat → Int64} {f5_ : Nat → Int} {f6_ : Nat → Int} {f7_ : Nat → Int} {f8_ : Nat → Int} {f9_ : Nat → Int} {nw' : Int} {zz' : Int} {mcO : Int} {scO : Int} {txO : Int} {nrO : Int} {raO : Int} {ruO : Int} {dyO : Int} {waO : Int} {seO : Int} {h1 : Nat → Int} {h2 : Nat → Int} {h3 : Nat → Int64} {fo' : Nat → Int64} {v' : Int} {th' : Int} {re' : Int} {ne' : Int} {g' : Nat → Int} {fv' : Nat → Int} {fn' : Nat → Int} {fk' : Nat → Int} {fW' : Nat → Int64} {fC' : Nat → Int} {fg' : Nat → Int} {fc' : Nat → Int} (h : kC9 B mc sc tx nr ra ru dy wa se f1 f2 f3 g) (hB : B ≤ 4000) (z0 : 0 ≤ zz) (z12 : zz ≤ 12) (g3 : g 3 = 0) (ha : a1 = 1) (hc : F_z_L_hand_ns mc sc tx nr ra ru dy wa se f1 f2 f3 et eb ec en ep es nw zz nn of1 of2 of3 a1 fo = Sum.inl (r, d1, d2, n2_, n3_, f4_, f5_, f6_, f7_, f8_, f9_, nw', zz', mcO, scO, txO, nrO, raO, ruO, dyO, waO, seO, h1, h2, h3, fo')) (hr : F_r_hand1 re g fv fn fk fW fC fg fc = (v', th', re', ne', g', fv', fn', fk', fW', fC', fg', fc')) : r = 0 ∧ th' = 0 ∧ fo' 0 = kI2l v' ∧ kC9 (B + 6) mc sc tx nr ra ru dy wa se d1 d2 f3 g' ∧ g' 3 = g 3 ∧ (∀ j, 505 ≤ j → g' j = g j) ∧ kRmb mc sc tx nr ra ru dy wa se f1 f2 f3 zz nn nw' zz' mcO scO txO nrO raO ruO dyO waO seO h1 h2 h3 ∧ (re', fc') = F_r_remembers re g fc := by
  obtain ⟨hC, hZ, hW, u0, u1⟩ := h
  subst ha
  obtain ⟨ww1, ww2, ww3, eR, v1, v2, v3⟩ := rem_s (nw := nw) (zz := zz) (nn := nn) (mc := mc) (sc := sc) (tx := tx) (nr := nr) (ra := ra) (ru := ru) (dy := dy) (wa := wa) (se := se) (f1 := f1) (f2 := f2) (f3 := f3) (of1 := of1) (of2 := of2) (of3 := of3) z0 z12
  unfold F_z_L_hand_ns at hc
  rcases hand_ns1 (et := et) (eb := eb) (ec := ec) (en := en) (ep := ep) (es := es) (fv := fv) (fn := fn) (fk := fk) (fC := fC) (fg := fg) (fW := fW) (nw := nw) (zz := zz) (nn := nn) (re := re) (fc := fc) (of1 := of1) (of2 := of2) (of3 := of3) hC g3 with ⟨bcq, ccq, etq, ebq, ecq, enq, epq, esq, fvq, fnq, fkq, fCq, fgq, fWq, e1, e2⟩ | ⟨vq, bcq, ccq, d1q, d2q, gq, etq, ebq, ecq, enq, epq, esq, fvq, fnq, fkq, fCq, fgq, fWq, e1, e2, e3, e4, e5⟩
  · rw [e1] at hc
    simp only [kS, kC, kLet, Int32.reduceToInt, Int.reduceEq, ↓reduceIte, reduceCtorEq] at hc
  · skip
    rw [e1, eR] at hc
    rw [e2] at hr
    simp only [kS, kC, kLet, Int32.reduceToInt, Int.reduceEq, ↓reduceIte, Sum.inl.injEq, Sum.inr.injEq, Prod.mk.injEq] at hc
    simp only [Prod.mk.injEq] at hr
    obtain ⟨rfl, rfl, rfl, rfl, rfl, rfl, rfl, rfl, rfl, rfl, rfl, rfl, rfl, rfl, rfl, rfl, rfl, rfl, rfl, rfl, rfl, rfl, rfl, rfl, rfl, rfl⟩ := hc
    obtain ⟨rfl, rfl, rfl, rfl, rfl, rfl, rfl, rfl, rfl, rfl, rfl, rfl⟩ := hr
    exact ⟨rfl, rfl, kUpd_at, ⟨e3, hZ, by omega, u0, u1⟩, e4, e5, ⟨rfl, rfl, rfl, rfl, rfl, rfl, rfl, rfl, rfl, rfl, rfl, v1, v2, v3⟩, rfl⟩
theorem xt_L_hand_ns1 {B : Nat} {mc : Int} {sc : Int} {tx : Int} {nr : Int} {ra : Int} {ru : Int} {dy : Int} {wa : Int} {se : Int} {f1 : Nat → Int} {f2 : Nat → Int} {f3 : Nat → Int64} {et : Nat → Int64} {eb : Nat → Int} {ec : Nat → Int} {en : Nat → Int} {ep : Nat → Int} {es : Nat → Int} {nw : Int} {zz : Int} {nn : Int} {of1 : Nat → Int} {of2 : Nat → Int} {of3 : Nat → Int64} {a1 : Int} {fo : Nat → Int64} {re : Int} {g : Nat → Int} {fv : Nat → Int} {fn : Nat → Int} {fk : Nat → Int} {fW : Nat → Int64} {fC : Nat → Int} {fg : Nat → Int} {fc : Nat → Int} {r : Int} {n0_ : Int} {n1_ : Int} {f2_ : Nat → Int64} {f3_ : Nat → Int} {f4_ : Nat → Int} {f5_ : Nat → Int} {f6_ : Nat → Int} {f7_ : Nat → Int} {v' : Int} {th' : Int} {re' : Int} {ne' : Int} {g' : Nat → Int} {fv' : Nat → Int} {fn' : Nat → Int} {fk' : Nat → Int} {fW' : Nat → Int64} {fC' : Nat → Int} {fg' : Nat → Int} {fc' : Nat → Int} (h : kC9 B mc sc tx nr ra ru dy wa se f1 f2 f3 g) (hB : B ≤ 4000) (z0 : 0 ≤ zz) (z12 : zz ≤ 12) (g3 : g 3 = 0) (ha : a1 = 1) (hc : F_z_L_hand_ns mc sc tx nr ra ru dy wa se f1 f2 f3 et eb ec en ep es nw zz nn of1 of2 of3 a1 fo = Sum.inr (r, n0_, n1_, f2_, f3_, f4_, f5_, f6_, f7_)) (hr : F_r_hand1 re g fv fn fk fW fC fg fc = (v', th', re', ne', g', fv', fn', fk', fW', fC', fg', fc')) : th' = r ∧ re' = re ∧ g' = g ∧ fc' = fc := by
  obtain ⟨hC, hZ, hW, u0, u1⟩ := h
  subst ha
  obtain ⟨ww1, ww2, ww3, eR, v1, v2, v3⟩ := rem_s (nw := nw) (zz := zz) (nn := nn) (mc := mc) (sc := sc) (tx := tx) (nr := nr) (ra := ra) (ru := ru) (dy := dy) (wa := wa) (se := se) (f1 := f1) (f2 := f2) (f3 := f3) (of1 := of1) (of2 := of2) (of3 := of3) z0 z12
  unfold F_z_L_hand_ns at hc
  rcases hand_ns1 (et := et) (eb := eb) (ec := ec) (en := en) (ep := ep) (es := es) (fv := fv) (fn := fn) (fk := fk) (fC := fC) (fg := fg) (fW := fW) (nw := nw) (zz := zz) (nn := nn) (re := re) (fc := fc) (of1 := of1) (of2 := of2) (of3 := of3) hC g3 with ⟨bcq, ccq, etq, ebq, ecq, enq, epq, esq, fvq, fnq, fkq, fCq, fgq, fWq, e1, e2⟩ | ⟨vq, bcq, ccq, d1q, d2q, gq, etq, ebq, ecq, enq, epq, esq, fvq, fnq, fkq, fCq, fgq, fWq, e1, e2, e3, e4, e5⟩
  · rw [e1] at hc
    rw [e2] at hr
    simp only [Prod.mk.injEq] at hr
    obtain ⟨rfl, rfl, rfl, rfl, rfl, rfl, rfl, rfl, rfl, rfl, rfl, rfl⟩ := hr
    simp only [kS, kC, kLet, Int32.reduceToInt, Int.reduceEq, ↓reduceIte, Sum.inl.injEq, Sum.inr.injEq, Prod.mk.injEq] at hc
    obtain ⟨rfl, rfl, rfl, rfl, rfl, rfl, rfl, rfl, rfl⟩ := hc
    exact ⟨rfl, rfl, rfl, rfl⟩
  · rw [e1, eR] at hc
    simp only [kS, kC, kLet, Int32.reduceToInt, Int.reduceEq, ↓reduceIte, reduceCtorEq] at hc
theorem xs_L_give_ss {B : Nat} {mc : Int} {sc : Int} {tx : Int} {nr : Int} {ra : Int} {ru : Int} {dy : Int} {wa : Int} {se : Int} {f1 : Nat → Int} {f2 : Nat → Int} {f3 : Nat → Int64} {M1 : Nat} {M2 : Nat} {M3 : Nat} {y1_ : Nat → Int} {y2_ : Nat → Int} {y3_ : Nat → Int} {y4_ : Nat → Int} {nw : Int} {zz : Int} {nn : Int} {of1 : Nat → Int} {of2 : Nat → Int} {of3 : Nat → Int64} {a1 : Int} {b1 : Int} {fo : Nat → Int64} {re : Int} {g : Nat → Int} {fv : Nat → Int} {fc : Nat → Int} {r : Int} {d1 : Nat → Int} {d2 : Nat → Int} {y4' : Nat → Int} {nw' : Int} {zz' : Int} {mcO : Int} {scO : Int} {txO : Int} {nrO : Int} {raO : Int} {ruO : Int} {dyO : Int} {waO : Int} {seO : Int} {h1 : Nat → Int} {h2 : Nat → Int} {h3 : Nat → Int64} {fo' : Nat → Int64} {v' : Int} {th' : Int} {re' : Int} {g' : Nat → Int} {fv' : Nat → Int} {fc' : Nat → Int} (h : kC9 B mc sc tx nr ra ru dy wa se f1 f2 f3 g) (hB : B ≤ 4000) (z0 : 0 ≤ zz) (z12 : zz ≤ 12) (g3 : g 3 = 1) (hL : LW M1 M2 M3 y1_ y2_ y3_ g) (k1 : ∀ i, kW (f1 i) = f1 i) (k2 : ∀ i, kW (f2 i) = f2 i) (kw : kW wa = wa) (hc : F_z_L_give_ss mc sc tx nr ra ru dy wa se f1 f2 f3 M1 M2 M3 y1_ y2_ y3_ y4_ nw zz nn of1 of2 of3 a1 b1 fo = Sum.inl (r, d1, d2, y4', nw', zz', mcO, scO, txO, nrO, raO, ruO, dyO, waO, seO, h1, h2, h3, fo')) (hr : F_r_give re g fv fc a1 b1 = (v', th', re', g', fv', fc')) : r = 0 ∧ th' = 0 ∧ fo' 0 = kI2l v' ∧ kC9 (B + 6) mc sc tx nr ra ru dy wa se d1 d2 f3 g' ∧ g' 3 = g 3 ∧ (∀ j, 505 ≤ j → g' j = g j) ∧ kRmb mc sc tx nr ra ru dy wa se f1 f2 f3 zz nn nw' zz' mcO scO txO nrO raO ruO dyO waO seO h1 h2 h3 ∧ (re', fc') = F_r_remembers re g fc := by
  obtain ⟨hC, hZ, hW, u0, u1⟩ := h
  obtain ⟨ww1, ww2, ww3, eR, v1, v2, v3⟩ := rem_s (nw := nw) (zz := zz) (nn := nn) (mc := mc) (sc := sc) (tx := tx) (nr := nr) (ra := ra) (ru := ru) (dy := dy) (wa := wa) (se := se) (f1 := f1) (f2 := f2) (f3 := f3) (of1 := of1) (of2 := of2) (of3 := of3) z0 z12
  unfold F_z_L_give_ss at hc
  rcases give_ss (a := a1) (b := b1) (fv := fv) (nw := nw) (zz := zz) (nn := nn) (re := re) (fc := fc) (of1 := of1) (of2 := of2) (of3 := of3) (y4 := y4_) hC g3 hL k1 k2 kw with ⟨kq, y4q, fvq, e1, e2, e3⟩ | ⟨vq, d1q, d2q, y4q, gq, fvq, e1, e2, e3, e4, e5⟩
  · rw [e1] at hc
    rcases e3 with rfl | rfl <;> simp only [kS, kC, kLet, Int32.reduceToInt, Int.reduceEq, ↓reduceIte, reduceCtorEq] at hc
  · skip
    rw [e1, eR] at hc
    rw [e2] at hr
    simp only [kS, kC, kLet, Int32.reduceToInt, Int.reduceEq, ↓reduceIte, Sum.inl.injEq, Sum.inr.injEq, Prod.mk.injEq] at hc
    simp only [Prod.mk.injEq] at hr
    obtain ⟨rfl, rfl, rfl, rfl, rfl, rfl, rfl, rfl, rfl, rfl, rfl, rfl, rfl, rfl, rfl, rfl, rfl, rfl, rfl⟩ := hc
    obtain ⟨rfl, rfl, rfl, rfl, rfl, rfl⟩ := hr
    exact ⟨rfl, rfl, kUpd_at, ⟨e3, hZ, by omega, u0, u1⟩, e4, e5, ⟨rfl, rfl, rfl, rfl, rfl, rfl, rfl, rfl, rfl, rfl, rfl, v1, v2, v3⟩, rfl⟩
theorem xt_L_give_ss {B : Nat} {mc : Int} {sc : Int} {tx : Int} {nr : Int} {ra : Int} {ru : Int} {dy : Int} {wa : Int} {se : Int} {f1 : Nat → Int} {f2 : Nat → Int} {f3 : Nat → Int64} {M1 : Nat} {M2 : Nat} {M3 : Nat} {y1_ : Nat → Int} {y2_ : Nat → Int} {y3_ : Nat → Int} {y4_ : Nat → Int} {nw : Int} {zz : Int} {nn : Int} {of1 : Nat → Int} {of2 : Nat → Int} {of3 : Nat → Int64} {a1 : Int} {b1 : Int} {fo : Nat → Int64} {re : Int} {g : Nat → Int} {fv : Nat → Int} {fc : Nat → Int} {r : Int} {y4' : Nat → Int} {v' : Int} {th' : Int} {re' : Int} {g' : Nat → Int} {fv' : Nat → Int} {fc' : Nat → Int} (h : kC9 B mc sc tx nr ra ru dy wa se f1 f2 f3 g) (hB : B ≤ 4000) (z0 : 0 ≤ zz) (z12 : zz ≤ 12) (g3 : g 3 = 1) (hL : LW M1 M2 M3 y1_ y2_ y3_ g) (k1 : ∀ i, kW (f1 i) = f1 i) (k2 : ∀ i, kW (f2 i) = f2 i) (kw : kW wa = wa) (hc : F_z_L_give_ss mc sc tx nr ra ru dy wa se f1 f2 f3 M1 M2 M3 y1_ y2_ y3_ y4_ nw zz nn of1 of2 of3 a1 b1 fo = Sum.inr (r, y4')) (hr : F_r_give re g fv fc a1 b1 = (v', th', re', g', fv', fc')) : th' = r ∧ re' = re ∧ g' = g ∧ fc' = fc := by
  obtain ⟨hC, hZ, hW, u0, u1⟩ := h
  obtain ⟨ww1, ww2, ww3, eR, v1, v2, v3⟩ := rem_s (nw := nw) (zz := zz) (nn := nn) (mc := mc) (sc := sc) (tx := tx) (nr := nr) (ra := ra) (ru := ru) (dy := dy) (wa := wa) (se := se) (f1 := f1) (f2 := f2) (f3 := f3) (of1 := of1) (of2 := of2) (of3 := of3) z0 z12
  unfold F_z_L_give_ss at hc
  rcases give_ss (a := a1) (b := b1) (fv := fv) (nw := nw) (zz := zz) (nn := nn) (re := re) (fc := fc) (of1 := of1) (of2 := of2) (of3 := of3) (y4 := y4_) hC g3 hL k1 k2 kw with ⟨kq, y4q, fvq, e1, e2, e3⟩ | ⟨vq, d1q, d2q, y4q, gq, fvq, e1, e2, e3, e4, e5⟩
  · rw [e1] at hc
    rw [e2] at hr
    simp only [Prod.mk.injEq] at hr
    obtain ⟨rfl, rfl, rfl, rfl, rfl, rfl⟩ := hr
    rcases e3 with rfl | rfl <;> (simp only [kS, kC, kLet, Int32.reduceToInt, Int.reduceEq, ↓reduceIte, Sum.inl.injEq, Sum.inr.injEq, Prod.mk.injEq] at hc; obtain ⟨rfl, rfl⟩ := hc; exact ⟨rfl, rfl, rfl, rfl⟩)
  · rw [e1, eR] at hc
    simp only [kS, kC, kLet, Int32.reduceToInt, Int.reduceEq, ↓reduceIte, reduceCtorEq] at hc
theorem xs_L_hand_ss0 {B : Nat} {mc : Int} {sc : Int} {tx : Int} {nr : Int} {ra : Int} {ru : Int} {dy : Int} {wa : Int} {se : Int} {f1 : Nat → Int} {f2 : Nat → Int} {f3 : Nat → Int64} {M1 : Nat} {M2 : Nat} {M3 : Nat} {y1_ : Nat → Int} {y2_ : Nat → Int} {y3_ : Nat → Int} {y4_ : Nat → Int} {et : Nat → Int64} {eb : Nat → Int} {ec : Nat → Int} {en : Nat → Int} {ep : Nat → Int} {es : Nat → Int} {nw : Int} {zz : Int} {nn : Int} {of1 : Nat → Int} {of2 : Nat → Int} {of3 : Nat → Int64} {a1 : Int} {fo : Nat → Int64} {re : Int} {g : Nat → Int} {fv : Nat → Int} {fn : Nat → Int} {fk : Nat → Int} {fW : Nat → Int64} {fC : Nat → Int} {fg : Nat → Int} {fc : Nat → Int} {r : Int} {d1 : Nat → Int} {d2 : Nat → Int} {y4' : Nat → Int} {n3_ : Int} {n4_ : Int} {f5_ : Nat → Int64} {f6_ : Nat → Int} {f7_ : Nat → Int} {f8_ : Nat → Int} {f9_ : Nat → Int} {f10_ : Nat → Int} {nw' : Int} {zz' : Int} {mcO : Int} {scO : Int} {txO : Int} {nrO : Int} {raO : Int} {ruO : Int} {dyO : Int} {waO : Int} {seO : Int} {h1 : Nat → Int} {h2 : Nat → Int} {h3 : Nat → Int64} {fo' : Nat → Int64} {v' : Int} {th' : Int} {re' : Int} {ne' : Int} {g' : Nat → Int} {fv' : Nat → Int} {fn' : Nat → Int} {fk' : Nat → Int} {fW' : Nat → Int64} {fC' : Nat → Int} {fg' : Nat → Int} {fc' : Nat → Int} (h : kC9 B mc sc tx nr ra ru dy wa se f1 f2 f3 g) (hB : B ≤ 4000) (z0 : 0 ≤ zz) (z12 : zz ≤ 12) (g3 : g 3 = 1) (hL : LW M1 M2 M3 y1_ y2_ y3_ g) (k1 : ∀ i, kW (f1 i) = f1 i) (k2 : ∀ i, kW (f2 i) = f2 i) (kw : kW wa = wa) (ha : a1 = 0) (hc : F_z_L_hand_ss mc sc tx nr ra ru dy wa se f1 f2 f3 M1 M2 M3 y1_ y2_ y3_ y4_ et eb ec en ep es nw zz nn of1 of2 of3 a1 fo = Sum.inl (r, d1, d2, y4', n3_, n4_, f5_, f6_, f7_, f8_, f9_, f10_, nw', zz', mcO, scO, txO, nrO, raO, ruO, dyO, waO, seO, h1, h2, h3, fo')) (hr : F_r_hand0 re g fv fn fk fW fC fg fc = (v', th', re', ne', g', fv', fn', fk', fW', fC', fg', fc')) : r = 0 ∧ th' = 0 ∧ fo' 0 = kI2l v' ∧ kC9 (B + 6) mc sc tx nr ra ru dy wa se d1 d2 f3 g' ∧ g' 3 = g 3 ∧ (∀ j, 505 ≤ j → g' j = g j) ∧ kRmb mc sc tx nr ra ru dy wa se f1 f2 f3 zz nn nw' zz' mcO scO txO nrO raO ruO dyO waO seO h1 h2 h3 ∧ (re', fc') = F_r_remembers re g fc := by
  obtain ⟨hC, hZ, hW, u0, u1⟩ := h
  subst ha
  obtain ⟨ww1, ww2, ww3, eR, v1, v2, v3⟩ := rem_s (nw := nw) (zz := zz) (nn := nn) (mc := mc) (sc := sc) (tx := tx) (nr := nr) (ra := ra) (ru := ru) (dy := dy) (wa := wa) (se := se) (f1 := f1) (f2 := f2) (f3 := f3) (of1 := of1) (of2 := of2) (of3 := of3) z0 z12
  unfold F_z_L_hand_ss at hc
  rcases hand_ss0 (et := et) (eb := eb) (ec := ec) (en := en) (ep := ep) (es := es) (fv := fv) (fn := fn) (fk := fk) (fC := fC) (fg := fg) (fW := fW) (nw := nw) (zz := zz) (nn := nn) (re := re) (fc := fc) (of1 := of1) (of2 := of2) (of3 := of3) (y4 := y4_) hC g3 hL k1 k2 kw with ⟨bcq, ccq, etq, ebq, ecq, enq, epq, esq, fvq, fnq, fkq, fCq, fgq, y4q, fWq, e1, e2⟩ | ⟨vq, bcq, ccq, d1q, d2q, gq, etq, ebq, ecq, enq, epq, esq, fvq, fnq, fkq, fCq, fgq, y4q, fWq, e1, e2, e3, e4, e5⟩
  · rw [e1] at hc
    simp only [kS, kC, kLet, Int32.reduceToInt, Int.reduceEq, ↓reduceIte, reduceCtorEq] at hc
  · skip
    rw [e1, eR] at hc
    rw [e2] at hr
    simp only [kS, kC, kLet, Int32.reduceToInt, Int.reduceEq, ↓reduceIte, Sum.inl.injEq, Sum.inr.injEq, Prod.mk.injEq] at hc
    simp only [Prod.mk.injEq] at hr
    obtain ⟨rfl, rfl, rfl, rfl, rfl, rfl, rfl, rfl, rfl, rfl, rfl, rfl, rfl, rfl, rfl, rfl, rfl, rfl, rfl, rfl, rfl, rfl, rfl, rfl, rfl, rfl, rfl⟩ := hc
    obtain ⟨rfl, rfl, rfl, rfl, rfl, rfl, rfl, rfl, rfl, rfl, rfl, rfl⟩ := hr
    exact ⟨rfl, rfl, kUpd_at, ⟨e3, hZ, by omega, u0, u1⟩, e4, e5, ⟨rfl, rfl, rfl, rfl, rfl, rfl, rfl, rfl, rfl, rfl, rfl, v1, v2, v3⟩, rfl⟩
theorem xt_L_hand_ss0 {B : Nat} {mc : Int} {sc : Int} {tx : Int} {nr : Int} {ra : Int} {ru : Int} {dy : Int} {wa : Int} {se : Int} {f1 : Nat → Int} {f2 : Nat → Int} {f3 : Nat → Int64} {M1 : Nat} {M2 : Nat} {M3 : Nat} {y1_ : Nat → Int} {y2_ : Nat → Int} {y3_ : Nat → Int} {y4_ : Nat → Int} {et : Nat → Int64} {eb : Nat → Int} {ec : Nat → Int} {en : Nat → Int} {ep : Nat → Int} {es : Nat → Int} {nw : Int} {zz : Int} {nn : Int} {of1 : Nat → Int} {of2 : Nat → Int} {of3 : Nat → Int64} {a1 : Int} {fo : Nat → Int64} {re : Int} {g : Nat → Int} {fv : Nat → Int} {fn : Nat → Int} {fk : Nat → Int} {fW : Nat → Int64} {fC : Nat → Int} {fg : Nat → Int} {fc : Nat → Int} {r : Int} {y4' : Nat → Int} {n1_ : Int} {n2_ : Int} {f3_ : Nat → Int64} {f4_ : Nat → Int} {f5_ : Nat → Int} {f6_ : Nat → Int} {f7_ : Nat → Int} {f8_ : Nat → Int} {v' : Int} {th' : Int} {re' : Int} {ne' : Int} {g' : Nat → Int} {fv' : Nat → Int} {fn' : Nat → Int} {fk' : Nat → Int} {fW' : Nat → Int64} {fC' : Nat → Int} {fg' : Nat → Int} {fc' : Nat → Int} (h : kC9 B mc sc tx nr ra ru dy wa se f1 f2 f3 g) (hB : B ≤ 4000) (z0 : 0 ≤ zz) (z12 : zz ≤ 12) (g3 : g 3 = 1) (hL : LW M1 M2 M3 y1_ y2_ y3_ g) (k1 : ∀ i, kW (f1 i) = f1 i) (k2 : ∀ i, kW (f2 i) = f2 i) (kw : kW wa = wa) (ha : a1 = 0) (hc : F_z_L_hand_ss mc sc tx nr ra ru dy wa se f1 f2 f3 M1 M2 M3 y1_ y2_ y3_ y4_ et eb ec en ep es nw zz nn of1 of2 of3 a1 fo = Sum.inr (r, y4', n1_, n2_, f3_, f4_, f5_, f6_, f7_, f8_)) (hr : F_r_hand0 re g fv fn fk fW fC fg fc = (v', th', re', ne', g', fv', fn', fk', fW', fC', fg', fc')) : th' = r ∧ re' = re ∧ g' = g ∧ fc' = fc := by
  obtain ⟨hC, hZ, hW, u0, u1⟩ := h
  subst ha
  obtain ⟨ww1, ww2, ww3, eR, v1, v2, v3⟩ := rem_s (nw := nw) (zz := zz) (nn := nn) (mc := mc) (sc := sc) (tx := tx) (nr := nr) (ra := ra) (ru := ru) (dy := dy) (wa := wa) (se := se) (f1 := f1) (f2 := f2) (f3 := f3) (of1 := of1) (of2 := of2) (of3 := of3) z0 z12
  unfold F_z_L_hand_ss at hc
  rcases hand_ss0 (et := et) (eb := eb) (ec := ec) (en := en) (ep := ep) (es := es) (fv := fv) (fn := fn) (fk := fk) (fC := fC) (fg := fg) (fW := fW) (nw := nw) (zz := zz) (nn := nn) (re := re) (fc := fc) (of1 := of1) (of2 := of2) (of3 := of3) (y4 := y4_) hC g3 hL k1 k2 kw with ⟨bcq, ccq, etq, ebq, ecq, enq, epq, esq, fvq, fnq, fkq, fCq, fgq, y4q, fWq, e1, e2⟩ | ⟨vq, bcq, ccq, d1q, d2q, gq, etq, ebq, ecq, enq, epq, esq, fvq, fnq, fkq, fCq, fgq, y4q, fWq, e1, e2, e3, e4, e5⟩
  · rw [e1] at hc
    rw [e2] at hr
    simp only [Prod.mk.injEq] at hr
    obtain ⟨rfl, rfl, rfl, rfl, rfl, rfl, rfl, rfl, rfl, rfl, rfl, rfl⟩ := hr
    simp only [kS, kC, kLet, Int32.reduceToInt, Int.reduceEq, ↓reduceIte, Sum.inl.injEq, Sum.inr.injEq, Prod.mk.injEq] at hc
    obtain ⟨rfl, rfl, rfl, rfl, rfl, rfl, rfl, rfl, rfl, rfl⟩ := hc
    exact ⟨rfl, rfl, rfl, rfl⟩
  · rw [e1, eR] at hc
    simp only [kS, kC, kLet, Int32.reduceToInt, Int.reduceEq, ↓reduceIte, reduceCtorEq] at hc
theorem xs_L_hand_ss1 {B : Nat} {mc : Int} {sc : Int} {tx : Int} {nr : Int} {ra : Int} {ru : Int} {dy : Int} {wa : Int} {se : Int} {f1 : Nat → Int} {f2 : Nat → Int} {f3 : Nat → Int64} {M1 : Nat} {M2 : Nat} {M3 : Nat} {y1_ : Nat → Int} {y2_ : Nat → Int} {y3_ : Nat → Int} {y4_ : Nat → Int} {et : Nat → Int64} {eb : Nat → Int} {ec : Nat → Int} {en : Nat → Int} {ep : Nat → Int} {es : Nat → Int} {nw : Int} {zz : Int} {nn : Int} {of1 : Nat → Int} {of2 : Nat → Int} {of3 : Nat → Int64} {a1 : Int} {fo : Nat → Int64} {re : Int} {g : Nat → Int} {fv : Nat → Int} {fn : Nat → Int} {fk : Nat → Int} {fW : Nat → Int64} {fC : Nat → Int} {fg : Nat → Int} {fc : Nat → Int} {r : Int} {d1 : Nat → Int} {d2 : Nat → Int} {y4' : Nat → Int} {n3_ : Int} {n4_ : Int} {f5_ : Nat → Int64} {f6_ : Nat → Int} {f7_ : Nat → Int} {f8_ : Nat → Int} {f9_ : Nat → Int} {f10_ : Nat → Int} {nw' : Int} {zz' : Int} {mcO : Int} {scO : Int} {txO : Int} {nrO : Int} {raO : Int} {ruO : Int} {dyO : Int} {waO : Int} {seO : Int} {h1 : Nat → Int} {h2 : Nat → Int} {h3 : Nat → Int64} {fo' : Nat → Int64} {v' : Int} {th' : Int} {re' : Int} {ne' : Int} {g' : Nat → Int} {fv' : Nat → Int} {fn' : Nat → Int} {fk' : Nat → Int} {fW' : Nat → Int64} {fC' : Nat → Int} {fg' : Nat → Int} {fc' : Nat → Int} (h : kC9 B mc sc tx nr ra ru dy wa se f1 f2 f3 g) (hB : B ≤ 4000) (z0 : 0 ≤ zz) (z12 : zz ≤ 12) (g3 : g 3 = 1) (hL : LW M1 M2 M3 y1_ y2_ y3_ g) (k1 : ∀ i, kW (f1 i) = f1 i) (k2 : ∀ i, kW (f2 i) = f2 i) (kw : kW wa = wa) (ha : a1 = 1) (hc : F_z_L_hand_ss mc sc tx nr ra ru dy wa se f1 f2 f3 M1 M2 M3 y1_ y2_ y3_ y4_ et eb ec en ep es nw zz nn of1 of2 of3 a1 fo = Sum.inl (r, d1, d2, y4', n3_, n4_, f5_, f6_, f7_, f8_, f9_, f10_, nw', zz', mcO, scO, txO, nrO, raO, ruO, dyO, waO, seO, h1, h2, h3, fo')) (hr : F_r_hand1 re g fv fn fk fW fC fg fc = (v', th', re', ne', g', fv', fn', fk', fW', fC', fg', fc')) : r = 0 ∧ th' = 0 ∧ fo' 0 = kI2l v' ∧ kC9 (B + 6) mc sc tx nr ra ru dy wa se d1 d2 f3 g' ∧ g' 3 = g 3 ∧ (∀ j, 505 ≤ j → g' j = g j) ∧ kRmb mc sc tx nr ra ru dy wa se f1 f2 f3 zz nn nw' zz' mcO scO txO nrO raO ruO dyO waO seO h1 h2 h3 ∧ (re', fc') = F_r_remembers re g fc := by
  obtain ⟨hC, hZ, hW, u0, u1⟩ := h
  subst ha
  obtain ⟨ww1, ww2, ww3, eR, v1, v2, v3⟩ := rem_s (nw := nw) (zz := zz) (nn := nn) (mc := mc) (sc := sc) (tx := tx) (nr := nr) (ra := ra) (ru := ru) (dy := dy) (wa := wa) (se := se) (f1 := f1) (f2 := f2) (f3 := f3) (of1 := of1) (of2 := of2) (of3 := of3) z0 z12
  unfold F_z_L_hand_ss at hc
  rcases hand_ss1 (et := et) (eb := eb) (ec := ec) (en := en) (ep := ep) (es := es) (fv := fv) (fn := fn) (fk := fk) (fC := fC) (fg := fg) (fW := fW) (nw := nw) (zz := zz) (nn := nn) (re := re) (fc := fc) (of1 := of1) (of2 := of2) (of3 := of3) (y4 := y4_) hC g3 hL k1 k2 kw with ⟨bcq, ccq, etq, ebq, ecq, enq, epq, esq, fvq, fnq, fkq, fCq, fgq, y4q, fWq, e1, e2⟩ | ⟨vq, bcq, ccq, d1q, d2q, gq, etq, ebq, ecq, enq, epq, esq, fvq, fnq, fkq, fCq, fgq, y4q, fWq, e1, e2, e3, e4, e5⟩
  · rw [e1] at hc
    simp only [kS, kC, kLet, Int32.reduceToInt, Int.reduceEq, ↓reduceIte, reduceCtorEq] at hc
  · skip
    rw [e1, eR] at hc
    rw [e2] at hr
    simp only [kS, kC, kLet, Int32.reduceToInt, Int.reduceEq, ↓reduceIte, Sum.inl.injEq, Sum.inr.injEq, Prod.mk.injEq] at hc
    simp only [Prod.mk.injEq] at hr
    obtain ⟨rfl, rfl, rfl, rfl, rfl, rfl, rfl, rfl, rfl, rfl, rfl, rfl, rfl, rfl, rfl, rfl, rfl, rfl, rfl, rfl, rfl, rfl, rfl, rfl, rfl, rfl, rfl⟩ := hc
    obtain ⟨rfl, rfl, rfl, rfl, rfl, rfl, rfl, rfl, rfl, rfl, rfl, rfl⟩ := hr
    exact ⟨rfl, rfl, kUpd_at, ⟨e3, hZ, by omega, u0, u1⟩, e4, e5, ⟨rfl, rfl, rfl, rfl, rfl, rfl, rfl, rfl, rfl, rfl, rfl, v1, v2, v3⟩, rfl⟩
theorem xt_L_hand_ss1 {B : Nat} {mc : Int} {sc : Int} {tx : Int} {nr : Int} {ra : Int} {ru : Int} {dy : Int} {wa : Int} {se : Int} {f1 : Nat → Int} {f2 : Nat → Int} {f3 : Nat → Int64} {M1 : Nat} {M2 : Nat} {M3 : Nat} {y1_ : Nat → Int} {y2_ : Nat → Int} {y3_ : Nat → Int} {y4_ : Nat → Int} {et : Nat → Int64} {eb : Nat → Int} {ec : Nat → Int} {en : Nat → Int} {ep : Nat → Int} {es : Nat → Int} {nw : Int} {zz : Int} {nn : Int} {of1 : Nat → Int} {of2 : Nat → Int} {of3 : Nat → Int64} {a1 : Int} {fo : Nat → Int64} {re : Int} {g : Nat → Int} {fv : Nat → Int} {fn : Nat → Int} {fk : Nat → Int} {fW : Nat → Int64} {fC : Nat → Int} {fg : Nat → Int} {fc : Nat → Int} {r : Int} {y4' : Nat → Int} {n1_ : Int} {n2_ : Int} {f3_ : Nat → Int64} {f4_ : Nat → Int} {f5_ : Nat → Int} {f6_ : Nat → Int} {f7_ : Nat → Int} {f8_ : Nat → Int} {v' : Int} {th' : Int} {re' : Int} {ne' : Int} {g' : Nat → Int} {fv' : Nat → Int} {fn' : Nat → Int} {fk' : Nat → Int} {fW' : Nat → Int64} {fC' : Nat → Int} {fg' : Nat → Int} {fc' : Nat → Int} (h : kC9 B mc sc tx nr ra ru dy wa se f1 f2 f3 g) (hB : B ≤ 4000) (z0 : 0 ≤ zz) (z12 : zz ≤ 12) (g3 : g 3 = 1) (hL : LW M1 M2 M3 y1_ y2_ y3_ g) (k1 : ∀ i, kW (f1 i) = f1 i) (k2 : ∀ i, kW (f2 i) = f2 i) (kw : kW wa = wa) (ha : a1 = 1) (hc : F_z_L_hand_ss mc sc tx nr ra ru dy wa se f1 f2 f3 M1 M2 M3 y1_ y2_ y3_ y4_ et eb ec en ep es nw zz nn of1 of2 of3 a1 fo = Sum.inr (r, y4', n1_, n2_, f3_, f4_, f5_, f6_, f7_, f8_)) (hr : F_r_hand1 re g fv fn fk fW fC fg fc = (v', th', re', ne', g', fv', fn', fk', fW', fC', fg', fc')) : th' = r ∧ re' = re ∧ g' = g ∧ fc' = fc := by
  obtain ⟨hC, hZ, hW, u0, u1⟩ := h
  subst ha
  obtain ⟨ww1, ww2, ww3, eR, v1, v2, v3⟩ := rem_s (nw := nw) (zz := zz) (nn := nn) (mc := mc) (sc := sc) (tx := tx) (nr := nr) (ra := ra) (ru := ru) (dy := dy) (wa := wa) (se := se) (f1 := f1) (f2 := f2) (f3 := f3) (of1 := of1) (of2 := of2) (of3 := of3) z0 z12
  unfold F_z_L_hand_ss at hc
  rcases hand_ss1 (et := et) (eb := eb) (ec := ec) (en := en) (ep := ep) (es := es) (fv := fv) (fn := fn) (fk := fk) (fC := fC) (fg := fg) (fW := fW) (nw := nw) (zz := zz) (nn := nn) (re := re) (fc := fc) (of1 := of1) (of2 := of2) (of3 := of3) (y4 := y4_) hC g3 hL k1 k2 kw with ⟨bcq, ccq, etq, ebq, ecq, enq, epq, esq, fvq, fnq, fkq, fCq, fgq, y4q, fWq, e1, e2⟩ | ⟨vq, bcq, ccq, d1q, d2q, gq, etq, ebq, ecq, enq, epq, esq, fvq, fnq, fkq, fCq, fgq, y4q, fWq, e1, e2, e3, e4, e5⟩
  · rw [e1] at hc
    rw [e2] at hr
    simp only [Prod.mk.injEq] at hr
    obtain ⟨rfl, rfl, rfl, rfl, rfl, rfl, rfl, rfl, rfl, rfl, rfl, rfl⟩ := hr
    simp only [kS, kC, kLet, Int32.reduceToInt, Int.reduceEq, ↓reduceIte, Sum.inl.injEq, Sum.inr.injEq, Prod.mk.injEq] at hc
    obtain ⟨rfl, rfl, rfl, rfl, rfl, rfl, rfl, rfl, rfl, rfl⟩ := hc
    exact ⟨rfl, rfl, rfl, rfl⟩
  · rw [e1, eR] at hc
    simp only [kS, kC, kLet, Int32.reduceToInt, Int.reduceEq, ↓reduceIte, reduceCtorEq] at hc
