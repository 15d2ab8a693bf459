/-! Acts: what class and reference give, on the whole relation. -/
theorem xt_L_take_nx {B : Nat} {mc : Int} {sc : Int} {tx : Int} {nr : Int} {ra : Int} {ru : Int} {dy : Int} {wa : Int} {se : Int} {f1 : Nat → Int} {f2 : Nat → Int} {f3 : Nat → Int64} {nw : Int} {zz : Int} {nn : Int} {a1 : Int} {fo : Nat → Int64} {re : Int} {g : Nat → Int} {fc : Nat → Int} {r : Int} {v' : Int} {th' : Int} {re' : Int} {g' : Nat → Int} {fc' : Nat → Int} (h : kC9 B mc sc tx nr ra ru dy wa se f1 f2 f3 g) (hB : B ≤ 4000) (z0 : 0 ≤ zz) (z12 : zz ≤ 12) (hc : F_z_L_take_nx mc sc tx nr ra ru dy wa se f1 f2 f3 nw zz nn a1 fo = Sum.inl r) (hr : F_r_take re g fc a1 = (v', th', re', g', fc')) : th' = r ∧ re' = re ∧ g' = g ∧ fc' = fc := by
  obtain ⟨hC, hZ, hW, u0, u1⟩ := h
  obtain ⟨ww1, ww2, ww3, eR, v1, v2, v3⟩ := rem_n (nw := nw) (zz := zz) (nn := nn) (mc := mc) (sc := sc) (tx := tx) (nr := nr) (ra := ra) (ru := ru) (dy := dy) (wa := wa) (se := se) (f1 := f1) (f2 := f2) (f3 := f3) z0 z12
  unfold F_z_L_take_nx at hc
  rcases take_n (a := a1) (nw := nw) (zz := zz) (nn := nn) (re := re) (fc := fc) hC with ⟨kq, e1, e2, e3⟩ | ⟨s, d1q, d2q, gq, e1, e2, e3, e4, e5⟩
  · rw [e1] at hc
    rw [e2] at hr
    simp only [Prod.mk.injEq] at hr
    obtain ⟨rfl, rfl, rfl, rfl, rfl⟩ := hr
    rcases e3 with rfl | rfl <;> (simp only [kS, kC, kLet, Int32.reduceToInt, Int.reduceEq, ↓reduceIte, Sum.inl.injEq, Sum.inr.injEq, Prod.mk.injEq] at hc; obtain rfl := hc; exact ⟨rfl, rfl, rfl, rfl⟩)
  · rw [e1, eR] at hc
    simp only [kS, kC, kLet, Int32.reduceToInt, Int.reduceEq, ↓reduceIte, reduceCtorEq] at hc
theorem xs_L_take_nx {B : Nat} {mc : Int} {sc : Int} {tx : Int} {nr : Int} {ra : Int} {ru : Int} {dy : Int} {wa : Int} {se : Int} {f1 : Nat → Int} {f2 : Nat → Int} {f3 : Nat → Int64} {nw : Int} {zz : Int} {nn : Int} {a1 : Int} {fo : Nat → Int64} {re : Int} {g : Nat → Int} {fc : Nat → Int} {r : Int} {d1 : Nat → Int} {d2 : Nat → Int} {nw' : Int} {zz' : Int} {fo' : Nat → Int64} {mcO : Int} {scO : Int} {txO : Int} {nrO : Int} {raO : Int} {ruO : Int} {dyO : Int} {waO : Int} {seO : Int} {h1 : Nat → Int} {h2 : Nat → Int} {h3 : Nat → Int64} {v' : Int} {th' : Int} {re' : Int} {g' : Nat → Int} {fc' : Nat → Int} (h : kC9 B mc sc tx nr ra ru dy wa se f1 f2 f3 g) (hB : B ≤ 4000) (z0 : 0 ≤ zz) (z12 : zz ≤ 12) (hc : F_z_L_take_nx mc sc tx nr ra ru dy wa se f1 f2 f3 nw zz nn a1 fo = Sum.inr (r, d1, d2, nw', zz', fo', mcO, scO, txO, nrO, raO, ruO, dyO, waO, seO, h1, h2, h3)) (hr : F_r_take re g fc a1 = (v', th', re', g', fc')) : r = 0 ∧ th' = 0 ∧ fo' 0 = kI2l v' ∧ kC9 (B + 6) mc sc tx nr ra ru dy wa se d1 d2 f3 g' ∧ g' 3 = g 3 ∧ (∀ j, 505 ≤ j → g' j = g j) ∧ kRmb mc sc tx nr ra ru dy wa se f1 f2 f3 zz nn nw' zz' mcO scO txO nrO raO ruO dyO waO seO h1 h2 h3 ∧ (re', fc') = F_r_remembers re g fc := by
  obtain ⟨hC, hZ, hW, u0, u1⟩ := h
  obtain ⟨ww1, ww2, ww3, eR, v1, v2, v3⟩ := rem_n (nw := nw) (zz := zz) (nn := nn) (mc := mc) (sc := sc) (tx := tx) (nr := nr) (ra := ra) (ru := ru) (dy := dy) (wa := wa) (se := se) (f1 := f1) (f2 := f2) (f3 := f3) z0 z12
  unfold F_z_L_take_nx at hc
  rcases take_n (a := a1) (nw := nw) (zz := zz) (nn := nn) (re := re) (fc := fc) hC with ⟨kq, e1, e2, e3⟩ | ⟨s, d1q, d2q, gq, e1, e2, e3, e4, e5⟩
  · rw [e1] at hc
    rcases e3 with rfl | rfl <;> simp only [kS, kC, kLet, Int32.reduceToInt, Int.reduceEq, ↓reduceIte, reduceCtorEq] at hc
  · skip
    rw [e1, eR] at hc
    rw [e2] at hr
    simp only [kS, kC, kLet, Int32.reduceToInt, Int.reduceEq, ↓reduceIte, Sum.inl.injEq, Sum.inr.injEq, Prod.mk.injEq] at hc
    simp only [Prod.mk.injEq] at hr
    obtain ⟨rfl, rfl, rfl, rfl, rfl, rfl, rfl, rfl, rfl, rfl, rfl, rfl, rfl, rfl, rfl, rfl, rfl, rfl⟩ := hc
    obtain ⟨rfl, rfl, rfl, rfl, rfl⟩ := hr
    exact ⟨rfl, rfl, kUpd_at, ⟨e3, hZ, by omega, u0, u1⟩, e4, e5, ⟨rfl, rfl, rfl, rfl, rfl, rfl, rfl, rfl, rfl, rfl, rfl, v1, v2, v3⟩, rfl⟩
theorem xt_L_days_nx {B : Nat} {mc : Int} {sc : Int} {tx : Int} {nr : Int} {ra : Int} {ru : Int} {dy : Int} {wa : Int} {se : Int} {f1 : Nat → Int} {f2 : Nat → Int} {f3 : Nat → Int64} {nw : Int} {zz : Int} {nn : Int} {a1 : Int} {fo : Nat → Int64} {re : Int} {g : Nat → Int} {fc : Nat → Int} {r : Int} {v' : Int} {th' : Int} {re' : Int} {g' : Nat → Int} {fc' : Nat → Int} (h : kC9 B mc sc tx nr ra ru dy wa se f1 f2 f3 g) (hB : B ≤ 4000) (z0 : 0 ≤ zz) (z12 : zz ≤ 12) (hc : F_z_L_days_nx mc sc tx nr ra ru dy wa se f1 f2 f3 nw zz nn a1 fo = Sum.inl r) (hr : F_r_days re g fc a1 = (v', th', re', g', fc')) : th' = r ∧ re' = re ∧ g' = g ∧ fc' = fc := by
  obtain ⟨hC, hZ, hW, u0, u1⟩ := h
  obtain ⟨ww1, ww2, ww3, eR, v1, v2, v3⟩ := rem_n (nw := nw) (zz := zz) (nn := nn) (mc := mc) (sc := sc) (tx := tx) (nr := nr) (ra := ra) (ru := ru) (dy := dy) (wa := wa) (se := se) (f1 := f1) (f2 := f2) (f3 := f3) z0 z12
  unfold F_z_L_days_nx at hc
  rcases days_n (a := a1) (nw := nw) (zz := zz) (nn := nn) (re := re) (fc := fc) hC hZ (by omega) with ⟨kq, e1, e2, e3⟩ | ⟨cq, dyq, waq, seq, d1q, d2q, d3q, gq, e1, e2, e3, eZ, eW, e4, e5⟩
  · rw [e1] at hc
    rw [e2] at hr
    simp only [Prod.mk.injEq] at hr
    obtain ⟨rfl, rfl, rfl, rfl, rfl⟩ := hr
    subst e3
    simp only [kS, kC, kLet, Int32.reduceToInt, Int.reduceEq, ↓reduceIte, Sum.inl.injEq, Sum.inr.injEq, Prod.mk.injEq] at hc
    obtain rfl := hc
    exact ⟨rfl, rfl, rfl, rfl⟩
  · rw [e1, eR] at hc
    simp only [kS, kC, kLet, Int32.reduceToInt, Int.reduceEq, ↓reduceIte, reduceCtorEq] at hc
theorem xs_L_days_nx {B : Nat} {mc : Int} {sc : Int} {tx : Int} {nr : Int} {ra : Int} {ru : Int} {dy : Int} {wa : Int} {se : Int} {f1 : Nat → Int} {f2 : Nat → Int} {f3 : Nat → Int64} {nw : Int} {zz : Int} {nn : Int} {a1 : Int} {fo : Nat → Int64} {re : Int} {g : Nat → Int} {fc : Nat → Int} {r : Int} {dy' : Int} {wa' : Int} {se' : Int} {d1 : Nat → Int} {d2 : Nat → Int} {d3 : Nat → Int64} {nw' : Int} {zz' : Int} {fo' : Nat → Int64} {mcO : Int} {scO : Int} {txO : Int} {nrO : Int} {raO : Int} {ruO : Int} {dyO : Int} {waO : Int} {seO : Int} {h1 : Nat → Int} {h2 : Nat → Int} {h3 : Nat → Int64} {v' : Int} {th' : Int} {re' : Int} {g' : Nat → Int} {fc' : Nat → Int} (h : kC9 B mc sc tx nr ra ru dy wa se f1 f2 f3 g) (hB : B ≤ 4000) (z0 : 0 ≤ zz) (z12 : zz ≤ 12) (hc : F_z_L_days_nx mc sc tx nr ra ru dy wa se f1 f2 f3 nw zz nn a1 fo = Sum.inr (r, dy', wa', se', d1, d2, d3, nw', zz', fo', mcO, scO, txO, nrO, raO, ruO, dyO, waO, seO, h1, h2, h3)) (hr : F_r_days re g fc a1 = (v', th', re', g', fc')) : r = 0 ∧ th' = 0 ∧ fo' 0 = kI2l v' ∧ kC9 (B + 6) mc sc tx nr ra ru dy' wa' se' d1 d2 d3 g' ∧ g' 3 = g 3 ∧ (∀ j, 505 ≤ j → g' j = g j) ∧ kRmb mc sc tx nr ra ru dy wa se f1 f2 f3 zz nn nw' zz' mcO scO txO nrO raO ruO dyO waO seO h1 h2 h3 ∧ (re', fc') = F_r_remembers re g fc := by
  obtain ⟨hC, hZ, hW, u0, u1⟩ := h
  obtain ⟨ww1, ww2, ww3, eR, v1, v2, v3⟩ := rem_n (nw := nw) (zz := zz) (nn := nn) (mc := mc) (sc := sc) (tx := tx) (nr := nr) (ra := ra) (ru := ru) (dy := dy) (wa := wa) (se := se) (f1 := f1) (f2 := f2) (f3 := f3) z0 z12
  unfold F_z_L_days_nx at hc
  rcases days_n (a := a1) (nw := nw) (zz := zz) (nn := nn) (re := re) (fc := fc) hC hZ (by omega) with ⟨kq, e1, e2, e3⟩ | ⟨cq, dyq, waq, seq, d1q, d2q, d3q, gq, e1, e2, e3, eZ, eW, e4, e5⟩
  · rw [e1] at hc
    subst e3
    simp only [kS, kC, kLet, Int32.reduceToInt, Int.reduceEq, ↓reduceIte, reduceCtorEq] at hc
  · skip
    rw [e1, eR] at hc
    rw [e2] at hr
    simp only [kS, kC, kLet, Int32.reduceToInt, Int.reduceEq, ↓reduceIte, Sum.inl.injEq, Sum.inr.injEq, Prod.mk.injEq] at hc
    simp only [Prod.mk.injEq] at hr
    obtain ⟨rfl, rfl, rfl, rfl, rfl, rfl, rfl, rfl, rfl, rfl, rfl, rfl, rfl, rfl, rfl, rfl, rfl, rfl, rfl, rfl, rfl, rfl⟩ := hc
    obtain ⟨rfl, rfl, rfl, rfl, rfl⟩ := hr
    exact ⟨rfl, rfl, kUpd_at, ⟨e3, eZ, by omega, u0, u1⟩, e4, e5, ⟨rfl, rfl, rfl, rfl, rfl, rfl, rfl, rfl, rfl, rfl, rfl, v1, v2, v3⟩, rfl⟩
theorem xt_L_hang_nx {B : Nat} {ts : Int} {gc : Nat → Int} {mc : Int} {sc : Int} {tx : Int} {nr : Int} {ra : Int} {ru : Int} {dy : Int} {wa : Int} {se : Int} {f1 : Nat → Int} {f2 : Nat → Int} {f3 : Nat → Int64} {nw : Int} {zz : Int} {nn : Int} {fo : Nat → Int64} {re : Int} {g : Nat → Int} {gr : Nat → Int} {fc : Nat → Int} {r : Int} {v' : Int} {th' : Int} {re' : Int} {en' : Int} {g' : Nat → Int} {fc' : Nat → Int} (h : kC9 B mc sc tx nr ra ru dy wa se f1 f2 f3 g) (hB : B ≤ 4000) (z0 : 0 ≤ zz) (z12 : zz ≤ 12) (t0 : 0 ≤ ts) (t4 : ts ≤ 400) (hT : tTape ts.toNat gc gr) (hc : F_z_L_hang_nx ts gc mc sc tx nr ra ru dy wa se f1 f2 f3 nw zz nn fo = Sum.inl r) (hr : F_r_hang re ts g gr fc = (v', th', re', en', g', fc')) : th' = r ∧ re' = re ∧ g' = g ∧ fc' = fc := by
  obtain ⟨hC, hZ, hW, u0, u1⟩ := h
  obtain ⟨n, rfl⟩ : ∃ n : Nat, ts = (n : Int) := ⟨ts.toNat, by omega⟩
  rw [Int.toNat_natCast] at hT
  obtain ⟨ww1, ww2, ww3, eR, v1, v2, v3⟩ := rem_n (nw := nw) (zz := zz) (nn := nn) (mc := mc) (sc := sc) (tx := tx) (nr := nr) (ra := ra) (ru := ru) (dy := dy) (wa := wa) (se := se) (f1 := f1) (f2 := f2) (f3 := f3) z0 z12
  unfold F_z_L_hang_nx at hc
  rcases hang_n  (nw := nw) (zz := zz) (nn := nn) (re := re) (fc := fc) hC (by omega) hT with ⟨kq, e1, e2, e3⟩ | ⟨cq, seq, d2q, gq, e1, e2, e3, e4, e5⟩
  · rw [e1] at hc
    rw [e2] at hr
    simp only [Prod.mk.injEq] at hr
    obtain ⟨rfl, rfl, rfl, rfl, rfl, rfl⟩ := hr
    rcases e3 with rfl | rfl <;> (simp only [kS, kC, kLet, Int32.reduceToInt, Int.reduceEq, ↓reduceIte, Sum.inl.injEq, Sum.inr.injEq, Prod.mk.injEq] at hc; obtain rfl := hc; exact ⟨rfl, rfl, rfl, rfl⟩)
  · rw [e1, eR] at hc
    simp only [kS, kC, kLet, Int32.reduceToInt, Int.reduceEq, ↓reduceIte, reduceCtorEq] at hc
theorem xs_L_hang_nx {B : Nat} {ts : Int} {gc : Nat → Int} {mc : Int} {sc : Int} {tx : Int} {nr : Int} {ra : Int} {ru : Int} {dy : Int} {wa : Int} {se : Int} {f1 : Nat → Int} {f2 : Nat → Int} {f3 : Nat → Int64} {nw : Int} {zz : Int} {nn : Int} {fo : Nat → Int64} {re : Int} {g : Nat → Int} {gr : Nat → Int} {fc : Nat → Int} {r : Int} {se' : Int} {d2 : Nat → Int} {nw' : Int} {zz' : Int} {fo' : Nat → Int64} {mcO : Int} {scO : Int} {txO : Int} {nrO : Int} {raO : Int} {ruO : Int} {dyO : Int} {waO : Int} {seO : Int} {h1 : Nat → Int} {h2 : Nat → Int} {h3 : Nat → Int64} {v' : Int} {th' : Int} {re' : Int} {en' : Int} {g' : Nat → Int} {fc' : Nat → Int} (h : kC9 B mc sc tx nr ra ru dy wa se f1 f2 f3 g) (hB : B ≤ 4000) (z0 : 0 ≤ zz) (z12 : zz ≤ 12) (t0 : 0 ≤ ts) (t4 : ts ≤ 400) (hT : tTape ts.toNat gc gr) (hc : F_z_L_hang_nx ts gc mc sc tx nr ra ru dy wa se f1 f2 f3 nw zz nn fo = Sum.inr (r, se', d2, nw', zz', fo', mcO, scO, txO, nrO, raO, ruO, dyO, waO, seO, h1, h2, h3)) (hr : F_r_hang re ts g gr fc = (v', th', re', en', g', fc')) : r = 0 ∧ th' = 0 ∧ fo' 0 = kI2l v' ∧ kC9 (B + 6) mc sc tx nr ra ru dy wa se' f1 d2 f3 g' ∧ g' 3 = g 3 ∧ (∀ j, 505 ≤ j → g' j = g j) ∧ kRmb mc sc tx nr ra ru dy wa se f1 f2 f3 zz nn nw' zz' mcO scO txO nrO raO ruO dyO waO seO h1 h2 h3 ∧ (re', fc') = F_r_remembers re g fc := by
  obtain ⟨hC, hZ, hW, u0, u1⟩ := h
  obtain ⟨n, rfl⟩ : ∃ n : Nat, ts = (n : Int) := ⟨ts.toNat, by omega⟩
  rw [Int.toNat_natCast] at hT
  obtain ⟨ww1, ww2, ww3, eR, v1, v2, v3⟩ := rem_n (nw := nw) (zz := zz) (nn := nn) (mc := mc) (sc := sc) (tx := tx) (nr := nr) (ra := ra) (ru := ru) (dy := dy) (wa := wa) (se := se) (f1 := f1) (f2 := f2) (f3 := f3) z0 z12
  unfold F_z_L_hang_nx at hc
  rcases hang_n  (nw := nw) (zz := zz) (nn := nn) (re := re) (fc := fc) hC (by omega) hT with ⟨kq, e1, e2, e3⟩ | ⟨cq, seq, d2q, gq, e1, e2, e3, e4, e5⟩
  · rw [e1] at hc
    rcases e3 with rfl | rfl <;> simp only [kS, kC, kLet, Int32.reduceToInt, Int.reduceEq, ↓reduceIte, reduceCtorEq] at hc
  · skip
    rw [e1, eR] at hc
    rw [e2] at hr
    simp only [kS, kC, kLet, Int32.reduceToInt, Int.reduceEq, ↓reduceIte, Sum.inl.injEq, Sum.inr.injEq, Prod.mk.injEq] at hc
    simp only [Prod.mk.injEq] at hr
    obtain ⟨rfl, rfl, rfl, rfl, rfl, rfl, rfl, rfl, rfl, rfl, rfl, rfl, rfl, rfl, rfl, rfl, rfl, rfl⟩ := hc
    obtain ⟨rfl, rfl, rfl, rfl, rfl, rfl⟩ := hr
    exact ⟨rfl, rfl, kUpd_at, ⟨e3, hZ, by omega, u0, u1⟩, e4, e5, ⟨rfl, rfl, rfl, rfl, rfl, rfl, rfl, rfl, rfl, rfl, rfl, v1, v2, v3⟩, rfl⟩
theorem xs_SW_truce_n {B : Nat} {mc : Int} {sc : Int} {tx : Int} {nr : Int} {ra : Int} {ru : Int} {dy : Int} {wa : Int} {se : Int} {f1 : Nat → Int} {f2 : Nat → Int} {f3 : Nat → Int64} {nw : Int} {zz : Int} {nn : Int} {re : Int} {g : Nat → Int} {fc : Nat → Int} {v : Int} {se' : Int} {d2 : Nat → Int} {nw' : Int} {zz' : Int} {mcO : Int} {scO : Int} {txO : Int} {nrO : Int} {raO : Int} {ruO : Int} {dyO : Int} {waO : Int} {seO : Int} {h1 : Nat → Int} {h2 : Nat → Int} {h3 : Nat → Int64} {v' : Int} {re' : Int} {g' : Nat → Int} {fc' : Nat → Int} (h : kC9 B mc sc tx nr ra ru dy wa se f1 f2 f3 g) (hB : B ≤ 4000) (z0 : 0 ≤ zz) (z12 : zz ≤ 12) (hc : F_z_SW_truce_n mc sc tx nr ra ru dy wa se f1 f2 f3 nw zz nn = (v, se', d2, nw', zz', mcO, scO, txO, nrO, raO, ruO, dyO, waO, seO, h1, h2, h3)) (hr : F_r_truce re g fc = (v', re', g', fc')) : v = v' ∧ kC9 (B + 6) mc sc tx nr ra ru dy wa se' f1 d2 f3 g' ∧ g' 3 = g 3 ∧ (∀ j, 505 ≤ j → g' j = g j) ∧ kRmb mc sc tx nr ra ru dy wa se f1 f2 f3 zz nn nw' zz' mcO scO txO nrO raO ruO dyO waO seO h1 h2 h3 ∧ (re', fc') = F_r_remembers re g fc := by
  obtain ⟨hC, hZ, hW, u0, u1⟩ := h
  obtain ⟨ww1, ww2, ww3, eR, v1, v2, v3⟩ := rem_n (nw := nw) (zz := zz) (nn := nn) (mc := mc) (sc := sc) (tx := tx) (nr := nr) (ra := ra) (ru := ru) (dy := dy) (wa := wa) (se := se) (f1 := f1) (f2 := f2) (f3 := f3) z0 z12
  obtain ⟨cq, seq, d2q, gq, e1, e2, e3, e4, e5⟩ := truce_n  (nw := nw) (zz := zz) (nn := nn) (re := re) (fc := fc) hC
  rw [e1, eR] at hc
  rw [e2] at hr
  simp only [Prod.mk.injEq] at hc
  simp only [Prod.mk.injEq] at hr
  obtain ⟨rfl, rfl, rfl, rfl, rfl, rfl, rfl, rfl, rfl, rfl, rfl, rfl, rfl, rfl, rfl, rfl, rfl⟩ := hc
  obtain ⟨rfl, rfl, rfl, rfl⟩ := hr
  exact ⟨rfl, ⟨e3, hZ, by omega, u0, u1⟩, e4, e5, ⟨rfl, rfl, rfl, rfl, rfl, rfl, rfl, rfl, rfl, rfl, rfl, v1, v2, v3⟩, rfl⟩
theorem xt_L_buttons_nx {B : Nat} {mc : Int} {sc : Int} {tx : Int} {nr : Int} {ra : Int} {ru : Int} {dy : Int} {wa : Int} {se : Int} {f1 : Nat → Int} {f2 : Nat → Int} {f3 : Nat → Int64} {nw : Int} {zz : Int} {nn : Int} {a1 : Int} {b1 : Int} {re : Int} {g : Nat → Int} {fc : Nat → Int} {r : Int} {th' : Int} {re' : Int} {g' : Nat → Int} {fc' : Nat → Int} (h : kC9 B mc sc tx nr ra ru dy wa se f1 f2 f3 g) (hB : B ≤ 4000) (z0 : 0 ≤ zz) (z12 : zz ≤ 12) (hc : F_z_L_buttons_nx mc sc tx nr ra ru dy wa se f1 f2 f3 nw zz nn a1 b1 = Sum.inl r) (hr : F_r_buttons re g fc a1 b1 = (th', re', g', fc')) : th' = r ∧ re' = re ∧ g' = g ∧ fc' = fc := by
  obtain ⟨hC, hZ, hW, u0, u1⟩ := h
  obtain ⟨ww1, ww2, ww3, eR, v1, v2, v3⟩ := rem_n (nw := nw) (zz := zz) (nn := nn) (mc := mc) (sc := sc) (tx := tx) (nr := nr) (ra := ra) (ru := ru) (dy := dy) (wa := wa) (se := se) (f1 := f1) (f2 := f2) (f3 := f3) z0 z12
  unfold F_z_L_buttons_nx at hc
  rcases buttons_n (a := a1) (b := b1) (nw := nw) (zz := zz) (nn := nn) (re := re) (fc := fc) hC with ⟨kq, e1, e2, e3⟩ | ⟨d2q, gq, e1, e2, e3, e4, e5⟩
  · rw [e1] at hc
    rw [e2] at hr
    simp only [Prod.mk.injEq] at hr
    obtain ⟨rfl, rfl, rfl, rfl⟩ := hr
    rcases e3 with rfl | rfl <;> (simp only [kS, kC, kLet, Int32.reduceToInt, Int.reduceEq, ↓reduceIte, Sum.inl.injEq, Sum.inr.injEq, Prod.mk.injEq] at hc; obtain rfl := hc; exact ⟨rfl, rfl, rfl, rfl⟩)
  · rw [e1, eR] at hc
    simp only [kS, kC, kLet, Int32.reduceToInt, Int.reduceEq, ↓reduceIte, reduceCtorEq] at hc
theorem xs_L_buttons_nx {B : Nat} {mc : Int} {sc : Int} {tx : Int} {nr : Int} {ra : Int} {ru : Int} {dy : Int} {wa : Int} {se : Int} {f1 : Nat → Int} {f2 : Nat → Int} {f3 : Nat → Int64} {nw : Int} {zz : Int} {nn : Int} {a1 : Int} {b1 : Int} {re : Int} {g : Nat → Int} {fc : Nat → Int} {r : Int} {d2 : Nat → Int} {nw' : Int} {zz' : Int} {mcO : Int} {scO : Int} {txO : Int} {nrO : Int} {raO : Int} {ruO : Int} {dyO : Int} {waO : Int} {seO : Int} {h1 : Nat → Int} {h2 : Nat → Int} {h3 : Nat → Int64} {th' : Int} {re' : Int} {g' : Nat → Int} {fc' : Nat → Int} (h : kC9 B mc sc tx nr ra ru dy wa se f1 f2 f3 g) (hB : B ≤ 4000) (z0 : 0 ≤ zz) (z12 : zz ≤ 12) (hc : F_z_L_buttons_nx mc sc tx nr ra ru dy wa se f1 f2 f3 nw zz nn a1 b1 = Sum.inr (r, d2, nw', zz', mcO, scO, txO, nrO, raO, ruO, dyO, waO, seO, h1, h2, h3)) (hr : F_r_buttons re g fc a1 b1 = (th', re', g', fc')) : r = 0 ∧ th' = 0 ∧ kC9 (B + 6) mc sc tx nr ra ru dy wa se f1 d2 f3 g' ∧ g' 3 = g 3 ∧ (∀ j, 505 ≤ j → g' j = g j) ∧ kRmb mc sc tx nr ra ru dy wa se f1 f2 f3 zz nn nw' zz' mcO scO txO nrO raO ruO dyO waO seO h1 h2 h3 ∧ (re', fc') = F_r_remembers re g fc := by
  obtain ⟨hC, hZ, hW, u0, u1⟩ := h
  obtain ⟨ww1, ww2, ww3, eR, v1, v2, v3⟩ := rem_n (nw := nw) (zz := zz) (nn := nn) (mc := mc) (sc := sc) (tx := tx) (nr := nr) (ra := ra) (ru := ru) (dy := dy) (wa := wa) (se := se) (f1 := f1) (f2 := f2) (f3 := f3) z0 z12
  unfold F_z_L_buttons_nx at hc
  rcases buttons_n (a := a1) (b := b1) (nw := nw) (zz := zz) (nn := nn) (re := re) (fc := fc) hC with ⟨kq, e1, e2, e3⟩ | ⟨d2q, gq, e1, e2, e3, e4, e5⟩
  · rw [e1] at hc
    rcases e3 with rfl | rfl <;> simp only [kS, kC, kLet, Int32.reduceToInt, Int.reduceEq, ↓reduceIte, reduceCtorEq] at hc
  · skip
    rw [e1, eR] at hc
    rw [e2] at hr
    simp only [kS, kC, kLet, Int32.reduceToInt, Int.reduceEq, ↓reduceIte, Sum.inl.injEq, Sum.inr.injEq, Prod.mk.injEq] at hc
    simp only [Prod.mk.injEq] at hr
    obtain ⟨rfl, rfl, rfl, rfl, rfl, rfl, rfl, rfl, rfl, rfl, rfl, rfl, rfl, rfl, rfl, rfl⟩ := hc
    obtain ⟨rfl, rfl, rfl, rfl⟩ := hr
    exact ⟨rfl, rfl, ⟨e3, hZ, by omega, u0, u1⟩, e4, e5, ⟨rfl, rfl, rfl, rfl, rfl, rfl, rfl, rfl, rfl, rfl, rfl, v1, v2, v3⟩, rfl⟩
theorem xs_SW_lot_nn {B : Nat} {mc : Int} {sc : Int} {tx : Int} {nr : Int} {ra : Int} {ru : Int} {dy : Int} {wa : Int} {se : Int} {f1 : Nat → Int} {f2 : Nat → Int} {f3 : Nat → Int64} {nw : Int} {zz : Int} {nn : Int} {re : Int} {g : Nat → Int} {fv : Nat → Int} {fc : Nat → Int} {v : Int} {se' : Int} {d1 : Nat → Int} {d2 : Nat → Int} {nw' : Int} {zz' : Int} {mcO : Int} {scO : Int} {txO : Int} {nrO : Int} {raO : Int} {ruO : Int} {dyO : Int} {waO : Int} {seO : Int} {h1 : Nat → Int} {h2 : Nat → Int} {h3 : Nat → Int64} {v' : Int} {re' : Int} {g' : Nat → Int} {fv' : Nat → Int} {fc' : Nat → Int} (h : kC9 B mc sc tx nr ra ru dy wa se f1 f2 f3 g) (hB : B ≤ 4000) (z0 : 0 ≤ zz) (z12 : zz ≤ 12) (g3 : g 3 = 0) (k1 : ∀ i, kW (f1 i) = f1 i) (k2 : ∀ i, kW (f2 i) = f2 i) (hc : F_z_SW_lot_nn mc sc tx nr ra ru dy wa se f1 f2 f3 nw zz nn = (v, se', d1, d2, nw', zz', mcO, scO, txO, nrO, raO, ruO, dyO, waO, seO, h1, h2, h3)) (hr : F_r_lot re g fv fc = (v', re', g', fv', fc')) : v = v' ∧ kC9 (B + 6) mc sc tx nr ra ru dy wa se' d1 d2 f3 g' ∧ g' 3 = g 3 ∧ (∀ j, 505 ≤ j → g' j = g j) ∧ kRmb mc sc tx nr ra ru dy wa se f1 f2 f3 zz nn nw' zz' mcO scO txO nrO raO ruO dyO waO seO h1 h2 h3 ∧ (re', fc') = F_r_remembers re g fc := by
  obtain ⟨hC, hZ, hW, u0, u1⟩ := h
  obtain ⟨ww1, ww2, ww3, eR, v1, v2, v3⟩ := rem_n (nw := nw) (zz := zz) (nn := nn) (mc := mc) (sc := sc) (tx := tx) (nr := nr) (ra := ra) (ru := ru) (dy := dy) (wa := wa) (se := se) (f1 := f1) (f2 := f2) (f3 := f3) z0 z12
  obtain ⟨cq, seq, d1q, d2q, gq, fvq, e1, e2, e3, e4, e5⟩ := lot_nn (fv := fv) (nw := nw) (zz := zz) (nn := nn) (re := re) (fc := fc) hC g3 k1 k2
  rw [e1, eR] at hc
  rw [e2] at hr
  simp only [Prod.mk.injEq] at hc
  simp only [Prod.mk.injEq] at hr
  obtain ⟨rfl, rfl, rfl, rfl, rfl, rfl, rfl, rfl, rfl, rfl, rfl, rfl, rfl, rfl, rfl, rfl, rfl, rfl⟩ := hc
  obtain ⟨rfl, rfl, rfl, rfl, rfl⟩ := hr
  exact ⟨rfl, ⟨e3, hZ, by omega, u0, u1⟩, e4, e5, ⟨rfl, rfl, rfl, rfl, rfl, rfl, rfl, rfl, rfl, rfl, rfl, v1, v2, v3⟩, rfl⟩
theorem xs_SW_lot_sn {B : Nat} {mc : Int} {sc : Int} {tx : Int} {nr : Int} {ra : Int} {ru : Int} {dy : Int} {wa : Int} {se : Int} {f1 : Nat → Int} {f2 : Nat → Int} {f3 : Nat → Int64} {M1 : Nat} {M2 : Nat} {M3 : Nat} {y1_ : Nat → Int} {y2_ : Nat → Int} {y3_ : Nat → Int} {y4_ : Nat → Int} {nw : Int} {zz : Int} {nn : Int} {re : Int} {g : Nat → Int} {fv : Nat → Int} {fc : Nat → Int} {v : Int} {se' : Int} {d1 : Nat → Int} {d2 : Nat → Int} {y4' : Nat → Int} {nw' : Int} {zz' : Int} {mcO : Int} {scO : Int} {txO : Int} {nrO : Int} {raO : Int} {ruO : Int} {dyO : Int} {waO : Int} {seO : Int} {h1 : Nat → Int} {h2 : Nat → Int} {h3 : Nat → Int64} {v' : Int} {re' : Int} {g' : Nat → Int} {fv' : Nat → Int} {fc' : Nat → Int} (h : kC9 B mc sc tx nr ra ru dy wa se f1 f2 f3 g) (hB : B ≤ 4000) (z0 : 0 ≤ zz) (z12 : zz ≤ 12) (g3 : g 3 = 1) (hL : LW M1 M2 M3 y1_ y2_ y3_ g) (k1 : ∀ i, kW (f1 i) = f1 i) (k2 : ∀ i, kW (f2 i) = f2 i) (kw : kW wa = wa) (hc : F_z_SW_lot_sn mc sc tx nr ra ru dy wa se f1 f2 f3 M1 M2 M3 y1_ y2_ y3_ y4_ nw zz nn = (v, se', d1, d2, y4', nw', zz', mcO, scO, txO, nrO, raO, ruO, dyO, waO, seO, h1, h2, h3)) (hr : F_r_lot re g fv fc = (v', re', g', fv', fc')) : v = v' ∧ kC9 (B + 6) mc sc tx nr ra ru dy wa se' d1 d2 f3 g' ∧ g' 3 = g 3 ∧ (∀ j, 505 ≤ j → g' j = g j) ∧ kRmb mc sc tx nr ra ru dy wa se f1 f2 f3 zz nn nw' zz' mcO scO txO nrO raO ruO dyO waO seO h1 h2 h3 ∧ (re', fc') = F_r_remembers re g fc := by
  obtain ⟨hC, hZ, hW, u0, u1⟩ := h
  obtain ⟨ww1, ww2, ww3, eR, v1, v2, v3⟩ := rem_n (nw := nw) (zz := zz) (nn := nn) (mc := mc) (sc := sc) (tx := tx) (nr := nr) (ra := ra) (ru := ru) (dy := dy) (wa := wa) (se := se) (f1 := f1) (f2 := f2) (f3 := f3) z0 z12
  obtain ⟨cq, seq, d1q, d2q, y4q, gq, fvq, e1, e2, e3, e4, e5⟩ := lot_sn (fv := fv) (nw := nw) (zz := zz) (nn := nn) (re := re) (fc := fc) (y4 := y4_) hC g3 hL k1 k2 kw k1 k2
  rw [e1, eR] at hc
  rw [e2] at hr
  simp only [Prod.mk.injEq] at hc
  simp only [Prod.mk.injEq] at hr
  obtain ⟨rfl, rfl, rfl, rfl, rfl, rfl, rfl, rfl, rfl, rfl, rfl, rfl, rfl, rfl, rfl, rfl, rfl, rfl, rfl⟩ := hc
  obtain ⟨rfl, rfl, rfl, rfl, rfl⟩ := hr
  exact ⟨rfl, ⟨e3, hZ, by omega, u0, u1⟩, e4, e5, ⟨rfl, rfl, rfl, rfl, rfl, rfl, rfl, rfl, rfl, rfl, rfl, v1, v2, v3⟩, rfl⟩
theorem xs_L_take_s {B : Nat} {mc : Int} {sc : Int} {tx : Int} {nr : Int} {ra : Int} {ru : Int} {dy : Int} {wa : Int} {se : Int} {f1 : Nat → Int} {f2 : Nat → Int} {f3 : Nat → Int64} {nw : Int} {zz : Int} {nn : Int} {of1 : Nat → Int} {of2 : Nat → Int} {of3 : Nat → Int64} {a1 : Int} {fo : Nat → Int64} {re : Int} {g : Nat → Int} {fc : Nat → Int} {r : Int} {d1 : Nat → Int} {d2 : Nat → Int} {nw' : Int} {zz' : Int} {mcO : Int} {scO : Int} {txO : Int} {nrO : Int} {raO : Int} {ruO : Int} {dyO : Int} {waO : Int} {seO : Int} {h1 : Nat → Int} {h2 : Nat → Int} {h3 : Nat → Int64} {fo' : Nat → Int64} {v' : Int} {th' : Int} {re' : Int} {g' : Nat → Int} {fc' : Nat → Int} (h : kC9 B mc sc tx nr ra ru dy wa se f1 f2 f3 g) (hB : B ≤ 4000) (z0 : 0 ≤ zz) (z12 : zz ≤ 12) (hc : F_z_L_take_s mc sc tx nr ra ru dy wa se f1 f2 f3 nw zz nn of1 of2 of3 a1 fo = Sum.inl (r, d1, d2, nw', zz', mcO, scO, txO, nrO, raO, ruO, dyO, waO, seO, h1, h2, h3, fo')) (hr : F_r_take re g fc a1 = (v', th', re', g', fc')) : r = 0 ∧ th' = 0 ∧ fo' 0 = kI2l v' ∧ kC9 (B + 6) mc sc tx nr ra ru dy wa se d1 d2 f3 g' ∧ g' 3 = g 3 ∧ (∀ j, 505 ≤ j → g' j = g j) ∧ kRmb mc sc tx nr ra ru dy wa se f1 f2 f3 zz nn nw' zz' mcO scO txO nrO raO ruO dyO waO seO h1 h2 h3 ∧ (re', fc') = F_r_remembers re g fc := by
  obtain ⟨hC, hZ, hW, u0, u1⟩ := h
  obtain ⟨ww1, ww2, ww3, eR, v1, v2, v3⟩ := rem_s (nw := nw) (zz := zz) (nn := nn) (mc := mc) (sc := sc) (tx := tx) (nr := nr) (ra := ra) (ru := ru) (dy := dy) (wa := wa) (se := se) (f1 := f1) (f2 := f2) (f3 := f3) (of1 := of1) (of2 := of2) (of3 := of3) z0 z12
  unfold F_z_L_take_s at hc
  rcases take_s (a := a1) (nw := nw) (zz := zz) (nn := nn) (re := re) (fc := fc) (of1 := of1) (of2 := of2) (of3 := of3) hC with ⟨kq, e1, e2, e3⟩ | ⟨s, d1q, d2q, gq, e1, e2, e3, e4, e5⟩
  · rw [e1] at hc
    rcases e3 with rfl | rfl <;> simp only [kS, kC, kLet, Int32.reduceToInt, Int.reduceEq, ↓reduceIte, reduceCtorEq] at hc
  · skip
    rw [e1, eR] at hc
    rw [e2] at hr
    simp only [kS, kC, kLet, Int32.reduceToInt, Int.reduceEq, ↓reduceIte, Sum.inl.injEq, Sum.inr.injEq, Prod.mk.injEq] at hc
    simp only [Prod.mk.injEq] at hr
    obtain ⟨rfl, rfl, rfl, rfl, rfl, rfl, rfl, rfl, rfl, rfl, rfl, rfl, rfl, rfl, rfl, rfl, rfl, rfl⟩ := hc
    obtain ⟨rfl, rfl, rfl, rfl, rfl⟩ := hr
    exact ⟨rfl, rfl, kUpd_at, ⟨e3, hZ, by omega, u0, u1⟩, e4, e5, ⟨rfl, rfl, rfl, rfl, rfl, rfl, rfl, rfl, rfl, rfl, rfl, v1, v2, v3⟩, rfl⟩
theorem xt_L_take_s {B : Nat} {mc : Int} {sc : Int} {tx : Int} {nr : Int} {ra : Int} {ru : Int} {dy : Int} {wa : Int} {se : Int} {f1 : Nat → Int} {f2 : Nat → Int} {f3 : Nat → Int64} {nw : Int} {zz : Int} {nn : Int} {of1 : Nat → Int} {of2 : Nat → Int} {of3 : Nat → Int64} {a1 : Int} {fo : Nat → Int64} {re : Int} {g : Nat → Int} {fc : Nat → Int} {r : Int} {v' : Int} {th' : Int} {re' : Int} {g' : Nat → Int} {fc' : Nat → Int} (h : kC9 B mc sc tx nr ra ru dy wa se f1 f2 f3 g) (hB : B ≤ 4000) (z0 : 0 ≤ zz) (z12 : zz ≤ 12) (hc : F_z_L_take_s mc sc tx nr ra ru dy wa se f1 f2 f3 nw zz nn of1 of2 of3 a1 fo = Sum.inr r) (hr : F_r_take re g fc a1 = (v', th', re', g', fc')) : th' = r ∧ re' = re ∧ g' = g ∧ fc' = fc := by
  obtain ⟨hC, hZ, hW, u0, u1⟩ := h
  obtain ⟨ww1, ww2, ww3, eR, v1, v2, v3⟩ := rem_s (nw := nw) (zz := zz) (nn := nn) (mc := mc) (sc := sc) (tx := tx) (nr := nr) (ra := ra) (ru := ru) (dy := dy) (wa := wa) (se := se) (f1 := f1) (f2 := f2) (f3 := f3) (of1 := of1) (of2 := of2) (of3 := of3) z0 z12
  unfold F_z_L_take_s at hc
  rcases take_s (a := a1) (nw := nw) (zz := zz) (nn := nn) (re := re) (fc := fc) (of1 := of1) (of2 := of2) (of3 := of3) hC with ⟨kq, e1, e2, e3⟩ | ⟨s, d1q, d2q, gq, e1, e2, e3, e4, e5⟩
  · rw [e1] at hc
    rw [e2] at hr
    simp only [Prod.mk.injEq] at hr
    obtain ⟨rfl, rfl, rfl, rfl, rfl⟩ := hr
    rcases e3 with rfl | rfl <;> (simp only [kS, kC, kLet, Int32.reduceToInt, Int.reduceEq, ↓reduceIte, Sum.inl.injEq, Sum.inr.injEq, Prod.mk.injEq] at hc; obtain rfl := hc; exact ⟨rfl, rfl, rfl, rfl⟩)
  · rw [e1, eR] at hc
    simp only [kS, kC, kLet, Int32.reduceToInt, Int.reduceEq, ↓reduceIte, reduceCtorEq] at hc
theorem xs_L_days_s {B : Nat} {mc : Int} {sc : Int} {tx : Int} {nr : Int} {ra : Int} {ru : Int} {dy : Int} {wa : Int} {se : Int} {f1 : Nat → Int} {f2 : Nat → Int} {f3 : Nat → Int64} {nw : Int} {zz : Int} {nn : Int} {of1 : Nat → Int} {of2 : Nat → Int} {of3 : Nat → Int64} {a1 : Int} {fo : Nat → Int64} {re : Int} {g : Nat → Int} {fc : Nat → Int} {r : Int} {dy' : Int} {wa' : Int} {se' : Int} {d1 : Nat → Int} {d2 : Nat → Int} {d3 : Nat → Int64} {nw' : Int} {zz' : Int} {mcO : Int} {scO : Int} {txO : Int} {nrO : Int} {raO : Int} {ruO : Int} {dyO : Int} {waO : Int} {seO : Int} {h1 : Nat → Int} {h2 : Nat → Int} {h3 : Nat → Int64} {fo' : Nat → Int64} {v' : Int} {th' : Int} {re' : Int} {g' : Nat → Int} {fc' : Nat → Int} (h : kC9 B mc sc tx nr ra ru dy wa se f1 f2 f3 g) (hB : B ≤ 4000) (z0 : 0 ≤ zz) (z12 : zz ≤ 12) (hc : F_z_L_days_s mc sc tx nr ra ru dy wa se f1 f2 f3 nw zz nn of1 of2 of3 a1 fo = Sum.inl (r, dy', wa', se', d1, d2, d3, nw', zz', mcO, scO, txO, nrO, raO, ruO, dyO, waO, seO, h1, h2, h3, fo')) (hr : F_r_days re g fc a1 = (v', th', re', g', fc')) : r = 0 ∧ th' = 0 ∧ fo' 0 = kI2l v' ∧ kC9 (B + 6) mc sc tx nr ra ru dy' wa' se' d1 d2 d3 g' ∧ g' 3 = g 3 ∧ (∀ j, 505 ≤ j → g' j = g j) ∧ kRmb mc sc tx nr ra ru dy wa se f1 f2 f3 zz nn nw' zz' mcO scO txO nrO raO ruO dyO waO seO h1 h2 h3 ∧ (re', fc') = F_r_remembers re g fc := by
  obtain ⟨hC, hZ, hW, u0, u1⟩ := h
  obtain ⟨ww1, ww2, ww3, eR, v1, v2, v3⟩ := rem_s (nw := nw) (zz := zz) (nn := nn) (mc := mc) (sc := sc) (tx := tx) (nr := nr) (ra := ra) (ru := ru) (dy := dy) (wa := wa) (se := se) (f1 := f1) (f2 := f2) (f3 := f3) (of1 := of1) (of2 := of2) (of3 := of3) z0 z12
  unfold F_z_L_days_s at hc
  rcases days_s (a := a1) (nw := nw) (zz := zz) (nn := nn) (re := re) (fc := fc) (of1 := of1) (of2 := of2) (of3 := of3) hC hZ (by omega) with ⟨kq, e1, e2, e3⟩ | ⟨cq, dyq, waq, seq, d1q, d2q, d3q, gq, e1, e2, e3, eZ, eW, e4, e5⟩
  · rw [e1] at hc
    subst e3
    simp only [kS, kC, kLet, Int32.reduceToInt, Int.reduceEq, ↓reduceIte, reduceCtorEq] at hc
  · skip
    rw [e1, eR] at hc
    rw [e2] at hr
    simp only [kS, kC, kLet, Int32.reduceToInt, Int.reduceEq, ↓reduceIte, Sum.inl.injEq, Sum.inr.injEq, Prod.mk.injEq] at hc
    simp only [Prod.mk.injEq] at hr
    obtain ⟨rfl, rfl, rfl, rfl, rfl, rfl, rfl, rfl, rfl, rfl, rfl, rfl, rfl, rfl, rfl, rfl, rfl, rfl, rfl, rfl, rfl, rfl⟩ := hc
    obtain ⟨rfl, rfl, rfl, rfl, rfl⟩ := hr
    exact ⟨rfl, rfl, kUpd_at, ⟨e3, eZ, by omega, u0, u1⟩, e4, e5, ⟨rfl, rfl, rfl, rfl, rfl, rfl, rfl, rfl, rfl, rfl, rfl, v1, v2, v3⟩, rfl⟩
theorem xt_L_days_s {B : Nat} {mc : Int} {sc : Int} {tx : Int} {nr : Int} {ra : Int} {ru : Int} {dy : Int} {wa : Int} {se : Int} {f1 : Nat → Int} {f2 : Nat → Int} {f3 : Nat → Int64} {nw : Int} {zz : Int} {nn : Int} {of1 : Nat → Int} {of2 : Nat → Int} {of3 : Nat → Int64} {a1 : Int} {fo : Nat → Int64} {re : Int} {g : Nat → Int} {fc : Nat → Int} {r : Int} {v' : Int} {th' : Int} {re' : Int} {g' : Nat → Int} {fc' : Nat → Int} (h : kC9 B mc sc tx nr ra ru dy wa se f1 f2 f3 g) (hB : B ≤ 4000) (z0 : 0 ≤ zz) (z12 : zz ≤ 12) (hc : F_z_L_days_s mc sc tx nr ra ru dy wa se f1 f2 f3 nw zz nn of1 of2 of3 a1 fo = Sum.inr r) (hr : F_r_days re g fc a1 = (v', th', re', g', fc')) : th' = r ∧ re' = re ∧ g' = g ∧ fc' = fc := by
  obtain ⟨hC, hZ, hW, u0, u1⟩ := h
  obtain ⟨ww1, ww2, ww3, eR, v1, v2, v3⟩ := rem_s (nw := nw) (zz := zz) (nn := nn) (mc := mc) (sc := sc) (tx := tx) (nr := nr) (ra := ra) (ru := ru) (dy := dy) (wa := wa) (se := se) (f1 := f1) (f2 := f2) (f3 := f3) (of1 := of1) (of2 := of2) (of3 := of3) z0 z12
  unfold F_z_L_days_s at hc
  rcases days_s (a := a1) (nw := nw) (zz := zz) (nn := nn) (re := re) (fc := fc) (of1 := of1) (of2 := of2) (of3 := of3) hC hZ (by omega) with ⟨kq, e1, e2, e3⟩ | ⟨cq, dyq, waq, seq, d1q, d2q, d3q, gq, e1, e2, e3, eZ, eW, e4, e5⟩
  · rw [e1] at hc
    rw [e2] at hr
    simp only [Prod.mk.injEq] at hr
    obtain ⟨rfl, rfl, rfl, rfl, rfl⟩ := hr
    subst e3
    simp only [kS, kC, kLet, Int32.reduceToInt, Int.reduceEq, ↓reduceIte, Sum.inl.injEq, Sum.inr.injEq, Prod.mk.injEq] at hc
    obtain rfl := hc
    exact ⟨rfl, rfl, rfl, rfl⟩
  · rw [e1, eR] at hc
    simp only [kS, kC, kLet, Int32.reduceToInt, Int.reduceEq, ↓reduceIte, reduceCtorEq] at hc
theorem xs_L_hang_s {B : Nat} {ts : Int} {gc : Nat → Int} {mc : Int} {sc : Int} {tx : Int} {nr : Int} {ra : Int} {ru : Int} {dy : Int} {wa : Int} {se : Int} {f1 : Nat → Int} {f2 : Nat → Int} {f3 : Nat → Int64} {nw : Int} {zz : Int} {nn : Int} {of1 : Nat → Int} {of2 : Nat → Int} {of3 : Nat → Int64} {fo : Nat → Int64} {re : Int} {g : Nat → Int} {gr : Nat → Int} {fc : Nat → Int} {r : Int} {se' : Int} {d2 : Nat → Int} {nw' : Int} {zz' : Int} {mcO : Int} {scO : Int} {txO : Int} {nrO : Int} {raO : Int} {ruO : Int} {dyO : Int} {waO : Int} {seO : Int} {h1 : Nat → Int} {h2 : Nat → Int} {h3 : Nat → Int64} {fo' : Nat → Int64} {v' : Int} {th' : Int} {re' : Int} {en' : Int} {g' : Nat → Int} {fc' : Nat → Int} (h : kC9 B mc sc tx nr ra ru dy wa se f1 f2 f3 g) (hB : B ≤ 4000) (z0 : 0 ≤ zz) (z12 : zz ≤ 12) (t0 : 0 ≤ ts) (t4 : ts ≤ 400) (hT : tTape ts.toNat gc gr) (hc : F_z_L_hang_s ts gc mc sc tx nr ra ru dy wa se f1 f2 f3 nw zz nn of1 of2 of3 fo = Sum.inl (r, se', d2, nw', zz', mcO, scO, txO, nrO, raO, ruO, dyO, waO, seO, h1, h2, h3, fo')) (hr : F_r_hang re ts g gr fc = (v', th', re', en', g', fc')) : r = 0 ∧ th' = 0 ∧ fo' 0 = kI2l v' ∧ kC9 (B + 6) mc sc tx nr ra ru dy wa se' f1 d2 f3 g' ∧ g' 3 = g 3 ∧ (∀ j, 505 ≤ j → g' j = g j) ∧ kRmb mc sc tx nr ra ru dy wa se f1 f2 f3 zz nn nw' zz' mcO scO txO nrO raO ruO dyO waO seO h1 h2 h3 ∧ (re', fc') = F_r_remembers re g fc := by
  obtain ⟨hC, hZ, hW, u0, u1⟩ := h
  obtain ⟨n, rfl⟩ : ∃ n : Nat, ts = (n : Int) := ⟨ts.toNat, by omega⟩
  rw [Int.toNat_natCast] at hT
  obtain ⟨ww1, ww2, ww3, eR, v1, v2, v3⟩ := rem_s (nw := nw) (zz := zz) (nn := nn) (mc := mc) (sc := sc) (tx := tx) (nr := nr) (ra := ra) (ru := ru) (dy := dy) (wa := wa) (se := se) (f1 := f1) (f2 := f2) (f3 := f3) (of1 := of1) (of2 := of2) (of3 := of3) z0 z12
  unfold F_z_L_hang_s at hc
  rcases hang_s  (nw := nw) (zz := zz) (nn := nn) (re := re) (fc := fc) (of1 := of1) (of2 := of2) (of3 := of3) hC (by omega) hT with ⟨kq, e1, e2, e3⟩ | ⟨cq, seq, d2q, gq, e1, e2, e3, e4, e5⟩
  · rw [e1] at hc
    rcases e3 with rfl | rfl <;> simp only [kS, kC, kLet, Int32.reduceToInt, Int.reduceEq, ↓reduceIte, reduceCtorEq] at hc
  · skip
    rw [e1, eR] at hc
    rw [e2] at hr
    simp only [kS, kC, kLet, Int32.reduceToInt, Int.reduceEq, ↓reduceIte, Sum.inl.injEq, Sum.inr.injEq, Prod.mk.injEq] at hc
    simp only [Prod.mk.injEq] at hr
    obtain ⟨rfl, rfl, rfl, rfl, rfl, rfl, rfl, rfl, rfl, rfl, rfl, rfl, rfl, rfl, rfl, rfl, rfl, rfl⟩ := hc
    obtain ⟨rfl, rfl, rfl, rfl, rfl, rfl⟩ := hr
    exact ⟨rfl, rfl, kUpd_at, ⟨e3, hZ, by omega, u0, u1⟩, e4, e5, ⟨rfl, rfl, rfl, rfl, rfl, rfl, rfl, rfl, rfl, rfl, rfl, v1, v2, v3⟩, rfl⟩
theorem xt_L_hang_s {B : Nat} {ts : Int} {gc : Nat → Int} {mc : Int} {sc : Int} {tx : Int} {nr : Int} {ra : Int} {ru : Int} {dy : Int} {wa : Int} {se : Int} {f1 : Nat → Int} {f2 : Nat → Int} {f3 : Nat → Int64} {nw : Int} {zz : Int} {nn : Int} {of1 : Nat → Int} {of2 : Nat → Int} {of3 : Nat → Int64} {fo : Nat → Int64} {re : Int} {g : Nat → Int} {gr : Nat → Int} {fc : Nat → Int} {r : Int} {v' : Int} {th' : Int} {re' : Int} {en' : Int} {g' : Nat → Int} {fc' : Nat → Int} (h : kC9 B mc sc tx nr ra ru dy wa se f1 f2 f3 g) (hB : B ≤ 4000) (z0 : 0 ≤ zz) (z12 : zz ≤ 12) (t0 : 0 ≤ ts) (t4 : ts ≤ 400) (hT : tTape ts.toNat gc gr) (hc : F_z_L_hang_s ts gc mc sc tx nr ra ru dy wa se f1 f2 f3 nw zz nn of1 of2 of3 fo = Sum.inr r) (hr : F_r_hang re ts g gr fc = (v', th', re', en', g', fc')) : th' = r ∧ re' = re ∧ g' = g ∧ fc' = fc := by
  obtain ⟨hC, hZ, hW, u0, u1⟩ := h
  obtain ⟨n, rfl⟩ : ∃ n : Nat, ts = (n : Int) := ⟨ts.toNat, by omega⟩
  rw [Int.toNat_natCast] at hT
  obtain ⟨ww1, ww2, ww3, eR, v1, v2, v3⟩ := rem_s (nw := nw) (zz := zz) (nn := nn) (mc := mc) (sc := sc) (tx := tx) (nr := nr) (ra := ra) (ru := ru) (dy := dy) (wa := wa) (se := se) (f1 := f1) (f2 := f2) (f3 := f3) (of1 := of1) (of2 := of2) (of3 := of3) z0 z12
  unfold F_z_L_hang_s at hc
  rcases hang_s  (nw := nw) (zz := zz) (nn := nn) (re := re) (fc := fc) (of1 := of1) (of2 := of2) (of3 := of3) hC (by omega) hT with ⟨kq, e1, e2, e3⟩ | ⟨cq, seq, d2q, gq, e1, e2, e3, e4, e5⟩
  · rw [e1] at hc
    rw [e2] at hr
    simp only [Prod.mk.injEq] at hr
    obtain ⟨rfl, rfl, rfl, rfl, rfl, rfl⟩ := hr
    rcases e3 with rfl | rfl <;> (simp only [kS, kC, kLet, Int32.reduceToInt, Int.reduceEq, ↓reduceIte, Sum.inl.injEq, Sum.inr.injEq, Prod.mk.injEq] at hc; obtain rfl := hc; exact ⟨rfl, rfl, rfl, rfl⟩)
  · rw [e1, eR] at hc
    simp only [kS, kC, kLet, Int32.reduceToInt, Int.reduceEq, ↓reduceIte, reduceCtorEq] at hc
theorem xs_SW_truce_s {B : Nat} {mc : Int} {sc : Int} {tx : Int} {nr : Int} {ra : Int} {ru : Int} {dy : Int} {wa : Int} {se : Int} {f1 : Nat → Int} {f2 : Nat → Int} {f3 : Nat → Int64} {nw : Int} {zz : Int} {nn : Int} {of1 : Nat → Int} {of2 : Nat → Int} {of3 : Nat → Int64} {re : Int} {g : Nat → Int} {fc : Nat → Int} {v : Int} {se' : Int} {d2 : Nat → Int} {nw' : Int} {zz' : Int} {mcO : Int} {scO : Int} {txO : Int} {nrO : Int} {raO : Int} {ruO : Int} {dyO : Int} {waO : Int} {seO : Int} {h1 : Nat → Int} {h2 : Nat → Int} {h3 : Nat → Int64} {v' : Int} {re' : Int} {g' : Nat → Int} {fc' : Nat → Int} (h : kC9 B mc sc tx nr ra ru dy wa se f1 f2 f3 g) (hB : B ≤ 4000) (z0 : 0 ≤ zz) (z12 : zz ≤ 12) (hc : F_z_SW_truce_s mc sc tx nr ra ru dy wa se f1 f2 f3 nw zz nn of1 of2 of3 = (v, se', d2, nw', zz', mcO, scO, txO, nrO, raO, ruO, dyO, waO, seO, h1, h2, h3)) (hr : F_r_truce re g fc = (v', re', g', fc')) : v = v' ∧ kC9 (B + 6) mc sc tx nr ra ru dy wa se' f1 d2 f3 g' ∧ g' 3 = g 3 ∧ (∀ j, 505 ≤ j → g' j = g j) ∧ kRmb mc sc tx nr ra ru dy wa se f1 f2 f3 zz nn nw' zz' mcO scO txO nrO raO ruO dyO waO seO h1 h2 h3 ∧ (re', fc') = F_r_remembers re g fc := by
  obtain ⟨hC, hZ, hW, u0, u1⟩ := h
  obtain ⟨ww1, ww2, ww3, eR, v1, v2, v3⟩ := rem_s (nw := nw) (zz := zz) (nn := nn) (mc := mc) (sc := sc) (tx := tx) (nr := nr) (ra := ra) (ru := ru) (dy := dy) (wa := wa) (se := se) (f1 := f1) (f2 := f2) (f3 := f3) (of1 := of1) (of2 := of2) (of3 := of3) z0 z12
  obtain ⟨cq, seq, d2q, gq, e1, e2, e3, e4, e5⟩ := truce_s  (nw := nw) (zz := zz) (nn := nn) (re := re) (fc := fc) (of1 := of1) (of2 := of2) (of3 := of3) hC
  rw [e1, eR] at hc
  rw [e2] at hr
  simp only [Prod.mk.injEq] at hc
  simp only [Prod.mk.injEq] at hr
  obtain ⟨rfl, rfl, rfl, rfl, rfl, rfl, rfl, rfl, rfl, rfl, rfl, rfl, rfl, rfl, rfl, rfl, rfl⟩ := hc
  obtain ⟨rfl, rfl, rfl, rfl⟩ := hr
  exact ⟨rfl, ⟨e3, hZ, by omega, u0, u1⟩, e4, e5, ⟨rfl, rfl, rfl, rfl, rfl, rfl, rfl, rfl, rfl, rfl, rfl, v1, v2, v3⟩, rfl⟩
theorem xs_L_buttons_s {B : Nat} {mc : Int} {sc : Int} {tx : Int} {nr : Int} {ra : Int} {ru : Int} {dy : Int} {wa : Int} {se : Int} {f1 : Nat → Int} {f2 : Nat → Int} {f3 : Nat → Int64} {nw : Int} {zz : Int} {nn : Int} {of1 : Nat → Int} {of2 : Nat → Int} {of3 : Nat → Int64} {a1 : Int} {b1 : Int} {re : Int} {g : Nat → Int} {fc : Nat → Int} {r : Int} {d2 : Nat → Int} {nw' : Int} {zz' : Int} {mcO : Int} {scO : Int} {txO : Int} {nrO : Int} {raO : Int} {ruO : Int} {dyO : Int} {waO : Int} {seO : Int} {h1 : Nat → Int} {h2 : Nat → Int} {h3 : Nat → Int64} {th' : Int} {re' : Int} {g' : Nat → Int} {fc' : Nat → Int} (h : kC9 B mc sc tx nr ra ru dy wa se f1 f2 f3 g) (hB : B ≤ 4000) (z0 : 0 ≤ zz) (z12 : zz ≤ 12) (hc : F_z_L_buttons_s mc sc tx nr ra ru dy wa se f1 f2 f3 nw zz nn of1 of2 of3 a1 b1 = Sum.inl (r, d2, nw', zz', mcO, scO, txO, nrO, raO, ruO, dyO, waO, seO, h1, h2, h3)) (hr : F_r_buttons re g fc a1 b1 = (th', re', g', fc')) : r = 0 ∧ th' = 0 ∧ kC9 (B + 6) mc sc tx nr ra ru dy wa se f1 d2 f3 g' ∧ g' 3 = g 3 ∧ (∀ j, 505 ≤ j → g' j = g j) ∧ kRmb mc sc tx nr ra ru dy wa se f1 f2 f3 zz nn nw' zz' mcO scO txO nrO raO ruO dyO waO seO h1 h2 h3 ∧ (re', fc') = F_r_remembers re g fc := by
  obtain ⟨hC, hZ, hW, u0, u1⟩ := h
  obtain ⟨ww1, ww2, ww3, eR, v1, v2, v3⟩ := rem_s (nw := nw) (zz := zz) (nn := nn) (mc := mc) (sc := sc) (tx := tx) (nr := nr) (ra := ra) (ru := ru) (dy := dy) (wa := wa) (se := se) (f1 := f1) (f2 := f2) (f3 := f3) (of1 := of1) (of2 := of2) (of3 := of3) z0 z12
  unfold F_z_L_buttons_s at hc
  rcases buttons_s (a := a1) (b := b1) (nw := nw) (zz := zz) (nn := nn) (re := re) (fc := fc) (of1 := of1) (of2 := of2) (of3 := of3) hC with ⟨kq, e1, e2, e3⟩ | ⟨d2q, gq, e1, e2, e3, e4, e5⟩
  · rw [e1] at hc
    rcases e3 with rfl | rfl <;> simp only [kS, kC, kLet, Int32.reduceToInt, Int.reduceEq, ↓reduceIte, reduceCtorEq] at hc
  · skip
    rw [e1, eR] at hc
    rw [e2] at hr
    simp only [kS, kC, kLet, Int32.reduceToInt, Int.reduceEq, ↓reduceIte, Sum.inl.injEq, Sum.inr.injEq, Prod.mk.injEq] at hc
    simp only [Prod.mk.injEq] at hr
    obtain ⟨rfl, rfl, rfl, rfl, rfl, rfl, rfl, rfl, rfl, rfl, rfl, rfl, rfl, rfl, rfl, rfl⟩ := hc
    obtain ⟨rfl, rfl, rfl, rfl⟩ := hr
    exact ⟨rfl, rfl, ⟨e3, hZ, by omega, u0, u1⟩, e4, e5, ⟨rfl, rfl, rfl, rfl, rfl, rfl, rfl, rfl, rfl, rfl, rfl, v1, v2, v3⟩, rfl⟩
theorem xt_L_buttons_s {B : Nat} {mc : Int} {sc : Int} {tx : Int} {nr : Int} {ra : Int} {ru : Int} {dy : Int} {wa : Int} {se : Int} {f1 : Nat → Int} {f2 : Nat → Int} {f3 : Nat → Int64} {nw : Int} {zz : Int} {nn : Int} {of1 : Nat → Int} {of2 : Nat → Int} {of3 : Nat → Int64} {a1 : Int} {b1 : Int} {re : Int} {g : Nat → Int} {fc : Nat → Int} {r : Int} {th' : Int} {re' : Int} {g' : Nat → Int} {fc' : Nat → Int} (h : kC9 B mc sc tx nr ra ru dy wa se f1 f2 f3 g) (hB : B ≤ 4000) (z0 : 0 ≤ zz) (z12 : zz ≤ 12) (hc : F_z_L_buttons_s mc sc tx nr ra ru dy wa se f1 f2 f3 nw zz nn of1 of2 of3 a1 b1 = Sum.inr r) (hr : F_r_buttons re g fc a1 b1 = (th', re', g', fc')) : th' = r ∧ re' = re ∧ g' = g ∧ fc' = fc := by
  obtain ⟨hC, hZ, hW, u0, u1⟩ := h
  obtain ⟨ww1, ww2, ww3, eR, v1, v2, v3⟩ := rem_s (nw := nw) (zz := zz) (nn := nn) (mc := mc) (sc := sc) (tx := tx) (nr := nr) (ra := ra) (ru := ru) (dy := dy) (wa := wa) (se := se) (f1 := f1) (f2 := f2) (f3 := f3) (of1 := of1) (of2 := of2) (of3 := of3) z0 z12
  unfold F_z_L_buttons_s at hc
  rcases buttons_s (a := a1) (b := b1) (nw := nw) (zz := zz) (nn := nn) (re := re) (fc := fc) (of1 := of1) (of2 := of2) (of3 := of3) hC with ⟨kq, e1, e2, e3⟩ | ⟨d2q, gq, e1, e2, e3, e4, e5⟩
  · rw [e1] at hc
    rw [e2] at hr
    simp only [Prod.mk.injEq] at hr
    obtain ⟨rfl, rfl, rfl, rfl⟩ := hr
    rcases e3 with rfl | rfl <;> (simp only [kS, kC, kLet, Int32.reduceToInt, Int.reduceEq, ↓reduceIte, Sum.inl.injEq, Sum.inr.injEq, Prod.mk.injEq] at hc; obtain rfl := hc; exact ⟨rfl, rfl, rfl, rfl⟩)
  · rw [e1, eR] at hc
    simp only [kS, kC, kLet, Int32.reduceToInt, Int.reduceEq, ↓reduceIte, reduceCtorEq] at hc
theorem xs_SW_lot_ns {B : Nat} {mc : Int} {sc : Int} {tx : Int} {nr : Int} {ra : Int} {ru : Int} {dy : Int} {wa : Int} {se : Int} {f1 : Nat → Int} {f2 : Nat → Int} {f3 : Nat → Int64} {nw : Int} {zz : Int} {nn : Int} {of1 : Nat → Int} {of2 : Nat → Int} {of3 : Nat → Int64} {re : Int} {g : Nat → Int} {fv : Nat → Int} {fc : Nat → Int} {v : Int} {se' : Int} {d1 : Nat → Int} {d2 : Nat → Int} {nw' : Int} {zz' : Int} {mcO : Int} {scO : Int} {txO : Int} {nrO : Int} {raO : Int} {ruO : Int} {dyO : Int} {waO : Int} {seO : Int} {h1 : Nat → Int} {h2 : Nat → Int} {h3 : Nat → Int64} {v' : Int} {re' : Int} {g' : Nat → Int} {fv' : Nat → Int} {fc' : Nat → Int} (h : kC9 B mc sc tx nr ra ru dy wa se f1 f2 f3 g) (hB : B ≤ 4000) (z0 : 0 ≤ zz) (z12 : zz ≤ 12) (g3 : g 3 = 0) (k1 : ∀ i, kW (f1 i) = f1 i) (k2 : ∀ i, kW (f2 i) = f2 i) (hc : F_z_SW_lot_ns mc sc tx nr ra ru dy wa se f1 f2 f3 nw zz nn of1 of2 of3 = (v, se', d1, d2, nw', zz', mcO, scO, txO, nrO, raO, ruO, dyO, waO, seO, h1, h2, h3)) (hr : F_r_lot re g fv fc = (v', re', g', fv', fc')) : v = v' ∧ kC9 (B + 6) mc sc tx nr ra ru dy wa se' d1 d2 f3 g' ∧ g' 3 = g 3 ∧ (∀ j, 505 ≤ j → g' j = g j) ∧ kRmb mc sc tx nr ra ru dy wa se f1 f2 f3 zz nn nw' zz' mcO scO txO nrO raO ruO dyO waO seO h1 h2 h3 ∧ (re', fc') = F_r_remembers re g fc := by
  obtain ⟨hC, hZ, hW, u0, u1⟩ := h
  obtain ⟨ww1, ww2, ww3, eR, v1, v2, v3⟩ := rem_s (nw := nw) (zz := zz) (nn := nn) (mc := mc) (sc := sc) (tx := tx) (nr := nr) (ra := ra) (ru := ru) (dy := dy) (wa := wa) (se := se) (f1 := f1) (f2 := f2) (f3 := f3) (of1 := of1) (of2 := of2) (of3 := of3) z0 z12
  obtain ⟨cq, seq, d1q, d2q, gq, fvq, e1, e2, e3, e4, e5⟩ := lot_ns (fv := fv) (nw := nw) (zz := zz) (nn := nn) (re := re) (fc := fc) (of1 := of1) (of2 := of2) (of3 := of3) hC g3 k1 k2
  rw [e1, eR] at hc
  rw [e2] at hr
  simp only [Prod.mk.injEq] at hc
  simp only [Prod.mk.injEq] at hr
  obtain ⟨rfl, rfl, rfl, rfl, rfl, rfl, rfl, rfl, rfl, rfl, rfl, rfl, rfl, rfl, rfl, rfl, rfl, rfl⟩ := hc
  obtain ⟨rfl, rfl, rfl, rfl, rfl⟩ := hr
  exact ⟨rfl, ⟨e3, hZ, by omega, u0, u1⟩, e4, e5, ⟨rfl, rfl, rfl, rfl, rfl, rfl, rfl, rfl, rfl, rfl, rfl, v1, v2, v3⟩, rfl⟩
theorem xs_SW_lot_ss {B : Nat} {mc : Int} {sc : Int} {tx : Int} {nr : Int} {ra : Int} {ru : Int} {dy : Int} {wa : Int} {se : Int} {f1 : Nat → Int} {f2 : Nat → Int} {f3 : Nat → Int64} {M1 : Nat} {M2 : Nat} {M3 : Nat} {y1_ : Nat → Int} {y2_ : Nat → Int} {y3_ : Nat → Int} {y4_ : Nat → Int} {nw : Int} {zz : Int} {nn : Int} {of1 : Nat → Int} {of2 : Nat → Int} {of3 : Nat → Int64} {re : Int} {g : Nat → Int} {fv : Nat → Int} {fc : Nat → Int} {v : Int} {se' : Int} {d1 : Nat → Int} {d2 : Nat → Int} {y4' : Nat → Int} {nw' : Int} {zz' : Int} {mcO : Int} {scO : Int} {txO : Int} {nrO : Int} {raO : Int} {ruO : Int} {dyO : Int} {waO : Int} {seO : Int} {h1 : Nat → Int} {h2 : Nat → Int} {h3 : Nat → Int64} {v' : Int} {re' : Int} {g' : Nat → Int} {fv' : Nat → Int} {fc' : Nat → Int} (h : kC9 B mc sc tx nr ra ru dy wa se f1 f2 f3 g) (hB : B ≤ 4000) (z0 : 0 ≤ zz) (z12 : zz ≤ 12) (g3 : g 3 = 1) (hL : LW M1 M2 M3 y1_ y2_ y3_ g) (k1 : ∀ i, kW (f1 i) = f1 i) (k2 : ∀ i, kW (f2 i) = f2 i) (kw : kW wa = wa) (hc : F_z_SW_lot_ss mc sc tx nr ra ru dy wa se f1 f2 f3 M1 M2 M3 y1_ y2_ y3_ y4_ nw zz nn of1 of2 of3 = (v, se', d1, d2, y4', nw', zz', mcO, scO, txO, nrO, raO, ruO, dyO, waO, seO, h1, h2, h3)) (hr : F_r_lot re g fv fc = (v', re', g', fv', fc')) : v = v' ∧ kC9 (B + 6) mc sc tx nr ra ru dy wa se' d1 d2 f3 g' ∧ g' 3 = g 3 ∧ (∀ j, 505 ≤ j → g' j = g j) ∧ kRmb mc sc tx nr ra ru dy wa se f1 f2 f3 zz nn nw' zz' mcO scO txO nrO raO ruO dyO waO seO h1 h2 h3 ∧ (re', fc') = F_r_remembers re g fc := by
  obtain ⟨hC, hZ, hW, u0, u1⟩ := h
  obtain ⟨ww1, ww2, ww3, eR, v1, v2, v3⟩ := rem_s (nw := nw) (zz := zz) (nn := nn) (mc := mc) (sc := sc) (tx := tx) (nr := nr) (ra := ra) (ru := ru) (dy := dy) (wa := wa) (se := se) (f1 := f1) (f2 := f2) (f3 := f3) (of1 := of1) (of2 := of2) (of3 := of3) z0 z12
  obtain ⟨cq, seq, d1q, d2q, y4q, gq, fvq, e1, e2, e3, e4, e5⟩ := lot_ss (fv := fv) (nw := nw) (zz := zz) (nn := nn) (re := re) (fc := fc) (of1 := of1) (of2 := of2) (of3 := of3) (y4 := y4_) hC g3 hL k1 k2 kw k1 k2
  rw [e1, eR] at hc
  rw [e2] at hr
  simp only [Prod.mk.injEq] at hc
  simp only [Prod.mk.injEq] at hr
  obtain ⟨rfl, rfl, rfl, rfl, rfl, rfl, rfl, rfl, rfl, rfl, rfl, rfl, rfl, rfl, rfl, rfl, rfl, rfl, rfl⟩ := hc
  obtain ⟨rfl, rfl, rfl, rfl, rfl⟩ := hr
  exact ⟨rfl, ⟨e3, hZ, by omega, u0, u1⟩, e4, e5, ⟨rfl, rfl, rfl, rfl, rfl, rfl, rfl, rfl, rfl, rfl, rfl, v1, v2, v3⟩, rfl⟩
