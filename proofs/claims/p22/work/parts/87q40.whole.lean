/-! law, camp, seed, undo, image, back, on the whole relation. -/
theorem copyOf_ok {N k : Nat} {w : Nat → Int} (hN : k ≤ 2000) (hk : k ≤ N) : (F_copyOf N w (kMax (k : Int) 0)) = (k, (F_copyOf N w (kMax (k : Int) 0)).2) ∧ ∀ j, j < k → (F_copyOf N w (kMax (k : Int) 0)).2 j = w j := by
  rw [kMax_eq (by omega) (by omega) (by omega) (by omega), if_pos (by omega)]
  unfold F_copyOf
  by_cases h2 : (k : Int) = ((N : Nat) : Int)
  · rw [if_pos h2]
    refine ⟨?_, fun j _ => rfl⟩
    have : N = k := by omega
    rw [this]
  · rw [if_neg h2, Int.toNat_natCast]
    refine ⟨rfl, fun j hj => ?_⟩
    show (if j < k then w j else 0) = w j
    rw [if_pos hj]
theorem hR_cg4 {f f' : Nat → Int} : ∀ (ls : List pLn) (s k : Nat), (∀ j, 506 ≤ j → j < 1342 → f' j = f j) → k + ls.length ≤ 12 → (∀ i, i < k + ls.length → f' (508 + 3 * i) ≤ 400) → hR f s k ls → hR f' s k ls
  | [], s, k, _, _, _, _ => trivial
  | (pr, cs, rs) :: ls, s, k, h, hl, hb, q => by
    simp only [List.length_cons] at hl hb
    obtain ⟨q1, q2, q3, q4, q5⟩ := q
    have e3 := (h (508 + 3 * k) (by omega) (by omega)).trans q3
    have b := hb k (by omega)
    rw [e3] at b
    exact ⟨(h _ (by omega) (by omega)).trans q1, (h _ (by omega) (by omega)).trans q2, e3, sgR_cg rs s (fun j h1 h2 => h j (by omega) (by omega)) q4, hR_cg4 ls _ _ h (by omega) (fun i hi => hb i (by omega)) q5⟩
theorem LW_cg4 {M1 M2 M3 : Nat} {e1 e2 e3 f f' : Nat → Int} (h : ∀ j, 505 ≤ j → j < 1342 → f' j = f j) (hb : ∀ i : Nat, (i : Int) < f 505 → f (508 + 3 * i) ≤ 400) (q : LW M1 M2 M3 e1 e2 e3 f) : LW M1 M2 M3 e1 e2 e3 f' := by
  obtain ⟨ls, q1, q2, q3, q4, q5, q6, q7, q8, q9, q10⟩ := q
  refine ⟨ls, q1, q2, q3, q4, q5, q6, q7, hR_cg4 ls 0 0 (fun j h1 h2 => h j (by omega) h2) (by omega) (fun i hi => ?_) q8, q9, (h _ (by omega) (by omega)).trans q10⟩
  rw [h _ (by omega) (by omega)]
  exact hb i (by rw [q10]; omega)
theorem kLw_img {Ls : List LawG} {lw : Option Nat} {g g' : Nat → Int} (h : kLw Ls lw g) (hb : ∀ i : Nat, (i : Int) < g 505 → g (508 + 3 * i) ≤ 400) (h3 : g' 3 = g 3) (h5 : ∀ j, 505 ≤ j → j < 1342 → g' j = g j) : kLw Ls lw g' := by
  rcases h with ⟨e, h⟩ | ⟨h, q, hq, e, hL⟩
  · exact Or.inl ⟨e, h3.trans h⟩
  · exact Or.inr ⟨h3.trans h, q, hq, e, LW_cg4 h5 hb hL⟩
section PA3
variable {mc sc tx nr ra ru dy wa se : Int} {f1 f2 : Nat → Int} {f3 : Nat → Int64} {g : Nat → Int}
theorem RC_cg3 {g' : Nat → Int} (h : RC mc sc tx nr ra ru dy wa se f1 f2 f3 g) (hg : ∀ i, i < 505 → i ≠ 3 → g' i = g i) : RC mc sc tx nr ra ru dy wa se f1 f2 f3 g' := by
  obtain ⟨⟨a0, a1, a2, a4, a5, a6, a7, a8, a9, a10⟩, hM, hS, hW, hA, b⟩ := h
  refine ⟨⟨by rw [hg _ (by decide) (by decide)]; exact a0, by rw [hg _ (by decide) (by decide)]; exact a1, by rw [hg _ (by decide) (by decide)]; exact a2, by rw [hg _ (by decide) (by decide)]; exact a4, by rw [hg _ (by decide) (by decide)]; exact a5, by rw [hg _ (by decide) (by decide)]; exact a6, by rw [hg _ (by decide) (by decide)]; exact a7, by rw [hg _ (by decide) (by decide)]; exact a8, by rw [hg _ (by decide) (by decide)]; exact a9, by rw [hg _ (by decide) (by decide)]; exact a10⟩, ?_, ?_, ?_, ?_, b⟩
  · intro i hi
    rw [hg _ (by omega) (by omega)]
    exact hM i hi
  · intro s k hs hk
    rw [hg _ (by omega) (by omega)]
    exact hS s k hs hk
  · intro a s ha hs
    rw [hg _ (by omega) (by omega)]
    exact hW a s ha hs
  · intro s hs h12
    rw [hg _ (by omega) (by omega)]
    exact hA s hs h12
end PA3
theorem pLine_ln {K : Nat → Int} {nx : Nat → Nat} {i r : Nat} {pr : Int} {cs : List Int} {rs : List (Int × Int)} (h : pLine K nx i true r pr cs rs) : lLn cs rs ∧ -1 ≤ pr ∧ pr ≤ 999 := by
  have hif : ∀ j, pIf K nx j true r cs rs → lLn cs rs := fun j q => by
    rcases q with ⟨_, q⟩ | ⟨_, _, _, e1, e2⟩
    · exact Or.inr ⟨K, nx, _, r, q⟩
    · exact Or.inl ⟨e1, e2⟩
  rcases h with ⟨_, q, e, q2⟩ | ⟨_, _, e, _⟩ | ⟨_, e, q⟩ | ⟨_, _, e, _⟩
  · unfold pNum at q
    exact ⟨hif _ q2, by omega, by omega⟩
  · cases e
  · exact ⟨hif _ q, by omega, by omega⟩
  · cases e
theorem pLines_l3 {K : Nat → Int} {nx : Nat → Nat} : ∀ m i r ls, pLines K nx m i true r ls → ∀ l, l ∈ ls → lLn l.2.1 l.2.2 ∧ -1 ≤ l.1 ∧ l.1 ≤ 999
  | 0, _, _, _, h => by cases h.1
  | m + 1, i, r, ls, h => by
    rcases h with ⟨pr, cs, rs, h1, h2, rfl⟩ | ⟨j, pr, cs, rs, h1, h2⟩
    · intro l hl
      cases hl
    · rcases h2 with ⟨_, _, _, rfl⟩ | ⟨_, l2, h4, rfl⟩ | ⟨_, _, e, _⟩
      · intro l hl
        rw [List.mem_singleton] at hl
        subst hl
        exact pLine_ln h1
      · intro l hl
        rcases List.mem_cons.mp hl with e | e
        · subst e
          exact pLine_ln h1
        · exact pLines_l3 m _ _ _ h4 l e
      · cases e
theorem pText_l3 {K : Nat → Int} {nx : Nat → Nat} {i r : Nat} {ls : List pLn} (h : pText K nx i true r ls) : ∀ l, l ∈ ls → lLn l.2.1 l.2.2 ∧ -1 ≤ l.1 ∧ l.1 ≤ 999 := by
  rcases h with ⟨_, _, _, rfl⟩ | ⟨_, h⟩
  · intro l hl
    cases hl
  · exact pLines_l3 _ _ _ _ h
theorem r_campx_eq {re ta : Int} {fw fb ft : Nat → Int} : F_r_campx re ta fw fb ft = F_r_camp re ta fw fb ft := rfl
theorem xs_SW_seed {B : Nat} {se : Int} {a1 : Int} {g : Nat → Int} {mc : Int} {sc : Int} {tx : Int} {nr : Int} {ra : Int} {ru : Int} {dy : Int} {wa : Int} {f1 : Nat → Int} {f2 : Nat → Int} {f3 : Nat → Int64} {v : Int} {se' : Int} {v' : Int} {g' : Nat → Int} (h : kC9 B mc sc tx nr ra ru dy wa se f1 f2 f3 g) (hc : F_z_SW_seed se a1 = (v, se')) (hr : F_r_seed g a1 = (v', g')) : v = v' ∧ kC9 (B + 6) mc sc tx nr ra ru dy wa se' f1 f2 f3 g' ∧ g' 3 = g 3 ∧ ∀ j, 505 ≤ j → g' j = g j := by
  obtain ⟨hC, hZ, hW, u0, u1⟩ := h
  unfold F_z_SW_seed at hc
  rw [pr_seed] at hr
  simp only [Prod.mk.injEq] at hc hr
  obtain ⟨rfl, rfl⟩ := hc
  obtain ⟨rfl, rfl⟩ := hr
  exact ⟨hC.1.2.2.2.2.2.2.2.2.1.symm, ⟨RC_seed hC _, hZ, by omega, u0, u1⟩, by rw [kUpd_ne (by decide)], fun j hj => by rw [kUpd_ne (by omega)]⟩
theorem xs_SW_undo_z {re : Int} {g : Nat → Int} {fc : Nat → Int} {mc : Int} {sc : Int} {tx : Int} {nr : Int} {ra : Int} {ru : Int} {dy : Int} {wa : Int} {se : Int} {f1 : Nat → Int} {f2 : Nat → Int} {f3 : Nat → Int64} {v : Int} {v' : Int} {re' : Int} {g' : Nat → Int} (z0 : re = 0) (hc : F_z_SW_undo_z = v) (hr : F_r_undo re g fc = (v', re', g')) : v = v' ∧ re' = re ∧ g' = g := by
  subst z0
  rw [r_undo_0] at hr
  unfold F_z_SW_undo_z F_z_Past_restore_z at hc
  simp only [kLet, Int32.reduceToInt] at hc
  simp only [Prod.mk.injEq] at hr
  obtain rfl := hc
  obtain ⟨rfl, rfl, rfl⟩ := hr
  exact ⟨rfl, rfl, rfl⟩
theorem xs_SW_undo_n {re : Int} {g : Nat → Int} {fc : Nat → Int} {mc : Int} {sc : Int} {tx : Int} {nr : Int} {ra : Int} {ru : Int} {dy : Int} {wa : Int} {se : Int} {f1 : Nat → Int} {f2 : Nat → Int} {f3 : Nat → Int64} {v : Int} {v' : Int} {re' : Int} {g' : Nat → Int} (z0 : re = 0) (hc : F_z_SW_undo_n = v) (hr : F_r_undo re g fc = (v', re', g')) : v = v' ∧ re' = re ∧ g' = g := by
  subst z0
  rw [r_undo_0] at hr
  unfold F_z_SW_undo_n F_z_Past_restore_n at hc
  simp only [kLet, Int32.reduceToInt] at hc
  simp only [Prod.mk.injEq] at hr
  obtain rfl := hc
  obtain ⟨rfl, rfl, rfl⟩ := hr
  exact ⟨rfl, rfl, rfl⟩
theorem xs_SW_undo_s {B : Nat} {f1 : Nat → Int} {f2 : Nat → Int} {f3 : Nat → Int64} {nw : Int} {zz : Int} {omc : Int} {osc : Int} {otx : Int} {onr : Int} {ora : Int} {oru : Int} {ody : Int} {owa : Int} {ose : Int} {of1 : Nat → Int} {of2 : Nat → Int} {of3 : Nat → Int64} {re : Int} {g : Nat → Int} {fc : Nat → Int} {mc : Int} {sc : Int} {tx : Int} {nr : Int} {ra : Int} {ru : Int} {dy : Int} {wa : Int} {se : Int} {v : Int} {mc' : Int} {sc' : Int} {tx' : Int} {nr' : Int} {ra' : Int} {ru' : Int} {dy' : Int} {wa' : Int} {se' : Int} {d1 : Nat → Int} {d2 : Nat → Int} {d3 : Nat → Int64} {nw' : Int} {zz' : Int} {v' : Int} {re' : Int} {g' : Nat → Int} (z0 : re = zz) (z1 : 1 ≤ zz) (h : kC9 B omc osc otx onr ora oru ody owa ose of1 of2 of3 (rSl re.toNat fc 0)) (h3 : rSl re.toNat fc 0 3 = g 3) (hc : F_z_SW_undo_s f1 f2 f3 nw zz omc osc otx onr ora oru ody owa ose of1 of2 of3 = (v, mc', sc', tx', nr', ra', ru', dy', wa', se', d1, d2, d3, nw', zz')) (hr : F_r_undo re g fc = (v', re', g')) : v = v' ∧ kC9 (B + 6) mc' sc' tx' nr' ra' ru' dy' wa' se' d1 d2 d3 g' ∧ g' 3 = g 3 ∧ (∀ j, 505 ≤ j → g' j = g j) ∧ nw' = (if nw ≤ 0 then 11 else nw - 1) ∧ zz' = zz - 1 ∧ re' = ((re.toNat - 1 : Nat) : Int) := by
  obtain ⟨m, rfl⟩ : ∃ m : Nat, re = (m : Int) := ⟨re.toNat, by omega⟩
  rw [Int.toNat_natCast] at h h3 ⊢
  obtain ⟨ww1, ww2, ww3, eU, v1, v2, v3⟩ := und_s (nw := nw) (zz := zz) (mc := omc) (sc := osc) (tx := otx) (nr := onr) (ra := ora) (ru := oru) (dy := ody) (wa := owa) (se := ose) (f1 := f1) (f2 := f2) (f3 := f3) (of1 := of1) (of2 := of2) (of3 := of3)
  obtain ⟨w', e1, e2, e3⟩ := r_undo_s (fw := g) (fc := fc) (re := m) (by omega)
  rw [eU] at hc
  rw [e1] at hr
  simp only [Prod.mk.injEq] at hc hr
  obtain ⟨rfl, rfl, rfl, rfl, rfl, rfl, rfl, rfl, rfl, rfl, rfl, rfl, rfl, rfl, rfl⟩ := hc
  obtain ⟨rfl, rfl, rfl⟩ := hr
  exact ⟨rfl, kC9_cg h (by omega) v1 v2 v3 e2, (e2 3 (by decide)).trans h3, e3, rfl, rfl, rfl⟩
theorem xs_SW_image {B : Nat} {mc : Int} {sc : Int} {tx : Int} {nr : Int} {ra : Int} {ru : Int} {dy : Int} {wa : Int} {se : Int} {f1 : Nat → Int} {f2 : Nat → Int} {f3 : Nat → Int64} {pf1 : Nat → Int} {pf2 : Nat → Int} {pf3 : Nat → Int64} {g : Nat → Int} {fi : Nat → Int} {mcB : Int} {scB : Int} {txB : Int} {nrB : Int} {raB : Int} {ruB : Int} {dyB : Int} {waB : Int} {seB : Int} {p1 : Nat → Int} {p2 : Nat → Int} {p3 : Nat → Int64} {fi' : Nat → Int} (h : kC9 B mc sc tx nr ra ru dy wa se f1 f2 f3 g) (hc : F_z_SW_image mc sc tx nr ra ru dy wa se f1 f2 f3 pf1 pf2 pf3 = (mcB, scB, txB, nrB, raB, ruB, dyB, waB, seB, p1, p2, p3)) (hr : F_r_image g fi = fi') : kC9 (B + 6) mcB scB txB nrB raB ruB dyB waB seB p1 p2 p3 fi' ∧ ∀ i, i < 1342 → fi' i = g i := by
  obtain ⟨ww1, ww2, ww3, eU, v1, v2, v3⟩ := img_s (pf1 := pf1) (pf2 := pf2) (pf3 := pf3) (mc := mc) (sc := sc) (tx := tx) (nr := nr) (ra := ra) (ru := ru) (dy := dy) (wa := wa) (se := se) (f1 := f1) (f2 := f2) (f3 := f3)
  have hi := r_image_ok (fw := g) (fi := fi)
  rw [eU] at hc
  rw [hr] at hi
  simp only [Prod.mk.injEq] at hc
  obtain ⟨rfl, rfl, rfl, rfl, rfl, rfl, rfl, rfl, rfl, rfl, rfl, rfl⟩ := hc
  exact ⟨kC9_cg h (by omega) v1 v2 v3 (fun i hi2 => hi i (by omega)), hi⟩
theorem xs_SW_back0 {hi : Int} {re : Int} {g : Nat → Int} {fi : Nat → Int} {mc : Int} {sc : Int} {tx : Int} {nr : Int} {ra : Int} {ru : Int} {dy : Int} {wa : Int} {se : Int} {f1 : Nat → Int} {f2 : Nat → Int} {f3 : Nat → Int64} {v : Int} {v' : Int} {re' : Int} {g' : Nat → Int} (z0 : hi = 0) (hc : F_z_SW_back0 = v) (hr : F_r_backx hi re g fi = (v', re', g')) : v = v' ∧ re' = re ∧ g' = g := by
  subst z0
  rw [r_backx_0] at hr
  unfold F_z_SW_back0 at hc
  simp only [Int32.reduceToInt] at hc
  simp only [Prod.mk.injEq] at hr
  obtain rfl := hc
  obtain ⟨rfl, rfl, rfl⟩ := hr
  exact ⟨rfl, rfl, rfl⟩
theorem xs_SW_back1 {B : Nat} {f1 : Nat → Int} {f2 : Nat → Int} {f3 : Nat → Int64} {pmc : Int} {psc : Int} {ptx : Int} {pnr : Int} {pra : Int} {pru : Int} {pdy : Int} {pwa : Int} {pse : Int} {pf1 : Nat → Int} {pf2 : Nat → Int} {pf3 : Nat → Int64} {hi : Int} {re : Int} {g : Nat → Int} {fi : Nat → Int} {mc : Int} {sc : Int} {tx : Int} {nr : Int} {ra : Int} {ru : Int} {dy : Int} {wa : Int} {se : Int} {v : Int} {mc' : Int} {sc' : Int} {tx' : Int} {nr' : Int} {ra' : Int} {ru' : Int} {dy' : Int} {wa' : Int} {se' : Int} {d1 : Nat → Int} {d2 : Nat → Int} {d3 : Nat → Int64} {v' : Int} {re' : Int} {g' : Nat → Int} (z1 : hi ≠ 0) (h : kC9 B pmc psc ptx pnr pra pru pdy pwa pse pf1 pf2 pf3 fi) (hc : F_z_SW_back1 f1 f2 f3 pmc psc ptx pnr pra pru pdy pwa pse pf1 pf2 pf3 = (v, mc', sc', tx', nr', ra', ru', dy', wa', se', d1, d2, d3)) (hr : F_r_backx hi re g fi = (v', re', g')) : v = v' ∧ kC9 (B + 6) mc' sc' tx' nr' ra' ru' dy' wa' se' d1 d2 d3 g' ∧ re' = 0 ∧ ∀ i, i < 1342 → g' i = fi i := by
  obtain ⟨ww1, ww2, ww3, eU, v1, v2, v3⟩ := back_s (mc := pmc) (sc := psc) (tx := ptx) (nr := pnr) (ra := pra) (ru := pru) (dy := pdy) (wa := pwa) (se := pse) (f1 := f1) (f2 := f2) (f3 := f3) (of1 := pf1) (of2 := pf2) (of3 := pf3)
  obtain ⟨w', e1, e2⟩ := r_backx_1 (fw := g) (fi := fi) (re := re) z1
  rw [eU] at hc
  rw [e1] at hr
  simp only [Prod.mk.injEq] at hc hr
  obtain ⟨rfl, rfl, rfl, rfl, rfl, rfl, rfl, rfl, rfl, rfl, rfl, rfl, rfl⟩ := hc
  obtain ⟨rfl, rfl, rfl⟩ := hr
  exact ⟨rfl, kC9_cg h (by omega) v1 v2 v3 (fun i hi2 => e2 i (by omega)), rfl, e2⟩
theorem xs_L_camp {B : Nat} {ts : Int} {gc : Nat → Int} {mc : Int} {sc : Int} {tx : Int} {nr : Int} {ra : Int} {ru : Int} {dy : Int} {wa : Int} {se : Int} {f1 : Nat → Int} {f2 : Nat → Int} {f3 : Nat → Int64} {e1 : Nat → Int} {e2 : Nat → Int} {df1 : Nat → Int} {df2 : Nat → Int} {df3 : Nat → Int64} {zz : Int} {fo : Nat → Int64} {re : Int} {g : Nat → Int} {fb : Nat → Int} {gr : Nat → Int} {r : Int} {wb' : Int} {mc' : Int} {sc' : Int} {tx' : Int} {nr' : Int} {ra' : Int} {ru' : Int} {dy' : Int} {wa' : Int} {se' : Int} {d1 : Nat → Int} {d2 : Nat → Int} {d3 : Nat → Int64} {n13_ : Int} {n14_ : Int} {n15_ : Int} {n16_ : Int} {f17_ : Nat → Int} {f18_ : Nat → Int} {mcD : Int} {scD : Int} {txD : Int} {nrD : Int} {raD : Int} {ruD : Int} {dyD : Int} {waD : Int} {seD : Int} {f28_ : Nat → Int} {f29_ : Nat → Int} {f30_ : Nat → Int64} {zz' : Int} {fo' : Nat → Int64} {v' : Int} {th' : Int} {re' : Int} {po' : Int} {be' : Int} {fa' : Int} {g' : Nat → Int} {fb' : Nat → Int} (h : kC9 B mc sc tx nr ra ru dy wa se f1 f2 f3 g) (t0 : 0 ≤ ts) (t4 : ts ≤ 400) (hT : tTape ts.toNat gc gr) (hc : F_z_L_campx ts gc mc sc tx nr ra ru dy wa se f1 f2 f3 e1 e2 df1 df2 df3 zz fo = (r, wb', mc', sc', tx', nr', ra', ru', dy', wa', se', d1, d2, d3, n13_, n14_, n15_, n16_, f17_, f18_, mcD, scD, txD, nrD, raD, ruD, dyD, waD, seD, f28_, f29_, f30_, zz', fo')) (hr : F_r_campx re ts g fb gr = (v', th', re', po', be', fa', g', fb')) : th' = r ∧ (r = 0 → fo' 0 = kI2l v') ∧ wb' = fa' ∧ kC9 (B + 6) mc' sc' tx' nr' ra' ru' dy' wa' se' d1 d2 d3 g' ∧ g' 3 = g 3 ∧ (∀ j, 505 ≤ j → j < 1342 → g' j = g j) ∧ ((zz' = 0 ∧ re' = 0) ∨ (zz' = zz ∧ re' = re)) := by
  obtain ⟨n, rfl⟩ : ∃ n : Nat, ts = (n : Int) := ⟨ts.toNat, by omega⟩
  rw [Int.toNat_natCast] at hT
  obtain ⟨hC, hZ, hW, u0, u1⟩ := h
  rw [r_campx_eq] at hr
  unfold F_z_L_campx at hc
  simp only [campx_eq] at hc
  rcases camp_ok (re := re) (fb := fb) (k1 := e1) (k2 := e2) (df1 := df1) (df2 := df2) (df3 := df3) (n := n) (by omega) (tTape_same hT) hC hZ u0 u1 with ⟨q, ⟨s, e1'⟩, x, b, w', b', e2', e3'⟩ | ⟨⟨s, e1'⟩, x, b, w', b', e2', e3'⟩ | ⟨mcq, scq, nrq, raq, ruq, F1, F2, F3, ⟨s, e1'⟩, e4', x, b, w', b', e2', e5', e6', e7', e8'⟩
  · rw [e1'] at hc
    rw [e2'] at hr
    simp only [kS, kC, kLet, Int32.reduceToInt, Int.reduceEq, ↓reduceIte, Prod.mk.injEq] at hc
    simp only [Prod.mk.injEq] at hr
    obtain ⟨rfl, rfl, rfl, rfl, rfl, rfl, rfl, rfl, rfl, rfl, rfl, rfl, rfl, rfl, rfl, rfl, rfl, rfl, rfl, rfl, rfl, rfl, rfl, rfl, rfl, rfl, rfl, rfl, rfl, rfl, rfl, rfl, rfl, rfl⟩ := hc
    obtain ⟨rfl, rfl, rfl, rfl, rfl, rfl, rfl, rfl⟩ := hr
    exact ⟨rfl, fun z => absurd z (by decide), rfl, ⟨RC_cg hC (fun _ _ => rfl) (fun _ _ => rfl) (fun _ _ => rfl) (fun i hi => e3' i (by omega)), hZ, by omega, u0, u1⟩, e3' 3 (by decide), fun j _ hj => e3' j hj, Or.inr ⟨rfl, rfl⟩⟩
  · rw [e1'] at hc
    rw [e2'] at hr
    simp only [kS, kC, kLet, Int32.reduceToInt, Int.reduceEq, ↓reduceIte, Prod.mk.injEq] at hc
    simp only [Prod.mk.injEq] at hr
    obtain ⟨rfl, rfl, rfl, rfl, rfl, rfl, rfl, rfl, rfl, rfl, rfl, rfl, rfl, rfl, rfl, rfl, rfl, rfl, rfl, rfl, rfl, rfl, rfl, rfl, rfl, rfl, rfl, rfl, rfl, rfl, rfl, rfl, rfl, rfl⟩ := hc
    obtain ⟨rfl, rfl, rfl, rfl, rfl, rfl, rfl, rfl⟩ := hr
    exact ⟨rfl, fun z => absurd z (by decide), rfl, ⟨RC_cg hC (fun _ _ => rfl) (fun _ _ => rfl) (fun _ _ => rfl) (fun i hi => e3' i (by omega)), hZ, by omega, u0, u1⟩, e3' 3 (by decide), fun j _ hj => e3' j hj, Or.inr ⟨rfl, rfl⟩⟩
  · rw [e1'] at hc
    rw [e2'] at hr
    simp only [kS, kC, kLet, Int32.reduceToInt, Int.reduceEq, ↓reduceIte, Prod.mk.injEq] at hc
    simp only [Prod.mk.injEq] at hr
    obtain ⟨rfl, rfl, rfl, rfl, rfl, rfl, rfl, rfl, rfl, rfl, rfl, rfl, rfl, rfl, rfl, rfl, rfl, rfl, rfl, rfl, rfl, rfl, rfl, rfl, rfl, rfl, rfl, rfl, rfl, rfl, rfl, rfl, rfl, rfl⟩ := hc
    obtain ⟨rfl, rfl, rfl, rfl, rfl, rfl, rfl, rfl⟩ := hr
    exact ⟨rfl, fun _ => kUpd_at, rfl, ⟨e5', e6', by omega, by omega, e4'⟩, e7', fun j h5 _ => e8' j h5, Or.inl ⟨rfl, rfl⟩⟩
theorem xs_L_law {B : Nat} {ts : Int} {gc : Nat → Int} {w1 : Nat → Int} {w2 : Nat → Int} {w3 : Nat → Int} {e1 : Nat → Int} {e2 : Nat → Int} {fo : Nat → Int64} {re : Int} {de : Int} {g : Nat → Int} {gr : Nat → Int} {mc : Int} {sc : Int} {tx : Int} {nr : Int} {ra : Int} {ru : Int} {dy : Int} {wa : Int} {se : Int} {f1 : Nat → Int} {f2 : Nat → Int} {f3 : Nat → Int64} {r : Int} {M0_ : Nat} {M1_ : Nat} {M2_ : Nat} {wb' : Int} {n1_ : Int} {n2_ : Int} {n3_ : Int} {n4_ : Int} {f5_ : Nat → Int} {f6_ : Nat → Int} {f7_ : Nat → Int} {n8_ : Int} {f9_ : Nat → Int} {f10_ : Nat → Int} {fo' : Nat → Int64} {f12_ : Nat → Int} {h1 : Nat → Int} {h2 : Nat → Int} {v' : Int} {th' : Int} {re' : Int} {po' : Int} {be' : Int} {de' : Int} {fa' : Int} {sp' : Int} {g' : Nat → Int} (h : kC9 B mc sc tx nr ra ru dy wa se f1 f2 f3 g) (t0 : 0 ≤ ts) (t4 : ts ≤ 400) (hT : tTape ts.toNat gc gr) (hz : n4_ ≤ 400) (hb : ∀ i : Nat, (i : Int) < g' 505 → g' (508 + 3 * i) ≤ 400) (hc : F_z_L_law ts gc w1 w2 w3 e1 e2 fo = Sum.inr (r, M0_, M1_, M2_, wb', n1_, n2_, n3_, n4_, f5_, f6_, f7_, n8_, f9_, f10_, fo', f12_, h1, h2)) (hr : F_r_lawx re ts de g gr = (v', th', re', po', be', de', fa', sp', g')) : r = 0 ∧ th' = 0 ∧ fo' 0 = kI2l v' ∧ wb' = fa' ∧ re' = 0 ∧ kC9 (B + 6) mc sc tx nr ra ru dy wa se f1 f2 f3 g' ∧ g' 3 = 1 ∧ LW M0_ M1_ M2_ f12_ h1 h2 g' := by
  obtain ⟨n, rfl⟩ : ∃ n : Nat, ts = (n : Int) := ⟨ts.toNat, by omega⟩
  rw [Int.toNat_natCast] at hT
  have hn : n ≤ 400 := by omega
  obtain ⟨z, k1, k2, h1, h2⟩ := law_text hn (tTape_same hT) e1 e2 w1 w2 w3 g de
  have hu : F_z_SW_useTape (n : Int) = (n : Int) := by unfold F_z_SW_useTape; rfl
  rcases h2 with ⟨ls, a', p', b', d', q1, q2, r2, q3⟩ | ⟨a', lc', r2, z', x1, x2, x3, p', d', s', w', q1, q2, _⟩
  · have hl : ls.length ≤ 12 := pText_le q3
    have hcz := cWr_z ls w1 w2 w3 0 0
    have hzz : ((cWr w1 w2 w3 0 0 ls).2.2.2 : Int) = (cZ 0 ls : Int) := by rw [hcz]
    have hZ : cZ 0 ls ≤ 400 ∧ ∃ g1 g2 g3, F_z_LR_written ((ls.length : Nat) : Int) (((cWr w1 w2 w3 0 0 ls).2.2.2 : Nat) : Int) (cWr w1 w2 w3 0 0 ls).1 (cWr w1 w2 w3 0 0 ls).2.1 (cWr w1 w2 w3 0 0 ls).2.2.1 = (cZ 0 ls, ls.length, ls.length, g1, g2, g3) ∧ (∀ j, j < cZ 0 ls → g1 j = (cWr w1 w2 w3 0 0 ls).1 j) ∧ (∀ j, j < ls.length → g2 j = (cWr w1 w2 w3 0 0 ls).2.1 j) ∧ (∀ j, j < ls.length → g3 j = (cWr w1 w2 w3 0 0 ls).2.2.1 j) := by
      have hZ4 : cZ 0 ls ≤ 400 := by
        unfold F_z_L_law F_z_SW_law at hc
        simp only [kS, kC, kLet, Int32.reduceToInt, Int.reduceEq, ↓reduceIte, hu, h1, q1, Int.reduceEq] at hc
        simp only [Sum.inr.injEq, Prod.mk.injEq] at hc
        obtain ⟨_, _, _, _, _, _, _, _, e9, _⟩ := hc
        rw [hcz] at e9
        omega
      refine ⟨hZ4, ?_⟩
      unfold F_z_LR_written
      simp only [kC, kLet, Int32.reduceToInt]
      rw [hcz]
      obtain ⟨c1, c1'⟩ := copyOf_ok (N := 400) (w := (cWr w1 w2 w3 0 0 ls).1) (k := cZ 0 ls) (by omega) hZ4
      obtain ⟨c2, c2'⟩ := copyOf_ok (N := 12) (w := (cWr w1 w2 w3 0 0 ls).2.1) (k := ls.length) (by omega) hl
      obtain ⟨c3, c3'⟩ := copyOf_ok (N := 12) (w := (cWr w1 w2 w3 0 0 ls).2.2.1) (k := ls.length) (by omega) hl
      exact ⟨_, _, _, by rw [c1, c2, c3], c1', c2', c3'⟩
    obtain ⟨hZ4, g1, g2, g3, ew, y1, y2, y3⟩ := hZ
    unfold F_z_L_law F_z_SW_law at hc
    simp only [kS, kC, kLet, Int32.reduceToInt, Int.reduceEq, ↓reduceIte, hu, h1, q1, ew, c_lawLines hl, Int.reduceEq] at hc
    simp only [Sum.inr.injEq, Prod.mk.injEq] at hc
    rw [r_lawx_y (by omega) q2] at hr
    simp only [Prod.mk.injEq] at hr
    obtain ⟨rfl, rfl, rfl, rfl, rfl, rfl, rfl, rfl, rfl, rfl, rfl, rfl, rfl, rfl, rfl, rfl, rfl, rfl, rfl⟩ := hc
    obtain ⟨rfl, rfl, rfl, rfl, rfl, rfl, rfl, rfl, rfl⟩ := hr
    have lo := rWr_lo ls g 0 0 (by omega)
    have hg : ∀ j, j < 505 → j ≠ 3 → kUpd (va_cpy (kUpd (rWr g 0 0 ls).1 1342 ((ls.length : Nat) : Int)) (kUpd (rWr g 0 0 ls).1 1342 ((ls.length : Nat) : Int)) 1342 505 837) 3 1 j = g j := fun j hj h3 => by
      rw [kUpd_ne h3]
      unfold va_cpy
      rw [if_neg (by omega), kUpd_ne (by omega)]
      exact lo j (by omega)
    have hsh : ∀ j, 506 ≤ j → j < 1342 → kUpd (va_cpy (kUpd (rWr g 0 0 ls).1 1342 ((ls.length : Nat) : Int)) (kUpd (rWr g 0 0 ls).1 1342 ((ls.length : Nat) : Int)) 1342 505 837) 3 1 j = rSh (rWr g 0 0 ls).1 j := fun j h6 hj => by
      rw [kUpd_ne (by omega)]
      unfold va_cpy
      rw [if_pos (by omega), kUpd_ne (by omega)]
      unfold rSh
      exact congrArg _ (by omega)
    have h505 : kUpd (va_cpy (kUpd (rWr g 0 0 ls).1 1342 ((ls.length : Nat) : Int)) (kUpd (rWr g 0 0 ls).1 1342 ((ls.length : Nat) : Int)) 1342 505 837) 3 1 505 = ((ls.length : Nat) : Int) := by
      rw [kUpd_ne (by omega)]
      unfold va_cpy
      rw [if_pos (by omega)]
      exact kUpd_at
    obtain ⟨hC, hZ', hW, u0, u1⟩ := h
    refine ⟨rfl, rfl, kUpd_at, rfl, rfl, ⟨RC_cg3 hC hg, hZ', by omega, u0, u1⟩, kUpd_at, ls, rfl, hl, Nat.le_refl _, hl, Nat.le_refl _, hZ4, ?_, ?_, pText_l3 q3, h505⟩
    · exact hC_cg ls 0 0 y1 (fun j hj => y2 j (by omega)) (fun j hj => y3 j (by omega)) (hC_wr ls w1 w2 w3 0 0)
    · refine hR_cg4 ls 0 0 hsh (by omega) (fun i hi => ?_) (hR_wr ls g 0 0 (by omega))
      exact hb i (by rw [h505]; omega)
  · unfold F_z_L_law F_z_SW_law at hc
    simp only [kS, kC, kLet, Int32.reduceToInt, Int.reduceEq, ↓reduceIte, hu, h1, q1, reduceCtorEq] at hc
theorem xt_L_law {ts : Int} {gc : Nat → Int} {w1 : Nat → Int} {w2 : Nat → Int} {w3 : Nat → Int} {e1 : Nat → Int} {e2 : Nat → Int} {fo : Nat → Int64} {re : Int} {de : Int} {g : Nat → Int} {gr : Nat → Int} {mc : Int} {sc : Int} {tx : Int} {nr : Int} {ra : Int} {ru : Int} {dy : Int} {wa : Int} {se : Int} {f1 : Nat → Int} {f2 : Nat → Int} {f3 : Nat → Int64} {r : Int} {wb' : Int} {n1_ : Int} {n2_ : Int} {n3_ : Int} {n4_ : Int} {f5_ : Nat → Int} {f6_ : Nat → Int} {f7_ : Nat → Int} {n8_ : Int} {f9_ : Nat → Int} {f10_ : Nat → Int} {v' : Int} {th' : Int} {re' : Int} {po' : Int} {be' : Int} {de' : Int} {fa' : Int} {sp' : Int} {g' : Nat → Int} (t0 : 0 ≤ ts) (t4 : ts ≤ 400) (hT : tTape ts.toNat gc gr) (hc : F_z_L_law ts gc w1 w2 w3 e1 e2 fo = Sum.inl (r, wb', n1_, n2_, n3_, n4_, f5_, f6_, f7_, n8_, f9_, f10_)) (hr : F_r_lawx re ts de g gr = (v', th', re', po', be', de', fa', sp', g')) : th' = r ∧ wb' = fa' ∧ re' = re ∧ ∀ j, j < 1342 → g' j = g j := by
  obtain ⟨n, rfl⟩ : ∃ n : Nat, ts = (n : Int) := ⟨ts.toNat, by omega⟩
  rw [Int.toNat_natCast] at hT
  have hn : n ≤ 400 := by omega
  obtain ⟨z, k1, k2, h1, h2⟩ := law_text hn (tTape_same hT) e1 e2 w1 w2 w3 g de
  have hu : F_z_SW_useTape (n : Int) = (n : Int) := by unfold F_z_SW_useTape; rfl
  rcases h2 with ⟨ls, a', p', b', d', q1, q2, r2, q3⟩ | ⟨a', lc', r2, z', x1, x2, x3, p', d', s', w', q1, q2, q4⟩
  · have e : ∃ (M1 M2 M3 : Nat) (g1 g2 g3 : Nat → Int), F_z_LR_written ((ls.length : Nat) : Int) (((cWr w1 w2 w3 0 0 ls).2.2.2 : Nat) : Int) (cWr w1 w2 w3 0 0 ls).1 (cWr w1 w2 w3 0 0 ls).2.1 (cWr w1 w2 w3 0 0 ls).2.2.1 = (M1, M2, M3, g1, g2, g3) := ⟨_, _, _, _, _, _, rfl⟩
    obtain ⟨M1, M2, M3, g1, g2, g3, e⟩ := e
    unfold F_z_L_law F_z_SW_law at hc
    simp only [kS, kC, kLet, Int32.reduceToInt, Int.reduceEq, ↓reduceIte, hu, h1, q1, e, reduceCtorEq] at hc
  · unfold F_z_L_law F_z_SW_law at hc
    simp only [kS, kC, kLet, Int32.reduceToInt, Int.reduceEq, ↓reduceIte, hu, h1, q1] at hc
    simp only [Sum.inl.injEq, Prod.mk.injEq] at hc
    rw [r_lawx_n q2] at hr
    simp only [Prod.mk.injEq] at hr
    obtain ⟨rfl, rfl, rfl, rfl, rfl, rfl, rfl, rfl, rfl, rfl, rfl, rfl⟩ := hc
    obtain ⟨rfl, rfl, rfl, rfl, rfl, rfl, rfl, rfl, rfl⟩ := hr
    exact ⟨rfl, rfl, rfl, q4⟩
