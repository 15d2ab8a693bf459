/-! What a law's line says: both alike. -/
section LI
/-- what class and reference know of a man and a SHIRT is the same -/
def lF (e4 fw : Nat → Int) (mm b : Int) : Prop := (∀ k, pIsPart k → F_r_factOf fw (pPr k).1 (pPr k).2 mm b = cPv e4 k ∧ kW (cPv e4 k) = cPv e4 k) ∧ (∀ k, 0 ≤ pTg k → ∃ t : Bool, F_z_valueAt 28 e4 (k - 1010) = bI t ∧ F_r_factOf fw (pTg k) 0 mm b = bI t)
variable {e4 fw : Nat → Int} {mm b : Int}
def rTv (fw : Nat → Int) (mm b : Int) (rs : List (Int × Int)) (v : Int) : Prop := ∀ (x3 : Int) (i y : Nat) (g : Nat → Int) (z : Int), sgR fw i rs → fw (x3 + 2).toNat = z → ((i + rs.length : Nat) : Int) ≤ z → ∃ g', F_r_holdsLine_l1 fw mm b x3 ((i : Int), (y : Int), g) = F_r_holdsLine_l1 fw mm b x3 (((i + rs.length : Nat) : Int), ((y + 1 : Nat) : Int), g') ∧ g' y = v ∧ ∀ j, j < y → g' j = g j
def rTl (fw : Nat → Int) (mm b : Int) (rs : List (Int × Int)) (v0 v : Int) : Prop := ∀ (x3 : Int) (i y : Nat) (g : Nat → Int) (z : Int), sgR fw i rs → fw (x3 + 2).toNat = z → ((i + rs.length : Nat) : Int) ≤ z → g y = v0 → ∃ g', F_r_holdsLine_l1 fw mm b x3 ((i : Int), ((y + 1 : Nat) : Int), g) = F_r_holdsLine_l1 fw mm b x3 (((i + rs.length : Nat) : Int), ((y + 1 : Nat) : Int), g') ∧ g' y = v ∧ ∀ j, j < y → g' j = g j
theorem rT_seq {r1 r2 : List (Int × Int)} {v0 v : Int} (h1 : rTv fw mm b r1 v0) (h2 : rTl fw mm b r2 v0 v) : rTv fw mm b (r1 ++ r2) v := by
  intro x3 i y g z hs hz hl
  obtain ⟨s1, s2⟩ := sgR_app r1 r2 i hs
  rw [List.length_append] at hl
  obtain ⟨g1, e1, a1, a2⟩ := h1 x3 i y g z s1 hz (by omega)
  obtain ⟨g2, e2, c1, c2⟩ := h2 x3 (i + r1.length) y g1 z s2 hz (by omega) a1
  refine ⟨g2, ?_, c1, fun j hj => (c2 j hj).trans (a2 j hj)⟩
  rw [e1, e2, List.length_append, Nat.add_assoc]
theorem rT_seqv {r1 r2 : List (Int × Int)} {v0 v1 v : Int} (h1 : rTl fw mm b r1 v0 v1) (h2 : rTl fw mm b r2 v1 v) : rTl fw mm b (r1 ++ r2) v0 v := by
  intro x3 i y g z hs hz hl h0
  obtain ⟨s1, s2⟩ := sgR_app r1 r2 i hs
  rw [List.length_append] at hl
  obtain ⟨g1, e1, a1, a2⟩ := h1 x3 i y g z s1 hz (by omega) h0
  obtain ⟨g2, e2, c1, c2⟩ := h2 x3 (i + r1.length) y g1 z s2 hz (by omega) a1
  refine ⟨g2, ?_, c1, fun j hj => (c2 j hj).trans (a2 j hj)⟩
  rw [e1, e2, List.length_append, Nat.add_assoc]
/-- a value is pushed -/
theorem rT_push {o n v : Int} (h12 : o ≤ 12) (hv : F_r_factOf fw o n mm b = v) : rTv fw mm b [(o, n)] v := by
  intro x3 i y g z hs hz hl
  obtain ⟨s1, s2, _⟩ := hs
  refine ⟨kUpd g y v, ?_, kUpd_at, fun j hj => kUpd_ne (by omega)⟩
  have := rl_push (g := g) (y := y) (mm := mm) (b := b) hz (show (i : Int) < z by simp only [List.length_cons, List.length_nil] at hl; omega) s1 s2 h12
  rw [hv] at this
  exact this
theorem rT_pushP {p : Int × Int} {v : Int} (h12 : p.1 ≤ 12) (hv : F_r_factOf fw p.1 p.2 mm b = v) : rTv fw mm b [p] v := rT_push (o := p.1) (n := p.2) h12 hv
/-- two on the pile become one -/
theorem rT_op {r1 : List (Int × Int)} {o n v0 v1 v : Int} (h1 : rTv fw mm b r1 v1) (h2 : ∀ (x3 : Int) (i y : Nat) (g : Nat → Int) (z : Int), fw (x3 + 2).toNat = z → (i : Int) < z → fw (542 + 2 * i) = o → g y = v0 → g (y + 1) = v1 → F_r_holdsLine_l1 fw mm b x3 ((i : Int), ((y + 2 : Nat) : Int), g) = F_r_holdsLine_l1 fw mm b x3 (((i + 1 : Nat) : Int), ((y + 1 : Nat) : Int), kUpd g y v)) : rTl fw mm b (r1 ++ [(o, n)]) v0 v := by
  intro x3 i y g z hs hz hl h0
  obtain ⟨s1, s2, _, _⟩ := sgR_app r1 [(o, n)] i hs
  simp only [List.length_append, List.length_cons, List.length_nil] at hl
  obtain ⟨g1, e1, a1, a2⟩ := h1 x3 i (y + 1) g z s1 hz (by omega)
  have e2 := h2 x3 (i + r1.length) y g1 z hz (by omega) s2 ((a2 y (by omega)).trans h0) a1
  refine ⟨kUpd g1 y v, ?_, kUpd_at, fun j hj => ?_⟩
  · rw [e1, show y + 1 + 1 = y + 2 from rfl, e2]
    simp only [List.length_append, List.length_cons, List.length_nil]
    rw [Nat.add_assoc]
  · rw [kUpd_ne (by omega)]
    exact a2 j (by omega)
theorem rT_nil {v : Int} : rTl fw mm b [] v v := by
  intro x3 i y g z hs hz hl h0
  exact ⟨g, rfl, h0, fun _ _ => rfl⟩
/-! sums -/
theorem sOK_l {K : Nat → Int} {nx : Nat → Nat} (hF : lF e4 fw mm b) : ∀ m j r cs rs, pLp K nx 1007 [] [(13, 0)] (pPart K nx) m j true r cs rs → ∀ v0, kW v0 = v0 → ∃ v, kW v = v ∧ (∀ (e1 : Nat → Int) (x : Int) (i : Nat) (q B : Int), sgC e1 i cs → ((i + cs.length : Nat) : Int) ≤ x → F_z_Law_holds_l2 e1 e4 x ((i : Int), v0, q, B) = F_z_Law_holds_l2 e1 e4 x (((i + cs.length : Nat) : Int), v, q, B)) ∧ rTl fw mm b rs v0 v
  | 0, j, r, cs, rs, h, v0, hv0 => by
    obtain ⟨_, _, _, rfl, rfl⟩ := h
    exact ⟨v0, hv0, fun e1 x i q B _ _ => rfl, rT_nil⟩
  | m + 1, j, r, cs, rs, h, v0, hv0 => by
    rcases h.2 with ⟨h1, _⟩ | ⟨j2, c1, r1, c2, r2, h1, h2, rfl, rfl⟩
    · exact absurd h1 (by decide)
    · rcases h1 with ⟨hp, _, _, rfl, rfl⟩ | ⟨_, h1, _⟩
      · obtain ⟨f1, f2⟩ := hF.1 _ hp
        obtain ⟨v, hv, hc, hr⟩ := sOK_l hF m _ _ _ _ h2 (kW (v0 + cPv e4 (K (nx j)))) (kW_kW _)
        refine ⟨v, hv, fun e1 x i q B hs hl => ?_, ?_⟩
        · obtain ⟨s1, s2⟩ := hs
          simp only [List.length_append, List.length_cons, List.length_nil] at hl ⊢
          rw [cl_part (by omega) s1 hp, hc e1 x (i + 1) q B s2 (by omega)]
          rw [show i + 1 + c2.length = i + (0 + 1 + (0 + c2.length)) from by omega]
        · have q1 : rTl fw mm b ([pPr (K (nx j))] ++ [(13, 0)]) v0 (kW (v0 + cPv e4 (K (nx j)))) := by
            refine rT_op (v1 := cPv e4 (K (nx j))) (rT_pushP pPr_le f1) ?_
            · intro x3 i y g z hz hi ho g0 g1
              rw [rl_add hz hi ho, g0, g1]
          rw [← List.append_assoc]
          exact rT_seqv q1 hr
      · exact absurd h1 (by decide)
theorem sOK {K : Nat → Int} {nx : Nat → Nat} (hF : lF e4 fw mm b) {j r : Nat} {cs : List Int} {rs : List (Int × Int)} (h : pSum K nx j true r cs rs) : ∃ v, kW v = v ∧ (∀ (e1 : Nat → Int) (x : Int) (i : Nat) (q B : Int), sgC e1 i cs → ((i + cs.length : Nat) : Int) ≤ x → F_z_Law_holds_l2 e1 e4 x ((i : Int), 0, q, B) = F_z_Law_holds_l2 e1 e4 x (((i + cs.length : Nat) : Int), v, q, B)) ∧ rTv fw mm b rs v := by
  rcases h with ⟨h1, _⟩ | ⟨j2, c1, r1, c2, r2, h1, ⟨m, h2⟩, rfl, rfl⟩
  · exact absurd h1 (by decide)
  · rcases h1 with ⟨hp, _, _, rfl, rfl⟩ | ⟨_, h1, _⟩
    · obtain ⟨f1, f2⟩ := hF.1 _ hp
      obtain ⟨v, hv, hc, hr⟩ := sOK_l hF m _ _ _ _ h2 (cPv e4 (K j)) f2
      refine ⟨v, hv, fun e1 x i q B hs hl => ?_, rT_seq (rT_pushP pPr_le f1) hr⟩
      · obtain ⟨s1, s2⟩ := hs
        simp only [List.length_append, List.length_cons, List.length_nil] at hl ⊢
        rw [cl_part (by omega) s1 hp, show (0 : Int) + cPv e4 (K j) = cPv e4 (K j) from by omega, f2, hc e1 x (i + 1) q B s2 (by omega)]
        rw [show i + 1 + c2.length = i + (0 + 1 + c2.length) from by omega]
    · exact absurd h1 (by decide)
/-! truths; h: how high the class's pile of bits may grow -/
def cTv (e4 : Nat → Int) (h : Nat) (cs : List Int) (t : Bool) : Prop := ∀ (e1 : Nat → Int) (x : Int) (i D : Nat) (q B : Int) (st : Nat → Bool), sgC e1 i cs → ((i + cs.length : Nat) : Int) ≤ x → D + h ≤ 32 → bB D B st → ∃ q' B', F_z_Law_holds_l2 e1 e4 x ((i : Int), 0, q, B) = F_z_Law_holds_l2 e1 e4 x (((i + cs.length : Nat) : Int), 0, q', B') ∧ bB (D + 1) B' (bPush t st)
def cTl (e4 : Nat → Int) (h : Nat) (cs : List Int) (t0 t : Bool) : Prop := ∀ (e1 : Nat → Int) (x : Int) (i D : Nat) (q B : Int) (st : Nat → Bool), sgC e1 i cs → ((i + cs.length : Nat) : Int) ≤ x → D + h ≤ 32 → bB (D + 1) B (bPush t0 st) → ∃ q' B', F_z_Law_holds_l2 e1 e4 x ((i : Int), 0, q, B) = F_z_Law_holds_l2 e1 e4 x (((i + cs.length : Nat) : Int), 0, q', B') ∧ bB (D + 1) B' (bPush t st)
theorem cTl_nil {h : Nat} {t : Bool} : cTl e4 h [] t t := fun e1 x i D q B st _ _ _ hb => ⟨q, B, rfl, hb⟩
theorem cT_seq {h : Nat} {c1 c2 : List Int} {t0 t : Bool} (h1 : cTv e4 h c1 t0) (h2 : cTl e4 h c2 t0 t) : cTv e4 h (c1 ++ c2) t := by
  intro e1 x i D q B st hs hl hD hb
  obtain ⟨s1, s2⟩ := sgC_app c1 c2 i hs
  rw [List.length_append] at hl
  obtain ⟨q1, B1, a1, a2⟩ := h1 e1 x i D q B st s1 (by omega) hD hb
  obtain ⟨q2, B2, d1, d2⟩ := h2 e1 x (i + c1.length) D q1 B1 st s2 (by omega) hD a2
  refine ⟨q2, B2, ?_, d2⟩
  rw [a1, d1, List.length_append, Nat.add_assoc]
theorem cT_seqv {h : Nat} {c1 c2 : List Int} {t0 t1 t : Bool} (h1 : cTl e4 h c1 t0 t1) (h2 : cTl e4 h c2 t1 t) : cTl e4 h (c1 ++ c2) t0 t := by
  intro e1 x i D q B st hs hl hD hb
  obtain ⟨s1, s2⟩ := sgC_app c1 c2 i hs
  rw [List.length_append] at hl
  obtain ⟨q1, B1, a1, a2⟩ := h1 e1 x i D q B st s1 (by omega) hD hb
  obtain ⟨q2, B2, d1, d2⟩ := h2 e1 x (i + c1.length) D q1 B1 st s2 (by omega) hD a2
  refine ⟨q2, B2, ?_, d2⟩
  rw [a1, d1, List.length_append, Nat.add_assoc]
theorem cTv_up {h h' : Nat} {cs : List Int} {t : Bool} (q : cTv e4 h cs t) (hh : h ≤ h') : cTv e4 h' cs t := fun e1 x i D a B st s l hD hb => q e1 x i D a B st s l (by omega) hb
theorem cT_and {h : Nat} {c1 : List Int} {t0 t1 : Bool} (h0 : 1 ≤ h) (h1 : cTv e4 h c1 t1) : cTl e4 (h + 1) (c1 ++ [1029]) t0 (t0 && t1) := by
  intro e1 x i D q B st hs hl hD hb
  obtain ⟨s1, s2, _⟩ := sgC_app c1 [1029] i hs
  simp only [List.length_append, List.length_cons, List.length_nil] at hl ⊢
  obtain ⟨q1, B1, a1, a2⟩ := h1 e1 x i (D + 1) q B _ s1 (by omega) (by omega) hb
  refine ⟨q1, _, ?_, bB_and a2 (by omega)⟩
  rw [a1, cl_and (by omega) s2, Nat.add_assoc]
theorem cT_or {h : Nat} {c1 : List Int} {t0 t1 : Bool} (h0 : 1 ≤ h) (h1 : cTv e4 h c1 t1) : cTl e4 (h + 1) (c1 ++ [1028]) t0 (t0 || t1) := by
  intro e1 x i D q B st hs hl hD hb
  obtain ⟨s1, s2, _⟩ := sgC_app c1 [1028] i hs
  simp only [List.length_append, List.length_cons, List.length_nil] at hl ⊢
  obtain ⟨q1, B1, a1, a2⟩ := h1 e1 x i (D + 1) q B _ s1 (by omega) (by omega) hb
  refine ⟨q1, _, ?_, bB_or a2 (by omega)⟩
  rw [a1, cl_or (by omega) s2, Nat.add_assoc]
theorem rT_and {r1 : List (Int × Int)} {t0 t1 : Bool} (h1 : rTv fw mm b r1 (bI t1)) : rTl fw mm b (r1 ++ [(17, 0)]) (bI t0) (bI (t0 && t1)) := by
  refine rT_op h1 ?_
  intro x3 i y g z hz hi ho g0 g1
  refine rl_and hz hi ho ?_
  rw [g0, g1]
  cases t0 <;> cases t1 <;> decide
theorem rT_or {r1 : List (Int × Int)} {t0 t1 : Bool} (h1 : rTv fw mm b r1 (bI t1)) : rTl fw mm b (r1 ++ [(18, 0)]) (bI t0) (bI (t0 || t1)) := by
  refine rT_op h1 ?_
  intro x3 i y g z hz hi ho g0 g1
  refine rl_or hz hi ho ?_
  rw [g0, g1]
  cases t0 <;> cases t1 <;> decide
def plOK (e4 fw : Nat → Int) (mm b : Int) (h : Nat) (A : pR) : Prop := ∀ i r cs rs, A i true r cs rs → ∃ t, cTv e4 h cs t ∧ rTv fw mm b rs (bI t)
theorem plOK_and {K : Nat → Int} {nx : Nat → Nat} {A : pR} {h : Nat} (h0 : 1 ≤ h) (hA : plOK e4 fw mm b h A) : ∀ m j r cs rs, pLp K nx 1029 [1029] [(17, 0)] A m j true r cs rs → ∀ t0, ∃ t, cTl e4 (h + 1) cs t0 t ∧ rTl fw mm b rs (bI t0) (bI t)
  | 0, j, r, cs, rs, q, t0 => by
    obtain ⟨_, _, _, rfl, rfl⟩ := q
    exact ⟨t0, cTl_nil, rT_nil⟩
  | m + 1, j, r, cs, rs, q, t0 => by
    rcases q.2 with ⟨q1, _⟩ | ⟨j2, c1, r1, c2, r2, q1, q2, rfl, rfl⟩
    · exact absurd q1 (by decide)
    · obtain ⟨t1, a1, a2⟩ := hA _ _ _ _ q1
      obtain ⟨t, d1, d2⟩ := plOK_and h0 hA m _ _ _ _ q2 (t0 && t1)
      refine ⟨t, ?_, ?_⟩
      · rw [← List.append_assoc]
        exact cT_seqv (cT_and h0 a1) d1
      · rw [← List.append_assoc]
        exact rT_seqv (rT_and a2) d2
theorem plOK_or {K : Nat → Int} {nx : Nat → Nat} {A : pR} {h : Nat} (h0 : 1 ≤ h) (hA : plOK e4 fw mm b h A) : ∀ m j r cs rs, pLp K nx 1028 [1028] [(18, 0)] A m j true r cs rs → ∀ t0, ∃ t, cTl e4 (h + 1) cs t0 t ∧ rTl fw mm b rs (bI t0) (bI t)
  | 0, j, r, cs, rs, q, t0 => by
    obtain ⟨_, _, _, rfl, rfl⟩ := q
    exact ⟨t0, cTl_nil, rT_nil⟩
  | m + 1, j, r, cs, rs, q, t0 => by
    rcases q.2 with ⟨q1, _⟩ | ⟨j2, c1, r1, c2, r2, q1, q2, rfl, rfl⟩
    · exact absurd q1 (by decide)
    · obtain ⟨t1, a1, a2⟩ := hA _ _ _ _ q1
      obtain ⟨t, d1, d2⟩ := plOK_or h0 hA m _ _ _ _ q2 (t0 || t1)
      refine ⟨t, ?_, ?_⟩
      · rw [← List.append_assoc]
        exact cT_seqv (cT_or h0 a1) d1
      · rw [← List.append_assoc]
        exact rT_seqv (rT_or a2) d2
theorem plOK_sand {K : Nat → Int} {nx : Nat → Nat} {A : pR} {h : Nat} (h0 : 1 ≤ h) (hA : plOK e4 fw mm b h A) : plOK e4 fw mm b (h + 1) (pSeq K nx 1029 [1029] [(17, 0)] A) := by
  intro i r cs rs q
  rcases q with ⟨q1, _⟩ | ⟨j, c1, r1, c2, r2, q1, ⟨m, q2⟩, rfl, rfl⟩
  · exact absurd q1 (by decide)
  · obtain ⟨t1, a1, a2⟩ := hA _ _ _ _ q1
    obtain ⟨t, d1, d2⟩ := plOK_and h0 hA m _ _ _ _ q2 t1
    exact ⟨t, cT_seq (cTv_up a1 (by omega)) d1, rT_seq a2 d2⟩
theorem plOK_sor {K : Nat → Int} {nx : Nat → Nat} {A : pR} {h : Nat} (h0 : 1 ≤ h) (hA : plOK e4 fw mm b h A) : plOK e4 fw mm b (h + 1) (pSeq K nx 1028 [1028] [(18, 0)] A) := by
  intro i r cs rs q
  rcases q with ⟨q1, _⟩ | ⟨j, c1, r1, c2, r2, q1, ⟨m, q2⟩, rfl, rfl⟩
  · exact absurd q1 (by decide)
  · obtain ⟨t1, a1, a2⟩ := hA _ _ _ _ q1
    obtain ⟨t, d1, d2⟩ := plOK_or h0 hA m _ _ _ _ q2 t1
    exact ⟨t, cT_seq (cTv_up a1 (by omega)) d1, rT_seq a2 d2⟩
theorem rT_not {r1 : List (Int × Int)} {t : Bool} (h1 : rTv fw mm b r1 (bI t)) : rTv fw mm b (r1 ++ [(16, 0)]) (bI (!t)) := by
  refine rT_seq h1 ?_
  intro x3 i y g z hs hz hl h0
  obtain ⟨s1, s2, _⟩ := hs
  refine ⟨kUpd g y (bI (!t)), ?_, kUpd_at, fun j hj => kUpd_ne (by omega)⟩
  have := rl_not (g := g) (y := y) (mm := mm) (b := b) hz (show (i : Int) < z by simp only [List.length_cons, List.length_nil] at hl; omega) s1
  rw [h0, show kW (1 - bI t) = bI (!t) from by cases t <;> decide] at this
  exact this
theorem cT_not {h : Nat} {c1 : List Int} {t : Bool} (h1 : cTv e4 h c1 t) : cTv e4 h (c1 ++ [1030]) (!t) := by
  refine cT_seq h1 ?_
  intro e1 x i D q B st hs hl hD hb
  obtain ⟨s1, _⟩ := hs
  simp only [List.length_cons, List.length_nil] at hl ⊢
  refine ⟨q, _, ?_, bB_not hb⟩
  rw [cl_not (by omega) s1]
theorem plOK_cmp {K : Nat → Int} {nx : Nat → Nat} (hF : lF e4 fw mm b) : plOK e4 fw mm b 1 (pCmp K nx) := by
  intro i r cs rs q
  rcases q with ⟨q1, _⟩ | ⟨j, c1, r1, q1, q2⟩
  · exact absurd q1 (by decide)
  · rcases q2 with ⟨_, _, q2, _⟩ | ⟨k1, q2⟩
    · exact absurd q2 (by decide)
    · rcases q2 with ⟨q2, _⟩ | ⟨c2, r2, q2, _, rfl, rfl⟩
      · exact absurd q2 (by decide)
      · obtain ⟨v1, w1, a1, a2⟩ := sOK hF q1
        obtain ⟨v2, w2, d1, d2⟩ := sOK hF q2
        rcases k1 with k1 | k1
        · have ht : ∃ t : Bool, (v2 ≤ v1 ∧ t = false) ∨ (¬ v2 ≤ v1 ∧ t = true) := by
            by_cases c : v2 ≤ v1
            · exact ⟨false, Or.inl ⟨c, rfl⟩⟩
            · exact ⟨true, Or.inr ⟨c, rfl⟩⟩
          obtain ⟨t, ht⟩ := ht
          rw [k1]
          refine ⟨t, ?_, rT_seq a2 (rT_op d2 ?_)⟩
          · intro e1 x i D q B st hs hl hD hb
            obtain ⟨s1, s2, s3⟩ := sgC_app c1 _ i hs
            obtain ⟨s4, s5, _⟩ := sgC_app c2 [1005] _ s3
            simp only [List.length_append, List.length_cons, List.length_nil] at hl ⊢
            refine ⟨v1, _, ?_, bB_push hb (by omega) t⟩
            rw [a1 e1 x i q B s1 (by omega), cl_turn (by omega) s2, d1 e1 x _ v1 B s4 (by omega), cl_less (by omega) s5 ht]
            congr 2
            omega
          · intro x3 i y g z hz hi ho g0 g1
            refine rl_less hz hi ho ?_
            rw [g0, g1]
            exact ht
        · have ht : ∃ t : Bool, (v1 ≤ v2 ∧ t = false) ∨ (¬ v1 ≤ v2 ∧ t = true) := by
            by_cases c : v1 ≤ v2
            · exact ⟨false, Or.inl ⟨c, rfl⟩⟩
            · exact ⟨true, Or.inr ⟨c, rfl⟩⟩
          obtain ⟨t, ht⟩ := ht
          rw [k1]
          refine ⟨t, ?_, rT_seq a2 (rT_op d2 ?_)⟩
          · intro e1 x i D q B st hs hl hD hb
            obtain ⟨s1, s2, s3⟩ := sgC_app c1 _ i hs
            obtain ⟨s4, s5, _⟩ := sgC_app c2 [1006] _ s3
            simp only [List.length_append, List.length_cons, List.length_nil] at hl ⊢
            refine ⟨v1, _, ?_, bB_push hb (by omega) t⟩
            rw [a1 e1 x i q B s1 (by omega), cl_turn (by omega) s2, d1 e1 x _ v1 B s4 (by omega), cl_more (by omega) s5 ht]
            congr 2
            omega
          · intro x3 i y g z hz hi ho g0 g1
            refine rl_more hz hi ho ?_
            rw [g0, g1]
            exact ht
theorem plOK_atZ {K : Nat → Int} {nx : Nat → Nat} {P N : pR} {h : Nat} (h0 : 1 ≤ h) (hF : lF e4 fw mm b) (hP : plOK e4 fw mm b h P) (hN : plOK e4 fw mm b h N) : plOK e4 fw mm b h (pAtZ K nx P N) := by
  intro i r cs rs q
  rcases q with ⟨q1, _, _, rfl, rfl⟩ | ⟨_, q⟩ | ⟨_, q⟩ | ⟨_, _, _, q⟩
  · obtain ⟨t, f1, f2⟩ := hF.2 _ q1
    have hk : K i = 1031 ∨ K i = 1032 ∨ K i = 1033 := by
      unfold pTg at q1
      repeat' split at q1
      all_goals omega
    refine ⟨t, ?_, rT_push ?_ f2⟩
    · intro e1 x i2 D q B st hs hl hD hb
      obtain ⟨s1, _⟩ := hs
      simp only [List.length_cons, List.length_nil] at hl ⊢
      refine ⟨q, _, ?_, bB_push hb (by omega) t⟩
      rw [← f1]
      rcases hk with hk | hk | hk
      · rw [hk] at s1 ⊢; rw [cl_t1 (by omega) s1]
      · rw [hk] at s1 ⊢; rw [cl_t2 (by omega) s1]
      · rw [hk] at s1 ⊢; rw [cl_t3 (by omega) s1]
    · rcases hk with hk | hk | hk <;> rw [hk] <;> decide
  · exact hP _ _ _ _ q
  · exact hN _ _ _ _ q
  · obtain ⟨t, a1, a2⟩ := plOK_cmp hF _ _ _ _ q
    exact ⟨t, cTv_up a1 h0, a2⟩
theorem plOK_no {h : Nat} : plOK e4 fw mm b h pNo := fun i r cs rs q => absurd q.1 (by decide)
theorem plOK_par {K : Nat → Int} {nx : Nat → Nat} {C : pR} {h : Nat} (hC : plOK e4 fw mm b h C) : plOK e4 fw mm b h (pPar K nx C) := by
  intro i r cs rs q
  rcases q with ⟨q1, _⟩ | ⟨j, c1, r1, q1, ⟨_, _, _, rfl, rfl⟩ | ⟨_, q2, _⟩⟩
  · exact absurd q1 (by decide)
  · exact hC _ _ _ _ q1
  · exact absurd q2 (by decide)
theorem plOK_not {nx : Nat → Nat} {A : pR} {h : Nat} (hA : plOK e4 fw mm b h A) : plOK e4 fw mm b h (pNot nx A) := by
  intro i r cs rs q
  rcases q with ⟨q1, _⟩ | ⟨c1, r1, q1, _, rfl, rfl⟩
  · exact absurd q1 (by decide)
  · obtain ⟨t, a1, a2⟩ := hA _ _ _ _ q1
    exact ⟨!t, cT_not a1, rT_not a2⟩
theorem plOK_up {A : pR} {h h' : Nat} (hA : plOK e4 fw mm b h A) (hh : h ≤ h') : plOK e4 fw mm b h' A := fun i r cs rs q => by
  obtain ⟨t, a1, a2⟩ := hA _ _ _ _ q
  exact ⟨t, cTv_up a1 hh, a2⟩
theorem plOK_atom {K : Nat → Int} {nx : Nat → Nat} (hF : lF e4 fw mm b) : ∀ d, plOK e4 fw mm b (2 * d + 1) (pAtom K nx d)
  | 0 => plOK_atZ (by omega) hF plOK_no plOK_no
  | d + 1 => plOK_atZ (by omega) hF (plOK_par (plOK_sor (by omega) (plOK_sand (by omega) (plOK_atom hF d)))) (plOK_up (plOK_not (plOK_atom hF d)) (by omega))
theorem plOK_cond {K : Nat → Int} {nx : Nat → Nat} (hF : lF e4 fw mm b) (d : Nat) : plOK e4 fw mm b (2 * d + 3) (pCond K nx d) := plOK_sor (by omega) (plOK_sand (by omega) (plOK_atom hF d))
/-- a LINE's condition (or none) -/
def lLn (cs : List Int) (rs : List (Int × Int)) : Prop := (cs = [] ∧ rs = []) ∨ ∃ (K : Nat → Int) (nx : Nat → Nat) (i r : Nat), pCond K nx 6 i true r cs rs
theorem line_same {cs : List Int} {rs : List (Int × Int)} (hF : lF e4 fw mm b) (h : lLn cs rs) : ∃ t : Bool, (∀ (e1 : Nat → Int) (i : Nat), sgC e1 i cs → F_z_Law_holds_l2 e1 e4 ((i + cs.length : Nat) : Int) ((i : Int), 0, 0, 1) = bI t) ∧ (∀ (x3 : Int) (i : Nat) (g : Nat → Int), sgR fw i rs → fw (x3 + 2).toNat = ((i + rs.length : Nat) : Int) → ∃ g', F_r_holdsLine_l1 fw mm b x3 ((i : Int), 0, g) = (bI t, g')) := by
  rcases h with ⟨rfl, rfl⟩ | ⟨K, nx, j, r, h⟩
  · refine ⟨true, fun e1 i _ => cl_end (by simp only [List.length_nil]; omega) (by decide), fun x3 i g _ hz => ⟨g, rl_end hz (by simp only [List.length_nil]; omega)⟩⟩
  · obtain ⟨t, a1, a2⟩ := plOK_cond hF 6 _ _ _ _ h
    refine ⟨t, fun e1 i hs => ?_, fun x3 i g hs hz => ?_⟩
    · obtain ⟨q', B', d1, d2⟩ := a1 e1 _ i 0 0 1 (fun _ => false) hs (Int.le_refl _) (by omega) (fun _ h => absurd h (by omega))
      rw [d1]
      exact cl_end (Int.le_refl _) (bB_read d2)
    · obtain ⟨g', d1, d2, _⟩ := a2 x3 i 0 g _ hs hz (Int.le_refl _)
      refine ⟨g', ?_⟩
      exact d1.trans (rl_end1 hz (Int.le_refl _) d2)
end LI
