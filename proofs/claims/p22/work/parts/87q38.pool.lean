/-! The whole relation between class and reference: laws and kept camps in pools. -/
abbrev LawG : Type := Nat × (Nat × Nat × Nat × Nat) × (Nat × Nat × Nat) × ((Nat → Int32) × (Nat → Int32) × (Nat → Int32) × (Nat → Int32))
abbrev CampG : Type := Nat × (Nat × Nat × Nat) × (Int32 × Int32 × Int32 × Int32 × Int32 × Int32 × Int32 × Int32 × Int32) × Option Nat × ((Nat → Int32) × (Nat → Int32) × (Nat → Int64))
/-- what of a law does not change -/
def lkey (q : LawG) : Nat × (Nat × Nat × Nat) × (Nat → Int32) × (Nat → Int32) × (Nat → Int32) := (q.1, q.2.2.1, q.2.2.2.1, q.2.2.2.2.1, q.2.2.2.2.2.1)
def kC9 (B : Nat) (mc sc tx nr ra ru dy wa se : Int) (f1 f2 : Nat → Int) (f3 : Nat → Int64) (g : Nat → Int) : Prop := RC mc sc tx nr ra ru dy wa se f1 f2 f3 g ∧ RZ sc wa f3 ∧ wa ≤ 10 * (B : Int) ∧ 0 ≤ tx ∧ tx ≤ 10
def kLw (Ls : List LawG) (lw : Option Nat) (g : Nat → Int) : Prop := (lw = none ∧ g 3 = 0) ∨ (g 3 = 1 ∧ ∃ q ∈ Ls, lw = some q.1 ∧ LW q.2.2.1.1 q.2.2.1.2.1 q.2.2.1.2.2 (gT q.2.2.2.1) (gT q.2.2.2.2.1) (gT q.2.2.2.2.2.1) g)
def kPi (B : Nat) (Ls : List LawG) (pd mc sc tx nr ra ru dy wa se : Int) (lw : Option Nat) (f1 f2 : Nat → Int) (f3 : Nat → Int64) (g : Nat → Int) : Prop := pd ≠ 0 → kC9 B mc sc tx nr ra ru dy wa se f1 f2 f3 g ∧ kLw Ls lw g
def cgC (B : Nat) (q : CampG) (g : Nat → Int) : Prop := kC9 B q.2.2.1.1.toInt q.2.2.1.2.1.toInt q.2.2.1.2.2.1.toInt q.2.2.1.2.2.2.1.toInt q.2.2.1.2.2.2.2.1.toInt q.2.2.1.2.2.2.2.2.1.toInt q.2.2.1.2.2.2.2.2.2.1.toInt q.2.2.1.2.2.2.2.2.2.2.1.toInt q.2.2.1.2.2.2.2.2.2.2.2.toInt (gT q.2.2.2.2.1) (gT q.2.2.2.2.2.1) q.2.2.2.2.2.2 g
def rgP (nw j : Nat) : Nat := (nw + 12 - j) % 12
def kPa (B : Nat) (Cs : List CampG) (nw zz : Int) (kf : Nat → Option Nat) (lw : Option Nat) (re : Int) (fc : Nat → Int) (h3 : Int) : Prop := 0 ≤ nw ∧ nw ≤ 11 ∧ 0 ≤ zz ∧ zz ≤ 12 ∧ re = zz ∧ (∀ i j, i < 12 → j < 12 → i ≠ j → kf i ≠ none → kf i ≠ kf j) ∧ ∀ j : Nat, (j : Int) < zz → ∃ q ∈ Cs, kf (rgP nw.toNat j) = some q.1 ∧ q.2.2.2.1 = lw ∧ rSl re.toNat fc j 3 = h3 ∧ cgC B q (rSl re.toNat fc j)
/-- what remembering writes -/
def kRmb (mc sc tx nr ra ru dy wa se : Int) (f1 f2 : Nat → Int) (f3 : Nat → Int64) (zz nn : Int) (nw' zz' mc' sc' tx' nr' ra' ru' dy' wa' se' : Int) (h1 h2 : Nat → Int) (h3 : Nat → Int64) : Prop := nw' = nn ∧ zz' = (if zz = 12 then 12 else zz + 1) ∧ mc' = mc ∧ sc' = sc ∧ tx' = tx ∧ nr' = nr ∧ ra' = ra ∧ ru' = ru ∧ dy' = dy ∧ wa' = wa ∧ se' = se ∧ (∀ i, i < 50 → h1 i = f1 i) ∧ (∀ i, i < 72 → h2 i = f2 i) ∧ (∀ i, i < 30 → h3 i = f3 i)
section WH
variable {B B' : Nat} {Ls Ls' : List LawG} {Cs Cs' Cs1 : List CampG} {mc sc tx nr ra ru dy wa se pd nw zz nn re h3 : Int} {f1 f2 g g' fc : Nat → Int} {f3 : Nat → Int64} {lw : Option Nat} {kf : Nat → Option Nat}
theorem kC9_up (h : kC9 B mc sc tx nr ra ru dy wa se f1 f2 f3 g) (hB : B ≤ B') : kC9 B' mc sc tx nr ra ru dy wa se f1 f2 f3 g := ⟨h.1, h.2.1, by have := h.2.2.1; omega, h.2.2.2.1, h.2.2.2.2⟩
theorem kC9_cg {d1 d2 : Nat → Int} {d3 : Nat → Int64} (h : kC9 B mc sc tx nr ra ru dy wa se f1 f2 f3 g) (hB : B ≤ B') (h1 : ∀ i, i < 50 → d1 i = f1 i) (h2 : ∀ i, i < 72 → d2 i = f2 i) (h3 : ∀ i, i < 30 → d3 i = f3 i) (hg : ∀ i, i < 505 → g' i = g i) : kC9 B' mc sc tx nr ra ru dy wa se d1 d2 d3 g' := ⟨RC_cg h.1 h1 h2 h3 hg, RZ_cg h.2.1 h3, by have := h.2.2.1; omega, h.2.2.2.1, h.2.2.2.2⟩
theorem kLw_mono (h : kLw Ls lw g) (m : ∀ q ∈ Ls, ∃ q' ∈ Ls', lkey q' = lkey q) : kLw Ls' lw g := by
  rcases h with h | ⟨h3, q, hq, e, hL⟩
  · exact Or.inl h
  · obtain ⟨q', hq', ek⟩ := m q hq
    refine Or.inr ⟨h3, q', hq', ?_, ?_⟩
    · rw [e]
      exact congrArg some (congrArg Prod.fst ek).symm
    · have e1 : q'.2.2.1 = q.2.2.1 := congrArg (fun z => z.2.1) ek
      have e2 : q'.2.2.2.1 = q.2.2.2.1 := congrArg (fun z => z.2.2.1) ek
      have e3 : q'.2.2.2.2.1 = q.2.2.2.2.1 := congrArg (fun z => z.2.2.2.1) ek
      have e4 : q'.2.2.2.2.2.1 = q.2.2.2.2.2.1 := congrArg (fun z => z.2.2.2.2) ek
      rw [e1, e2, e3, e4]
      exact hL
theorem kLw_cg (h : kLw Ls lw g) (h3 : g' 3 = g 3) (h5 : ∀ j, 505 ≤ j → g' j = g j) : kLw Ls lw g' := by
  rcases h with ⟨e, h⟩ | ⟨h, q, hq, e, hL⟩
  · exact Or.inl ⟨e, h3.trans h⟩
  · exact Or.inr ⟨h3.trans h, q, hq, e, LW_cg2 h5 hL⟩
theorem mono_lk {L1 : List LawG} {c c' : LawG} (h : ∀ z : LawG, z ∈ Ls ↔ z = c ∨ z ∈ L1) (e : lkey c' = lkey c) : ∀ q ∈ Ls, ∃ q' ∈ c' :: L1, lkey q' = lkey q := fun q hq => ((h q).mp hq).elim (fun z => ⟨c', List.mem_cons_self, by rw [z]; exact e⟩) (fun z => ⟨q, List.mem_cons_of_mem _ z, rfl⟩)
theorem mono_lself : ∀ q ∈ Ls, ∃ q' ∈ Ls, lkey q' = lkey q := fun q h => ⟨q, h, rfl⟩
theorem mono_lcons {c : LawG} : ∀ q ∈ Ls, ∃ q' ∈ c :: Ls, lkey q' = lkey q := fun q h => ⟨q, List.mem_cons_of_mem _ h, rfl⟩
theorem kPi_up (h : kPi B Ls pd mc sc tx nr ra ru dy wa se lw f1 f2 f3 g) (hB : B ≤ B') (m : ∀ q ∈ Ls, ∃ q' ∈ Ls', lkey q' = lkey q) : kPi B' Ls' pd mc sc tx nr ra ru dy wa se lw f1 f2 f3 g := fun hp => ⟨kC9_up (h hp).1 hB, kLw_mono (h hp).2 m⟩
theorem cgC_up {q : CampG} (h : cgC B q g) (hB : B ≤ B') (hg : ∀ i, i < 505 → g' i = g i) : cgC B' q g' := kC9_cg h hB (fun _ _ => rfl) (fun _ _ => rfl) (fun _ _ => rfl) hg
theorem kPa_up (h : kPa B Cs nw zz kf lw re fc h3) (hB : B ≤ B') (m : ∀ q ∈ Cs, q ∈ Cs') : kPa B' Cs' nw zz kf lw re fc h3 := by
  obtain ⟨a1, a2, a3, a4, a5, a6, a7⟩ := h
  refine ⟨a1, a2, a3, a4, a5, a6, fun j hj => ?_⟩
  obtain ⟨q, q1, q2, q3, q4, q5⟩ := a7 j hj
  exact ⟨q, m q q1, q2, q3, q4, cgC_up q5 hB (fun _ _ => rfl)⟩
theorem kPa_zero {lw' : Option Nat} {fc' : Nat → Int} {h3' : Int} (h : kPa B Cs nw zz kf lw re fc h3) : kPa B' Cs' nw 0 kf lw' 0 fc' h3' := by
  obtain ⟨a1, a2, a3, a4, a5, a6, a7⟩ := h
  exact ⟨a1, a2, by decide, by decide, rfl, a6, fun j hj => by omega⟩
theorem rgP_nx {a b : Nat} (ha : a ≤ 11) (hb : b = if a < 11 then a + 1 else 0) (j : Nat) : rgP b (j + 1) = rgP a j ∨ 12 ≤ j := by
  unfold rgP
  by_cases c : a < 11
  · rw [if_pos c] at hb
    subst hb
    exact Or.inl (congrArg (· % 12) (by omega))
  · rw [if_neg c] at hb
    subst hb
    by_cases d : 12 ≤ j
    · exact Or.inr d
    · refine Or.inl ?_
      have : a = 11 := by omega
      subst this
      omega
theorem rgP_0 {a : Nat} (ha : a ≤ 11) : rgP a 0 = a := by unfold rgP; omega
theorem rgP_lt {a j : Nat} : rgP a j < 12 := Nat.mod_lt _ (by decide)
theorem rgP_ne {a j k : Nat} (ha : a ≤ 11) (hj : j < 12) (hk : k < 12) (h : rgP a j = rgP a k) : j = k := by
  unfold rgP at h
  omega
/-- a camp is kept in a place where none was, or in one that is used again -/
theorem kPa_rem {kf' : Nat → Option Nat} {nw' zz' re' : Int} {fc' : Nat → Int} {q0 : CampG} (h : kPa B Cs nw zz kf lw re fc h3) (hn : nn = if nw < 11 then nw + 1 else 0) (hB : B ≤ B') (e1 : nn = nw') (e2 : zz' = if zz = 12 then 12 else zz + 1) (hr : (re', fc') = F_r_remembers re g fc) (hg : g 3 = h3) (hd : ∀ i j, i < 12 → j < 12 → i ≠ j → kf' i ≠ none → kf' i ≠ kf' j) (h0 : kf' nn.toNat = some q0.1) (hq0 : q0 ∈ Cs') (hlw : q0.2.2.2.1 = lw) (hc : cgC B' q0 g) (hm : ∀ i, i < 12 → i ≠ nn.toNat → kf' i = kf i ∧ ∀ q ∈ Cs, kf i = some q.1 → q ∈ Cs') : kPa B' Cs' nw' zz' kf' lw re' fc' h3 := by
  obtain ⟨a1, a2, a3, a4, a5, a6, a7⟩ := h
  subst e1
  have hnn : 0 ≤ nn ∧ nn ≤ 11 := by
    by_cases c : nw < 11
    · rw [if_pos c] at hn; omega
    · rw [if_neg c] at hn; omega
  obtain ⟨re', fc2, r1, r2, r3, r4⟩ := r_remembers_ok (re := re.toNat) (fw := g) (fc := fc) (by omega)
  rw [show ((re.toNat : Nat) : Int) = re from by omega] at r1
  rw [r1] at hr
  injection hr with hr1 hr2
  subst hr1 hr2
  have hzz : zz' = (re' : Int) := by
    rw [e2, r2]
    by_cases c : zz = 12
    · rw [if_pos c, if_pos (by omega)]; rfl
    · rw [if_neg c, if_neg (by omega)]; omega
  have hre : re' ≤ 12 := by
    rw [r2]
    split <;> omega
  have hnb : nn.toNat = if nw.toNat < 11 then nw.toNat + 1 else 0 := by
    by_cases c : nw < 11
    · rw [if_pos c] at hn
      rw [if_pos (by omega)]
      omega
    · rw [if_neg c] at hn
      rw [if_neg (by omega)]
      omega
  refine ⟨hnn.1, hnn.2, by omega, by omega, by omega, hd, fun j hj => ?_⟩
  rw [Int.toNat_natCast]
  match j with
  | 0 =>
    refine ⟨q0, hq0, by rw [rgP_0 (by omega)]; exact h0, hlw, (r3 3 (by decide)).trans hg, cgC_up hc (Nat.le_refl _) r3⟩
  | j + 1 =>
    have hj2 : (j : Int) < zz := by
      rw [e2] at hj
      by_cases c : zz = 12
      · rw [if_pos c] at hj; omega
      · rw [if_neg c] at hj; omega
    have hj3 : j + 1 < 12 := by omega
    obtain ⟨q, q1, q2, q3, q4, q5⟩ := a7 j hj2
    have ep : rgP nn.toNat (j + 1) = rgP nw.toNat j := (rgP_nx (by omega) hnb j).elim id (fun z => by omega)
    have en : rgP nw.toNat j ≠ nn.toNat := fun z => by
      rw [← ep] at z
      have z2 : rgP nn.toNat (j + 1) = rgP nn.toNat 0 := by rw [z, rgP_0 (by omega)]
      have := rgP_ne (by omega) hj3 (by omega) z2
      omega
    obtain ⟨m1, m2⟩ := hm _ rgP_lt en
    have sl : ∀ i, i < 505 → rSl re' fc' (j + 1) i = rSl re.toNat fc j i := r4 j (by omega)
    exact ⟨q, m2 q q1 q2, by rw [ep, m1]; exact q2, q3, (sl 3 (by decide)).trans q4, cgC_up q5 hB sl⟩
theorem kPa_undo {nw' zz' re' : Int} (h : kPa B Cs nw zz kf lw re fc h3) (hB : B ≤ B') (hz : 1 ≤ zz) (e1 : nw' = if nw ≤ 0 then 11 else nw - 1) (e2 : zz' = zz - 1) (e3 : re' = ((re.toNat - 1 : Nat) : Int)) (m : ∀ q ∈ Cs, q ∈ Cs') : kPa B' Cs' nw' zz' kf lw re' fc h3 := by
  obtain ⟨a1, a2, a3, a4, a5, a6, a7⟩ := h
  have hb : nw.toNat = if nw'.toNat < 11 then nw'.toNat + 1 else 0 := by
    by_cases c : nw ≤ 0
    · rw [if_pos c] at e1
      rw [if_neg (by omega)]
      omega
    · rw [if_neg c] at e1
      rw [if_pos (by omega)]
      omega
  have hnw : 0 ≤ nw' ∧ nw' ≤ 11 := by
    by_cases c : nw ≤ 0
    · rw [if_pos c] at e1; omega
    · rw [if_neg c] at e1; omega
  refine ⟨hnw.1, hnw.2, by omega, by omega, by omega, a6, fun j hj => ?_⟩
  obtain ⟨q, q1, q2, q3, q4, q5⟩ := a7 (j + 1) (by omega)
  have ep : rgP nw.toNat (j + 1) = rgP nw'.toNat j := (rgP_nx (by omega) hb j).elim id (fun z => by omega)
  have sl : ∀ i, rSl re'.toNat fc j i = rSl re.toNat fc (j + 1) i := fun i => by
    unfold rSl
    exact congrArg fc (by omega)
  exact ⟨q, m q q1, by rw [← ep]; exact q2, q3, (sl 3).trans q4, cgC_up q5 hB (fun i _ => sl i)⟩
/-- places stay different -/
theorem kf_up {a : Nat} (h : ∀ i j, i < 12 → j < 12 → i ≠ j → kf i ≠ none → kf i ≠ kf j) {n : Nat} (hf : ∀ i, i < 12 → kf i ≠ some a) : ∀ i j, i < 12 → j < 12 → i ≠ j → va_up kf n (some a) i ≠ none → va_up kf n (some a) i ≠ va_up kf n (some a) j := by
  intro i j hi hj hij hn
  unfold va_up at hn ⊢
  by_cases c1 : i = n
  · rw [if_pos c1, if_neg (by omega)]
    exact fun z => hf j hj z.symm
  · rw [if_neg c1] at hn ⊢
    by_cases c2 : j = n
    · rw [if_pos c2]
      exact hf i hi
    · rw [if_neg c2]
      exact h i j hi hj hij hn
end WH
