/-! hand, plan, ways, least: the calls. -/
theorem hPre_some {K : Nat → Nat → Bool} {C : Nat → Nat → Nat} {N : Nat} {sel : Nat → Nat} (h : hPre K C N sel N) (q : oV K C N 0 (fun _ => false) = none) : False := by
  cases N with
  | zero => exact absurd q (fun z => by cases z)
  | succ N =>
    obtain ⟨w, _, e⟩ := (h 0 (by omega)).1.2.2
    have e' : oV K C (N + 1 - 1 - 0 + 1) 0 (fun _ => false) = some (C 0 (sel 0) + w) := e
    rw [show N + 1 - 1 - 0 + 1 = N + 1 from by omega, q] at e'
    cases e'
section HN
variable {mc sc tx nr ra ru dy wa se : Int} {f1 f2 : Nat → Int} {f3 : Nat → Int64} {g : Nat → Int} {M1 M2 M3 : Nat} {y1 y2 y3 : Nat → Int}
theorem bc_n (h : RC mc sc tx nr ra ru dy wa se f1 f2 f3 g) (h3 : g 3 = 0) : ∃ (B C0 : Nat → Nat → Nat) (B1 : Nat → Nat → Bool), (∀ m s, C0 m s = 0) ∧ (∀ m s, (m : Nat) < mc.toNat → (s : Nat) < sc.toNat → F_z_Camp_forbids_n sc nr f1 f3 (m : Int) (s : Int) = bI (B1 m s)) ∧ (∀ m s fv, (m : Nat) < mc.toNat → (s : Nat) < sc.toNat → ∃ fv', F_r_isBarredx g fv (m : Int) (s : Int) = (bI (B1 m s), fv')) ∧ (∀ m s fv, (m : Nat) < mc.toNat → (s : Nat) < sc.toNat → ∃ fv', F_r_costOfx g fv (m : Int) (s : Int) = ((C0 m s : Int), fv')) := by
  have q : ∀ x : Nat × Nat, ∃ t : Bool, x.1 < mc.toNat → x.2 < sc.toNat → F_z_Camp_forbids_n sc nr f1 f3 (x.1 : Int) (x.2 : Int) = bI t ∧ ∀ fv, ∃ fv', F_r_isBarredx g fv (x.1 : Int) (x.2 : Int) = (bI t, fv') := fun x => by
    by_cases c : x.1 < mc.toNat ∧ x.2 < sc.toNat
    · obtain ⟨t, t1, t2⟩ := bar_nx h h3 (m := x.1) (s := x.2) (by omega) (by omega)
      exact ⟨t, fun _ _ => ⟨t1, t2⟩⟩
    · exact ⟨false, fun a b => absurd ⟨a, b⟩ c⟩
  obtain ⟨F, hF⟩ := Classical.axiomOfChoice q
  refine ⟨fun _ _ => 0, fun _ _ => 0, fun m s => F (m, s), fun _ _ => rfl, fun m s hm hs => (hF (m, s) hm hs).1, fun m s fv hm hs => (hF (m, s) hm hs).2 fv, fun m s fv hm hs => ⟨fv, cost_nx h3 fv⟩⟩
theorem bc_s (h : RC mc sc tx nr ra ru dy wa se f1 f2 f3 g) (h3 : g 3 = 1) (hL : LW M1 M2 M3 y1 y2 y3 g) (k1 : ∀ i, kW (f1 i) = f1 i) (k2 : ∀ i, kW (f2 i) = f2 i) (kw : kW wa = wa) : ∃ (C0 : Nat → Nat → Nat) (B1 : Nat → Nat → Bool), (∀ m s, C0 m s ≤ 11988) ∧ (∀ m s y4, (m : Nat) < mc.toNat → (s : Nat) < sc.toNat → ∃ y4', F_z_Camp_forbids_s sc nr wa f1 f2 f3 M1 M2 M3 y1 y2 y3 y4 (m : Int) (s : Int) = (bI (B1 m s), y4')) ∧ (∀ m s y4, (m : Nat) < mc.toNat → (s : Nat) < sc.toNat → ∃ y4', F_z_Camp_priceOf_s sc nr wa f1 f2 f3 M1 M2 M3 y1 y2 y3 y4 (m : Int) (s : Int) = ((C0 m s : Int), y4')) ∧ (∀ m s fv, (m : Nat) < mc.toNat → (s : Nat) < sc.toNat → ∃ fv', F_r_isBarredx g fv (m : Int) (s : Int) = (bI (B1 m s), fv')) ∧ (∀ m s fv, (m : Nat) < mc.toNat → (s : Nat) < sc.toNat → ∃ fv', F_r_costOfx g fv (m : Int) (s : Int) = ((C0 m s : Int), fv')) := by
  have q : ∀ x : Nat × Nat, ∃ t : Bool, x.1 < mc.toNat → x.2 < sc.toNat → ∀ y4, (∃ y4', F_z_Camp_forbids_s sc nr wa f1 f2 f3 M1 M2 M3 y1 y2 y3 y4 (x.1 : Int) (x.2 : Int) = (bI t, y4')) ∧ ∀ fv, ∃ fv', F_r_isBarredx g fv (x.1 : Int) (x.2 : Int) = (bI t, fv') := fun x => by
    by_cases c : x.1 < mc.toNat ∧ x.2 < sc.toNat
    · obtain ⟨t, t1⟩ := bar_sx h h3 hL k1 k2 kw (m := x.1) (s := x.2) (by omega) (by omega)
      exact ⟨t, fun _ _ => t1⟩
    · exact ⟨false, fun a b => absurd ⟨a, b⟩ c⟩
  have q2 : ∀ x : Nat × Nat, ∃ v : Nat, v ≤ 11988 ∧ (x.1 < mc.toNat → x.2 < sc.toNat → ∀ y4, (∃ y4', F_z_Camp_priceOf_s sc nr wa f1 f2 f3 M1 M2 M3 y1 y2 y3 y4 (x.1 : Int) (x.2 : Int) = ((v : Int), y4')) ∧ ∀ fv, ∃ fv', F_r_costOfx g fv (x.1 : Int) (x.2 : Int) = ((v : Int), fv')) := fun x => by
    by_cases c : x.1 < mc.toNat ∧ x.2 < sc.toNat
    · obtain ⟨v, v0, v1, v2⟩ := cost_sx h h3 hL k1 k2 kw (m := x.1) (s := x.2) (by omega) (by omega)
      refine ⟨v.toNat, by omega, fun _ _ => ?_⟩
      rw [show ((v.toNat : Nat) : Int) = v from by omega]
      exact v2
    · exact ⟨0, by omega, fun a b => absurd ⟨a, b⟩ c⟩
  obtain ⟨F, hF⟩ := Classical.axiomOfChoice q
  obtain ⟨G, hG⟩ := Classical.axiomOfChoice q2
  exact ⟨fun m s => G (m, s), fun m s => F (m, s), fun m s => (hG (m, s)).1, fun m s y4 hm hs => (hF (m, s) hm hs y4).1, fun m s y4 hm hs => ((hG (m, s)).2 hm hs y4).1, fun m s fv hm hs => (hF (m, s) hm hs y1).2 fv, fun m s fv hm hs => ((hG (m, s)).2 hm hs y1).2 fv⟩
theorem hand_nn0 {nw zz nn : Int} {eb ec en ep es : Nat → Int} {et : Nat → Int64} {re : Int} {fv fn fk fC fg fc : Nat → Int} {fW : Nat → Int64} (h : RC mc sc tx nr ra ru dy wa se f1 f2 f3 g) (h3 : g 3 = 0) : (∃ (bc cc : Int) (et' : Nat → Int64) (eb' ec' en' ep' es' fv' fn' fk' fC' fg' : Nat → Int) (fW' : Nat → Int64), F_z_SW_hand_nn mc sc tx nr ra ru dy wa se f1 f2 f3 et eb ec en ep es nw zz nn 0 = Sum.inr (1, (bc, cc, et', eb', ec', en', ep', es')) ∧ F_r_hand0 re g fv fn fk fW fC fg fc = (0, 1, re, bc, g, fv', fn', fk', fW', fC', fg', fc)) ∨ (∃ (v bc cc : Int) (d1 d2 g' : Nat → Int) (et' : Nat → Int64) (eb' ec' en' ep' es' fv' fn' fk' fC' fg' : Nat → Int) (fW' : Nat → Int64), F_z_SW_hand_nn mc sc tx nr ra ru dy wa se f1 f2 f3 et eb ec en ep es nw zz nn 0 = Sum.inl (v, d1, d2, bc, cc, et', eb', ec', en', ep', es', F_z_Past_remember_n nw zz mc sc tx nr ra ru dy wa se f1 f2 f3 nn) ∧ F_r_hand0 re g fv fn fk fW fC fg fc = (v, 0, (F_r_remembers re g fc).1, v, g', fv', fn', fk', fW', fC', fg', (F_r_remembers re g fc).2) ∧ RC mc sc tx nr ra ru dy wa se d1 d2 f3 g' ∧ g' 3 = g 3 ∧ ∀ j, 505 ≤ j → g' j = g j) := by
  have b1 : 0 ≤ mc := h.2.2.2.2.2.1
  have b2 : mc ≤ 10 := h.2.2.2.2.2.2.1
  have b3 : 0 ≤ sc := h.2.2.2.2.2.2.2.1
  have b4 : sc ≤ 12 := h.2.2.2.2.2.2.2.2.1
  have lN := cnt_le (bB1 f1) mc.toNat
  have hN : cnt (bB1 f1) mc.toNat ≤ 10 := by omega
  have hs : sc.toNat ≤ 12 := by omega
  have hba : ∀ k, k < cnt (bB1 f1) mc.toNat → nth (bB1 f1) mc.toNat k < 10 := fun k hk => by
    have := (nth_ok _ k hk).1
    omega
  obtain ⟨_, C0, B, hC0, cB, rB, rC⟩ := bc_n h h3
  have hC : ∀ m s, C0 m s ≤ 11988 := fun m s => by rw [hC0]; exact Nat.zero_le _
  obtain ⟨eb', ec', en', ep', l1, l2⟩ := c_look_n (eb := eb) (ec := ec) (en := en) (ep := ep) h cB hC0
  obtain ⟨et', es', q⟩ := c_choose (a1 := 0) l2 hN hs hC hba et es
  obtain ⟨fv', fn', fk', fC', fg', fW', r⟩ := pr_plans0 h rB hC rC fv fn fk fC fg fW
  rcases q with ⟨q1, q2⟩ | ⟨q1, sel, q2, q3⟩
  · rcases r with ⟨r1, r2⟩ | ⟨r1, r2, sel2, r3, r4⟩
    · refine Or.inl ⟨(cnt (bB1 f1) mc.toNat : Int), (cnt (bC1 f2) sc.toNat : Int), et', eb', ec', en', ep', es', fv', fn', fk', fC', fg', fW', ?_, ?_⟩
      · unfold F_z_SW_hand_nn
        simp only [kC, kLet, Int32.reduceToInt, l1, q1, ↓reduceIte]
      · unfold F_r_hand0 F_r_throwsIf1_1
        simp only [kC, kLet, Int32.reduceToInt, r1, ↓reduceIte]
    · exact absurd q2 (fun z => hPre_some r3 z)
  · rcases r with ⟨r1, r2⟩ | ⟨r1, r2, sel2, r3, r4⟩
    · exact absurd r2 (fun z => hPre_some q2 z)
    · obtain ⟨d1, d2, d3, _⟩ := hd_RC h q2 _ (Nat.le_refl _)
      have eg : hG (nth (bB1 f1) mc.toNat) sel2 g (cnt (bB1 f1) mc.toNat) = hG (nth (bB1 f1) mc.toNat) sel g (cnt (bB1 f1) mc.toNat) := hG_cg _ (fun i hi => hPre_un r3 q2 hi)
      refine Or.inr ⟨(cnt (bB1 f1) mc.toNat : Int), (cnt (bB1 f1) mc.toNat : Int), (cnt (bC1 f2) sc.toNat : Int), (hD (nth (bB1 f1) mc.toNat) sel f1 f2 (cnt (bB1 f1) mc.toNat)).1, (hD (nth (bB1 f1) mc.toNat) sel f1 f2 (cnt (bB1 f1) mc.toNat)).2, hG (nth (bB1 f1) mc.toNat) sel g (cnt (bB1 f1) mc.toNat), et', eb', ec', en', ep', es', fv', fn', fk', fC', fg', fW', ?_, ?_, d1, d2, d3⟩
      · unfold F_z_SW_hand_nn
        simp only [kC, kLet, Int32.reduceToInt, l1, q1]
        rw [if_neg (by decide)]
        exact c_handl_nn (sel := sel) b1 b2 q3 mc.toNat 0 (by omega)
      · unfold F_r_hand0 F_r_throwsIf0_1
        simp only [kC, kLet, Int32.reduceToInt, r1]
        rw [if_neg (by decide), ← eg]
        exact r_handl0 (sel := sel2) r2 (fun k hk => by
          rw [r4 _ (hba k hk)]
          exact hPut_at (fun i j hi hj => nth_lt hj hi) _ (Nat.le_refl _) hk) _ 0 (Nat.zero_add _)
theorem hand_ns0 {nw zz nn : Int} {eb ec en ep es : Nat → Int} {et : Nat → Int64} {of1 of2 : Nat → Int} {of3 : Nat → Int64} {re : Int} {fv fn fk fC fg fc : Nat → Int} {fW : Nat → Int64} (h : RC mc sc tx nr ra ru dy wa se f1 f2 f3 g) (h3 : g 3 = 0) : (∃ (bc cc : Int) (et' : Nat → Int64) (eb' ec' en' ep' es' fv' fn' fk' fC' fg' : Nat → Int) (fW' : Nat → Int64), F_z_SW_hand_ns mc sc tx nr ra ru dy wa se f1 f2 f3 et eb ec en ep es nw zz nn of1 of2 of3 0 = Sum.inr (1, (bc, cc, et', eb', ec', en', ep', es')) ∧ F_r_hand0 re g fv fn fk fW fC fg fc = (0, 1, re, bc, g, fv', fn', fk', fW', fC', fg', fc)) ∨ (∃ (v bc cc : Int) (d1 d2 g' : Nat → Int) (et' : Nat → Int64) (eb' ec' en' ep' es' fv' fn' fk' fC' fg' : Nat → Int) (fW' : Nat → Int64), F_z_SW_hand_ns mc sc tx nr ra ru dy wa se f1 f2 f3 et eb ec en ep es nw zz nn of1 of2 of3 0 = Sum.inl (v, d1, d2, bc, cc, et', eb', ec', en', ep', es', F_z_Past_remember_s nw zz mc sc tx nr ra ru dy wa se f1 f2 f3 nn of1 of2 of3) ∧ F_r_hand0 re g fv fn fk fW fC fg fc = (v, 0, (F_r_remembers re g fc).1, v, g', fv', fn', fk', fW', fC', fg', (F_r_remembers re g fc).2) ∧ RC mc sc tx nr ra ru dy wa se d1 d2 f3 g' ∧ g' 3 = g 3 ∧ ∀ j, 505 ≤ j → g' j = g j) := by
  have b1 : 0 ≤ mc := h.2.2.2.2.2.1
  have b2 : mc ≤ 10 := h.2.2.2.2.2.2.1
  have b3 : 0 ≤ sc := h.2.2.2.2.2.2.2.1
  have b4 : sc ≤ 12 := h.2.2.2.2.2.2.2.2.1
  have lN := cnt_le (bB1 f1) mc.toNat
  have hN : cnt (bB1 f1) mc.toNat ≤ 10 := by omega
  have hs : sc.toNat ≤ 12 := by omega
  have hba : ∀ k, k < cnt (bB1 f1) mc.toNat → nth (bB1 f1) mc.toNat k < 10 := fun k hk => by
    have := (nth_ok _ k hk).1
    omega
  obtain ⟨_, C0, B, hC0, cB, rB, rC⟩ := bc_n h h3
  have hC : ∀ m s, C0 m s ≤ 11988 := fun m s => by rw [hC0]; exact Nat.zero_le _
  obtain ⟨eb', ec', en', ep', l1, l2⟩ := c_look_n (eb := eb) (ec := ec) (en := en) (ep := ep) h cB hC0
  obtain ⟨et', es', q⟩ := c_choose (a1 := 0) l2 hN hs hC hba et es
  obtain ⟨fv', fn', fk', fC', fg', fW', r⟩ := pr_plans0 h rB hC rC fv fn fk fC fg fW
  rcases q with ⟨q1, q2⟩ | ⟨q1, sel, q2, q3⟩
  · rcases r with ⟨r1, r2⟩ | ⟨r1, r2, sel2, r3, r4⟩
    · refine Or.inl ⟨(cnt (bB1 f1) mc.toNat : Int), (cnt (bC1 f2) sc.toNat : Int), et', eb', ec', en', ep', es', fv', fn', fk', fC', fg', fW', ?_, ?_⟩
      · unfold F_z_SW_hand_ns
        simp only [kC, kLet, Int32.reduceToInt, l1, q1, ↓reduceIte]
      · unfold F_r_hand0 F_r_throwsIf1_1
        simp only [kC, kLet, Int32.reduceToInt, r1, ↓reduceIte]
    · exact absurd q2 (fun z => hPre_some r3 z)
  · rcases r with ⟨r1, r2⟩ | ⟨r1, r2, sel2, r3, r4⟩
    · exact absurd r2 (fun z => hPre_some q2 z)
    · obtain ⟨d1, d2, d3, _⟩ := hd_RC h q2 _ (Nat.le_refl _)
      have eg : hG (nth (bB1 f1) mc.toNat) sel2 g (cnt (bB1 f1) mc.toNat) = hG (nth (bB1 f1) mc.toNat) sel g (cnt (bB1 f1) mc.toNat) := hG_cg _ (fun i hi => hPre_un r3 q2 hi)
      refine Or.inr ⟨(cnt (bB1 f1) mc.toNat : Int), (cnt (bB1 f1) mc.toNat : Int), (cnt (bC1 f2) sc.toNat : Int), (hD (nth (bB1 f1) mc.toNat) sel f1 f2 (cnt (bB1 f1) mc.toNat)).1, (hD (nth (bB1 f1) mc.toNat) sel f1 f2 (cnt (bB1 f1) mc.toNat)).2, hG (nth (bB1 f1) mc.toNat) sel g (cnt (bB1 f1) mc.toNat), et', eb', ec', en', ep', es', fv', fn', fk', fC', fg', fW', ?_, ?_, d1, d2, d3⟩
      · unfold F_z_SW_hand_ns
        simp only [kC, kLet, Int32.reduceToInt, l1, q1]
        rw [if_neg (by decide)]
        exact c_handl_ns (sel := sel) b1 b2 q3 mc.toNat 0 (by omega)
      · unfold F_r_hand0 F_r_throwsIf0_1
        simp only [kC, kLet, Int32.reduceToInt, r1]
        rw [if_neg (by decide), ← eg]
        exact r_handl0 (sel := sel2) r2 (fun k hk => by
          rw [r4 _ (hba k hk)]
          exact hPut_at (fun i j hi hj => nth_lt hj hi) _ (Nat.le_refl _) hk) _ 0 (Nat.zero_add _)
theorem plan_n0 {a : Int} {ne : Int} {eb ec en ep es : Nat → Int} {et : Nat → Int64} {fv fn fk fC fg : Nat → Int} {fW : Nat → Int64} (h : RC mc sc tx nr ra ru dy wa se f1 f2 f3 g) (h3 : g 3 = 0) : (F_z_SW_plan_n mc sc nr f1 f2 f3 et eb ec en ep es a 0 = Sum.inr (1, ()) ∧ F_r_plan0 ne g fv fn fk fW fC fg a = (0, 1, ne, fv, fn, fk, fW, fC, fg)) ∨ (∃ (v bc cc : Int) (et' : Nat → Int64) (eb' ec' en' ep' es' fv' fn' fk' fC' fg' : Nat → Int) (fW' : Nat → Int64), F_z_SW_plan_n mc sc nr f1 f2 f3 et eb ec en ep es a 0 = Sum.inl (v, bc, cc, et', eb', ec', en', ep', es') ∧ F_r_plan0 ne g fv fn fk fW fC fg a = (v, 0, bc, fv', fn', fk', fW', fC', fg')) := by
  have a0 : g 0 = mc := h.1.1
  have b1 : 0 ≤ mc := h.2.2.2.2.2.1
  have b2 : mc ≤ 10 := h.2.2.2.2.2.2.1
  have b3 : 0 ≤ sc := h.2.2.2.2.2.2.2.1
  have b4 : sc ≤ 12 := h.2.2.2.2.2.2.2.2.1
  have lN := cnt_le (bB1 f1) mc.toNat
  have hN : cnt (bB1 f1) mc.toNat ≤ 10 := by omega
  have hs : sc.toNat ≤ 12 := by omega
  have hba : ∀ k, k < cnt (bB1 f1) mc.toNat → nth (bB1 f1) mc.toNat k < 10 := fun k hk => by
    have := (nth_ok _ k hk).1
    omega
  obtain ⟨_, C0, B, hC0, cB, rB, rC⟩ := bc_n h h3
  have hC : ∀ m s, C0 m s ≤ 11988 := fun m s => by rw [hC0]; exact Nat.zero_le _
  obtain ⟨eb', ec', en', ep', l1, l2⟩ := c_look_n (eb := eb) (ec := ec) (en := en) (ep := ep) h cB hC0
  obtain ⟨et', es', q⟩ := c_choose (a1 := 0) l2 hN hs hC hba et es
  obtain ⟨fv', fn', fk', fC', fg', fW', r⟩ := pr_plans0 h rB hC rC fv fn fk fC fg fW
  by_cases ca : 0 ≤ a ∧ a < mc
  · have e1 : F_z_Camp_isMan mc a = 1 := by rw [c_isMan, if_pos ca]
    have e2 : F_r_noMan g a = 0 := by rw [pr_noMan, a0, if_pos ca]
    rcases q with ⟨q1, q2⟩ | ⟨q1, sel, q2, q3⟩
    · rcases r with ⟨r1, r2⟩ | ⟨r1, r2, sel2, r3, r4⟩
      · refine Or.inr ⟨-1, (cnt (bB1 f1) mc.toNat : Int), (cnt (bC1 f2) sc.toNat : Int), et', eb', ec', en', ep', es', fv', fn', fk', fC', fg', fW', ?_, ?_⟩
        · unfold F_z_SW_plan_n
          simp only [kC, kLet, Int32.reduceToInt, e1, l1, q1, show ((-1) : Int32).toInt = -1 from by decide, Int.reduceEq, ↓reduceIte]
        · unfold F_r_plan0 F_r_throwsIf0_1
          simp only [kC, kLet, Int32.reduceToInt, e2, r1, show ((-1) : Int32).toInt = -1 from by decide, ↓reduceIte]
      · exact absurd q2 (fun z => hPre_some r3 z)
    · rcases r with ⟨r1, r2⟩ | ⟨r1, r2, sel2, r3, r4⟩
      · exact absurd r2 (fun z => hPre_some q2 z)
      · have eg : hPut (nth (bB1 f1) mc.toNat) sel2 (cnt (bB1 f1) mc.toNat) = hPut (nth (bB1 f1) mc.toNat) sel (cnt (bB1 f1) mc.toNat) := hPut_cg _ (fun i hi => hPre_un r3 q2 hi)
        have e3 : F_z_Hand_shirtFor es' a = fg' a.toNat := by
          unfold F_z_Hand_shirtFor
          simp only [kLet]
          rw [c_valueAt (by decide), if_pos (by omega), q3 _ (by omega), r4 _ (by omega), eg]
        refine Or.inr ⟨fg' a.toNat, (cnt (bB1 f1) mc.toNat : Int), (cnt (bC1 f2) sc.toNat : Int), et', eb', ec', en', ep', es', fv', fn', fk', fC', fg', fW', ?_, ?_⟩
        · unfold F_z_SW_plan_n
          simp only [kC, kLet, Int32.reduceToInt, e1, l1, q1, e3, Int.reduceEq, ↓reduceIte]
        · unfold F_r_plan0 F_r_throwsIf0_1
          simp only [kC, kLet, Int32.reduceToInt, e2, r1, Int.reduceEq, ↓reduceIte]
  · have e1 : F_z_Camp_isMan mc a = 0 := by rw [c_isMan, if_neg ca]
    have e2 : F_r_noMan g a = 1 := by rw [pr_noMan, a0, if_neg ca]
    refine Or.inl ⟨?_, ?_⟩
    · unfold F_z_SW_plan_n
      simp only [kC, kLet, Int32.reduceToInt, e1, ↓reduceIte]
    · unfold F_r_plan0 F_r_throwsIf1_1
      simp only [kC, kLet, Int32.reduceToInt, e2, Int.reduceEq, ↓reduceIte]
theorem hand_nn1 {nw zz nn : Int} {eb ec en ep es : Nat → Int} {et : Nat → Int64} {re : Int} {fv fn fk fC fg fc : Nat → Int} {fW : Nat → Int64} (h : RC mc sc tx nr ra ru dy wa se f1 f2 f3 g) (h3 : g 3 = 0) : (∃ (bc cc : Int) (et' : Nat → Int64) (eb' ec' en' ep' es' fv' fn' fk' fC' fg' : Nat → Int) (fW' : Nat → Int64), F_z_SW_hand_nn mc sc tx nr ra ru dy wa se f1 f2 f3 et eb ec en ep es nw zz nn 1 = Sum.inr (1, (bc, cc, et', eb', ec', en', ep', es')) ∧ F_r_hand1 re g fv fn fk fW fC fg fc = (0, 1, re, bc, g, fv', fn', fk', fW', fC', fg', fc)) ∨ (∃ (v bc cc : Int) (d1 d2 g' : Nat → Int) (et' : Nat → Int64) (eb' ec' en' ep' es' fv' fn' fk' fC' fg' : Nat → Int) (fW' : Nat → Int64), F_z_SW_hand_nn mc sc tx nr ra ru dy wa se f1 f2 f3 et eb ec en ep es nw zz nn 1 = Sum.inl (v, d1, d2, bc, cc, et', eb', ec', en', ep', es', F_z_Past_remember_n nw zz mc sc tx nr ra ru dy wa se f1 f2 f3 nn) ∧ F_r_hand1 re g fv fn fk fW fC fg fc = (v, 0, (F_r_remembers re g fc).1, v, g', fv', fn', fk', fW', fC', fg', (F_r_remembers re g fc).2) ∧ RC mc sc tx nr ra ru dy wa se d1 d2 f3 g' ∧ g' 3 = g 3 ∧ ∀ j, 505 ≤ j → g' j = g j) := by
  have b1 : 0 ≤ mc := h.2.2.2.2.2.1
  have b2 : mc ≤ 10 := h.2.2.2.2.2.2.1
  have b3 : 0 ≤ sc := h.2.2.2.2.2.2.2.1
  have b4 : sc ≤ 12 := h.2.2.2.2.2.2.2.2.1
  have lN := cnt_le (bB1 f1) mc.toNat
  have hN : cnt (bB1 f1) mc.toNat ≤ 10 := by omega
  have hs : sc.toNat ≤ 12 := by omega
  have hba : ∀ k, k < cnt (bB1 f1) mc.toNat → nth (bB1 f1) mc.toNat k < 10 := fun k hk => by
    have := (nth_ok _ k hk).1
    omega
  obtain ⟨_, C0, B, hC0, cB, rB, rC⟩ := bc_n h h3
  have hC : ∀ m s, C0 m s ≤ 11988 := fun m s => by rw [hC0]; exact Nat.zero_le _
  obtain ⟨eb', ec', en', ep', l1, l2⟩ := c_look_n (eb := eb) (ec := ec) (en := en) (ep := ep) h cB hC0
  obtain ⟨et', es', q⟩ := c_choose (a1 := 1) l2 hN hs hC hba et es
  obtain ⟨fv', fn', fk', fC', fg', fW', r⟩ := pr_plans1 h rB hC rC fv fn fk fC fg fW
  rcases q with ⟨q1, q2⟩ | ⟨q1, sel, q2, q3⟩
  · rcases r with ⟨r1, r2⟩ | ⟨r1, r2, sel2, r3, r4⟩
    · refine Or.inl ⟨(cnt (bB1 f1) mc.toNat : Int), (cnt (bC1 f2) sc.toNat : Int), et', eb', ec', en', ep', es', fv', fn', fk', fC', fg', fW', ?_, ?_⟩
      · unfold F_z_SW_hand_nn
        simp only [kC, kLet, Int32.reduceToInt, l1, q1, ↓reduceIte]
      · unfold F_r_hand1 F_r_throwsIf1_1
        simp only [kC, kLet, Int32.reduceToInt, r1, ↓reduceIte]
    · exact absurd q2 (fun z => hPre_some r3 z)
  · rcases r with ⟨r1, r2⟩ | ⟨r1, r2, sel2, r3, r4⟩
    · exact absurd r2 (fun z => hPre_some q2 z)
    · obtain ⟨d1, d2, d3, _⟩ := hd_RC h q2 _ (Nat.le_refl _)
      have eg : hG (nth (bB1 f1) mc.toNat) sel2 g (cnt (bB1 f1) mc.toNat) = hG (nth (bB1 f1) mc.toNat) sel g (cnt (bB1 f1) mc.toNat) := hG_cg _ (fun i hi => hPre_un r3 q2 hi)
      refine Or.inr ⟨(cnt (bB1 f1) mc.toNat : Int), (cnt (bB1 f1) mc.toNat : Int), (cnt (bC1 f2) sc.toNat : Int), (hD (nth (bB1 f1) mc.toNat) sel f1 f2 (cnt (bB1 f1) mc.toNat)).1, (hD (nth (bB1 f1) mc.toNat) sel f1 f2 (cnt (bB1 f1) mc.toNat)).2, hG (nth (bB1 f1) mc.toNat) sel g (cnt (bB1 f1) mc.toNat), et', eb', ec', en', ep', es', fv', fn', fk', fC', fg', fW', ?_, ?_, d1, d2, d3⟩
      · unfold F_z_SW_hand_nn
        simp only [kC, kLet, Int32.reduceToInt, l1, q1]
        rw [if_neg (by decide)]
        exact c_handl_nn (sel := sel) b1 b2 q3 mc.toNat 0 (by omega)
      · unfold F_r_hand1 F_r_throwsIf0_1
        simp only [kC, kLet, Int32.reduceToInt, r1]
        rw [if_neg (by decide), ← eg]
        exact r_handl1 (sel := sel2) r2 (fun k hk => by
          rw [r4 _ (hba k hk)]
          exact hPut_at (fun i j hi hj => nth_lt hj hi) _ (Nat.le_refl _) hk) _ 0 (Nat.zero_add _)
theorem hand_ns1 {nw zz nn : Int} {eb ec en ep es : Nat → Int} {et : Nat → Int64} {of1 of2 : Nat → Int} {of3 : Nat → Int64} {re : Int} {fv fn fk fC fg fc : Nat → Int} {fW : Nat → Int64} (h : RC mc sc tx nr ra ru dy wa se f1 f2 f3 g) (h3 : g 3 = 0) : (∃ (bc cc : Int) (et' : Nat → Int64) (eb' ec' en' ep' es' fv' fn' fk' fC' fg' : Nat → Int) (fW' : Nat → Int64), F_z_SW_hand_ns mc sc tx nr ra ru dy wa se f1 f2 f3 et eb ec en ep es nw zz nn of1 of2 of3 1 = Sum.inr (1, (bc, cc, et', eb', ec', en', ep', es')) ∧ F_r_hand1 re g fv fn fk fW fC fg fc = (0, 1, re, bc, g, fv', fn', fk', fW', fC', fg', fc)) ∨ (∃ (v bc cc : Int) (d1 d2 g' : Nat → Int) (et' : Nat → Int64) (eb' ec' en' ep' es' fv' fn' fk' fC' fg' : Nat → Int) (fW' : Nat → Int64), F_z_SW_hand_ns mc sc tx nr ra ru dy wa se f1 f2 f3 et eb ec en ep es nw zz nn of1 of2 of3 1 = Sum.inl (v, d1, d2, bc, cc, et', eb', ec', en', ep', es', F_z_Past_remember_s nw zz mc sc tx nr ra ru dy wa se f1 f2 f3 nn of1 of2 of3) ∧ F_r_hand1 re g fv fn fk fW fC fg fc = (v, 0, (F_r_remembers re g fc).1, v, g', fv', fn', fk', fW', fC', fg', (F_r_remembers re g fc).2) ∧ RC mc sc tx nr ra ru dy wa se d1 d2 f3 g' ∧ g' 3 = g 3 ∧ ∀ j, 505 ≤ j → g' j = g j) := by
  have b1 : 0 ≤ mc := h.2.2.2.2.2.1
  have b2 : mc ≤ 10 := h.2.2.2.2.2.2.1
  have b3 : 0 ≤ sc := h.2.2.2.2.2.2.2.1
  have b4 : sc ≤ 12 := h.2.2.2.2.2.2.2.2.1
  have lN := cnt_le (bB1 f1) mc.toNat
  have hN : cnt (bB1 f1) mc.toNat ≤ 10 := by omega
  have hs : sc.toNat ≤ 12 := by omega
  have hba : ∀ k, k < cnt (bB1 f1) mc.toNat → nth (bB1 f1) mc.toNat k < 10 := fun k hk => by
    have := (nth_ok _ k hk).1
    omega
  obtain ⟨_, C0, B, hC0, cB, rB, rC⟩ := bc_n h h3
  have hC : ∀ m s, C0 m s ≤ 11988 := fun m s => by rw [hC0]; exact Nat.zero_le _
  obtain ⟨eb', ec', en', ep', l1, l2⟩ := c_look_n (eb := eb) (ec := ec) (en := en) (ep := ep) h cB hC0
  obtain ⟨et', es', q⟩ := c_choose (a1 := 1) l2 hN hs hC hba et es
  obtain ⟨fv', fn', fk', fC', fg', fW', r⟩ := pr_plans1 h rB hC rC fv fn fk fC fg fW
  rcases q with ⟨q1, q2⟩ | ⟨q1, sel, q2, q3⟩
  · rcases r with ⟨r1, r2⟩ | ⟨r1, r2, sel2, r3, r4⟩
    · refine Or.inl ⟨(cnt (bB1 f1) mc.toNat : Int), (cnt (bC1 f2) sc.toNat : Int), et', eb', ec', en', ep', es', fv', fn', fk', fC', fg', fW', ?_, ?_⟩
      · unfold F_z_SW_hand_ns
        simp only [kC, kLet, Int32.reduceToInt, l1, q1, ↓reduceIte]
      · unfold F_r_hand1 F_r_throwsIf1_1
        simp only [kC, kLet, Int32.reduceToInt, r1, ↓reduceIte]
    · exact absurd q2 (fun z => hPre_some r3 z)
  · rcases r with ⟨r1, r2⟩ | ⟨r1, r2, sel2, r3, r4⟩
    · exact absurd r2 (fun z => hPre_some q2 z)
    · obtain ⟨d1, d2, d3, _⟩ := hd_RC h q2 _ (Nat.le_refl _)
      have eg : hG (nth (bB1 f1) mc.toNat) sel2 g (cnt (bB1 f1) mc.toNat) = hG (nth (bB1 f1) mc.toNat) sel g (cnt (bB1 f1) mc.toNat) := hG_cg _ (fun i hi => hPre_un r3 q2 hi)
      refine Or.inr ⟨(cnt (bB1 f1) mc.toNat : Int), (cnt (bB1 f1) mc.toNat : Int), (cnt (bC1 f2) sc.toNat : Int), (hD (nth (bB1 f1) mc.toNat) sel f1 f2 (cnt (bB1 f1) mc.toNat)).1, (hD (nth (bB1 f1) mc.toNat) sel f1 f2 (cnt (bB1 f1) mc.toNat)).2, hG (nth (bB1 f1) mc.toNat) sel g (cnt (bB1 f1) mc.toNat), et', eb', ec', en', ep', es', fv', fn', fk', fC', fg', fW', ?_, ?_, d1, d2, d3⟩
      · unfold F_z_SW_hand_ns
        simp only [kC, kLet, Int32.reduceToInt, l1, q1]
        rw [if_neg (by decide)]
        exact c_handl_ns (sel := sel) b1 b2 q3 mc.toNat 0 (by omega)
      · unfold F_r_hand1 F_r_throwsIf0_1
        simp only [kC, kLet, Int32.reduceToInt, r1]
        rw [if_neg (by decide), ← eg]
        exact r_handl1 (sel := sel2) r2 (fun k hk => by
          rw [r4 _ (hba k hk)]
          exact hPut_at (fun i j hi hj => nth_lt hj hi) _ (Nat.le_refl _) hk) _ 0 (Nat.zero_add _)
theorem plan_n1 {a : Int} {ne : Int} {eb ec en ep es : Nat → Int} {et : Nat → Int64} {fv fn fk fC fg : Nat → Int} {fW : Nat → Int64} (h : RC mc sc tx nr ra ru dy wa se f1 f2 f3 g) (h3 : g 3 = 0) : (F_z_SW_plan_n mc sc nr f1 f2 f3 et eb ec en ep es a 1 = Sum.inr (1, ()) ∧ F_r_plan1 ne g fv fn fk fW fC fg a = (0, 1, ne, fv, fn, fk, fW, fC, fg)) ∨ (∃ (v bc cc : Int) (et' : Nat → Int64) (eb' ec' en' ep' es' fv' fn' fk' fC' fg' : Nat → Int) (fW' : Nat → Int64), F_z_SW_plan_n mc sc nr f1 f2 f3 et eb ec en ep es a 1 = Sum.inl (v, bc, cc, et', eb', ec', en', ep', es') ∧ F_r_plan1 ne g fv fn fk fW fC fg a = (v, 0, bc, fv', fn', fk', fW', fC', fg')) := by
  have a0 : g 0 = mc := h.1.1
  have b1 : 0 ≤ mc := h.2.2.2.2.2.1
  have b2 : mc ≤ 10 := h.2.2.2.2.2.2.1
  have b3 : 0 ≤ sc := h.2.2.2.2.2.2.2.1
  have b4 : sc ≤ 12 := h.2.2.2.2.2.2.2.2.1
  have lN := cnt_le (bB1 f1) mc.toNat
  have hN : cnt (bB1 f1) mc.toNat ≤ 10 := by omega
  have hs : sc.toNat ≤ 12 := by omega
  have hba : ∀ k, k < cnt (bB1 f1) mc.toNat → nth (bB1 f1) mc.toNat k < 10 := fun k hk => by
    have := (nth_ok _ k hk).1
    omega
  obtain ⟨_, C0, B, hC0, cB, rB, rC⟩ := bc_n h h3
  have hC : ∀ m s, C0 m s ≤ 11988 := fun m s => by rw [hC0]; exact Nat.zero_le _
  obtain ⟨eb', ec', en', ep', l1, l2⟩ := c_look_n (eb := eb) (ec := ec) (en := en) (ep := ep) h cB hC0
  obtain ⟨et', es', q⟩ := c_choose (a1 := 1) l2 hN hs hC hba et es
  obtain ⟨fv', fn', fk', fC', fg', fW', r⟩ := pr_plans1 h rB hC rC fv fn fk fC fg fW
  by_cases ca : 0 ≤ a ∧ a < mc
  · have e1 : F_z_Camp_isMan mc a = 1 := by rw [c_isMan, if_pos ca]
    have e2 : F_r_noMan g a = 0 := by rw [pr_noMan, a0, if_pos ca]
    rcases q with ⟨q1, q2⟩ | ⟨q1, sel, q2, q3⟩
    · rcases r with ⟨r1, r2⟩ | ⟨r1, r2, sel2, r3, r4⟩
      · refine Or.inr ⟨-1, (cnt (bB1 f1) mc.toNat : Int), (cnt (bC1 f2) sc.toNat : Int), et', eb', ec', en', ep', es', fv', fn', fk', fC', fg', fW', ?_, ?_⟩
        · unfold F_z_SW_plan_n
          simp only [kC, kLet, Int32.reduceToInt, e1, l1, q1, show ((-1) : Int32).toInt = -1 from by decide, Int.reduceEq, ↓reduceIte]
        · unfold F_r_plan1 F_r_throwsIf0_1
          simp only [kC, kLet, Int32.reduceToInt, e2, r1, show ((-1) : Int32).toInt = -1 from by decide, ↓reduceIte]
      · exact absurd q2 (fun z => hPre_some r3 z)
    · rcases r with ⟨r1, r2⟩ | ⟨r1, r2, sel2, r3, r4⟩
      · exact absurd r2 (fun z => hPre_some q2 z)
      · have eg : hPut (nth (bB1 f1) mc.toNat) sel2 (cnt (bB1 f1) mc.toNat) = hPut (nth (bB1 f1) mc.toNat) sel (cnt (bB1 f1) mc.toNat) := hPut_cg _ (fun i hi => hPre_un r3 q2 hi)
        have e3 : F_z_Hand_shirtFor es' a = fg' a.toNat := by
          unfold F_z_Hand_shirtFor
          simp only [kLet]
          rw [c_valueAt (by decide), if_pos (by omega), q3 _ (by omega), r4 _ (by omega), eg]
        refine Or.inr ⟨fg' a.toNat, (cnt (bB1 f1) mc.toNat : Int), (cnt (bC1 f2) sc.toNat : Int), et', eb', ec', en', ep', es', fv', fn', fk', fC', fg', fW', ?_, ?_⟩
        · unfold F_z_SW_plan_n
          simp only [kC, kLet, Int32.reduceToInt, e1, l1, q1, e3, Int.reduceEq, ↓reduceIte]
        · unfold F_r_plan1 F_r_throwsIf0_1
          simp only [kC, kLet, Int32.reduceToInt, e2, r1, Int.reduceEq, ↓reduceIte]
  · have e1 : F_z_Camp_isMan mc a = 0 := by rw [c_isMan, if_neg ca]
    have e2 : F_r_noMan g a = 1 := by rw [pr_noMan, a0, if_neg ca]
    refine Or.inl ⟨?_, ?_⟩
    · unfold F_z_SW_plan_n
      simp only [kC, kLet, Int32.reduceToInt, e1, ↓reduceIte]
    · unfold F_r_plan1 F_r_throwsIf1_1
      simp only [kC, kLet, Int32.reduceToInt, e2, Int.reduceEq, ↓reduceIte]
theorem hand_sn0 {nw zz nn : Int} {eb ec en ep es : Nat → Int} {et : Nat → Int64} {y4 : Nat → Int} {re : Int} {fv fn fk fC fg fc : Nat → Int} {fW : Nat → Int64} (h : RC mc sc tx nr ra ru dy wa se f1 f2 f3 g) (h3 : g 3 = 1) (hL : LW M1 M2 M3 y1 y2 y3 g) (k1 : ∀ i, kW (f1 i) = f1 i) (k2 : ∀ i, kW (f2 i) = f2 i) (kw : kW wa = wa) : (∃ (bc cc : Int) (et' : Nat → Int64) (eb' ec' en' ep' es' fv' fn' fk' fC' fg' y4' : Nat → Int) (fW' : Nat → Int64), F_z_SW_hand_sn mc sc tx nr ra ru dy wa se f1 f2 f3 M1 M2 M3 y1 y2 y3 y4 et eb ec en ep es nw zz nn 0 = Sum.inr (1, (y4', bc, cc, et', eb', ec', en', ep', es')) ∧ F_r_hand0 re g fv fn fk fW fC fg fc = (0, 1, re, bc, g, fv', fn', fk', fW', fC', fg', fc)) ∨ (∃ (v bc cc : Int) (d1 d2 g' : Nat → Int) (et' : Nat → Int64) (eb' ec' en' ep' es' fv' fn' fk' fC' fg' y4' : Nat → Int) (fW' : Nat → Int64), F_z_SW_hand_sn mc sc tx nr ra ru dy wa se f1 f2 f3 M1 M2 M3 y1 y2 y3 y4 et eb ec en ep es nw zz nn 0 = Sum.inl (v, d1, d2, y4', bc, cc, et', eb', ec', en', ep', es', F_z_Past_remember_n nw zz mc sc tx nr ra ru dy wa se f1 f2 f3 nn) ∧ F_r_hand0 re g fv fn fk fW fC fg fc = (v, 0, (F_r_remembers re g fc).1, v, g', fv', fn', fk', fW', fC', fg', (F_r_remembers re g fc).2) ∧ RC mc sc tx nr ra ru dy wa se d1 d2 f3 g' ∧ g' 3 = g 3 ∧ ∀ j, 505 ≤ j → g' j = g j) := by
  have b1 : 0 ≤ mc := h.2.2.2.2.2.1
  have b2 : mc ≤ 10 := h.2.2.2.2.2.2.1
  have b3 : 0 ≤ sc := h.2.2.2.2.2.2.2.1
  have b4 : sc ≤ 12 := h.2.2.2.2.2.2.2.2.1
  have lN := cnt_le (bB1 f1) mc.toNat
  have hN : cnt (bB1 f1) mc.toNat ≤ 10 := by omega
  have hs : sc.toNat ≤ 12 := by omega
  have hba : ∀ k, k < cnt (bB1 f1) mc.toNat → nth (bB1 f1) mc.toNat k < 10 := fun k hk => by
    have := (nth_ok _ k hk).1
    omega
  obtain ⟨C0, B, hC, cB, cC, rB, rC⟩ := bc_s h h3 hL k1 k2 kw
  obtain ⟨eb', ec', en', ep', y4', l1, l2⟩ := c_look_s (y4 := y4) (eb := eb) (ec := ec) (en := en) (ep := ep) h cB cC
  obtain ⟨et', es', q⟩ := c_choose (a1 := 0) l2 hN hs hC hba et es
  obtain ⟨fv', fn', fk', fC', fg', fW', r⟩ := pr_plans0 h rB hC rC fv fn fk fC fg fW
  rcases q with ⟨q1, q2⟩ | ⟨q1, sel, q2, q3⟩
  · rcases r with ⟨r1, r2⟩ | ⟨r1, r2, sel2, r3, r4⟩
    · refine Or.inl ⟨(cnt (bB1 f1) mc.toNat : Int), (cnt (bC1 f2) sc.toNat : Int), et', eb', ec', en', ep', es', fv', fn', fk', fC', fg', y4', fW', ?_, ?_⟩
      · unfold F_z_SW_hand_sn
        simp only [kC, kLet, Int32.reduceToInt, l1, q1, ↓reduceIte]
      · unfold F_r_hand0 F_r_throwsIf1_1
        simp only [kC, kLet, Int32.reduceToInt, r1, ↓reduceIte]
    · exact absurd q2 (fun z => hPre_some r3 z)
  · rcases r with ⟨r1, r2⟩ | ⟨r1, r2, sel2, r3, r4⟩
    · exact absurd r2 (fun z => hPre_some q2 z)
    · obtain ⟨d1, d2, d3, _⟩ := hd_RC h q2 _ (Nat.le_refl _)
      have eg : hG (nth (bB1 f1) mc.toNat) sel2 g (cnt (bB1 f1) mc.toNat) = hG (nth (bB1 f1) mc.toNat) sel g (cnt (bB1 f1) mc.toNat) := hG_cg _ (fun i hi => hPre_un r3 q2 hi)
      refine Or.inr ⟨(cnt (bB1 f1) mc.toNat : Int), (cnt (bB1 f1) mc.toNat : Int), (cnt (bC1 f2) sc.toNat : Int), (hD (nth (bB1 f1) mc.toNat) sel f1 f2 (cnt (bB1 f1) mc.toNat)).1, (hD (nth (bB1 f1) mc.toNat) sel f1 f2 (cnt (bB1 f1) mc.toNat)).2, hG (nth (bB1 f1) mc.toNat) sel g (cnt (bB1 f1) mc.toNat), et', eb', ec', en', ep', es', fv', fn', fk', fC', fg', y4', fW', ?_, ?_, d1, d2, d3⟩
      · unfold F_z_SW_hand_sn
        simp only [kC, kLet, Int32.reduceToInt, l1, q1]
        rw [if_neg (by decide)]
        exact c_handl_sn (sel := sel) b1 b2 q3 mc.toNat 0 (by omega)
      · unfold F_r_hand0 F_r_throwsIf0_1
        simp only [kC, kLet, Int32.reduceToInt, r1]
        rw [if_neg (by decide), ← eg]
        exact r_handl0 (sel := sel2) r2 (fun k hk => by
          rw [r4 _ (hba k hk)]
          exact hPut_at (fun i j hi hj => nth_lt hj hi) _ (Nat.le_refl _) hk) _ 0 (Nat.zero_add _)
theorem hand_ss0 {nw zz nn : Int} {eb ec en ep es : Nat → Int} {et : Nat → Int64} {of1 of2 : Nat → Int} {of3 : Nat → Int64} {y4 : Nat → Int} {re : Int} {fv fn fk fC fg fc : Nat → Int} {fW : Nat → Int64} (h : RC mc sc tx nr ra ru dy wa se f1 f2 f3 g) (h3 : g 3 = 1) (hL : LW M1 M2 M3 y1 y2 y3 g) (k1 : ∀ i, kW (f1 i) = f1 i) (k2 : ∀ i, kW (f2 i) = f2 i) (kw : kW wa = wa) : (∃ (bc cc : Int) (et' : Nat → Int64) (eb' ec' en' ep' es' fv' fn' fk' fC' fg' y4' : Nat → Int) (fW' : Nat → Int64), F_z_SW_hand_ss mc sc tx nr ra ru dy wa se f1 f2 f3 M1 M2 M3 y1 y2 y3 y4 et eb ec en ep es nw zz nn of1 of2 of3 0 = Sum.inr (1, (y4', bc, cc, et', eb', ec', en', ep', es')) ∧ F_r_hand0 re g fv fn fk fW fC fg fc = (0, 1, re, bc, g, fv', fn', fk', fW', fC', fg', fc)) ∨ (∃ (v bc cc : Int) (d1 d2 g' : Nat → Int) (et' : Nat → Int64) (eb' ec' en' ep' es' fv' fn' fk' fC' fg' y4' : Nat → Int) (fW' : Nat → Int64), F_z_SW_hand_ss mc sc tx nr ra ru dy wa se f1 f2 f3 M1 M2 M3 y1 y2 y3 y4 et eb ec en ep es nw zz nn of1 of2 of3 0 = Sum.inl (v, d1, d2, y4', bc, cc, et', eb', ec', en', ep', es', F_z_Past_remember_s nw zz mc sc tx nr ra ru dy wa se f1 f2 f3 nn of1 of2 of3) ∧ F_r_hand0 re g fv fn fk fW fC fg fc = (v, 0, (F_r_remembers re g fc).1, v, g', fv', fn', fk', fW', fC', fg', (F_r_remembers re g fc).2) ∧ RC mc sc tx nr ra ru dy wa se d1 d2 f3 g' ∧ g' 3 = g 3 ∧ ∀ j, 505 ≤ j → g' j = g j) := by
  have b1 : 0 ≤ mc := h.2.2.2.2.2.1
  have b2 : mc ≤ 10 := h.2.2.2.2.2.2.1
  have b3 : 0 ≤ sc := h.2.2.2.2.2.2.2.1
  have b4 : sc ≤ 12 := h.2.2.2.2.2.2.2.2.1
  have lN := cnt_le (bB1 f1) mc.toNat
  have hN : cnt (bB1 f1) mc.toNat ≤ 10 := by omega
  have hs : sc.toNat ≤ 12 := by omega
  have hba : ∀ k, k < cnt (bB1 f1) mc.toNat → nth (bB1 f1) mc.toNat k < 10 := fun k hk => by
    have := (nth_ok _ k hk).1
    omega
  obtain ⟨C0, B, hC, cB, cC, rB, rC⟩ := bc_s h h3 hL k1 k2 kw
  obtain ⟨eb', ec', en', ep', y4', l1, l2⟩ := c_look_s (y4 := y4) (eb := eb) (ec := ec) (en := en) (ep := ep) h cB cC
  obtain ⟨et', es', q⟩ := c_choose (a1 := 0) l2 hN hs hC hba et es
  obtain ⟨fv', fn', fk', fC', fg', fW', r⟩ := pr_plans0 h rB hC rC fv fn fk fC fg fW
  rcases q with ⟨q1, q2⟩ | ⟨q1, sel, q2, q3⟩
  · rcases r with ⟨r1, r2⟩ | ⟨r1, r2, sel2, r3, r4⟩
    · refine Or.inl ⟨(cnt (bB1 f1) mc.toNat : Int), (cnt (bC1 f2) sc.toNat : Int), et', eb', ec', en', ep', es', fv', fn', fk', fC', fg', y4', fW', ?_, ?_⟩
      · unfold F_z_SW_hand_ss
        simp only [kC, kLet, Int32.reduceToInt, l1, q1, ↓reduceIte]
      · unfold F_r_hand0 F_r_throwsIf1_1
        simp only [kC, kLet, Int32.reduceToInt, r1, ↓reduceIte]
    · exact absurd q2 (fun z => hPre_some r3 z)
  · rcases r with ⟨r1, r2⟩ | ⟨r1, r2, sel2, r3, r4⟩
    · exact absurd r2 (fun z => hPre_some q2 z)
    · obtain ⟨d1, d2, d3, _⟩ := hd_RC h q2 _ (Nat.le_refl _)
      have eg : hG (nth (bB1 f1) mc.toNat) sel2 g (cnt (bB1 f1) mc.toNat) = hG (nth (bB1 f1) mc.toNat) sel g (cnt (bB1 f1) mc.toNat) := hG_cg _ (fun i hi => hPre_un r3 q2 hi)
      refine Or.inr ⟨(cnt (bB1 f1) mc.toNat : Int), (cnt (bB1 f1) mc.toNat : Int), (cnt (bC1 f2) sc.toNat : Int), (hD (nth (bB1 f1) mc.toNat) sel f1 f2 (cnt (bB1 f1) mc.toNat)).1, (hD (nth (bB1 f1) mc.toNat) sel f1 f2 (cnt (bB1 f1) mc.toNat)).2, hG (nth (bB1 f1) mc.toNat) sel g (cnt (bB1 f1) mc.toNat), et', eb', ec', en', ep', es', fv', fn', fk', fC', fg', y4', fW', ?_, ?_, d1, d2, d3⟩
      · unfold F_z_SW_hand_ss
        simp only [kC, kLet, Int32.reduceToInt, l1, q1]
        rw [if_neg (by decide)]
        exact c_handl_ss (sel := sel) b1 b2 q3 mc.toNat 0 (by omega)
      · unfold F_r_hand0 F_r_throwsIf0_1
        simp only [kC, kLet, Int32.reduceToInt, r1]
        rw [if_neg (by decide), ← eg]
        exact r_handl0 (sel := sel2) r2 (fun k hk => by
          rw [r4 _ (hba k hk)]
          exact hPut_at (fun i j hi hj => nth_lt hj hi) _ (Nat.le_refl _) hk) _ 0 (Nat.zero_add _)
theorem plan_s0 {a : Int} {ne : Int} {eb ec en ep es : Nat → Int} {et : Nat → Int64} {y4 : Nat → Int} {fv fn fk fC fg : Nat → Int} {fW : Nat → Int64} (h : RC mc sc tx nr ra ru dy wa se f1 f2 f3 g) (h3 : g 3 = 1) (hL : LW M1 M2 M3 y1 y2 y3 g) (k1 : ∀ i, kW (f1 i) = f1 i) (k2 : ∀ i, kW (f2 i) = f2 i) (kw : kW wa = wa) : (F_z_SW_plan_s mc sc nr wa f1 f2 f3 M1 M2 M3 y1 y2 y3 y4 et eb ec en ep es a 0 = Sum.inr (1, ()) ∧ F_r_plan0 ne g fv fn fk fW fC fg a = (0, 1, ne, fv, fn, fk, fW, fC, fg)) ∨ (∃ (v bc cc : Int) (et' : Nat → Int64) (eb' ec' en' ep' es' fv' fn' fk' fC' fg' y4' : Nat → Int) (fW' : Nat → Int64), F_z_SW_plan_s mc sc nr wa f1 f2 f3 M1 M2 M3 y1 y2 y3 y4 et eb ec en ep es a 0 = Sum.inl (v, y4', bc, cc, et', eb', ec', en', ep', es') ∧ F_r_plan0 ne g fv fn fk fW fC fg a = (v, 0, bc, fv', fn', fk', fW', fC', fg')) := by
  have a0 : g 0 = mc := h.1.1
  have b1 : 0 ≤ mc := h.2.2.2.2.2.1
  have b2 : mc ≤ 10 := h.2.2.2.2.2.2.1
  have b3 : 0 ≤ sc := h.2.2.2.2.2.2.2.1
  have b4 : sc ≤ 12 := h.2.2.2.2.2.2.2.2.1
  have lN := cnt_le (bB1 f1) mc.toNat
  have hN : cnt (bB1 f1) mc.toNat ≤ 10 := by omega
  have hs : sc.toNat ≤ 12 := by omega
  have hba : ∀ k, k < cnt (bB1 f1) mc.toNat → nth (bB1 f1) mc.toNat k < 10 := fun k hk => by
    have := (nth_ok _ k hk).1
    omega
  obtain ⟨C0, B, hC, cB, cC, rB, rC⟩ := bc_s h h3 hL k1 k2 kw
  obtain ⟨eb', ec', en', ep', y4', l1, l2⟩ := c_look_s (y4 := y4) (eb := eb) (ec := ec) (en := en) (ep := ep) h cB cC
  obtain ⟨et', es', q⟩ := c_choose (a1 := 0) l2 hN hs hC hba et es
  obtain ⟨fv', fn', fk', fC', fg', fW', r⟩ := pr_plans0 h rB hC rC fv fn fk fC fg fW
  by_cases ca : 0 ≤ a ∧ a < mc
  · have e1 : F_z_Camp_isMan mc a = 1 := by rw [c_isMan, if_pos ca]
    have e2 : F_r_noMan g a = 0 := by rw [pr_noMan, a0, if_pos ca]
    rcases q with ⟨q1, q2⟩ | ⟨q1, sel, q2, q3⟩
    · rcases r with ⟨r1, r2⟩ | ⟨r1, r2, sel2, r3, r4⟩
      · refine Or.inr ⟨-1, (cnt (bB1 f1) mc.toNat : Int), (cnt (bC1 f2) sc.toNat : Int), et', eb', ec', en', ep', es', fv', fn', fk', fC', fg', y4', fW', ?_, ?_⟩
        · unfold F_z_SW_plan_s
          simp only [kC, kLet, Int32.reduceToInt, e1, l1, q1, show ((-1) : Int32).toInt = -1 from by decide, Int.reduceEq, ↓reduceIte]
        · unfold F_r_plan0 F_r_throwsIf0_1
          simp only [kC, kLet, Int32.reduceToInt, e2, r1, show ((-1) : Int32).toInt = -1 from by decide, ↓reduceIte]
      · exact absurd q2 (fun z => hPre_some r3 z)
    · rcases r with ⟨r1, r2⟩ | ⟨r1, r2, sel2, r3, r4⟩
      · exact absurd r2 (fun z => hPre_some q2 z)
      · have eg : hPut (nth (bB1 f1) mc.toNat) sel2 (cnt (bB1 f1) mc.toNat) = hPut (nth (bB1 f1) mc.toNat) sel (cnt (bB1 f1) mc.toNat) := hPut_cg _ (fun i hi => hPre_un r3 q2 hi)
        have e3 : F_z_Hand_shirtFor es' a = fg' a.toNat := by
          unfold F_z_Hand_shirtFor
          simp only [kLet]
          rw [c_valueAt (by decide), if_pos (by omega), q3 _ (by omega), r4 _ (by omega), eg]
        refine Or.inr ⟨fg' a.toNat, (cnt (bB1 f1) mc.toNat : Int), (cnt (bC1 f2) sc.toNat : Int), et', eb', ec', en', ep', es', fv', fn', fk', fC', fg', y4', fW', ?_, ?_⟩
        · unfold F_z_SW_plan_s
          simp only [kC, kLet, Int32.reduceToInt, e1, l1, q1, e3, Int.reduceEq, ↓reduceIte]
        · unfold F_r_plan0 F_r_throwsIf0_1
          simp only [kC, kLet, Int32.reduceToInt, e2, r1, Int.reduceEq, ↓reduceIte]
  · have e1 : F_z_Camp_isMan mc a = 0 := by rw [c_isMan, if_neg ca]
    have e2 : F_r_noMan g a = 1 := by rw [pr_noMan, a0, if_neg ca]
    refine Or.inl ⟨?_, ?_⟩
    · unfold F_z_SW_plan_s
      simp only [kC, kLet, Int32.reduceToInt, e1, ↓reduceIte]
    · unfold F_r_plan0 F_r_throwsIf1_1
      simp only [kC, kLet, Int32.reduceToInt, e2, Int.reduceEq, ↓reduceIte]
theorem hand_sn1 {nw zz nn : Int} {eb ec en ep es : Nat → Int} {et : Nat → Int64} {y4 : Nat → Int} {re : Int} {fv fn fk fC fg fc : Nat → Int} {fW : Nat → Int64} (h : RC mc sc tx nr ra ru dy wa se f1 f2 f3 g) (h3 : g 3 = 1) (hL : LW M1 M2 M3 y1 y2 y3 g) (k1 : ∀ i, kW (f1 i) = f1 i) (k2 : ∀ i, kW (f2 i) = f2 i) (kw : kW wa = wa) : (∃ (bc cc : Int) (et' : Nat → Int64) (eb' ec' en' ep' es' fv' fn' fk' fC' fg' y4' : Nat → Int) (fW' : Nat → Int64), F_z_SW_hand_sn mc sc tx nr ra ru dy wa se f1 f2 f3 M1 M2 M3 y1 y2 y3 y4 et eb ec en ep es nw zz nn 1 = Sum.inr (1, (y4', bc, cc, et', eb', ec', en', ep', es')) ∧ F_r_hand1 re g fv fn fk fW fC fg fc = (0, 1, re, bc, g, fv', fn', fk', fW', fC', fg', fc)) ∨ (∃ (v bc cc : Int) (d1 d2 g' : Nat → Int) (et' : Nat → Int64) (eb' ec' en' ep' es' fv' fn' fk' fC' fg' y4' : Nat → Int) (fW' : Nat → Int64), F_z_SW_hand_sn mc sc tx nr ra ru dy wa se f1 f2 f3 M1 M2 M3 y1 y2 y3 y4 et eb ec en ep es nw zz nn 1 = Sum.inl (v, d1, d2, y4', bc, cc, et', eb', ec', en', ep', es', F_z_Past_remember_n nw zz mc sc tx nr ra ru dy wa se f1 f2 f3 nn) ∧ F_r_hand1 re g fv fn fk fW fC fg fc = (v, 0, (F_r_remembers re g fc).1, v, g', fv', fn', fk', fW', fC', fg', (F_r_remembers re g fc).2) ∧ RC mc sc tx nr ra ru dy wa se d1 d2 f3 g' ∧ g' 3 = g 3 ∧ ∀ j, 505 ≤ j → g' j = g j) := by
  have b1 : 0 ≤ mc := h.2.2.2.2.2.1
  have b2 : mc ≤ 10 := h.2.2.2.2.2.2.1
  have b3 : 0 ≤ sc := h.2.2.2.2.2.2.2.1
  have b4 : sc ≤ 12 := h.2.2.2.2.2.2.2.2.1
  have lN := cnt_le (bB1 f1) mc.toNat
  have hN : cnt (bB1 f1) mc.toNat ≤ 10 := by omega
  have hs : sc.toNat ≤ 12 := by omega
  have hba : ∀ k, k < cnt (bB1 f1) mc.toNat → nth (bB1 f1) mc.toNat k < 10 := fun k hk => by
    have := (nth_ok _ k hk).1
    omega
  obtain ⟨C0, B, hC, cB, cC, rB, rC⟩ := bc_s h h3 hL k1 k2 kw
  obtain ⟨eb', ec', en', ep', y4', l1, l2⟩ := c_look_s (y4 := y4) (eb := eb) (ec := ec) (en := en) (ep := ep) h cB cC
  obtain ⟨et', es', q⟩ := c_choose (a1 := 1) l2 hN hs hC hba et es
  obtain ⟨fv', fn', fk', fC', fg', fW', r⟩ := pr_plans1 h rB hC rC fv fn fk fC fg fW
  rcases q with ⟨q1, q2⟩ | ⟨q1, sel, q2, q3⟩
  · rcases r with ⟨r1, r2⟩ | ⟨r1, r2, sel2, r3, r4⟩
    · refine Or.inl ⟨(cnt (bB1 f1) mc.toNat : Int), (cnt (bC1 f2) sc.toNat : Int), et', eb', ec', en', ep', es', fv', fn', fk', fC', fg', y4', fW', ?_, ?_⟩
      · unfold F_z_SW_hand_sn
        simp only [kC, kLet, Int32.reduceToInt, l1, q1, ↓reduceIte]
      · unfold F_r_hand1 F_r_throwsIf1_1
        simp only [kC, kLet, Int32.reduceToInt, r1, ↓reduceIte]
    · exact absurd q2 (fun z => hPre_some r3 z)
  · rcases r with ⟨r1, r2⟩ | ⟨r1, r2, sel2, r3, r4⟩
    · exact absurd r2 (fun z => hPre_some q2 z)
    · obtain ⟨d1, d2, d3, _⟩ := hd_RC h q2 _ (Nat.le_refl _)
      have eg : hG (nth (bB1 f1) mc.toNat) sel2 g (cnt (bB1 f1) mc.toNat) = hG (nth (bB1 f1) mc.toNat) sel g (cnt (bB1 f1) mc.toNat) := hG_cg _ (fun i hi => hPre_un r3 q2 hi)
      refine Or.inr ⟨(cnt (bB1 f1) mc.toNat : Int), (cnt (bB1 f1) mc.toNat : Int), (cnt (bC1 f2) sc.toNat : Int), (hD (nth (bB1 f1) mc.toNat) sel f1 f2 (cnt (bB1 f1) mc.toNat)).1, (hD (nth (bB1 f1) mc.toNat) sel f1 f2 (cnt (bB1 f1) mc.toNat)).2, hG (nth (bB1 f1) mc.toNat) sel g (cnt (bB1 f1) mc.toNat), et', eb', ec', en', ep', es', fv', fn', fk', fC', fg', y4', fW', ?_, ?_, d1, d2, d3⟩
      · unfold F_z_SW_hand_sn
        simp only [kC, kLet, Int32.reduceToInt, l1, q1]
        rw [if_neg (by decide)]
        exact c_handl_sn (sel := sel) b1 b2 q3 mc.toNat 0 (by omega)
      · unfold F_r_hand1 F_r_throwsIf0_1
        simp only [kC, kLet, Int32.reduceToInt, r1]
        rw [if_neg (by decide), ← eg]
        exact r_handl1 (sel := sel2) r2 (fun k hk => by
          rw [r4 _ (hba k hk)]
          exact hPut_at (fun i j hi hj => nth_lt hj hi) _ (Nat.le_refl _) hk) _ 0 (Nat.zero_add _)
theorem hand_ss1 {nw zz nn : Int} {eb ec en ep es : Nat → Int} {et : Nat → Int64} {of1 of2 : Nat → Int} {of3 : Nat → Int64} {y4 : Nat → Int} {re : Int} {fv fn fk fC fg fc : Nat → Int} {fW : Nat → Int64} (h : RC mc sc tx nr ra ru dy wa se f1 f2 f3 g) (h3 : g 3 = 1) (hL : LW M1 M2 M3 y1 y2 y3 g) (k1 : ∀ i, kW (f1 i) = f1 i) (k2 : ∀ i, kW (f2 i) = f2 i) (kw : kW wa = wa) : (∃ (bc cc : Int) (et' : Nat → Int64) (eb' ec' en' ep' es' fv' fn' fk' fC' fg' y4' : Nat → Int) (fW' : Nat → Int64), F_z_SW_hand_ss mc sc tx nr ra ru dy wa se f1 f2 f3 M1 M2 M3 y1 y2 y3 y4 et eb ec en ep es nw zz nn of1 of2 of3 1 = Sum.inr (1, (y4', bc, cc, et', eb', ec', en', ep', es')) ∧ F_r_hand1 re g fv fn fk fW fC fg fc = (0, 1, re, bc, g, fv', fn', fk', fW', fC', fg', fc)) ∨ (∃ (v bc cc : Int) (d1 d2 g' : Nat → Int) (et' : Nat → Int64) (eb' ec' en' ep' es' fv' fn' fk' fC' fg' y4' : Nat → Int) (fW' : Nat → Int64), F_z_SW_hand_ss mc sc tx nr ra ru dy wa se f1 f2 f3 M1 M2 M3 y1 y2 y3 y4 et eb ec en ep es nw zz nn of1 of2 of3 1 = Sum.inl (v, d1, d2, y4', bc, cc, et', eb', ec', en', ep', es', F_z_Past_remember_s nw zz mc sc tx nr ra ru dy wa se f1 f2 f3 nn of1 of2 of3) ∧ F_r_hand1 re g fv fn fk fW fC fg fc = (v, 0, (F_r_remembers re g fc).1, v, g', fv', fn', fk', fW', fC', fg', (F_r_remembers re g fc).2) ∧ RC mc sc tx nr ra ru dy wa se d1 d2 f3 g' ∧ g' 3 = g 3 ∧ ∀ j, 505 ≤ j → g' j = g j) := by
  have b1 : 0 ≤ mc := h.2.2.2.2.2.1
  have b2 : mc ≤ 10 := h.2.2.2.2.2.2.1
  have b3 : 0 ≤ sc := h.2.2.2.2.2.2.2.1
  have b4 : sc ≤ 12 := h.2.2.2.2.2.2.2.2.1
  have lN := cnt_le (bB1 f1) mc.toNat
  have hN : cnt (bB1 f1) mc.toNat ≤ 10 := by omega
  have hs : sc.toNat ≤ 12 := by omega
  have hba : ∀ k, k < cnt (bB1 f1) mc.toNat → nth (bB1 f1) mc.toNat k < 10 := fun k hk => by
    have := (nth_ok _ k hk).1
    omega
  obtain ⟨C0, B, hC, cB, cC, rB, rC⟩ := bc_s h h3 hL k1 k2 kw
  obtain ⟨eb', ec', en', ep', y4', l1, l2⟩ := c_look_s (y4 := y4) (eb := eb) (ec := ec) (en := en) (ep := ep) h cB cC
  obtain ⟨et', es', q⟩ := c_choose (a1 := 1) l2 hN hs hC hba et es
  obtain ⟨fv', fn', fk', fC', fg', fW', r⟩ := pr_plans1 h rB hC rC fv fn fk fC fg fW
  rcases q with ⟨q1, q2⟩ | ⟨q1, sel, q2, q3⟩
  · rcases r with ⟨r1, r2⟩ | ⟨r1, r2, sel2, r3, r4⟩
    · refine Or.inl ⟨(cnt (bB1 f1) mc.toNat : Int), (cnt (bC1 f2) sc.toNat : Int), et', eb', ec', en', ep', es', fv', fn', fk', fC', fg', y4', fW', ?_, ?_⟩
      · unfold F_z_SW_hand_ss
        simp only [kC, kLet, Int32.reduceToInt, l1, q1, ↓reduceIte]
      · unfold F_r_hand1 F_r_throwsIf1_1
        simp only [kC, kLet, Int32.reduceToInt, r1, ↓reduceIte]
    · exact absurd q2 (fun z => hPre_some r3 z)
  · rcases r with ⟨r1, r2⟩ | ⟨r1, r2, sel2, r3, r4⟩
    · exact absurd r2 (fun z => hPre_some q2 z)
    · obtain ⟨d1, d2, d3, _⟩ := hd_RC h q2 _ (Nat.le_refl _)
      have eg : hG (nth (bB1 f1) mc.toNat) sel2 g (cnt (bB1 f1) mc.toNat) = hG (nth (bB1 f1) mc.toNat) sel g (cnt (bB1 f1) mc.toNat) := hG_cg _ (fun i hi => hPre_un r3 q2 hi)
      refine Or.inr ⟨(cnt (bB1 f1) mc.toNat : Int), (cnt (bB1 f1) mc.toNat : Int), (cnt (bC1 f2) sc.toNat : Int), (hD (nth (bB1 f1) mc.toNat) sel f1 f2 (cnt (bB1 f1) mc.toNat)).1, (hD (nth (bB1 f1) mc.toNat) sel f1 f2 (cnt (bB1 f1) mc.toNat)).2, hG (nth (bB1 f1) mc.toNat) sel g (cnt (bB1 f1) mc.toNat), et', eb', ec', en', ep', es', fv', fn', fk', fC', fg', y4', fW', ?_, ?_, d1, d2, d3⟩
      · unfold F_z_SW_hand_ss
        simp only [kC, kLet, Int32.reduceToInt, l1, q1]
        rw [if_neg (by decide)]
        exact c_handl_ss (sel := sel) b1 b2 q3 mc.toNat 0 (by omega)
      · unfold F_r_hand1 F_r_throwsIf0_1
        simp only [kC, kLet, Int32.reduceToInt, r1]
        rw [if_neg (by decide), ← eg]
        exact r_handl1 (sel := sel2) r2 (fun k hk => by
          rw [r4 _ (hba k hk)]
          exact hPut_at (fun i j hi hj => nth_lt hj hi) _ (Nat.le_refl _) hk) _ 0 (Nat.zero_add _)
theorem plan_s1 {a : Int} {ne : Int} {eb ec en ep es : Nat → Int} {et : Nat → Int64} {y4 : Nat → Int} {fv fn fk fC fg : Nat → Int} {fW : Nat → Int64} (h : RC mc sc tx nr ra ru dy wa se f1 f2 f3 g) (h3 : g 3 = 1) (hL : LW M1 M2 M3 y1 y2 y3 g) (k1 : ∀ i, kW (f1 i) = f1 i) (k2 : ∀ i, kW (f2 i) = f2 i) (kw : kW wa = wa) : (F_z_SW_plan_s mc sc nr wa f1 f2 f3 M1 M2 M3 y1 y2 y3 y4 et eb ec en ep es a 1 = Sum.inr (1, ()) ∧ F_r_plan1 ne g fv fn fk fW fC fg a = (0, 1, ne, fv, fn, fk, fW, fC, fg)) ∨ (∃ (v bc cc : Int) (et' : Nat → Int64) (eb' ec' en' ep' es' fv' fn' fk' fC' fg' y4' : Nat → Int) (fW' : Nat → Int64), F_z_SW_plan_s mc sc nr wa f1 f2 f3 M1 M2 M3 y1 y2 y3 y4 et eb ec en ep es a 1 = Sum.inl (v, y4', bc, cc, et', eb', ec', en', ep', es') ∧ F_r_plan1 ne g fv fn fk fW fC fg a = (v, 0, bc, fv', fn', fk', fW', fC', fg')) := by
  have a0 : g 0 = mc := h.1.1
  have b1 : 0 ≤ mc := h.2.2.2.2.2.1
  have b2 : mc ≤ 10 := h.2.2.2.2.2.2.1
  have b3 : 0 ≤ sc := h.2.2.2.2.2.2.2.1
  have b4 : sc ≤ 12 := h.2.2.2.2.2.2.2.2.1
  have lN := cnt_le (bB1 f1) mc.toNat
  have hN : cnt (bB1 f1) mc.toNat ≤ 10 := by omega
  have hs : sc.toNat ≤ 12 := by omega
  have hba : ∀ k, k < cnt (bB1 f1) mc.toNat → nth (bB1 f1) mc.toNat k < 10 := fun k hk => by
    have := (nth_ok _ k hk).1
    omega
  obtain ⟨C0, B, hC, cB, cC, rB, rC⟩ := bc_s h h3 hL k1 k2 kw
  obtain ⟨eb', ec', en', ep', y4', l1, l2⟩ := c_look_s (y4 := y4) (eb := eb) (ec := ec) (en := en) (ep := ep) h cB cC
  obtain ⟨et', es', q⟩ := c_choose (a1 := 1) l2 hN hs hC hba et es
  obtain ⟨fv', fn', fk', fC', fg', fW', r⟩ := pr_plans1 h rB hC rC fv fn fk fC fg fW
  by_cases ca : 0 ≤ a ∧ a < mc
  · have e1 : F_z_Camp_isMan mc a = 1 := by rw [c_isMan, if_pos ca]
    have e2 : F_r_noMan g a = 0 := by rw [pr_noMan, a0, if_pos ca]
    rcases q with ⟨q1, q2⟩ | ⟨q1, sel, q2, q3⟩
    · rcases r with ⟨r1, r2⟩ | ⟨r1, r2, sel2, r3, r4⟩
      · refine Or.inr ⟨-1, (cnt (bB1 f1) mc.toNat : Int), (cnt (bC1 f2) sc.toNat : Int), et', eb', ec', en', ep', es', fv', fn', fk', fC', fg', y4', fW', ?_, ?_⟩
        · unfold F_z_SW_plan_s
          simp only [kC, kLet, Int32.reduceToInt, e1, l1, q1, show ((-1) : Int32).toInt = -1 from by decide, Int.reduceEq, ↓reduceIte]
        · unfold F_r_plan1 F_r_throwsIf0_1
          simp only [kC, kLet, Int32.reduceToInt, e2, r1, show ((-1) : Int32).toInt = -1 from by decide, ↓reduceIte]
      · exact absurd q2 (fun z => hPre_some r3 z)
    · rcases r with ⟨r1, r2⟩ | ⟨r1, r2, sel2, r3, r4⟩
      · exact absurd r2 (fun z => hPre_some q2 z)
      · have eg : hPut (nth (bB1 f1) mc.toNat) sel2 (cnt (bB1 f1) mc.toNat) = hPut (nth (bB1 f1) mc.toNat) sel (cnt (bB1 f1) mc.toNat) := hPut_cg _ (fun i hi => hPre_un r3 q2 hi)
        have e3 : F_z_Hand_shirtFor es' a = fg' a.toNat := by
          unfold F_z_Hand_shirtFor
          simp only [kLet]
          rw [c_valueAt (by decide), if_pos (by omega), q3 _ (by omega), r4 _ (by omega), eg]
        refine Or.inr ⟨fg' a.toNat, (cnt (bB1 f1) mc.toNat : Int), (cnt (bC1 f2) sc.toNat : Int), et', eb', ec', en', ep', es', fv', fn', fk', fC', fg', y4', fW', ?_, ?_⟩
        · unfold F_z_SW_plan_s
          simp only [kC, kLet, Int32.reduceToInt, e1, l1, q1, e3, Int.reduceEq, ↓reduceIte]
        · unfold F_r_plan1 F_r_throwsIf0_1
          simp only [kC, kLet, Int32.reduceToInt, e2, r1, Int.reduceEq, ↓reduceIte]
  · have e1 : F_z_Camp_isMan mc a = 0 := by rw [c_isMan, if_neg ca]
    have e2 : F_r_noMan g a = 1 := by rw [pr_noMan, a0, if_neg ca]
    refine Or.inl ⟨?_, ?_⟩
    · unfold F_z_SW_plan_s
      simp only [kC, kLet, Int32.reduceToInt, e1, ↓reduceIte]
    · unfold F_r_plan1 F_r_throwsIf1_1
      simp only [kC, kLet, Int32.reduceToInt, e2, Int.reduceEq, ↓reduceIte]
end HN
