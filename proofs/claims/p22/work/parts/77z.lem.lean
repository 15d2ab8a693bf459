/-! The draft becomes the law; a SHIRT more. -/
theorem wD_1342 {g g' : Nat → Int32} {n e k : Nat} {v : Int32} (h : wD g n e) (q : upd g k v = g') (hk : k = 1342) : wD g' n e ∧ g' 1342 = v := by
  subst q
  subst hk
  have key : ∀ j : Nat, 1342 < j → upd g 1342 v j = g j := fun j hj => by unfold upd; rw [if_neg (by omega)]
  refine ⟨fun i hi => ?_, by unfold upd; rw [if_pos rfl]⟩
  obtain ⟨p1, a, b, p2, p3, p4, p5, p6⟩ := h i hi
  rw [key (1343 + 3 * i) (by omega), key (1344 + 3 * i) (by omega), key (1345 + 3 * i) (by omega)]
  refine ⟨p1, a, b, p2, p3, p4, p5, ?_⟩
  rcases p6 with p6 | p6
  · exact Or.inl p6
  · exact Or.inr (seg_congr (fun j h1 h2 => key _ (by omega)) p6)
theorem upd_0 {g : Nat → Int32} {x v : Int32} {a b : Int} (h : Rg x a b) (k : decide (1 ≤ a) = true) : upd g x.toNatClampNeg v 0 = g 0 := by
  simp only [decide_eq_true_eq] at k
  obtain ⟨j, j1, j2, j3, j4⟩ := rg_nat h (by omega)
  have := h.1
  rw [j3, nI_clamp j2]
  unfold upd
  rw [if_neg (by omega)]
theorem wW_sx {g : Nat → Int32} {m v : Int32} (k w : Nat) (h : wW g) (hm : Rg m 0 11) (hk : k = 61 + w) (hw : w < 7) (h5 : w = 5 ∨ w = 6 → Rg v (-1) 9) : wW (upd g (k + 7 * cN m) v) := by
  have h1 := hm.1
  have h2 := hm.2
  have h3 : cN m ≤ 11 := by simp only [cN]; omega
  exact wW_upd h (by omega) (by omega) (by omega) (by omega) (by omega) (fun s _ e => h5 (by omega))
/-- the row of a new SHIRT -/
abbrev shN (g : Nat → Int32) (s c0 c1 c2 c3 : Int32) : Nat → Int32 := upd (upd (upd (upd (upd (upd (upd g (61 + 7 * cN s) c0) (62 + 7 * cN s) c1) (63 + 7 * cN s) c2) (64 + 7 * cN s) c3) (65 + 7 * cN s) s) (66 + 7 * cN s) (-1)) (67 + 7 * cN s) (-1)
theorem shN_out {g : Nat → Int32} {s c0 c1 c2 c3 : Int32} {j : Nat} (h : j < 61 + 7 * cN s ∨ 67 + 7 * cN s < j) : shN g s c0 c1 c2 c3 j = g j := by
  unfold shN upd
  rw [if_neg (by omega), if_neg (by omega), if_neg (by omega), if_neg (by omega), if_neg (by omega), if_neg (by omega), if_neg (by omega)]
theorem shN_new {g : Nat → Int32} {s c0 c1 c2 c3 x y : Int32} (hW : wW g) (hB : wB g) (hL : wL g) (hs : s = g 1) (hr : Rg s 0 11) (ex : x = shN g s c0 c1 c2 c3 (1 : Int32).toNatClampNeg) (ey : y.toInt = x.toInt + 1) : (wW (upd (shN g s c0 c1 c2 c3) (1 : Int32).toNatClampNeg y) ∧ wB (upd (shN g s c0 c1 c2 c3) (1 : Int32).toNatClampNeg y)) ∧ wL (upd (shN g s c0 c1 c2 c3) (1 : Int32).toNatClampNeg y) := by
  have h1 : (1 : Int32).toNatClampNeg = 1 := by decide
  have hm : Rg (-1 : Int32) (-1) 9 := ⟨by decide, by decide⟩
  have r1 := hr.1
  have r2 := hr.2
  have r3 : cN s ≤ 11 := by simp only [cN]; omega
  have xs : x = s := by rw [ex, h1, shN_out (by omega), hs]
  rw [h1]
  refine ⟨⟨wW_upd (wW_sx 67 6 (wW_sx 66 5 (wW_sx 65 4 (wW_sx 64 3 (wW_sx 63 2 (wW_sx 62 1 (wW_sx 61 0 hW hr rfl (by omega) (by omega)) hr rfl (by omega) (by omega)) hr rfl (by omega) (by omega)) hr rfl (by omega) (by omega)) hr rfl (by omega) (by omega)) hr rfl (by omega) (fun _ => hm)) hr rfl (by omega) (fun _ => hm)) (by omega) (fun _ => ⟨by rw [xs] at ey; omega, by rw [xs] at ey; omega⟩) (by omega) (by omega) (by omega) (by omega), ?_⟩, ?_⟩
  · refine wB_new hB hs hr ?_ ?_ (fun j hj => ?_)
    · rw [show upd (shN g s c0 c1 c2 c3) 1 y 1 = y from by unfold upd; rw [if_pos rfl], ey, xs]
    · have e : upd (shN g s c0 c1 c2 c3) 1 y (65 + 7 * cN s) = s := by
        unfold shN upd
        rw [if_neg (by omega), if_neg (by omega), if_neg (by omega), if_pos rfl]
      rw [e]
    · rw [show upd (shN g s c0 c1 c2 c3) 1 y (65 + 7 * j) = shN g s c0 c1 c2 c3 (65 + 7 * j) from by unfold upd; rw [if_neg (by omega)]]
      exact shN_out (by omega)
  · refine wL_congr (fun j h1 h2 => ?_) hL
    rw [show upd (shN g s c0 c1 c2 c3) 1 y j = shN g s c0 c1 c2 c3 j from by unfold upd; rw [if_neg (by omega)]]
    exact shN_out (by omega)
