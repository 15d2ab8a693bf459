/-! The HANDING that is chosen on both sides; it is done. -/
def pOf (sel : Nat → Nat) : Nat → Nat → Bool
  | 0 => fun _ => false
  | k + 1 => pAdd (pOf sel k) (sel k)
def hPre (K : Nat → Nat → Bool) (C : Nat → Nat → Nat) (N : Nat) (sel : Nat → Nat) (k : Nat) : Prop := ∀ i, i < k → oPk K C (N - 1 - i) i (pOf sel i) (sel i)
def selUp (sel : Nat → Nat) (k s : Nat) : Nat → Nat := fun i => if i = k then s else sel i
theorem selUp_at {sel : Nat → Nat} {k s : Nat} : selUp sel k s k = s := if_pos rfl
theorem selUp_ne {sel : Nat → Nat} {k s i : Nat} (h : i ≠ k) : selUp sel k s i = sel i := if_neg h
theorem pOf_cg {s1 s2 : Nat → Nat} : ∀ k, (∀ i, i < k → s1 i = s2 i) → pOf s1 k = pOf s2 k
  | 0, _ => rfl
  | k + 1, h => by
    show pAdd (pOf s1 k) (s1 k) = pAdd (pOf s2 k) (s2 k)
    rw [pOf_cg k (fun i hi => h i (by omega)), h k (by omega)]
theorem pOf_up {sel : Nat → Nat} {k s : Nat} : pOf (selUp sel k s) (k + 1) = pAdd (pOf sel k) s := by
  show pAdd (pOf (selUp sel k s) k) (selUp sel k s k) = _
  rw [pOf_cg k (fun j hj => selUp_ne (by omega)), selUp_at]
theorem hPre_up {K : Nat → Nat → Bool} {C : Nat → Nat → Nat} {N k s : Nat} {sel : Nat → Nat} (h : hPre K C N sel k) (hs : oPk K C (N - 1 - k) k (pOf sel k) s) : hPre K C N (selUp sel k s) (k + 1) := by
  intro i hi
  have e : pOf (selUp sel k s) i = pOf sel i := pOf_cg i (fun j hj => selUp_ne (by omega))
  rw [e]
  by_cases c : i = k
  · subst c
    rw [selUp_at]
    exact hs
  · rw [selUp_ne c]
    exact h i (by omega)
theorem hPre_p {K : Nat → Nat → Bool} {C : Nat → Nat → Nat} {N : Nat} {s1 s2 : Nat → Nat} (h1 : hPre K C N s1 N) (h2 : hPre K C N s2 N) : ∀ k, k ≤ N → pOf s1 k = pOf s2 k
  | 0, _ => rfl
  | k + 1, hk => by
    have ih := hPre_p h1 h2 k (by omega)
    have q1 := h1 k (by omega)
    have q2 := h2 k (by omega)
    rw [← ih] at q2
    show pAdd (pOf s1 k) (s1 k) = pAdd (pOf s2 k) (s2 k)
    rw [← ih, oPk_un q1 q2]
theorem hPre_un {K : Nat → Nat → Bool} {C : Nat → Nat → Nat} {N k : Nat} {s1 s2 : Nat → Nat} (h1 : hPre K C N s1 N) (h2 : hPre K C N s2 N) (hk : k < N) : s1 k = s2 k := by
  have q1 := h1 k hk
  have q2 := h2 k hk
  rw [← hPre_p h1 h2 k (by omega)] at q2
  exact oPk_un q1 q2
def hPut (ba : Nat → Nat) (sel : Nat → Nat) : Nat → Nat → Int
  | 0 => fun _ => -1
  | k + 1 => kUpd (hPut ba sel k) (ba k) (sel k : Int)
theorem hPut_cg {ba s1 s2 : Nat → Nat} : ∀ k, (∀ i, i < k → s1 i = s2 i) → hPut ba s1 k = hPut ba s2 k
  | 0, _ => rfl
  | k + 1, h => by
    show kUpd (hPut ba s1 k) (ba k) (s1 k : Int) = kUpd (hPut ba s2 k) (ba k) (s2 k : Int)
    rw [hPut_cg k (fun i hi => h i (by omega)), h k (by omega)]
theorem hPut_up {ba sel : Nat → Nat} {k s : Nat} : hPut ba (selUp sel k s) (k + 1) = kUpd (hPut ba sel k) (ba k) (s : Int) := by
  show kUpd (hPut ba (selUp sel k s) k) (ba k) (selUp sel k s k : Int) = _
  rw [hPut_cg k (fun j hj => selUp_ne (by omega)), selUp_at]
theorem hPut_no {ba sel : Nat → Nat} {m : Nat} : ∀ k, (∀ i, i < k → ba i ≠ m) → hPut ba sel k m = -1
  | 0, _ => rfl
  | k + 1, h => by
    show kUpd (hPut ba sel k) (ba k) (sel k : Int) m = -1
    rw [kUpd_ne (fun z => h k (by omega) z.symm)]
    exact hPut_no k (fun i hi => h i (by omega))
theorem hPut_at {ba sel : Nat → Nat} {N : Nat} (hb : ∀ i j, i < j → j < N → ba i < ba j) {i : Nat} : ∀ k, k ≤ N → i < k → hPut ba sel k (ba i) = (sel i : Int)
  | 0, _, h => absurd h (Nat.not_lt_zero _)
  | k + 1, hk, h => by
    show kUpd (hPut ba sel k) (ba k) (sel k : Int) (ba i) = _
    by_cases c : i = k
    · subst c
      exact kUpd_at
    · have := hb i k (by omega) (by omega)
      rw [kUpd_ne (by omega)]
      exact hPut_at hb k (by omega) (by omega)
theorem c_fill {f : Nat → Int} {v : Int} : ∀ j, j < 10 → F_z_fillI 10 f v j = v := by
  have e : (nI 10 : Int32).toInt = (10 : Int) := nI_toInt (by decide)
  unfold F_z_fillI F_z_fillI_l1
  refine kInd (st := F_z_fillI_l1_s 10 v) (fun n (y : Int × (Nat → Int)) => ∃ (a : Nat) (g : Nat → Int), y = ((a : Int), g) ∧ a + n = 10 ∧ ∀ j, j < a → g j = v) (fun (t : Nat → Int) => ∀ j, j < 10 → t j = v) ?_ 10 _ ⟨0, f, rfl, by omega, fun j hj => absurd hj (Nat.not_lt_zero _)⟩
  rintro n y ⟨a, g, rfl, ha, hg⟩
  unfold F_z_fillI_l1_s
  simp only [kC, kLet, Int32.reduceToInt, e, Int.toNat_natCast]
  by_cases c : 10 ≤ a
  · rw [if_pos (by omega)]
    exact Or.inl ⟨_, rfl, fun j hj => hg j (by omega)⟩
  · rw [if_neg (by omega)]
    refine Or.inr ⟨n - 1, _, by omega, rfl, a + 1, _, rfl, by omega, fun j hj => ?_⟩
    by_cases cj : j = a
    · subst cj
      exact kUpd_at
    · rw [kUpd_ne cj]
      exact hg j (by omega)
theorem pcnt_0 : ∀ k, pcnt 0 k = 0 := fun k => by
  have := pcnt_top (X := 0) (j := 0) (by decide) (Nat.zero_le k)
  rw [this]
  rfl
section CO
variable {c : Nat → Bool} {ns N : Nat} {ba : Nat → Nat} {B : Nat → Nat → Bool} {C0 : Nat → Nat → Nat} {eb ec en ep : Nat → Int} {a1 : Int}
theorem pS_0 : pS c ns 0 = fun _ => false := by
  funext s
  unfold pS
  rw [Nat.zero_testBit, Bool.and_false, Bool.and_false]
theorem tV_0 : tV (hK c ns ba B) (hCo C0 ba a1) c ns N 0 = oV (hK c ns ba B) (hCo C0 ba a1) N 0 (fun _ => false) := by
  unfold tV
  rw [pcnt_0, if_pos (Nat.zero_le _), pS_0]
  rfl
theorem c_choose (hH : HK N (cnt c ns) ba (nth c ns) B C0 eb ec en ep) (hN : N ≤ 10) (hs : ns ≤ 12) (hC : ∀ m s, C0 m s ≤ 11988) (hb : ∀ k, k < N → ba k < 10) (et : Nat → Int64) (es : Nat → Int) : ∃ (et' : Nat → Int64) (es' : Nat → Int), (F_z_Hand_choose (N : Int) (cnt c ns : Int) et eb ec en ep es a1 = (0, et', es') ∧ oV (hK c ns ba B) (hCo C0 ba a1) N 0 (fun _ => false) = none) ∨ (F_z_Hand_choose (N : Int) (cnt c ns : Int) et eb ec en ep es a1 = (1, et', es') ∧ ∃ sel, hPre (hK c ns ba B) (hCo C0 ba a1) N sel N ∧ ∀ m, m < 10 → es' m = hPut ba sel N m) := by
  have lp := cnt_le c ns
  obtain ⟨et', w1, w2⟩ := c_weigh (a1 := a1) hH hN hs hC et
  rw [tV_0] at w1
  cases q : oV (hK c ns ba B) (hCo C0 ba a1) N 0 (fun _ => false) with
  | none =>
    rw [q] at w1
    refine ⟨et', F_z_fillI 10 es (-1), Or.inl ⟨?_, rfl⟩⟩
    unfold F_z_Hand_choose
    simp only [kC, kLet, Int32.reduceToInt, show ((-1) : Int32).toInt = -1 from by decide, w1]
    rw [if_neg (fun z => by
      have z1 := kCmpl.mp z
      have z2 : Int64.ofNat 1099511627776 < Int64.ofNat 1099511627776 := z1
      have := (lt64 (by decide) (by decide)).mp z2
      omega)]
  | some v =>
    rw [q] at w1
    have hv0 := oV_le (hCo_le (ba := ba) hC a1) _ _ _ _ q
    have hv1 : N * 11988 ≤ 10 * 11988 := Nat.mul_le_mul_right _ hN
    have hvb : v ≤ 119880 := by omega
    clear hv0 hv1
    have key : ∃ es' : Nat → Int, F_z_Hand_choose_l1 (N : Int) (cnt c ns : Int) eb ec en ep a1 et' ((0 : Int), (0 : Int), F_z_fillI 10 es (-1)) = (1, et', es') ∧ ∃ sel, hPre (hK c ns ba B) (hCo C0 ba a1) N sel N ∧ ∀ m, m < 10 → es' m = hPut ba sel N m := by
      unfold F_z_Hand_choose_l1
      refine kInd (st := F_z_Hand_choose_l1_s (N : Int) (cnt c ns : Int) eb ec en ep a1 et') (fun n (y : Int × Int × (Nat → Int)) => ∃ (k G : Nat) (e : Nat → Int) (sel : Nat → Nat) (v : Nat), y = ((k : Int), (G : Int), e) ∧ k + n = N ∧ G < 2 ^ cnt c ns ∧ pcnt G 12 = k ∧ pS c ns G = pOf sel k ∧ hPre (hK c ns ba B) (hCo C0 ba a1) N sel k ∧ (∀ m, m < 10 → e m = hPut ba sel k m) ∧ oV (hK c ns ba B) (hCo C0 ba a1) (N - k) k (pS c ns G) = some v) (fun t => ∃ es' : Nat → Int, t = (1, et', es') ∧ ∃ sel, hPre (hK c ns ba B) (hCo C0 ba a1) N sel N ∧ ∀ m, m < 10 → es' m = hPut ba sel N m) ?_ N _ ⟨0, 0, _, fun _ => 0, v, rfl, by omega, Nat.two_pow_pos _, pcnt_0 12, pS_0, fun i hi => absurd hi (Nat.not_lt_zero _), fun m hm => c_fill m hm, by rw [pS_0]; exact q⟩
      rintro n y ⟨k, G, e, sel, v, rfl, hk, hG, hp, hS, hP, he, hv⟩
      by_cases ck : N ≤ k
      · have : k = N := by omega
        subst this
        unfold F_z_Hand_choose_l1_s
        simp only [kC, kLet, Int32.reduceToInt]
        rw [if_pos (by omega)]
        exact Or.inl ⟨_, rfl, e, rfl, sel, hP, he⟩
      · obtain ⟨j, hj⟩ : ∃ j, k + (j + 1) = N := ⟨N - 1 - k, by omega⟩
        have hv' : oV (hK c ns ba B) (hCo C0 ba a1) (j + 1) k (pS c ns G) = some v := by rw [← hv]; congr 1; omega
        obtain ⟨p, p1, p2, p3, p4⟩ := c_first hH hN hs hC hG w2 hp hj hv'
        have ej : N - 1 - k = j := by omega
        have e1 : F_z_valueAt 10 eb (k : Int) = (ba k : Int) := by
          rw [c_valueAt (by decide), if_pos (by clear p3; omega), Int.toNat_natCast]
          exact hH.1 k (by clear p3; omega)
        have e2 : F_z_valueAt 12 ec (p : Int) = (nth c ns p : Int) := by
          rw [c_valueAt (by decide), if_pos (by clear p3; omega), Int.toNat_natCast]
          exact hH.2.1 p p1
        have e3 : F_z_setAt 10 e (ba k : Int) (nth c ns p : Int) = kUpd e (ba k) (nth c ns p : Int) := c_setAt (by decide) (hb k (by clear p3; omega))
        have k1 : (k : Int) + 1 = ((k + 1 : Nat) : Int) := by clear p3; omega
        have hG2 : G < 4096 := Nat.lt_of_lt_of_le hG (pw12 (by clear p3; omega))
        unfold F_z_Hand_choose_l1_s
        simp only [kC, kLet, Int32.reduceToInt, show ((-1) : Int32).toInt = -1 from by decide, p3, e1, e2, e3, k1, bit_set (show G < 2147483648 by clear p3; omega) (show p < 31 by clear p3; omega)]
        rw [if_neg (by clear p3; omega), if_neg (by clear p3; omega)]
        clear p3
        obtain ⟨w, u1, _⟩ := p4.1.2.2
        refine Or.inr ⟨n - 1, _, by omega, rfl, k + 1, G ||| 2 ^ p, _, selUp sel k (nth c ns p), w, rfl, by omega, or_lt hG p1, by rw [pcnt_set p2, if_pos (by omega), hp], by rw [pS_add p1, pOf_up, hS], hPre_up hP (by rw [ej, ← hS]; exact p4), fun m hm => ?_, by rw [pS_add p1, ← u1]; congr 1; omega⟩
        rw [hPut_up]
        unfold kUpd
        split
        · rfl
        · exact he m hm
    obtain ⟨es', k1, k2⟩ := key
    refine ⟨et', es', Or.inr ⟨?_, k2⟩⟩
    unfold F_z_Hand_choose
    simp only [kC, kLet, Int32.reduceToInt, show ((-1) : Int32).toInt = -1 from by decide, w1]
    rw [if_pos (by exact kCmpl.mpr ((lt64 (a := v) (b := 1099511627776) (by omega) (by decide)).mpr (by omega))), k1]
end CO
section PL
variable {mc sc tx nr ra ru dy wa se : Int} {f1 f2 : Nat → Int} {f3 : Nat → Int64} {g : Nat → Int} {B : Nat → Nat → Bool} {C0 : Nat → Nat → Nat}
theorem pr_plans0 (h : RC mc sc tx nr ra ru dy wa se f1 f2 f3 g) (rB : ∀ m s fv, (m : Nat) < mc.toNat → (s : Nat) < sc.toNat → ∃ fv', F_r_isBarredx g fv (m : Int) (s : Int) = (bI (B m s), fv')) (hC : ∀ m s, C0 m s ≤ 11988) (rC0 : ∀ m s fv, (m : Nat) < mc.toNat → (s : Nat) < sc.toNat → ∃ fv', F_r_costOfx g fv (m : Int) (s : Int) = ((C0 m s : Int), fv')) (fv fn fk fC fg : Nat → Int) (fW : Nat → Int64) : ∃ (fv' fn' fk' fC' fg' : Nat → Int) (fW' : Nat → Int64), (F_r_plans0 g fv fn fk fW fC fg = (0, (cnt (bB1 f1) mc.toNat : Int), fv', fn', fk', fW', fC', fg') ∧ oV (hK (bC1 f2) sc.toNat (nth (bB1 f1) mc.toNat) B) (hCo C0 (nth (bB1 f1) mc.toNat) 0) (cnt (bB1 f1) mc.toNat) 0 (fun _ => false) = none) ∨ (F_r_plans0 g fv fn fk fW fC fg = (1, (cnt (bB1 f1) mc.toNat : Int), fv', fn', fk', fW', fC', fg') ∧ (∀ k, k < cnt (bB1 f1) mc.toNat → fn' k = (nth (bB1 f1) mc.toNat k : Int)) ∧ ∃ sel, hPre (hK (bC1 f2) sc.toNat (nth (bB1 f1) mc.toNat) B) (hCo C0 (nth (bB1 f1) mc.toNat) 0) (cnt (bB1 f1) mc.toNat) sel (cnt (bB1 f1) mc.toNat) ∧ ∀ m, m < 10 → fg' m = hPut (nth (bB1 f1) mc.toNat) sel (cnt (bB1 f1) mc.toNat) m) := by
  have a1 : g 1 = sc := h.1.2.1
  have b1 : 0 ≤ mc := h.2.2.2.2.2.1
  have b2 : mc ≤ 10 := h.2.2.2.2.2.2.1
  have b3 : 0 ≤ sc := h.2.2.2.2.2.2.2.1
  have b4 : sc ≤ 12 := h.2.2.2.2.2.2.2.2.1
  have lN := cnt_le (bB1 f1) mc.toNat
  have hN : cnt (bB1 f1) mc.toNat ≤ 10 := by omega
  have hs : sc.toNat ≤ 12 := by omega
  have g1 : g 1 = (sc.toNat : Int) := by omega
  have esh : F_r_shirts g = (sc.toNat : Int) := by rw [pr_shirts]; exact g1
  have e2n : kShl 1 (sc.toNat : Int) = ((2 ^ sc.toNat : Nat) : Int) := kShl1 _ (by omega)
  have rC : ∀ k s fv, k < cnt (bB1 f1) mc.toNat → s < sc.toNat → ∃ fv', F_r_costOfx g fv (nth (bB1 f1) mc.toNat k : Int) (s : Int) = ((hCo C0 (nth (bB1 f1) mc.toNat) 1 k s : Int), fv') := fun k s fv hk hs2 => by
    rw [show hCo C0 (nth (bB1 f1) mc.toNat) 1 k s = C0 (nth (bB1 f1) mc.toNat k) s from if_neg (by decide)]
    exact rC0 _ s fv (nth_ok _ k hk).1 hs2
  have mkR : ∀ fn' fk' : Nat → Int, (∀ k, k < cnt (bB1 f1) mc.toNat → fn' k = (nth (bB1 f1) mc.toNat k : Int)) → (∀ k, k < cnt (bB1 f1) mc.toNat → ∃ X : Nat, fk' k = (X : Int) ∧ X < 2 ^ sc.toNat ∧ ∀ t, X.testBit t = (decide (t < sc.toNat) && (bC1 f2 t && !B (nth (bB1 f1) mc.toNat k) t))) → RK (cnt (bB1 f1) mc.toNat) sc.toNat (nth (bB1 f1) mc.toNat) (hK (bC1 f2) sc.toNat (nth (bB1 f1) mc.toNat) B) fn' fk' := fun fn' fk' u1 u2 => ⟨u1, u2, fun k t z => (hK_in z).1⟩
  obtain ⟨v1, n1, k1, l1, l2, l3⟩ := pr_looksx h rB fv fn fk
  have R1 := mkR n1 k1 l2 l3
  obtain ⟨W1, w1, w2⟩ := r_wayss (g := g) R1 hN hs fW v1
  have eW : F_r_allWaysx g fv fn fk fW = (Int64.ofNat (wV (hK (bC1 f2) sc.toNat (nth (bB1 f1) mc.toNat) B) (cnt (bB1 f1) mc.toNat) 0 (fun _ => false)), (cnt (bB1 f1) mc.toNat : Int), v1, n1, k1, W1) := by
    unfold F_r_allWaysx
    simp only [kC, kLet, Int32.reduceToInt, l1, esh, e2n, w1]
  obtain ⟨v2, n2, k2, m1, m2, m3⟩ := pr_looksx h rB v1 n1 k1
  have R2 := mkR n2 k2 m2 m3
  obtain ⟨C1, v3, c1, c2⟩ := r_costs R2 g1 hN hs (hCo_le (ba := nth (bB1 f1) mc.toNat) hC 1) rC fC v2
  have eC : F_r_leastCostx g v1 n1 k1 fC = ((((oV (hK (bC1 f2) sc.toNat (nth (bB1 f1) mc.toNat) B) (hCo C0 (nth (bB1 f1) mc.toNat) 1) (cnt (bB1 f1) mc.toNat) 0 (fun _ => false)).getD 1000000 : Nat) : Int), (cnt (bB1 f1) mc.toNat : Int), v3, n2, k2, C1) := by
    unfold F_r_leastCostx
    simp only [kC, kLet, Int32.reduceToInt, m1, esh, e2n, c1]
  have wl := wV_le (K := hK (bC1 f2) sc.toNat (nth (bB1 f1) mc.toNat) B) (cnt (bB1 f1) mc.toNat) 0 (fun _ => false)
  have wl2 : 12 ^ cnt (bB1 f1) mc.toNat ≤ 12 ^ 10 := Nat.pow_le_pow_right (by decide) hN
  have wl3 : (12 : Nat) ^ 10 = 61917364224 := by decide
  suffices key : (∃ (fv' fn' fk' fC' fg' : Nat → Int) (fW' : Nat → Int64), (F_r_plans0_l1 g fv fn fk fW fC ((0 : Int), fg) = (0, (cnt (bB1 f1) mc.toNat : Int), fv', fn', fk', fW', fC', fg') ∧ oV (hK (bC1 f2) sc.toNat (nth (bB1 f1) mc.toNat) B) (hCo C0 (nth (bB1 f1) mc.toNat) 0) (cnt (bB1 f1) mc.toNat) 0 (fun _ => false) = none) ∨ (F_r_plans0_l1 g fv fn fk fW fC ((0 : Int), fg) = (1, (cnt (bB1 f1) mc.toNat : Int), fv', fn', fk', fW', fC', fg') ∧ (∀ k, k < cnt (bB1 f1) mc.toNat → fn' k = (nth (bB1 f1) mc.toNat k : Int)) ∧ ∃ sel, hPre (hK (bC1 f2) sc.toNat (nth (bB1 f1) mc.toNat) B) (hCo C0 (nth (bB1 f1) mc.toNat) 0) (cnt (bB1 f1) mc.toNat) sel (cnt (bB1 f1) mc.toNat) ∧ ∀ m, m < 10 → fg' m = hPut (nth (bB1 f1) mc.toNat) sel (cnt (bB1 f1) mc.toNat) m)) by
    unfold F_r_plans0
    exact key
  unfold F_r_plans0_l1
  refine kInd (st := F_r_plans0_l1_s g fv fn fk fW fC) (fun n (y : Int × (Nat → Int)) => ∃ (a : Nat) (e : Nat → Int), y = ((a : Int), e) ∧ a + n = 10 ∧ ∀ j, j < a → e j = -1) (fun t => ∃ (fv' fn' fk' fC' fg' : Nat → Int) (fW' : Nat → Int64), (t = (0, (cnt (bB1 f1) mc.toNat : Int), fv', fn', fk', fW', fC', fg') ∧ oV (hK (bC1 f2) sc.toNat (nth (bB1 f1) mc.toNat) B) (hCo C0 (nth (bB1 f1) mc.toNat) 0) (cnt (bB1 f1) mc.toNat) 0 (fun _ => false) = none) ∨ (t = (1, (cnt (bB1 f1) mc.toNat : Int), fv', fn', fk', fW', fC', fg') ∧ (∀ k, k < cnt (bB1 f1) mc.toNat → fn' k = (nth (bB1 f1) mc.toNat k : Int)) ∧ ∃ sel, hPre (hK (bC1 f2) sc.toNat (nth (bB1 f1) mc.toNat) B) (hCo C0 (nth (bB1 f1) mc.toNat) 0) (cnt (bB1 f1) mc.toNat) sel (cnt (bB1 f1) mc.toNat) ∧ ∀ m, m < 10 → fg' m = hPut (nth (bB1 f1) mc.toNat) sel (cnt (bB1 f1) mc.toNat) m)) ?_ 10 _ ⟨0, fg, rfl, by omega, fun j hj => absurd hj (Nat.not_lt_zero _)⟩
  rintro n y ⟨a, e, rfl, ha, he⟩
  unfold F_r_plans0_l1_s
  simp only [kC, kLet, Int32.reduceToInt, Int.toNat_natCast, show ((-1) : Int32).toInt = -1 from by decide]
  by_cases ca : 10 ≤ a
  · rw [if_pos (by omega)]
    simp only [eW, eC]
    refine Or.inl ?_
    by_cases cz : wV (hK (bC1 f2) sc.toNat (nth (bB1 f1) mc.toNat) B) (cnt (bB1 f1) mc.toNat) 0 (fun _ => false) = 0
    · rw [if_pos (kCmp0.mpr (by rw [cz]; rfl))]
      exact ⟨_, rfl, v1, n1, k1, fC, e, W1, Or.inl ⟨rfl, (wV_zero _ _ _).mp cz⟩⟩
    · rw [if_neg (fun z => by
        have z1 := kCmp0.mp z
        have z2 : Int64.ofNat (wV (hK (bC1 f2) sc.toNat (nth (bB1 f1) mc.toNat) B) (cnt (bB1 f1) mc.toNat) 0 (fun _ => false)) = Int64.ofNat 0 := z1
        exact cz (eq64 (by omega) (by decide) z2))]
      obtain ⟨v, hv⟩ : ∃ v, oV (hK (bC1 f2) sc.toNat (nth (bB1 f1) mc.toNat) B) (hCo C0 (nth (bB1 f1) mc.toNat) 0) (cnt (bB1 f1) mc.toNat) 0 (fun _ => false) = some v := by
        cases z : oV (hK (bC1 f2) sc.toNat (nth (bB1 f1) mc.toNat) B) (hCo C0 (nth (bB1 f1) mc.toNat) 0) (cnt (bB1 f1) mc.toNat) 0 (fun _ => false) with
        | none => exact absurd ((wV_zero _ _ _).mpr z) cz
        | some v => exact ⟨v, rfl⟩
      unfold F_r_plans0_l2
      refine kInd (st := F_r_plans0_l2_s W1 (cnt (bB1 f1) mc.toNat : Int) v3 n2 k2 C1) (fun n (y : Int × Int × (Nat → Int)) => ∃ (k S : Nat) (e : Nat → Int) (sel : Nat → Nat) (v : Nat), y = ((k : Int), (S : Int), e) ∧ k + n = cnt (bB1 f1) mc.toNat ∧ S < 2 ^ sc.toNat ∧ pcnt S 12 = k ∧ rB1 S = pOf sel k ∧ hPre (hK (bC1 f2) sc.toNat (nth (bB1 f1) mc.toNat) B) (hCo C0 (nth (bB1 f1) mc.toNat) 0) (cnt (bB1 f1) mc.toNat) sel k ∧ (∀ m, m < 10 → e m = hPut (nth (bB1 f1) mc.toNat) sel k m) ∧ oV (hK (bC1 f2) sc.toNat (nth (bB1 f1) mc.toNat) B) (hCo C0 (nth (bB1 f1) mc.toNat) 0) (cnt (bB1 f1) mc.toNat - k) k (rB1 S) = some v) (fun o => ∃ t, o = Sum.inr t ∧ ∃ (fv' fn' fk' fC' fg' : Nat → Int) (fW' : Nat → Int64), (t = (0, (cnt (bB1 f1) mc.toNat : Int), fv', fn', fk', fW', fC', fg') ∧ oV (hK (bC1 f2) sc.toNat (nth (bB1 f1) mc.toNat) B) (hCo C0 (nth (bB1 f1) mc.toNat) 0) (cnt (bB1 f1) mc.toNat) 0 (fun _ => false) = none) ∨ (t = (1, (cnt (bB1 f1) mc.toNat : Int), fv', fn', fk', fW', fC', fg') ∧ (∀ k, k < cnt (bB1 f1) mc.toNat → fn' k = (nth (bB1 f1) mc.toNat k : Int)) ∧ ∃ sel, hPre (hK (bC1 f2) sc.toNat (nth (bB1 f1) mc.toNat) B) (hCo C0 (nth (bB1 f1) mc.toNat) 0) (cnt (bB1 f1) mc.toNat) sel (cnt (bB1 f1) mc.toNat) ∧ ∀ m, m < 10 → fg' m = hPut (nth (bB1 f1) mc.toNat) sel (cnt (bB1 f1) mc.toNat) m)) ?_ (cnt (bB1 f1) mc.toNat) _ ⟨0, 0, e, fun _ => 0, v, rfl, by omega, Nat.two_pow_pos _, pcnt_0 12, rB1_0, fun i hi => absurd hi (Nat.not_lt_zero _), fun m hm => he m (by omega), by rw [rB1_0]; exact hv⟩
      rintro n y ⟨k, S, e, sel, v, rfl, hk, hS, hp, hSP, hP, he2, hv2⟩
      by_cases ck : cnt (bB1 f1) mc.toNat ≤ k
      · have hkN : k = cnt (bB1 f1) mc.toNat := by omega
        unfold F_r_plans0_l2_s
        simp only [kC, kLet, Int32.reduceToInt]
        rw [if_pos (by omega)]
        exact Or.inl ⟨_, rfl, _, rfl, v3, n2, k2, C1, e, W1, Or.inr ⟨rfl, m2, sel, by rw [hkN] at hP; exact hP, by rw [hkN] at he2; exact he2⟩⟩
      · obtain ⟨j, hj⟩ : ∃ j, k + (j + 1) = cnt (bB1 f1) mc.toNat := ⟨cnt (bB1 f1) mc.toNat - 1 - k, by omega⟩
        have hv' : oV (hK (bC1 f2) sc.toNat (nth (bB1 f1) mc.toNat) B) (hCo C0 (nth (bB1 f1) mc.toNat) 0) (j + 1) k (rB1 S) = some v := by rw [← hv2]; congr 1; omega
        have ej : cnt (bB1 f1) mc.toNat - 1 - k = j := by omega
        obtain ⟨s, p1, p2, p3, p4⟩ := r_pick0 R2 hN hs hC w2 hS hp hj hv' e
        unfold F_r_plans0_l2_s
        simp only [kC, kLet, Int32.reduceToInt]
        rw [if_neg (by omega), p3]
        obtain ⟨w, u1, _⟩ := p4.1.2.2
        refine Or.inr ⟨n - 1, _, by omega, rfl, k + 1, S ||| 2 ^ s, _, selUp sel k s, w, rfl, by omega, or_lt hS p1, by rw [pcnt_set p2, if_pos (by omega), hp], by rw [rB1_add, pOf_up, hSP], hPre_up hP (by rw [ej, ← hSP]; exact p4), fun m hm => ?_, by rw [rB1_add, ← u1]; congr 1; omega⟩
        rw [hPut_up]
        unfold kUpd
        split
        · rfl
        · exact he2 m hm
  · rw [if_neg (by omega)]
    refine Or.inr ⟨n - 1, _, by omega, rfl, a + 1, _, rfl, by omega, fun j hj => ?_⟩
    by_cases cj : j = a
    · subst cj
      exact kUpd_at
    · rw [kUpd_ne cj]
      exact he j (by omega)
theorem pr_plans1 (h : RC mc sc tx nr ra ru dy wa se f1 f2 f3 g) (rB : ∀ m s fv, (m : Nat) < mc.toNat → (s : Nat) < sc.toNat → ∃ fv', F_r_isBarredx g fv (m : Int) (s : Int) = (bI (B m s), fv')) (hC : ∀ m s, C0 m s ≤ 11988) (rC0 : ∀ m s fv, (m : Nat) < mc.toNat → (s : Nat) < sc.toNat → ∃ fv', F_r_costOfx g fv (m : Int) (s : Int) = ((C0 m s : Int), fv')) (fv fn fk fC fg : Nat → Int) (fW : Nat → Int64) : ∃ (fv' fn' fk' fC' fg' : Nat → Int) (fW' : Nat → Int64), (F_r_plans1 g fv fn fk fW fC fg = (0, (cnt (bB1 f1) mc.toNat : Int), fv', fn', fk', fW', fC', fg') ∧ oV (hK (bC1 f2) sc.toNat (nth (bB1 f1) mc.toNat) B) (hCo C0 (nth (bB1 f1) mc.toNat) 1) (cnt (bB1 f1) mc.toNat) 0 (fun _ => false) = none) ∨ (F_r_plans1 g fv fn fk fW fC fg = (1, (cnt (bB1 f1) mc.toNat : Int), fv', fn', fk', fW', fC', fg') ∧ (∀ k, k < cnt (bB1 f1) mc.toNat → fn' k = (nth (bB1 f1) mc.toNat k : Int)) ∧ ∃ sel, hPre (hK (bC1 f2) sc.toNat (nth (bB1 f1) mc.toNat) B) (hCo C0 (nth (bB1 f1) mc.toNat) 1) (cnt (bB1 f1) mc.toNat) sel (cnt (bB1 f1) mc.toNat) ∧ ∀ m, m < 10 → fg' m = hPut (nth (bB1 f1) mc.toNat) sel (cnt (bB1 f1) mc.toNat) m) := by
  have a1 : g 1 = sc := h.1.2.1
  have b1 : 0 ≤ mc := h.2.2.2.2.2.1
  have b2 : mc ≤ 10 := h.2.2.2.2.2.2.1
  have b3 : 0 ≤ sc := h.2.2.2.2.2.2.2.1
  have b4 : sc ≤ 12 := h.2.2.2.2.2.2.2.2.1
  have lN := cnt_le (bB1 f1) mc.toNat
  have hN : cnt (bB1 f1) mc.toNat ≤ 10 := by omega
  have hs : sc.toNat ≤ 12 := by omega
  have g1 : g 1 = (sc.toNat : Int) := by omega
  have esh : F_r_shirts g = (sc.toNat : Int) := by rw [pr_shirts]; exact g1
  have e2n : kShl 1 (sc.toNat : Int) = ((2 ^ sc.toNat : Nat) : Int) := kShl1 _ (by omega)
  have rC : ∀ k s fv, k < cnt (bB1 f1) mc.toNat → s < sc.toNat → ∃ fv', F_r_costOfx g fv (nth (bB1 f1) mc.toNat k : Int) (s : Int) = ((hCo C0 (nth (bB1 f1) mc.toNat) 1 k s : Int), fv') := fun k s fv hk hs2 => by
    rw [show hCo C0 (nth (bB1 f1) mc.toNat) 1 k s = C0 (nth (bB1 f1) mc.toNat k) s from if_neg (by decide)]
    exact rC0 _ s fv (nth_ok _ k hk).1 hs2
  have mkR : ∀ fn' fk' : Nat → Int, (∀ k, k < cnt (bB1 f1) mc.toNat → fn' k = (nth (bB1 f1) mc.toNat k : Int)) → (∀ k, k < cnt (bB1 f1) mc.toNat → ∃ X : Nat, fk' k = (X : Int) ∧ X < 2 ^ sc.toNat ∧ ∀ t, X.testBit t = (decide (t < sc.toNat) && (bC1 f2 t && !B (nth (bB1 f1) mc.toNat k) t))) → RK (cnt (bB1 f1) mc.toNat) sc.toNat (nth (bB1 f1) mc.toNat) (hK (bC1 f2) sc.toNat (nth (bB1 f1) mc.toNat) B) fn' fk' := fun fn' fk' u1 u2 => ⟨u1, u2, fun k t z => (hK_in z).1⟩
  obtain ⟨v1, n1, k1, l1, l2, l3⟩ := pr_looksx h rB fv fn fk
  have R1 := mkR n1 k1 l2 l3
  obtain ⟨W1, w1, w2⟩ := r_wayss (g := g) R1 hN hs fW v1
  have eW : F_r_allWaysx g fv fn fk fW = (Int64.ofNat (wV (hK (bC1 f2) sc.toNat (nth (bB1 f1) mc.toNat) B) (cnt (bB1 f1) mc.toNat) 0 (fun _ => false)), (cnt (bB1 f1) mc.toNat : Int), v1, n1, k1, W1) := by
    unfold F_r_allWaysx
    simp only [kC, kLet, Int32.reduceToInt, l1, esh, e2n, w1]
  obtain ⟨v2, n2, k2, m1, m2, m3⟩ := pr_looksx h rB v1 n1 k1
  have R2 := mkR n2 k2 m2 m3
  obtain ⟨C1, v3, c1, c2⟩ := r_costs R2 g1 hN hs (hCo_le (ba := nth (bB1 f1) mc.toNat) hC 1) rC fC v2
  have eC : F_r_leastCostx g v1 n1 k1 fC = ((((oV (hK (bC1 f2) sc.toNat (nth (bB1 f1) mc.toNat) B) (hCo C0 (nth (bB1 f1) mc.toNat) 1) (cnt (bB1 f1) mc.toNat) 0 (fun _ => false)).getD 1000000 : Nat) : Int), (cnt (bB1 f1) mc.toNat : Int), v3, n2, k2, C1) := by
    unfold F_r_leastCostx
    simp only [kC, kLet, Int32.reduceToInt, m1, esh, e2n, c1]
  have wl := wV_le (K := hK (bC1 f2) sc.toNat (nth (bB1 f1) mc.toNat) B) (cnt (bB1 f1) mc.toNat) 0 (fun _ => false)
  have wl2 : 12 ^ cnt (bB1 f1) mc.toNat ≤ 12 ^ 10 := Nat.pow_le_pow_right (by decide) hN
  have wl3 : (12 : Nat) ^ 10 = 61917364224 := by decide
  suffices key : (∃ (fv' fn' fk' fC' fg' : Nat → Int) (fW' : Nat → Int64), (F_r_plans1_l1 g fv fn fk fW fC ((0 : Int), fg) = (0, (cnt (bB1 f1) mc.toNat : Int), fv', fn', fk', fW', fC', fg') ∧ oV (hK (bC1 f2) sc.toNat (nth (bB1 f1) mc.toNat) B) (hCo C0 (nth (bB1 f1) mc.toNat) 1) (cnt (bB1 f1) mc.toNat) 0 (fun _ => false) = none) ∨ (F_r_plans1_l1 g fv fn fk fW fC ((0 : Int), fg) = (1, (cnt (bB1 f1) mc.toNat : Int), fv', fn', fk', fW', fC', fg') ∧ (∀ k, k < cnt (bB1 f1) mc.toNat → fn' k = (nth (bB1 f1) mc.toNat k : Int)) ∧ ∃ sel, hPre (hK (bC1 f2) sc.toNat (nth (bB1 f1) mc.toNat) B) (hCo C0 (nth (bB1 f1) mc.toNat) 1) (cnt (bB1 f1) mc.toNat) sel (cnt (bB1 f1) mc.toNat) ∧ ∀ m, m < 10 → fg' m = hPut (nth (bB1 f1) mc.toNat) sel (cnt (bB1 f1) mc.toNat) m)) by
    unfold F_r_plans1
    exact key
  unfold F_r_plans1_l1
  refine kInd (st := F_r_plans1_l1_s g fv fn fk fW fC) (fun n (y : Int × (Nat → Int)) => ∃ (a : Nat) (e : Nat → Int), y = ((a : Int), e) ∧ a + n = 10 ∧ ∀ j, j < a → e j = -1) (fun t => ∃ (fv' fn' fk' fC' fg' : Nat → Int) (fW' : Nat → Int64), (t = (0, (cnt (bB1 f1) mc.toNat : Int), fv', fn', fk', fW', fC', fg') ∧ oV (hK (bC1 f2) sc.toNat (nth (bB1 f1) mc.toNat) B) (hCo C0 (nth (bB1 f1) mc.toNat) 1) (cnt (bB1 f1) mc.toNat) 0 (fun _ => false) = none) ∨ (t = (1, (cnt (bB1 f1) mc.toNat : Int), fv', fn', fk', fW', fC', fg') ∧ (∀ k, k < cnt (bB1 f1) mc.toNat → fn' k = (nth (bB1 f1) mc.toNat k : Int)) ∧ ∃ sel, hPre (hK (bC1 f2) sc.toNat (nth (bB1 f1) mc.toNat) B) (hCo C0 (nth (bB1 f1) mc.toNat) 1) (cnt (bB1 f1) mc.toNat) sel (cnt (bB1 f1) mc.toNat) ∧ ∀ m, m < 10 → fg' m = hPut (nth (bB1 f1) mc.toNat) sel (cnt (bB1 f1) mc.toNat) m)) ?_ 10 _ ⟨0, fg, rfl, by omega, fun j hj => absurd hj (Nat.not_lt_zero _)⟩
  rintro n y ⟨a, e, rfl, ha, he⟩
  unfold F_r_plans1_l1_s
  simp only [kC, kLet, Int32.reduceToInt, Int.toNat_natCast, show ((-1) : Int32).toInt = -1 from by decide]
  by_cases ca : 10 ≤ a
  · rw [if_pos (by omega)]
    simp only [eW, eC]
    refine Or.inl ?_
    by_cases cz : wV (hK (bC1 f2) sc.toNat (nth (bB1 f1) mc.toNat) B) (cnt (bB1 f1) mc.toNat) 0 (fun _ => false) = 0
    · rw [if_pos (kCmp0.mpr (by rw [cz]; rfl))]
      exact ⟨_, rfl, v1, n1, k1, fC, e, W1, Or.inl ⟨rfl, (wV_zero _ _ _).mp cz⟩⟩
    · rw [if_neg (fun z => by
        have z1 := kCmp0.mp z
        have z2 : Int64.ofNat (wV (hK (bC1 f2) sc.toNat (nth (bB1 f1) mc.toNat) B) (cnt (bB1 f1) mc.toNat) 0 (fun _ => false)) = Int64.ofNat 0 := z1
        exact cz (eq64 (by omega) (by decide) z2))]
      obtain ⟨v, hv⟩ : ∃ v, oV (hK (bC1 f2) sc.toNat (nth (bB1 f1) mc.toNat) B) (hCo C0 (nth (bB1 f1) mc.toNat) 1) (cnt (bB1 f1) mc.toNat) 0 (fun _ => false) = some v := by
        cases z : oV (hK (bC1 f2) sc.toNat (nth (bB1 f1) mc.toNat) B) (hCo C0 (nth (bB1 f1) mc.toNat) 1) (cnt (bB1 f1) mc.toNat) 0 (fun _ => false) with
        | none => exact absurd ((wV_zero _ _ _).mpr z) cz
        | some v => exact ⟨v, rfl⟩
      unfold F_r_plans1_l2
      refine kInd (st := F_r_plans1_l2_s g W1 (cnt (bB1 f1) mc.toNat : Int) n2 k2 C1) (fun n (y : Int × Int × (Nat → Int) × (Nat → Int)) => ∃ (k S : Nat) (e : Nat → Int) (sel : Nat → Nat) (v : Nat) (fv0 : Nat → Int), y = ((k : Int), (S : Int), e, fv0) ∧ k + n = cnt (bB1 f1) mc.toNat ∧ S < 2 ^ sc.toNat ∧ pcnt S 12 = k ∧ rB1 S = pOf sel k ∧ hPre (hK (bC1 f2) sc.toNat (nth (bB1 f1) mc.toNat) B) (hCo C0 (nth (bB1 f1) mc.toNat) 1) (cnt (bB1 f1) mc.toNat) sel k ∧ (∀ m, m < 10 → e m = hPut (nth (bB1 f1) mc.toNat) sel k m) ∧ oV (hK (bC1 f2) sc.toNat (nth (bB1 f1) mc.toNat) B) (hCo C0 (nth (bB1 f1) mc.toNat) 1) (cnt (bB1 f1) mc.toNat - k) k (rB1 S) = some v) (fun o => ∃ t, o = Sum.inr t ∧ ∃ (fv' fn' fk' fC' fg' : Nat → Int) (fW' : Nat → Int64), (t = (0, (cnt (bB1 f1) mc.toNat : Int), fv', fn', fk', fW', fC', fg') ∧ oV (hK (bC1 f2) sc.toNat (nth (bB1 f1) mc.toNat) B) (hCo C0 (nth (bB1 f1) mc.toNat) 1) (cnt (bB1 f1) mc.toNat) 0 (fun _ => false) = none) ∨ (t = (1, (cnt (bB1 f1) mc.toNat : Int), fv', fn', fk', fW', fC', fg') ∧ (∀ k, k < cnt (bB1 f1) mc.toNat → fn' k = (nth (bB1 f1) mc.toNat k : Int)) ∧ ∃ sel, hPre (hK (bC1 f2) sc.toNat (nth (bB1 f1) mc.toNat) B) (hCo C0 (nth (bB1 f1) mc.toNat) 1) (cnt (bB1 f1) mc.toNat) sel (cnt (bB1 f1) mc.toNat) ∧ ∀ m, m < 10 → fg' m = hPut (nth (bB1 f1) mc.toNat) sel (cnt (bB1 f1) mc.toNat) m)) ?_ (cnt (bB1 f1) mc.toNat) _ ⟨0, 0, e, fun _ => 0, v, v3, rfl, by omega, Nat.two_pow_pos _, pcnt_0 12, rB1_0, fun i hi => absurd hi (Nat.not_lt_zero _), fun m hm => he m (by omega), by rw [rB1_0]; exact hv⟩
      rintro n y ⟨k, S, e, sel, v, fv0, rfl, hk, hS, hp, hSP, hP, he2, hv2⟩
      by_cases ck : cnt (bB1 f1) mc.toNat ≤ k
      · have hkN : k = cnt (bB1 f1) mc.toNat := by omega
        unfold F_r_plans1_l2_s
        simp only [kC, kLet, Int32.reduceToInt]
        rw [if_pos (by omega)]
        exact Or.inl ⟨_, rfl, _, rfl, fv0, n2, k2, C1, e, W1, Or.inr ⟨rfl, m2, sel, by rw [hkN] at hP; exact hP, by rw [hkN] at he2; exact he2⟩⟩
      · obtain ⟨j, hj⟩ : ∃ j, k + (j + 1) = cnt (bB1 f1) mc.toNat := ⟨cnt (bB1 f1) mc.toNat - 1 - k, by omega⟩
        have hv' : oV (hK (bC1 f2) sc.toNat (nth (bB1 f1) mc.toNat) B) (hCo C0 (nth (bB1 f1) mc.toNat) 1) (j + 1) k (rB1 S) = some v := by rw [← hv2]; congr 1; omega
        have ej : cnt (bB1 f1) mc.toNat - 1 - k = j := by omega
        obtain ⟨s, fv2, p1, p2, p3, p4⟩ := r_pick1 R2 hN hs hC rC c2 hS hp hj hv' e fv0
        unfold F_r_plans1_l2_s
        simp only [kC, kLet, Int32.reduceToInt]
        rw [if_neg (by omega), p3]
        obtain ⟨w, u1, _⟩ := p4.1.2.2
        refine Or.inr ⟨n - 1, _, by omega, rfl, k + 1, S ||| 2 ^ s, _, selUp sel k s, w, fv2, rfl, by omega, or_lt hS p1, by rw [pcnt_set p2, if_pos (by omega), hp], by rw [rB1_add, pOf_up, hSP], hPre_up hP (by rw [ej, ← hSP]; exact p4), fun m hm => ?_, by rw [rB1_add, ← u1]; congr 1; omega⟩
        rw [hPut_up]
        unfold kUpd
        split
        · rfl
        · exact he2 m hm
  · rw [if_neg (by omega)]
    refine Or.inr ⟨n - 1, _, by omega, rfl, a + 1, _, rfl, by omega, fun j hj => ?_⟩
    by_cases cj : j = a
    · subst cj
      exact kUpd_at
    · rw [kUpd_ne cj]
      exact he j (by omega)
end PL
/-! the HANDING is done -/
noncomputable def hD (ba sel : Nat → Nat) (f1 f2 : Nat → Int) : Nat → (Nat → Int) × (Nat → Int)
  | 0 => (f1, f2)
  | k + 1 => F_z_Camp_handTo (hD ba sel f1 f2 k).1 (hD ba sel f1 f2 k).2 (ba k : Int) (sel k : Int)
noncomputable def hG (ba sel : Nat → Nat) (g : Nat → Int) : Nat → Nat → Int
  | 0 => g
  | k + 1 => F_r_gives (hG ba sel g k) (ba k : Int) (sel k : Int)
theorem hG_cg {ba s1 s2 : Nat → Nat} {g : Nat → Int} : ∀ k, (∀ i, i < k → s1 i = s2 i) → hG ba s1 g k = hG ba s2 g k
  | 0, _ => rfl
  | k + 1, h => by
    show F_r_gives (hG ba s1 g k) (ba k : Int) (s1 k : Int) = F_r_gives (hG ba s2 g k) (ba k : Int) (s2 k : Int)
    rw [hG_cg k (fun i hi => h i (by omega)), h k (by omega)]
section DN
variable {mc sc tx nr ra ru dy wa se : Int} {f1 f2 : Nat → Int} {f3 : Nat → Int64} {g : Nat → Int} {B : Nat → Nat → Bool} {C : Nat → Nat → Nat} {sel : Nat → Nat}
theorem hd_RC (h : RC mc sc tx nr ra ru dy wa se f1 f2 f3 g) (hP : hPre (hK (bC1 f2) sc.toNat (nth (bB1 f1) mc.toNat) B) C (cnt (bB1 f1) mc.toNat) sel (cnt (bB1 f1) mc.toNat)) : ∀ k, k ≤ cnt (bB1 f1) mc.toNat → RC mc sc tx nr ra ru dy wa se (hD (nth (bB1 f1) mc.toNat) sel f1 f2 k).1 (hD (nth (bB1 f1) mc.toNat) sel f1 f2 k).2 f3 (hG (nth (bB1 f1) mc.toNat) sel g k) ∧ hG (nth (bB1 f1) mc.toNat) sel g k 3 = g 3 ∧ (∀ j, 505 ≤ j → hG (nth (bB1 f1) mc.toNat) sel g k j = g j) ∧ (∀ i, k ≤ i → i < cnt (bB1 f1) mc.toNat → (hD (nth (bB1 f1) mc.toNat) sel f1 f2 k).1 (5 * nth (bB1 f1) mc.toNat i + 4) = -1) ∧ (∀ s : Nat, pOf sel k s = false → (hD (nth (bB1 f1) mc.toNat) sel f1 f2 k).2 (6 * s + 5) = f2 (6 * s + 5))
  | 0, _ => by
    refine ⟨h, rfl, fun j _ => rfl, fun i _ hi => ?_, fun s _ => rfl⟩
    have := (nth_ok _ i hi).2.1
    exact of_decide_eq_true this
  | k + 1, hk => by
    obtain ⟨q1, q2, q3, q4, q5⟩ := hd_RC h hP k (by omega)
    have o := hP k (by omega)
    obtain ⟨s1, s2, s3⟩ := hK_in o.1.1
    obtain ⟨n1, n2, n3⟩ := nth_ok _ k (show k < cnt (bB1 f1) mc.toNat by omega)
    have b1 : 0 ≤ mc := h.2.2.2.2.2.1
    have b2 : mc ≤ 10 := h.2.2.2.2.2.2.1
    have b3 : 0 ≤ sc := h.2.2.2.2.2.2.2.1
    have b4 : sc ≤ 12 := h.2.2.2.2.2.2.2.2.1
    have e1 := q4 k (Nat.le_refl _) (by omega)
    have e2 : (hD (nth (bB1 f1) mc.toNat) sel f1 f2 k).2 (6 * sel k + 5) = -1 := by rw [q5 (sel k) o.1.2.1]; exact of_decide_eq_true s2
    obtain ⟨r1, r2, r3, _⟩ := RC_gives q1 (m := nth (bB1 f1) mc.toNat k) (s := sel k) (by omega) (by omega) e1 e2
    have eD : hD (nth (bB1 f1) mc.toNat) sel f1 f2 (k + 1) = _ := c_handTo (f1 := (hD (nth (bB1 f1) mc.toNat) sel f1 f2 k).1) (f2 := (hD (nth (bB1 f1) mc.toNat) sel f1 f2 k).2) (m := nth (bB1 f1) mc.toNat k) (s := sel k) (by omega) (by omega)
    refine ⟨r1, r2.trans q2, fun j hj => (r3 j hj).trans (q3 j hj), fun i hi hiN => ?_, fun s hs => ?_⟩
    · have := nth_lt hiN (show k < i by omega)
      rw [eD]
      show kUpd _ _ _ _ = _
      rw [kUpd_ne (by omega)]
      exact q4 i (by omega) hiN
    · have hs' : (pOf sel k s || decide (s = sel k)) = false := hs
      have hs1 : pOf sel k s = false := (Bool.or_eq_false_iff.mp hs').1
      have hs2 : ¬ s = sel k := of_decide_eq_false (Bool.or_eq_false_iff.mp hs').2
      rw [eD]
      show kUpd (kUpd _ _ _) _ _ _ = _
      rw [kUpd_ne (by omega), kUpd_ne (by omega)]
      exact q5 s hs1
theorem r_handl0 {N : Nat} {ba sel : Nat → Nat} {g3 g4 g5 g7 g8 g29 : Nat → Int} {g6 : Nat → Int64} {x28 : Int} (h1 : ∀ k, k < N → g4 k = (ba k : Int)) (h2 : ∀ k, k < N → g8 (ba k) = (sel k : Int)) : ∀ n k, k + n = N → F_r_hand0_l1 (N : Int) g3 g4 g5 g6 g7 g8 x28 g29 ((k : Int), hG ba sel g k) = ((N : Int), 0, x28, (N : Int), hG ba sel g N, g3, g4, g5, g6, g7, g8, g29)
  | 0, k, hk => by
    have : k = N := by omega
    subst this
    unfold F_r_hand0_l1
    apply kIter_out
    unfold F_r_hand0_l1_s
    simp only [kC, kLet, Int32.reduceToInt]
    rw [if_pos (by omega)]
  | n + 1, k, hk => by
    have k1 : (k : Int) + 1 = ((k + 1 : Nat) : Int) := by omega
    have st : F_r_hand0_l1_s (N : Int) g3 g4 g5 g6 g7 g8 x28 g29 ((k : Int), hG ba sel g k) = Sum.inl (((k + 1 : Nat) : Int), hG ba sel g (k + 1)) := by
      unfold F_r_hand0_l1_s
      simp only [kC, kLet, Int32.reduceToInt, Int.toNat_natCast, h1 k (by omega), h2 k (by omega), k1]
      rw [if_neg (by omega)]
      rfl
    have ih := r_handl0 h1 h2 (g3 := g3) (g5 := g5) (g6 := g6) (g7 := g7) (g29 := g29) (x28 := x28) n (k + 1) (by omega)
    unfold F_r_hand0_l1 at ih ⊢
    rw [kIter_go st, ih]
theorem r_handl1 {N : Nat} {ba sel : Nat → Nat} {g3 g4 g5 g7 g8 g29 : Nat → Int} {g6 : Nat → Int64} {x28 : Int} (h1 : ∀ k, k < N → g4 k = (ba k : Int)) (h2 : ∀ k, k < N → g8 (ba k) = (sel k : Int)) : ∀ n k, k + n = N → F_r_hand1_l1 (N : Int) g3 g4 g5 g6 g7 g8 x28 g29 ((k : Int), hG ba sel g k) = ((N : Int), 0, x28, (N : Int), hG ba sel g N, g3, g4, g5, g6, g7, g8, g29)
  | 0, k, hk => by
    have : k = N := by omega
    subst this
    unfold F_r_hand1_l1
    apply kIter_out
    unfold F_r_hand1_l1_s
    simp only [kC, kLet, Int32.reduceToInt]
    rw [if_pos (by omega)]
  | n + 1, k, hk => by
    have k1 : (k : Int) + 1 = ((k + 1 : Nat) : Int) := by omega
    have st : F_r_hand1_l1_s (N : Int) g3 g4 g5 g6 g7 g8 x28 g29 ((k : Int), hG ba sel g k) = Sum.inl (((k + 1 : Nat) : Int), hG ba sel g (k + 1)) := by
      unfold F_r_hand1_l1_s
      simp only [kC, kLet, Int32.reduceToInt, Int.toNat_natCast, h1 k (by omega), h2 k (by omega), k1]
      rw [if_neg (by omega)]
      rfl
    have ih := r_handl1 h1 h2 (g3 := g3) (g5 := g5) (g6 := g6) (g7 := g7) (g29 := g29) (x28 := x28) n (k + 1) (by omega)
    unfold F_r_hand1_l1 at ih ⊢
    rw [kIter_go st, ih]
theorem c_handl_nn {x1 x2 : Int} {g3 g4 g5 g6 : Nat → Int} {gt : Nat → Int64} {es : Nat → Int} {p0 p1 p2 p3 p4 p5 p6 p7 p8 p9 p10 : Int} {q1 q2 : Nat → Int} {q3 : Nat → Int64} (h0 : 0 ≤ mc) (h10 : mc ≤ 10) (he : ∀ m, m < 10 → es m = hPut (nth (bB1 f1) mc.toNat) sel (cnt (bB1 f1) mc.toNat) m) : ∀ n m, m + n = mc.toNat → F_z_SW_hand_nn_l1 mc x1 x2 g3 g4 g5 g6 gt es p0 p1 p2 p3 p4 p5 p6 p7 p8 p9 p10 q1 q2 q3 ((m : Int), (cnt (bB1 f1) m : Int), (hD (nth (bB1 f1) mc.toNat) sel f1 f2 (cnt (bB1 f1) m)).1, (hD (nth (bB1 f1) mc.toNat) sel f1 f2 (cnt (bB1 f1) m)).2) = Sum.inl ((cnt (bB1 f1) mc.toNat : Int), (hD (nth (bB1 f1) mc.toNat) sel f1 f2 (cnt (bB1 f1) mc.toNat)).1, (hD (nth (bB1 f1) mc.toNat) sel f1 f2 (cnt (bB1 f1) mc.toNat)).2, x1, x2, gt, g3, g4, g5, g6, es, p0, p1, p2, p3, p4, p5, p6, p7, p8, p9, p10, q1, q2, q3)
  | 0, m, hm => by
    have : m = mc.toNat := by omega
    subst this
    unfold F_z_SW_hand_nn_l1
    apply kIter_out
    unfold F_z_SW_hand_nn_l1_s
    simp only [kC, kLet, Int32.reduceToInt]
    rw [if_pos (by omega)]
  | n + 1, m, hm => by
    have m1 : (m : Int) + 1 = ((m + 1 : Nat) : Int) := by omega
    have hm2 : m < 10 := by omega
    have hcl := cnt_le (bB1 f1) m
    have e0 : F_z_Hand_shirtFor es (m : Int) = es m := by
      unfold F_z_Hand_shirtFor
      simp only [kLet]
      rw [c_valueAt (by decide), if_pos (by omega), Int.toNat_natCast]
    have st : F_z_SW_hand_nn_l1_s mc x1 x2 g3 g4 g5 g6 gt es p0 p1 p2 p3 p4 p5 p6 p7 p8 p9 p10 q1 q2 q3 ((m : Int), (cnt (bB1 f1) m : Int), (hD (nth (bB1 f1) mc.toNat) sel f1 f2 (cnt (bB1 f1) m)).1, (hD (nth (bB1 f1) mc.toNat) sel f1 f2 (cnt (bB1 f1) m)).2) = Sum.inl (((m + 1 : Nat) : Int), (cnt (bB1 f1) (m + 1) : Int), (hD (nth (bB1 f1) mc.toNat) sel f1 f2 (cnt (bB1 f1) (m + 1))).1, (hD (nth (bB1 f1) mc.toNat) sel f1 f2 (cnt (bB1 f1) (m + 1))).2) := by
      unfold F_z_SW_hand_nn_l1_s F_z_SW_hand_nn_j2
      simp only [kC, kLet, Int32.reduceToInt, show ((-1) : Int32).toInt = -1 from by decide, e0, he m hm2, m1]
      rw [if_neg (by omega)]
      by_cases hb : bB1 f1 m = true
      · have c1 : cnt (bB1 f1) m < cnt (bB1 f1) mc.toNat := cnt_lt (by omega) hb
        have c2 : nth (bB1 f1) mc.toNat (cnt (bB1 f1) m) = m := nth_cnt (by omega) hb
        have c3 : hPut (nth (bB1 f1) mc.toNat) sel (cnt (bB1 f1) mc.toNat) m = (sel (cnt (bB1 f1) m) : Int) := by
          have := hPut_at (ba := nth (bB1 f1) mc.toNat) (sel := sel) (fun i j hi hj => nth_lt hj hi) (i := cnt (bB1 f1) m) (cnt (bB1 f1) mc.toNat) (Nat.le_refl _) c1
          rw [c2] at this
          exact this
        have c4 : hD (nth (bB1 f1) mc.toNat) sel f1 f2 (cnt (bB1 f1) (m + 1)) = F_z_Camp_handTo (hD (nth (bB1 f1) mc.toNat) sel f1 f2 (cnt (bB1 f1) m)).1 (hD (nth (bB1 f1) mc.toNat) sel f1 f2 (cnt (bB1 f1) m)).2 (m : Int) (sel (cnt (bB1 f1) m) : Int) := by
          rw [cnt_y hb]
          show F_z_Camp_handTo _ _ (nth (bB1 f1) mc.toNat (cnt (bB1 f1) m) : Int) _ = _
          rw [c2]
        have c5 : kW ((cnt (bB1 f1) m : Int) + 1) = (cnt (bB1 f1) (m + 1) : Int) := by
          rw [kW_id (by omega) (by omega), cnt_y hb]
          omega
        rw [c3, if_neg (by omega), c4, c5]
      · have c3 : hPut (nth (bB1 f1) mc.toNat) sel (cnt (bB1 f1) mc.toNat) m = -1 := hPut_no _ (fun i hi z => hb (by
          have := (nth_ok _ i hi).2.1
          rw [z] at this
          exact this))
        rw [c3, if_pos rfl, cnt_n hb]
    have ih := c_handl_nn h0 h10 he (x1 := x1) (x2 := x2) (g3 := g3) (g4 := g4) (g5 := g5) (g6 := g6) (gt := gt) (p0 := p0) (p1 := p1) (p2 := p2) (p3 := p3) (p4 := p4) (p5 := p5) (p6 := p6) (p7 := p7) (p8 := p8) (p9 := p9) (p10 := p10) (q1 := q1) (q2 := q2) (q3 := q3) n (m + 1) (by omega)
    unfold F_z_SW_hand_nn_l1 at ih ⊢
    rw [kIter_go st, ih]
theorem c_handl_ns {x1 x2 : Int} {g3 g4 g5 g6 : Nat → Int} {gt : Nat → Int64} {es : Nat → Int} {p0 p1 p2 p3 p4 p5 p6 p7 p8 p9 p10 : Int} {q1 q2 : Nat → Int} {q3 : Nat → Int64} (h0 : 0 ≤ mc) (h10 : mc ≤ 10) (he : ∀ m, m < 10 → es m = hPut (nth (bB1 f1) mc.toNat) sel (cnt (bB1 f1) mc.toNat) m) : ∀ n m, m + n = mc.toNat → F_z_SW_hand_ns_l1 mc x1 x2 g3 g4 g5 g6 gt es p0 p1 p2 p3 p4 p5 p6 p7 p8 p9 p10 q1 q2 q3 ((m : Int), (cnt (bB1 f1) m : Int), (hD (nth (bB1 f1) mc.toNat) sel f1 f2 (cnt (bB1 f1) m)).1, (hD (nth (bB1 f1) mc.toNat) sel f1 f2 (cnt (bB1 f1) m)).2) = Sum.inl ((cnt (bB1 f1) mc.toNat : Int), (hD (nth (bB1 f1) mc.toNat) sel f1 f2 (cnt (bB1 f1) mc.toNat)).1, (hD (nth (bB1 f1) mc.toNat) sel f1 f2 (cnt (bB1 f1) mc.toNat)).2, x1, x2, gt, g3, g4, g5, g6, es, p0, p1, p2, p3, p4, p5, p6, p7, p8, p9, p10, q1, q2, q3)
  | 0, m, hm => by
    have : m = mc.toNat := by omega
    subst this
    unfold F_z_SW_hand_ns_l1
    apply kIter_out
    unfold F_z_SW_hand_ns_l1_s
    simp only [kC, kLet, Int32.reduceToInt]
    rw [if_pos (by omega)]
  | n + 1, m, hm => by
    have m1 : (m : Int) + 1 = ((m + 1 : Nat) : Int) := by omega
    have hm2 : m < 10 := by omega
    have hcl := cnt_le (bB1 f1) m
    have e0 : F_z_Hand_shirtFor es (m : Int) = es m := by
      unfold F_z_Hand_shirtFor
      simp only [kLet]
      rw [c_valueAt (by decide), if_pos (by omega), Int.toNat_natCast]
    have st : F_z_SW_hand_ns_l1_s mc x1 x2 g3 g4 g5 g6 gt es p0 p1 p2 p3 p4 p5 p6 p7 p8 p9 p10 q1 q2 q3 ((m : Int), (cnt (bB1 f1) m : Int), (hD (nth (bB1 f1) mc.toNat) sel f1 f2 (cnt (bB1 f1) m)).1, (hD (nth (bB1 f1) mc.toNat) sel f1 f2 (cnt (bB1 f1) m)).2) = Sum.inl (((m + 1 : Nat) : Int), (cnt (bB1 f1) (m + 1) : Int), (hD (nth (bB1 f1) mc.toNat) sel f1 f2 (cnt (bB1 f1) (m + 1))).1, (hD (nth (bB1 f1) mc.toNat) sel f1 f2 (cnt (bB1 f1) (m + 1))).2) := by
      unfold F_z_SW_hand_ns_l1_s F_z_SW_hand_ns_j2
      simp only [kC, kLet, Int32.reduceToInt, show ((-1) : Int32).toInt = -1 from by decide, e0, he m hm2, m1]
      rw [if_neg (by omega)]
      by_cases hb : bB1 f1 m = true
      · have c1 : cnt (bB1 f1) m < cnt (bB1 f1) mc.toNat := cnt_lt (by omega) hb
        have c2 : nth (bB1 f1) mc.toNat (cnt (bB1 f1) m) = m := nth_cnt (by omega) hb
        have c3 : hPut (nth (bB1 f1) mc.toNat) sel (cnt (bB1 f1) mc.toNat) m = (sel (cnt (bB1 f1) m) : Int) := by
          have := hPut_at (ba := nth (bB1 f1) mc.toNat) (sel := sel) (fun i j hi hj => nth_lt hj hi) (i := cnt (bB1 f1) m) (cnt (bB1 f1) mc.toNat) (Nat.le_refl _) c1
          rw [c2] at this
          exact this
        have c4 : hD (nth (bB1 f1) mc.toNat) sel f1 f2 (cnt (bB1 f1) (m + 1)) = F_z_Camp_handTo (hD (nth (bB1 f1) mc.toNat) sel f1 f2 (cnt (bB1 f1) m)).1 (hD (nth (bB1 f1) mc.toNat) sel f1 f2 (cnt (bB1 f1) m)).2 (m : Int) (sel (cnt (bB1 f1) m) : Int) := by
          rw [cnt_y hb]
          show F_z_Camp_handTo _ _ (nth (bB1 f1) mc.toNat (cnt (bB1 f1) m) : Int) _ = _
          rw [c2]
        have c5 : kW ((cnt (bB1 f1) m : Int) + 1) = (cnt (bB1 f1) (m + 1) : Int) := by
          rw [kW_id (by omega) (by omega), cnt_y hb]
          omega
        rw [c3, if_neg (by omega), c4, c5]
      · have c3 : hPut (nth (bB1 f1) mc.toNat) sel (cnt (bB1 f1) mc.toNat) m = -1 := hPut_no _ (fun i hi z => hb (by
          have := (nth_ok _ i hi).2.1
          rw [z] at this
          exact this))
        rw [c3, if_pos rfl, cnt_n hb]
    have ih := c_handl_ns h0 h10 he (x1 := x1) (x2 := x2) (g3 := g3) (g4 := g4) (g5 := g5) (g6 := g6) (gt := gt) (p0 := p0) (p1 := p1) (p2 := p2) (p3 := p3) (p4 := p4) (p5 := p5) (p6 := p6) (p7 := p7) (p8 := p8) (p9 := p9) (p10 := p10) (q1 := q1) (q2 := q2) (q3 := q3) n (m + 1) (by omega)
    unfold F_z_SW_hand_ns_l1 at ih ⊢
    rw [kIter_go st, ih]
theorem c_handl_sn {x1 x2 : Int} {g3 g4 g5 g6 y4 : Nat → Int} {gt : Nat → Int64} {es : Nat → Int} {p0 p1 p2 p3 p4 p5 p6 p7 p8 p9 p10 : Int} {q1 q2 : Nat → Int} {q3 : Nat → Int64} (h0 : 0 ≤ mc) (h10 : mc ≤ 10) (he : ∀ m, m < 10 → es m = hPut (nth (bB1 f1) mc.toNat) sel (cnt (bB1 f1) mc.toNat) m) : ∀ n m, m + n = mc.toNat → F_z_SW_hand_sn_l1 mc x1 x2 g3 g4 g5 g6 y4 gt es p0 p1 p2 p3 p4 p5 p6 p7 p8 p9 p10 q1 q2 q3 ((m : Int), (cnt (bB1 f1) m : Int), (hD (nth (bB1 f1) mc.toNat) sel f1 f2 (cnt (bB1 f1) m)).1, (hD (nth (bB1 f1) mc.toNat) sel f1 f2 (cnt (bB1 f1) m)).2) = Sum.inl ((cnt (bB1 f1) mc.toNat : Int), (hD (nth (bB1 f1) mc.toNat) sel f1 f2 (cnt (bB1 f1) mc.toNat)).1, (hD (nth (bB1 f1) mc.toNat) sel f1 f2 (cnt (bB1 f1) mc.toNat)).2, y4, x1, x2, gt, g3, g4, g5, g6, es, p0, p1, p2, p3, p4, p5, p6, p7, p8, p9, p10, q1, q2, q3)
  | 0, m, hm => by
    have : m = mc.toNat := by omega
    subst this
    unfold F_z_SW_hand_sn_l1
    apply kIter_out
    unfold F_z_SW_hand_sn_l1_s
    simp only [kC, kLet, Int32.reduceToInt]
    rw [if_pos (by omega)]
  | n + 1, m, hm => by
    have m1 : (m : Int) + 1 = ((m + 1 : Nat) : Int) := by omega
    have hm2 : m < 10 := by omega
    have hcl := cnt_le (bB1 f1) m
    have e0 : F_z_Hand_shirtFor es (m : Int) = es m := by
      unfold F_z_Hand_shirtFor
      simp only [kLet]
      rw [c_valueAt (by decide), if_pos (by omega), Int.toNat_natCast]
    have st : F_z_SW_hand_sn_l1_s mc x1 x2 g3 g4 g5 g6 y4 gt es p0 p1 p2 p3 p4 p5 p6 p7 p8 p9 p10 q1 q2 q3 ((m : Int), (cnt (bB1 f1) m : Int), (hD (nth (bB1 f1) mc.toNat) sel f1 f2 (cnt (bB1 f1) m)).1, (hD (nth (bB1 f1) mc.toNat) sel f1 f2 (cnt (bB1 f1) m)).2) = Sum.inl (((m + 1 : Nat) : Int), (cnt (bB1 f1) (m + 1) : Int), (hD (nth (bB1 f1) mc.toNat) sel f1 f2 (cnt (bB1 f1) (m + 1))).1, (hD (nth (bB1 f1) mc.toNat) sel f1 f2 (cnt (bB1 f1) (m + 1))).2) := by
      unfold F_z_SW_hand_sn_l1_s F_z_SW_hand_sn_j2
      simp only [kC, kLet, Int32.reduceToInt, show ((-1) : Int32).toInt = -1 from by decide, e0, he m hm2, m1]
      rw [if_neg (by omega)]
      by_cases hb : bB1 f1 m = true
      · have c1 : cnt (bB1 f1) m < cnt (bB1 f1) mc.toNat := cnt_lt (by omega) hb
        have c2 : nth (bB1 f1) mc.toNat (cnt (bB1 f1) m) = m := nth_cnt (by omega) hb
        have c3 : hPut (nth (bB1 f1) mc.toNat) sel (cnt (bB1 f1) mc.toNat) m = (sel (cnt (bB1 f1) m) : Int) := by
          have := hPut_at (ba := nth (bB1 f1) mc.toNat) (sel := sel) (fun i j hi hj => nth_lt hj hi) (i := cnt (bB1 f1) m) (cnt (bB1 f1) mc.toNat) (Nat.le_refl _) c1
          rw [c2] at this
          exact this
        have c4 : hD (nth (bB1 f1) mc.toNat) sel f1 f2 (cnt (bB1 f1) (m + 1)) = F_z_Camp_handTo (hD (nth (bB1 f1) mc.toNat) sel f1 f2 (cnt (bB1 f1) m)).1 (hD (nth (bB1 f1) mc.toNat) sel f1 f2 (cnt (bB1 f1) m)).2 (m : Int) (sel (cnt (bB1 f1) m) : Int) := by
          rw [cnt_y hb]
          show F_z_Camp_handTo _ _ (nth (bB1 f1) mc.toNat (cnt (bB1 f1) m) : Int) _ = _
          rw [c2]
        have c5 : kW ((cnt (bB1 f1) m : Int) + 1) = (cnt (bB1 f1) (m + 1) : Int) := by
          rw [kW_id (by omega) (by omega), cnt_y hb]
          omega
        rw [c3, if_neg (by omega), c4, c5]
      · have c3 : hPut (nth (bB1 f1) mc.toNat) sel (cnt (bB1 f1) mc.toNat) m = -1 := hPut_no _ (fun i hi z => hb (by
          have := (nth_ok _ i hi).2.1
          rw [z] at this
          exact this))
        rw [c3, if_pos rfl, cnt_n hb]
    have ih := c_handl_sn h0 h10 he (x1 := x1) (x2 := x2) (g3 := g3) (g4 := g4) (g5 := g5) (g6 := g6) (y4 := y4) (gt := gt) (p0 := p0) (p1 := p1) (p2 := p2) (p3 := p3) (p4 := p4) (p5 := p5) (p6 := p6) (p7 := p7) (p8 := p8) (p9 := p9) (p10 := p10) (q1 := q1) (q2 := q2) (q3 := q3) n (m + 1) (by omega)
    unfold F_z_SW_hand_sn_l1 at ih ⊢
    rw [kIter_go st, ih]
theorem c_handl_ss {x1 x2 : Int} {g3 g4 g5 g6 y4 : Nat → Int} {gt : Nat → Int64} {es : Nat → Int} {p0 p1 p2 p3 p4 p5 p6 p7 p8 p9 p10 : Int} {q1 q2 : Nat → Int} {q3 : Nat → Int64} (h0 : 0 ≤ mc) (h10 : mc ≤ 10) (he : ∀ m, m < 10 → es m = hPut (nth (bB1 f1) mc.toNat) sel (cnt (bB1 f1) mc.toNat) m) : ∀ n m, m + n = mc.toNat → F_z_SW_hand_ss_l1 mc x1 x2 g3 g4 g5 g6 y4 gt es p0 p1 p2 p3 p4 p5 p6 p7 p8 p9 p10 q1 q2 q3 ((m : Int), (cnt (bB1 f1) m : Int), (hD (nth (bB1 f1) mc.toNat) sel f1 f2 (cnt (bB1 f1) m)).1, (hD (nth (bB1 f1) mc.toNat) sel f1 f2 (cnt (bB1 f1) m)).2) = Sum.inl ((cnt (bB1 f1) mc.toNat : Int), (hD (nth (bB1 f1) mc.toNat) sel f1 f2 (cnt (bB1 f1) mc.toNat)).1, (hD (nth (bB1 f1) mc.toNat) sel f1 f2 (cnt (bB1 f1) mc.toNat)).2, y4, x1, x2, gt, g3, g4, g5, g6, es, p0, p1, p2, p3, p4, p5, p6, p7, p8, p9, p10, q1, q2, q3)
  | 0, m, hm => by
    have : m = mc.toNat := by omega
    subst this
    unfold F_z_SW_hand_ss_l1
    apply kIter_out
    unfold F_z_SW_hand_ss_l1_s
    simp only [kC, kLet, Int32.reduceToInt]
    rw [if_pos (by omega)]
  | n + 1, m, hm => by
    have m1 : (m : Int) + 1 = ((m + 1 : Nat) : Int) := by omega
    have hm2 : m < 10 := by omega
    have hcl := cnt_le (bB1 f1) m
    have e0 : F_z_Hand_shirtFor es (m : Int) = es m := by
      unfold F_z_Hand_shirtFor
      simp only [kLet]
      rw [c_valueAt (by decide), if_pos (by omega), Int.toNat_natCast]
    have st : F_z_SW_hand_ss_l1_s mc x1 x2 g3 g4 g5 g6 y4 gt es p0 p1 p2 p3 p4 p5 p6 p7 p8 p9 p10 q1 q2 q3 ((m : Int), (cnt (bB1 f1) m : Int), (hD (nth (bB1 f1) mc.toNat) sel f1 f2 (cnt (bB1 f1) m)).1, (hD (nth (bB1 f1) mc.toNat) sel f1 f2 (cnt (bB1 f1) m)).2) = Sum.inl (((m + 1 : Nat) : Int), (cnt (bB1 f1) (m + 1) : Int), (hD (nth (bB1 f1) mc.toNat) sel f1 f2 (cnt (bB1 f1) (m + 1))).1, (hD (nth (bB1 f1) mc.toNat) sel f1 f2 (cnt (bB1 f1) (m + 1))).2) := by
      unfold F_z_SW_hand_ss_l1_s F_z_SW_hand_ss_j2
      simp only [kC, kLet, Int32.reduceToInt, show ((-1) : Int32).toInt = -1 from by decide, e0, he m hm2, m1]
      rw [if_neg (by omega)]
      by_cases hb : bB1 f1 m = true
      · have c1 : cnt (bB1 f1) m < cnt (bB1 f1) mc.toNat := cnt_lt (by omega) hb
        have c2 : nth (bB1 f1) mc.toNat (cnt (bB1 f1) m) = m := nth_cnt (by omega) hb
        have c3 : hPut (nth (bB1 f1) mc.toNat) sel (cnt (bB1 f1) mc.toNat) m = (sel (cnt (bB1 f1) m) : Int) := by
          have := hPut_at (ba := nth (bB1 f1) mc.toNat) (sel := sel) (fun i j hi hj => nth_lt hj hi) (i := cnt (bB1 f1) m) (cnt (bB1 f1) mc.toNat) (Nat.le_refl _) c1
          rw [c2] at this
          exact this
        have c4 : hD (nth (bB1 f1) mc.toNat) sel f1 f2 (cnt (bB1 f1) (m + 1)) = F_z_Camp_handTo (hD (nth (bB1 f1) mc.toNat) sel f1 f2 (cnt (bB1 f1) m)).1 (hD (nth (bB1 f1) mc.toNat) sel f1 f2 (cnt (bB1 f1) m)).2 (m : Int) (sel (cnt (bB1 f1) m) : Int) := by
          rw [cnt_y hb]
          show F_z_Camp_handTo _ _ (nth (bB1 f1) mc.toNat (cnt (bB1 f1) m) : Int) _ = _
          rw [c2]
        have c5 : kW ((cnt (bB1 f1) m : Int) + 1) = (cnt (bB1 f1) (m + 1) : Int) := by
          rw [kW_id (by omega) (by omega), cnt_y hb]
          omega
        rw [c3, if_neg (by omega), c4, c5]
      · have c3 : hPut (nth (bB1 f1) mc.toNat) sel (cnt (bB1 f1) mc.toNat) m = -1 := hPut_no _ (fun i hi z => hb (by
          have := (nth_ok _ i hi).2.1
          rw [z] at this
          exact this))
        rw [c3, if_pos rfl, cnt_n hb]
    have ih := c_handl_ss h0 h10 he (x1 := x1) (x2 := x2) (g3 := g3) (g4 := g4) (g5 := g5) (g6 := g6) (y4 := y4) (gt := gt) (p0 := p0) (p1 := p1) (p2 := p2) (p3 := p3) (p4 := p4) (p5 := p5) (p6 := p6) (p7 := p7) (p8 := p8) (p9 := p9) (p10 := p10) (q1 := q1) (q2 := q2) (q3 := q3) n (m + 1) (by omega)
    unfold F_z_SW_hand_ss_l1 at ih ⊢
    rw [kIter_go st, ih]
end DN
