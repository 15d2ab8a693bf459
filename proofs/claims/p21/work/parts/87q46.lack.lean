/-! lack: both answer alike. -/
def b2n (t : Bool) : Nat := if t = true then 1 else 0
theorem nSum_cg {f h : Nat → Nat} : ∀ n, (∀ s, s < n → f s = h s) → nSum f n = nSum h n
  | 0, _ => rfl
  | n + 1, q => by
    show nSum f n + f n = nSum h n + h n
    rw [nSum_cg n (fun s hs => q s (by omega)), q n (by omega)]
theorem pcnt_sum (X : Nat) : ∀ k, pcnt X k = nSum (fun t => b2n (X.testBit t)) k
  | 0 => rfl
  | k + 1 => by
    show pcnt X k + (if X.testBit k = true then 1 else 0) = nSum (fun t => b2n (X.testBit t)) k + b2n (X.testBit k)
    rw [pcnt_sum X k]
    rfl
/-- one taken out -/
theorem nSum_out {V : Nat → Bool} {x : Nat} (hx : V x = true) : ∀ m, nSum (fun t => b2n (V t)) m = nSum (fun t => b2n (V t && decide (t ≠ x))) m + (if x < m then 1 else 0)
  | 0 => rfl
  | m + 1 => by
    have ih := nSum_out hx m
    show nSum (fun t => b2n (V t)) m + b2n (V m) = nSum (fun t => b2n (V t && decide (t ≠ x))) m + b2n (V m && decide (m ≠ x)) + _
    by_cases c : m = x
    · subst c
      rw [if_neg (by omega)] at ih
      rw [if_pos (by omega), hx, decide_eq_false (fun z => z rfl), ih]
      rfl
    · rw [decide_eq_true c, Bool.and_true, ih]
      by_cases d : x < m
      · rw [if_pos d, if_pos (by omega)]; omega
      · rw [if_neg d, if_neg (by omega)]
        omega
/-- as many as there are can't be put into fewer -/
theorem nSum_inj {A : Nat → Bool} {m : Nat} {sel : Nat → Nat} : ∀ (n : Nat) (V : Nat → Bool), (∀ k, k < n → A k = true → sel k < m ∧ V (sel k) = true) → (∀ i j, i < j → j < n → A i = true → A j = true → sel i ≠ sel j) → nSum (fun k => b2n (A k)) n ≤ nSum (fun t => b2n (V t)) m
  | 0, _, _, _ => Nat.zero_le _
  | n + 1, V, h1, h2 => by
    show nSum (fun k => b2n (A k)) n + b2n (A n) ≤ _
    cases q : A n with
    | false =>
      have := nSum_inj n V (fun k hk => h1 k (by omega)) (fun i j hi hj => h2 i j hi (by omega))
      show nSum (fun k => b2n (A k)) n + 0 ≤ _
      omega
    | true =>
      obtain ⟨a1, a2⟩ := h1 n (by omega) q
      have ih := nSum_inj n (fun t => V t && decide (t ≠ sel n)) (fun k hk hA => by
        obtain ⟨b1, b2⟩ := h1 k (by omega) hA
        refine ⟨b1, ?_⟩
        show (V (sel k) && decide (sel k ≠ sel n)) = true
        rw [b2, decide_eq_true (h2 k n hk (by omega) hA q)]
        rfl) (fun i j hi hj => h2 i j hi (by omega))
      have e := nSum_out a2 m
      rw [if_pos a1] at e
      have ih' : nSum (fun k => b2n (A k)) n ≤ nSum (fun t => b2n (V t && decide (t ≠ sel n))) m := ih
      show nSum (fun k => b2n (A k)) n + 1 ≤ _
      omega
/-- a HANDING, where there is one -/
theorem wV_sel {K : Nat → Nat → Bool} : ∀ n k P, 0 < wV K n k P → ∃ sel : Nat → Nat, (∀ i, i < n → sel i < 12 ∧ K (k + i) (sel i) = true ∧ P (sel i) = false) ∧ ∀ i j, i < j → j < n → sel i ≠ sel j
  | 0, _, _, _ => ⟨fun _ => 0, fun i hi => absurd hi (Nat.not_lt_zero _), fun i j _ hj => absurd hj (Nat.not_lt_zero _)⟩
  | n + 1, k, P, h => by
    have h' : 0 < nSum (fun s => if K k s = true ∧ P s = false then wV K n (k + 1) (pAdd P s) else 0) 12 := h
    have hne : ¬ ∀ s, s < 12 → (fun s => if K k s = true ∧ P s = false then wV K n (k + 1) (pAdd P s) else 0) s = 0 := fun z => by
      have := (nSum_zero (f := fun s => if K k s = true ∧ P s = false then wV K n (k + 1) (pAdd P s) else 0) 12).mpr z
      omega
    obtain ⟨s, s1, s2⟩ : ∃ s, s < 12 ∧ (if K k s = true ∧ P s = false then wV K n (k + 1) (pAdd P s) else 0) ≠ 0 := by
      refine Decidable.byContradiction (fun z => hne (fun s hs => ?_))
      refine Decidable.byContradiction (fun y => z ⟨s, hs, y⟩)
    by_cases q : K k s = true ∧ P s = false
    · rw [if_pos q] at s2
      obtain ⟨sel, a1, a2⟩ := wV_sel n (k + 1) (pAdd P s) (Nat.pos_of_ne_zero s2)
      refine ⟨fun i => match i with | 0 => s | i + 1 => sel i, fun i hi => ?_, fun i j hij hj => ?_⟩
      · cases i with
        | zero => exact ⟨s1, q.1, q.2⟩
        | succ i =>
          obtain ⟨b1, b2, b3⟩ := a1 i (by omega)
          refine ⟨b1, ?_, ?_⟩
          · show K (k + (i + 1)) (sel i) = true
            rw [show k + (i + 1) = k + 1 + i from by omega]
            exact b2
          · have b4 : (P (sel i) || decide (sel i = s)) = false := b3
            exact (Bool.or_eq_false_iff.mp b4).1
      · cases j with
        | zero => omega
        | succ j =>
          cases i with
          | zero =>
            obtain ⟨_, _, b3⟩ := a1 j (by omega)
            have b4 : (P (sel j) || decide (sel j = s)) = false := b3
            have b5 := (Bool.or_eq_false_iff.mp b4).2
            show s ≠ sel j
            exact fun z => (of_decide_eq_false b5) z.symm
          | succ i => exact a2 i j (by omega) (by omega)
    · rw [if_neg q] at s2
      exact absurd rfl s2
/-- what a group of men can be given together -/
def vS (K : Nat → Nat → Bool) (S : Nat) : Nat → Nat → Bool
  | 0, _ => false
  | n + 1, t => vS K S n t || (S.testBit n && K n t)
theorem vS_in {K : Nat → Nat → Bool} {S k t : Nat} (h1 : S.testBit k = true) (h2 : K k t = true) : ∀ n, k < n → vS K S n t = true
  | 0, h => absurd h (Nat.not_lt_zero _)
  | n + 1, h => by
    show (vS K S n t || (S.testBit n && K n t)) = true
    by_cases c : k = n
    · subst c; rw [h1, h2, Bool.and_self, Bool.or_true]
    · rw [vS_in h1 h2 n (by omega), Bool.true_or]
theorem vS_out {K : Nat → Nat → Bool} {S t : Nat} : ∀ n, vS K S n t = true → ∃ k, k < n ∧ K k t = true
  | 0, h => by cases h
  | n + 1, h => by
    have h' : (vS K S n t || (S.testBit n && K n t)) = true := h
    rcases Bool.or_eq_true_iff.mp h' with q | q
    · obtain ⟨k, k1, k2⟩ := vS_out n q
      exact ⟨k, by omega, k2⟩
    · exact ⟨n, by omega, (Bool.and_eq_true_iff.mp q).2⟩
def vc (K : Nat → Nat → Bool) (N S : Nat) : Nat := nSum (fun t => b2n (vS K S N t)) 12
/-- where there is a HANDING no group is short -/
theorem hall {K : Nat → Nat → Bool} {N S : Nat} (hN : N ≤ 12) (hS : S < 2 ^ N) (h : 0 < wV K N 0 (fun _ => false)) : pcnt S 12 ≤ vc K N S := by
  obtain ⟨sel, a1, a2⟩ := wV_sel N 0 _ h
  rw [pcnt_top hS hN, pcnt_sum]
  refine nSum_inj N _ (fun k hk hA => ?_) (fun i j hi hj _ _ => a2 i j hi hj)
  obtain ⟨b1, b2, _⟩ := a1 k hk
  rw [Nat.zero_add] at b2
  exact ⟨b1, vS_in hA b2 N hk⟩
/-- the next group that is kept -/
def lkN (K : Nat → Nat → Bool) (N S b : Nat) : Nat := if vc K N S < pcnt S 12 ∧ (b = 0 ∨ pcnt S 12 < pcnt b 12) then S else b
section LK
variable {c : Nat → Bool} {ns N : Nat} {ba : Nat → Nat} {B : Nat → Nat → Bool} {C0 : Nat → Nat → Nat} {eb ec en ep fn fk : Nat → Int} {g : Nat → Int}
theorem vc_c {X S : Nat} (hs : ns ≤ 12) (hX : X < 2 ^ cnt c ns) (h : ∀ p, p < cnt c ns → X.testBit p = vS (hK c ns ba B) S N (nth c ns p)) : pcnt X 12 = vc (hK c ns ba B) N S := by
  have lp := cnt_le c ns
  have hz : ∀ s, ¬ (s < ns ∧ c s = true) → b2n (vS (hK c ns ba B) S N s) = 0 := fun s hc => by
    cases q : vS (hK c ns ba B) S N s with
    | false => rfl
    | true =>
      obtain ⟨k, _, k2⟩ := vS_out N q
      exact absurd ⟨(hK_in k2).1, (hK_in k2).2.1⟩ hc
  rw [pcnt_top hX (by omega), pcnt_sum]
  unfold vc
  rw [nSum_top hs (fun t ht => hz t (fun z => by omega)), ← nSum_re (c := c) (ns := ns) (fun s _ hc => hz s (fun z => hc z.2)) ns (Nat.le_refl _)]
  exact nSum_cg _ (fun p hp => by rw [h p hp])
theorem can_c (hH : HK N (cnt c ns) ba (nth c ns) B C0 eb ec en ep) (hN : N ≤ 10) (hs : ns ≤ 12) {S : Nat} (hS : S < 2 ^ N) : F_z_bitCount (F_z_Hand_canTogether (N : Int) en (S : Int)) = (vc (hK c ns ba B) N S : Int) := by
  have lp := cnt_le c ns
  have hS2 : S < 4096 := Nat.lt_of_lt_of_le hS (pw12 (by omega))
  have key : ∃ X : Nat, F_z_Hand_canTogether (N : Int) en (S : Int) = (X : Int) ∧ X < 2 ^ cnt c ns ∧ ∀ p, p < cnt c ns → X.testBit p = vS (hK c ns ba B) S N (nth c ns p) := by
    unfold F_z_Hand_canTogether F_z_Hand_canTogether_l1
    simp only [Int32.reduceToInt]
    refine kInd (st := F_z_Hand_canTogether_l1_s (N : Int) en (S : Int)) (fun n (s : Int × Int) => ∃ k X : Nat, s = ((k : Int), (X : Int)) ∧ k + n = N ∧ X < 2 ^ cnt c ns ∧ ∀ p, p < cnt c ns → X.testBit p = vS (hK c ns ba B) S k (nth c ns p)) (fun t => ∃ X : Nat, t = (X : Int) ∧ X < 2 ^ cnt c ns ∧ ∀ p, p < cnt c ns → X.testBit p = vS (hK c ns ba B) S N (nth c ns p)) ?_ N _ ⟨0, 0, rfl, by omega, Nat.two_pow_pos _, fun p hp => Nat.zero_testBit p⟩
    rintro n s ⟨k, X, rfl, hk, hX, hb⟩
    have k1 : (k : Int) + 1 = ((k + 1 : Nat) : Int) := by omega
    have hX2 : X < 4096 := Nat.lt_of_lt_of_le hX (pw12 (by omega))
    unfold F_z_Hand_canTogether_l1_s F_z_Hand_canTogether_j2
    simp only [kC, kLet, Int32.reduceToInt]
    by_cases cp : (N : Int) ≤ (k : Int)
    · rw [if_pos cp]
      have : k = N := by omega
      subst this
      exact Or.inl ⟨_, rfl, X, rfl, hX, hb⟩
    · rw [if_neg cp]
      simp only [bit_at (show S < 2147483648 by omega) (show k < 32 by omega), k1]
      refine Or.inr ?_
      cases q : S.testBit k with
      | false =>
        simp only [show bI false = 0 from rfl, ↓reduceIte]
        refine ⟨n - 1, _, by omega, rfl, k + 1, X, rfl, by omega, hX, fun p hp => ?_⟩
        show _ = (vS (hK c ns ba B) S k (nth c ns p) || (S.testBit k && hK c ns ba B k (nth c ns p)))
        rw [q, Bool.false_and, Bool.or_false]
        exact hb p hp
      | true =>
        obtain ⟨Y, y1, y2⟩ := hH.2.2.1 k (by omega)
        have hY : Y < 2 ^ cnt c ns := tb_lt (fun t htb => by
          rw [y2 t] at htb
          refine Decidable.byContradiction (fun z => ?_)
          rw [decide_eq_false z] at htb
          cases htb)
        have hY2 : Y < 4096 := Nat.lt_of_lt_of_le hY (pw12 (by omega))
        have ev : F_z_valueAt 10 en (k : Int) = (Y : Int) := by
          rw [c_valueAt (by decide), if_pos (by omega), Int.toNat_natCast]
          exact y1
        simp only [show bI true = 1 from rfl, Int.reduceEq, ↓reduceIte]
        rw [ev, kOr_nat (by omega) (by omega)]
        refine ⟨n - 1, _, by omega, rfl, k + 1, X ||| Y, rfl, by omega, Nat.or_lt_two_pow hX hY, fun p hp => ?_⟩
        show _ = (vS (hK c ns ba B) S k (nth c ns p) || (S.testBit k && hK c ns ba B k (nth c ns p)))
        rw [q, Bool.true_and, Nat.testBit_or, hb p hp, y2 p, decide_eq_true hp, Bool.true_and, hK_at hp]
  obtain ⟨X, x1, x2, x3⟩ := key
  rw [x1, bc_all (Nat.lt_of_lt_of_le x2 (pw12 (by omega))), vc_c hs x2 x3]
theorem can_r (hR : RK N ns ba (hK c ns ba B) fn fk) (hN : N ≤ 10) (hs : ns ≤ 12) {S b : Nat} (hS : S < 2 ^ N) (hb : b < 2 ^ N) : F_r_lackx_l4 (N : Int) fk (S : Int) (b : Int) (0, 0) = Sum.inl (((S + 1 : Nat) : Int), (lkN (hK c ns ba B) N S b : Int)) := by
  have hS2 : S < 4096 := Nat.lt_of_lt_of_le hS (pw12 (by omega))
  have hb2 : b < 4096 := Nat.lt_of_lt_of_le hb (pw12 (by omega))
  have s1 : (S : Int) + 1 = ((S + 1 : Nat) : Int) := by omega
  unfold F_r_lackx_l4
  refine kInd (st := F_r_lackx_l4_s (N : Int) fk (S : Int) (b : Int)) (fun n (s : Int × Int) => ∃ k X : Nat, s = ((k : Int), (X : Int)) ∧ k + n = N ∧ X < 2 ^ ns ∧ ∀ t, X.testBit t = vS (hK c ns ba B) S k t) (fun t => t = Sum.inl (((S + 1 : Nat) : Int), (lkN (hK c ns ba B) N S b : Int))) ?_ N _ ⟨0, 0, rfl, by omega, Nat.two_pow_pos _, fun p => Nat.zero_testBit p⟩
  rintro n s ⟨k, X, rfl, hk, hX, hbt⟩
  have k1 : (k : Int) + 1 = ((k + 1 : Nat) : Int) := by omega
  have hX2 : X < 4096 := Nat.lt_of_lt_of_le hX (pw12 hs)
  unfold F_r_lackx_l4_s F_r_lackx_j6 F_r_lackx_j5 F_r_lackx_j7
  simp only [kC, kLet, Int32.reduceToInt, bcx, hasx_eq, Int.toNat_natCast]
  by_cases cp : (N : Int) ≤ (k : Int)
  · rw [if_pos cp]
    have : k = N := by omega
    subst this
    have e : pcnt X 12 = vc (hK c ns ba B) k S := by
      rw [pcnt_sum]
      exact nSum_cg _ (fun t _ => by rw [hbt t])
    simp only [bc_all hX2, bc_all hS2, bc_all hb2, e, s1]
    refine Or.inl ⟨_, ?_, rfl⟩
    unfold lkN
    by_cases d1 : vc (hK c ns ba B) k S < pcnt S 12
    · rw [if_neg (by omega)]
      by_cases d2 : b = 0
      · rw [if_pos (by omega), if_pos ⟨d1, Or.inl d2⟩]
      · rw [if_neg (by omega)]
        by_cases d3 : pcnt S 12 < pcnt b 12
        · rw [if_pos (by omega), if_pos ⟨d1, Or.inr d3⟩]
        · rw [if_neg (by omega), if_neg (fun z => z.2.elim d2 d3)]
    · rw [if_pos (by omega), if_neg (fun z => d1 z.1)]
  · rw [if_neg cp]
    simp only [has_nat (X := S) (s := k) (by omega) (by omega)]
    refine Or.inr ?_
    cases q : S.testBit k with
    | false =>
      simp only [show bI false = 0 from rfl, ↓reduceIte]
      rw [bit_or0 (by omega), k1]
      refine ⟨n - 1, _, by omega, rfl, k + 1, X, rfl, by omega, hX, fun t => ?_⟩
      show _ = (vS (hK c ns ba B) S k t || (S.testBit k && hK c ns ba B k t))
      rw [q, Bool.false_and, Bool.or_false]
      exact hbt t
    | true =>
      obtain ⟨Y, y1, y2, y3⟩ := hR.2.1 k (by omega)
      have hY2 : Y < 4096 := Nat.lt_of_lt_of_le y2 (pw12 hs)
      simp only [show bI true = 1 from rfl, Int.reduceEq, ↓reduceIte]
      rw [y1, kOr_nat (by omega) (by omega), k1]
      refine ⟨n - 1, _, by omega, rfl, k + 1, X ||| Y, rfl, by omega, Nat.or_lt_two_pow hX y2, fun t => ?_⟩
      show _ = (vS (hK c ns ba B) S k t || (S.testBit k && hK c ns ba B k t))
      rw [q, Bool.true_and, Nat.testBit_or, hbt t, y3 t]
/-- the men of a group, as bits -/
def mB (ba : Nat → Nat) (S : Nat) : Nat → Nat
  | 0 => 0
  | k + 1 => if S.testBit k = true then mB ba S k ||| 2 ^ ba k else mB ba S k
theorem mB_lt {S : Nat} (hb : ∀ k, k < N → ba k < 10) : ∀ k, k ≤ N → mB ba S k < 1024
  | 0, _ => by show (0 : Nat) < 1024; decide
  | k + 1, hk => by
    have ih := mB_lt hb (S := S) k (by omega)
    show (if S.testBit k = true then mB ba S k ||| 2 ^ ba k else mB ba S k) < 1024
    split
    · exact or_lt (k := 10) ih (hb k (by omega))
    · exact ih
theorem men_c (hH : HK N (cnt c ns) ba (nth c ns) B C0 eb ec en ep) (hN : N ≤ 10) (hb : ∀ k, k < N → ba k < 10) {S : Nat} (hS : S < 2 ^ N) : F_z_Hand_menOf (N : Int) eb (S : Int) = (mB ba S N : Int) := by
  have hS2 : S < 4096 := Nat.lt_of_lt_of_le hS (pw12 (by omega))
  unfold F_z_Hand_menOf F_z_Hand_menOf_l1
  simp only [Int32.reduceToInt]
  refine kInd (st := F_z_Hand_menOf_l1_s (N : Int) eb (S : Int)) (fun n (s : Int × Int) => ∃ k : Nat, s = ((k : Int), (mB ba S k : Int)) ∧ k + n = N) (fun t => t = (mB ba S N : Int)) ?_ N _ ⟨0, rfl, by omega⟩
  rintro n s ⟨k, rfl, hk⟩
  have k1 : (k : Int) + 1 = ((k + 1 : Nat) : Int) := by omega
  have hl := mB_lt hb (S := S) k (by omega)
  unfold F_z_Hand_menOf_l1_s F_z_Hand_menOf_j2
  simp only [kC, kLet, Int32.reduceToInt]
  by_cases cp : (N : Int) ≤ (k : Int)
  · rw [if_pos cp]
    have : k = N := by omega
    subst this
    exact Or.inl ⟨_, rfl, rfl⟩
  · have h10 := hb k (by omega)
    rw [if_neg cp]
    simp only [bit_at (show S < 2147483648 by omega) (show k < 32 by omega), k1]
    refine Or.inr ?_
    cases q : S.testBit k with
    | false =>
      simp only [show bI false = 0 from rfl, ↓reduceIte]
      refine ⟨n - 1, _, by omega, rfl, k + 1, ?_, by omega⟩
      show _ = (_, ((if S.testBit k = true then mB ba S k ||| 2 ^ ba k else mB ba S k : Nat) : Int))
      rw [q, if_neg (by decide)]
    | true =>
      have ev : F_z_valueAt 10 eb (k : Int) = (ba k : Int) := by
        rw [c_valueAt (by decide), if_pos (by omega), Int.toNat_natCast]
        exact hH.1 k (by omega)
      simp only [show bI true = 1 from rfl, Int.reduceEq, ↓reduceIte]
      rw [ev, bit_set (by omega) (by omega)]
      refine ⟨n - 1, _, by omega, rfl, k + 1, ?_, by omega⟩
      show _ = (_, ((if S.testBit k = true then mB ba S k ||| 2 ^ ba k else mB ba S k : Nat) : Int))
      rw [q, if_pos rfl]
theorem men_r (hR : RK N ns ba (hK c ns ba B) fn fk) (hN : N ≤ 10) (hb : ∀ k, k < N → ba k < 10) {g3 : Nat → Int} {g6 : Nat → Int64} {S : Nat} (hS : S < 2 ^ N) : F_r_lackx_l2 (N : Int) g3 fn fk g6 (S : Int) (0, 0) = Sum.inr ((mB ba S N : Int), (N : Int), g3, fn, fk, g6) := by
  have hS2 : S < 4096 := Nat.lt_of_lt_of_le hS (pw12 (by omega))
  unfold F_r_lackx_l2
  refine kInd (st := F_r_lackx_l2_s (N : Int) g3 fn fk g6 (S : Int)) (fun n (s : Int × Int) => ∃ k : Nat, s = ((k : Int), (mB ba S k : Int)) ∧ k + n = N) (fun t => t = Sum.inr ((mB ba S N : Int), (N : Int), g3, fn, fk, g6)) ?_ N _ ⟨0, rfl, by omega⟩
  rintro n s ⟨k, rfl, hk⟩
  have k1 : (k : Int) + 1 = ((k + 1 : Nat) : Int) := by omega
  have hl := mB_lt hb (S := S) k (by omega)
  unfold F_r_lackx_l2_s F_r_lackx_j3
  simp only [kC, kLet, Int32.reduceToInt, hasx_eq, Int.toNat_natCast]
  by_cases cp : (N : Int) ≤ (k : Int)
  · rw [if_pos cp]
    have : k = N := by omega
    subst this
    exact Or.inl ⟨_, rfl, rfl⟩
  · have h10 := hb k (by omega)
    rw [if_neg cp]
    simp only [has_nat (X := S) (s := k) (by omega) (by omega)]
    refine Or.inr ?_
    cases q : S.testBit k with
    | false =>
      simp only [show bI false = 0 from rfl, ↓reduceIte]
      rw [bit_or0 (by omega), k1]
      refine ⟨n - 1, _, by omega, rfl, k + 1, ?_, by omega⟩
      show _ = (_, ((if S.testBit k = true then mB ba S k ||| 2 ^ ba k else mB ba S k : Nat) : Int))
      rw [q, if_neg (by decide)]
    | true =>
      simp only [show bI true = 1 from rfl, Int.reduceEq, ↓reduceIte]
      rw [hR.1 k (by omega), bit_set (by omega) (by omega), k1]
      refine ⟨n - 1, _, by omega, rfl, k + 1, ?_, by omega⟩
      show _ = (_, ((if S.testBit k = true then mB ba S k ||| 2 ^ ba k else mB ba S k : Nat) : Int))
      rw [q, if_pos rfl]
def lkW (b : Nat) : Nat := if b = 0 then 11 else pcnt b 12
/-- one step of the class's search -/
theorem lk_c (hH : HK N (cnt c ns) ba (nth c ns) B C0 eb ec en ep) (hN : N ≤ 10) (hs : ns ≤ 12) {S b : Nat} (hS : S < 2 ^ N) (hS0 : S ≠ 0) : F_z_Hand_shortMen_l1_s (N : Int) eb en ((S : Int), (b : Int), (lkW b : Int)) = Sum.inl (((S + 1 : Nat) : Int), (lkN (hK c ns ba B) N S b : Int), (lkW (lkN (hK c ns ba B) N S b) : Int)) := by
  have hS2 : S < 4096 := Nat.lt_of_lt_of_le hS (pw12 (by omega))
  have s1 : (S : Int) + 1 = ((S + 1 : Nat) : Int) := by omega
  have hp : pcnt S 12 ≤ 10 := by
    rw [pcnt_top hS (show N ≤ 12 by omega)]
    have := pcnt_le S N
    omega
  unfold F_z_Hand_shortMen_l1_s F_z_Hand_shortMen_j2
  simp only [kC, kLet, Int32.reduceToInt, kShl1 N (by omega), bc_all hS2, can_c hH hN hs hS, s1]
  rw [if_neg (by omega)]
  unfold lkN
  by_cases d1 : (lkW b : Int) ≤ (pcnt S 12 : Int)
  · rw [if_pos d1, if_neg (fun z => by
      rcases z.2 with q | q
      · rw [q] at d1
        have : lkW 0 = 11 := rfl
        omega
      · unfold lkW at d1
        split at d1
        · omega
        · omega)]
  · rw [if_neg d1]
    have d2 : b = 0 ∨ pcnt S 12 < pcnt b 12 := by
      by_cases q : b = 0
      · exact Or.inl q
      · unfold lkW at d1
        rw [if_neg q] at d1
        exact Or.inr (by omega)
    by_cases d3 : vc (hK c ns ba B) N S < pcnt S 12
    · rw [if_neg (by omega), if_pos ⟨d3, d2⟩]
      unfold lkW
      rw [if_neg hS0]
    · rw [if_pos (by omega), if_neg (fun z => d3 z.1)]
theorem lk_n (hH : HK N (cnt c ns) ba (nth c ns) B C0 eb ec en ep) (hN : N ≤ 10) (hs : ns ≤ 12) (hb : ∀ k, k < N → ba k < 10) (hw : 0 < wV (hK c ns ba B) N 0 (fun _ => false)) : F_z_Hand_shortMen (N : Int) eb en = 0 := by
  have h0 : 0 < 2 ^ N := Nat.two_pow_pos _
  unfold F_z_Hand_shortMen F_z_Hand_shortMen_l1
  simp only [Int32.reduceToInt]
  refine kInd (st := F_z_Hand_shortMen_l1_s (N : Int) eb en) (fun n (s : Int × Int × Int) => ∃ S : Nat, s = ((S : Int), 0, 11) ∧ S + n = 2 ^ N ∧ 1 ≤ S) (fun t => t = 0) ?_ (2 ^ N - 1) _ ⟨1, rfl, by omega, by omega⟩
  rintro n s ⟨S, rfl, hS, hS1⟩
  by_cases d : S < 2 ^ N
  · have q := lk_c hH hN hs d (b := 0) (by omega)
    have e : lkN (hK c ns ba B) N S 0 = 0 := if_neg (fun z => by have := hall (by omega) d hw; omega)
    rw [e] at q
    have q' : F_z_Hand_shortMen_l1_s (N : Int) eb en ((S : Int), 0, 11) = Sum.inl (((S + 1 : Nat) : Int), 0, 11) := q
    exact Or.inr ⟨n - 1, _, by omega, q', S + 1, rfl, by omega, by omega⟩
  · have hm := men_c hH hN hb (S := 0) h0
    have e0 : mB ba 0 N = 0 := by
      have : ∀ k, mB ba 0 k = 0 := fun k => by
        induction k with
        | zero => rfl
        | succ k ih =>
          show (if Nat.testBit 0 k = true then mB ba 0 k ||| 2 ^ ba k else mB ba 0 k) = 0
          rw [Nat.zero_testBit, if_neg (by decide), ih]
      exact this N
    rw [e0] at hm
    have hm' : F_z_Hand_menOf (N : Int) eb 0 = 0 := hm
    unfold F_z_Hand_shortMen_l1_s
    simp only [kC, kLet, Int32.reduceToInt, kShl1 N (by omega)]
    rw [if_pos (by omega), hm']
    exact Or.inl ⟨_, rfl, rfl⟩
theorem lk_s (hH : HK N (cnt c ns) ba (nth c ns) B C0 eb ec en ep) (hR : RK N ns ba (hK c ns ba B) fn fk) (hN : N ≤ 10) (hs : ns ≤ 12) (hb : ∀ k, k < N → ba k < 10) {g3 : Nat → Int} {g6 : Nat → Int64} : F_r_lackx_l1 (N : Int) g3 fn fk g6 (1, 0) = (F_z_Hand_shortMen (N : Int) eb en, (N : Int), g3, fn, fk, g6) := by
  have h0 : 0 < 2 ^ N := Nat.two_pow_pos _
  unfold F_z_Hand_shortMen F_z_Hand_shortMen_l1 F_r_lackx_l1
  simp only [Int32.reduceToInt]
  refine kSim (st := F_z_Hand_shortMen_l1_s (N : Int) eb en) (st' := F_r_lackx_l1_s (N : Int) g3 fn fk g6) (fun n (s : Int × Int × Int) (s' : Int × Int) => ∃ S b : Nat, s = ((S : Int), (b : Int), (lkW b : Int)) ∧ s' = ((S : Int), (b : Int)) ∧ S + n = 2 ^ N ∧ 1 ≤ S ∧ b < 2 ^ N) (fun t t' => t' = (t, (N : Int), g3, fn, fk, g6)) ?_ (2 ^ N - 1) _ _ ⟨1, 0, rfl, rfl, by omega, by omega, h0⟩
  rintro n s s' ⟨S, b, rfl, rfl, hS, hS1, hbl⟩
  by_cases d : S < 2 ^ N
  · have q := lk_c hH hN hs d (b := b) (by omega)
    have r := can_r hR hN hs d hbl
    refine Or.inr ⟨n - 1, _, _, by omega, q, ?_, S + 1, lkN (hK c ns ba B) N S b, rfl, rfl, by omega, by omega, ?_⟩
    · unfold F_r_lackx_l1_s
      simp only [kC, kLet, Int32.reduceToInt, kShl1 N (by omega)]
      rw [if_neg (by omega)]
      exact r
    · unfold lkN
      split
      · exact d
      · exact hbl
  · refine Or.inl ⟨(mB ba b N : Int), ((mB ba b N : Int), (N : Int), g3, fn, fk, g6), ?_, ?_, rfl⟩
    · unfold F_z_Hand_shortMen_l1_s
      simp only [kC, kLet, Int32.reduceToInt, kShl1 N (by omega)]
      rw [if_pos (by omega), men_c hH hN hb hbl]
    · unfold F_r_lackx_l1_s
      simp only [kC, kLet, Int32.reduceToInt, kShl1 N (by omega)]
      rw [if_pos (by omega)]
      exact men_r hR hN hb hbl
end LK
section LL
variable {mc sc tx nr ra ru dy wa se : Int} {f1 f2 : Nat → Int} {f3 : Nat → Int64} {g : Nat → Int} {B : Nat → Nat → Bool} {C0 : Nat → Nat → Nat} {M1 M2 M3 : Nat} {y1 y2 y3 : Nat → Int}
theorem lack_ok {eb ec en ep fv fn fk : Nat → Int} {fW : Nat → Int64} (h : RC mc sc tx nr ra ru dy wa se f1 f2 f3 g) (rB : ∀ m s fv, (m : Nat) < mc.toNat → (s : Nat) < sc.toNat → ∃ fv', F_r_isBarredx g fv (m : Int) (s : Int) = (bI (B m s), fv')) (hH : HK (cnt (bB1 f1) mc.toNat) (cnt (bC1 f2) sc.toNat) (nth (bB1 f1) mc.toNat) (nth (bC1 f2) sc.toNat) B C0 eb ec en ep) : (F_r_lackx g fv fn fk fW).1 = F_z_Hand_shortMen (cnt (bB1 f1) mc.toNat : Int) eb en := by
  have a1 : g 1 = sc := h.1.2.1
  have b1 : 0 ≤ mc := h.2.2.2.2.2.1
  have b2 : mc ≤ 10 := h.2.2.2.2.2.2.1
  have b3 : 0 ≤ sc := h.2.2.2.2.2.2.2.1
  have b4 : sc ≤ 12 := h.2.2.2.2.2.2.2.2.1
  have lN := cnt_le (bB1 f1) mc.toNat
  have hN : cnt (bB1 f1) mc.toNat ≤ 10 := by omega
  have hs : sc.toNat ≤ 12 := by omega
  have g1 : g 1 = (sc.toNat : Int) := by omega
  have esh : F_r_shirts g = (sc.toNat : Int) := by rw [pr_shirts]; exact g1
  have e2n : kShl 1 (sc.toNat : Int) = ((2 ^ sc.toNat : Nat) : Int) := kShl1 _ (by omega)
  have hba : ∀ k, k < cnt (bB1 f1) mc.toNat → nth (bB1 f1) mc.toNat k < 10 := fun k hk => by
    have := (nth_ok _ k hk).1
    omega
  obtain ⟨v1, n1, k1, l1, l2, l3⟩ := pr_looksx h rB fv fn fk
  obtain ⟨W1, w1, w2⟩ := r_wayss (g := g) (mk_R l2 l3) hN hs fW v1
  have e : F_r_allWaysx g fv fn fk fW = (Int64.ofNat (wV (hK (bC1 f2) sc.toNat (nth (bB1 f1) mc.toNat) B) (cnt (bB1 f1) mc.toNat) 0 (fun _ => false)), (cnt (bB1 f1) mc.toNat : Int), v1, n1, k1, W1) := by
    unfold F_r_allWaysx
    simp only [kC, kLet, Int32.reduceToInt, l1, esh, e2n, w1]
  have hl := wV_le (K := hK (bC1 f2) sc.toNat (nth (bB1 f1) mc.toNat) B) (cnt (bB1 f1) mc.toNat) 0 (fun _ => false)
  have hl2 : 12 ^ cnt (bB1 f1) mc.toNat ≤ 12 ^ 10 := Nat.pow_le_pow_right (by decide) hN
  have hl3 : (12 : Nat) ^ 10 < 9223372036854775808 := by decide
  unfold F_r_lackx
  simp only [kC, kLet, Int32.reduceToInt, e]
  by_cases q : wV (hK (bC1 f2) sc.toNat (nth (bB1 f1) mc.toNat) B) (cnt (bB1 f1) mc.toNat) 0 (fun _ => false) = 0
  · rw [q]
    have e0 : kCmp (Int64.ofNat 0) 0 = 0 := kCmp0.mpr rfl
    rw [if_pos (by omega), lk_s hH (mk_R l2 l3) hN hs hba]
  · have e0 : ¬ kCmp (Int64.ofNat (wV (hK (bC1 f2) sc.toNat (nth (bB1 f1) mc.toNat) B) (cnt (bB1 f1) mc.toNat) 0 (fun _ => false))) 0 ≤ 0 := fun z => by
      by_cases z1 : kCmp (Int64.ofNat (wV (hK (bC1 f2) sc.toNat (nth (bB1 f1) mc.toNat) B) (cnt (bB1 f1) mc.toNat) 0 (fun _ => false))) 0 = 0
      · have z2 : Int64.ofNat (wV (hK (bC1 f2) sc.toNat (nth (bB1 f1) mc.toNat) B) (cnt (bB1 f1) mc.toNat) 0 (fun _ => false)) = Int64.ofNat 0 := kCmp0.mp z1
        exact q (eq64 (by omega) (by decide) z2)
      · have z3 : Int64.ofNat (wV (hK (bC1 f2) sc.toNat (nth (bB1 f1) mc.toNat) B) (cnt (bB1 f1) mc.toNat) 0 (fun _ => false)) < Int64.ofNat 0 := kCmpl.mp (show kCmp (Int64.ofNat (wV (hK (bC1 f2) sc.toNat (nth (bB1 f1) mc.toNat) B) (cnt (bB1 f1) mc.toNat) 0 (fun _ => false))) 0 < 0 by omega)
        have := (lt64 (by omega) (by decide)).mp z3
        omega
    rw [if_neg e0, lk_n hH hN hs hba (by omega)]
theorem lack_n {eb ec en ep : Nat → Int} {fv fn fk : Nat → Int} {fW : Nat → Int64} (h : RC mc sc tx nr ra ru dy wa se f1 f2 f3 g) (h3 : g 3 = 0) : (F_z_SW_lack_n mc sc nr f1 f2 f3 eb ec en ep).1 = (F_r_lackx g fv fn fk fW).1 := by
  obtain ⟨_, C0, B, hC0, cB, rB, rC⟩ := bc_n h h3
  obtain ⟨eb', ec', en', ep', l1, l2⟩ := c_look_n (eb := eb) (ec := ec) (en := en) (ep := ep) h cB hC0
  rw [lack_ok (fv := fv) (fn := fn) (fk := fk) (fW := fW) h rB l2]
  unfold F_z_SW_lack_n
  simp only [kC, kLet, l1]
theorem lack_s {eb ec en ep y4 : Nat → Int} {fv fn fk : Nat → Int} {fW : Nat → Int64} (h : RC mc sc tx nr ra ru dy wa se f1 f2 f3 g) (h3 : g 3 = 1) (hL : LW M1 M2 M3 y1 y2 y3 g) (k1 : ∀ i, kW (f1 i) = f1 i) (k2 : ∀ i, kW (f2 i) = f2 i) (kw : kW wa = wa) : (F_z_SW_lack_s mc sc nr wa f1 f2 f3 M1 M2 M3 y1 y2 y3 y4 eb ec en ep).1 = (F_r_lackx g fv fn fk fW).1 := by
  obtain ⟨C0, B, hC, cB, cC, rB, rC⟩ := bc_s h h3 hL k1 k2 kw
  obtain ⟨eb', ec', en', ep', y4', l1, l2⟩ := c_look_s (y4 := y4) (eb := eb) (ec := ec) (en := en) (ep := ep) h cB cC
  rw [lack_ok (fv := fv) (fn := fn) (fk := fk) (fW := fW) h rB l2]
  unfold F_z_SW_lack_s
  simp only [kC, kLet, l1]
end LL
theorem xq_SW_lack_n {B : Nat} {mc : Int} {sc : Int} {nr : Int} {f1 : Nat → Int} {f2 : Nat → Int} {f3 : Nat → Int64} {eb : Nat → Int} {ec : Nat → Int} {en : Nat → Int} {ep : Nat → Int} {g : Nat → Int} {fv : Nat → Int} {fn : Nat → Int} {fk : Nat → Int} {fW : Nat → Int64} {tx : Int} {ra : Int} {ru : Int} {dy : Int} {wa : Int} {se : Int} {v : Int} {n0_ : Int} {n1_ : Int} {f2_ : Nat → Int} {f3_ : Nat → Int} {f4_ : Nat → Int} {f5_ : Nat → Int} {v' : Int} {ne' : Int} {fv' : Nat → Int} {fn' : Nat → Int} {fk' : Nat → Int} {fW' : Nat → Int64} (h : kC9 B mc sc tx nr ra ru dy wa se f1 f2 f3 g) (g3 : g 3 = 0) (hc : F_z_SW_lack_n mc sc nr f1 f2 f3 eb ec en ep = (v, n0_, n1_, f2_, f3_, f4_, f5_)) (hr : F_r_lackx g fv fn fk fW = (v', ne', fv', fn', fk', fW')) : v = v' := by
  have q := lack_n (eb := eb) (ec := ec) (en := en) (ep := ep) (fv := fv) (fn := fn) (fk := fk) (fW := fW) h.1 g3
  rw [hc, hr] at q
  exact q
theorem xq_SW_lack_s {B : Nat} {mc : Int} {sc : Int} {nr : Int} {wa : Int} {f1 : Nat → Int} {f2 : Nat → Int} {f3 : Nat → Int64} {M1 : Nat} {M2 : Nat} {M3 : Nat} {y1_ : Nat → Int} {y2_ : Nat → Int} {y3_ : Nat → Int} {y4_ : Nat → Int} {eb : Nat → Int} {ec : Nat → Int} {en : Nat → Int} {ep : Nat → Int} {g : Nat → Int} {fv : Nat → Int} {fn : Nat → Int} {fk : Nat → Int} {fW : Nat → Int64} {tx : Int} {ra : Int} {ru : Int} {dy : Int} {se : Int} {v : Int} {y4' : Nat → Int} {n1_ : Int} {n2_ : Int} {f3_ : Nat → Int} {f4_ : Nat → Int} {f5_ : Nat → Int} {f6_ : Nat → Int} {v' : Int} {ne' : Int} {fv' : Nat → Int} {fn' : Nat → Int} {fk' : Nat → Int} {fW' : Nat → Int64} (h : kC9 B mc sc tx nr ra ru dy wa se f1 f2 f3 g) (g3 : g 3 = 1) (hL : LW M1 M2 M3 y1_ y2_ y3_ g) (k1 : ∀ i, kW (f1 i) = f1 i) (k2 : ∀ i, kW (f2 i) = f2 i) (kw : kW wa = wa) (hc : F_z_SW_lack_s mc sc nr wa f1 f2 f3 M1 M2 M3 y1_ y2_ y3_ y4_ eb ec en ep = (v, y4', n1_, n2_, f3_, f4_, f5_, f6_)) (hr : F_r_lackx g fv fn fk fW = (v', ne', fv', fn', fk', fW')) : v = v' := by
  have q := lack_s (eb := eb) (ec := ec) (en := en) (ep := ep) (fv := fv) (fn := fn) (fk := fk) (fW := fW) (y4 := y4_) h.1 g3 hL k1 k2 kw
  rw [hc, hr] at q
  exact q
