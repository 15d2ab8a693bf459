/-! The tables over sets of SHIRTS: the class's (over places in THE CHEST), the reference's. -/
theorem and_not {Y G : Nat} (hY : Y < 2147483648) (hG : G < 2147483648) : ∃ Z : Nat, kAnd (Y : Int) (kXor (G : Int) (-1)) = (Z : Int) ∧ Z < 2147483648 ∧ ∀ p, p < 31 → Z.testBit p = (Y.testBit p && !G.testBit p) := by
  have eb : (Int32.ofInt (kAnd (Y : Int) (kXor (G : Int) (-1)))).toBitVec = BitVec.ofNat 32 Y &&& (BitVec.ofNat 32 G ^^^ BitVec.allOnes 32) := by
    rw [and_bv, xor_bv, of_bv, of_bv]
    rfl
  have en : (BitVec.ofNat 32 Y &&& (BitVec.ofNat 32 G ^^^ BitVec.allOnes 32)).toNat ≤ Y := by
    rw [BitVec.toNat_and, BitVec.toNat_ofNat, Nat.mod_eq_of_lt (by omega)]
    exact Nat.and_le_left
  refine ⟨(BitVec.ofNat 32 Y &&& (BitVec.ofNat 32 G ^^^ BitVec.allOnes 32)).toNat, ?_, by omega, fun p hp => ?_⟩
  · have e2 : kAnd (Y : Int) (kXor (G : Int) (-1)) = ((Int32.ofInt (kAnd (Y : Int) (kXor (G : Int) (-1)))).toBitVec).toInt := by
      unfold kAnd
      rw [Int32.ofInt_toInt]
      rfl
    rw [e2, eb]
    exact bv_int rfl (by omega)
  · rw [BitVec.testBit_toNat, BitVec.getLsbD_and, BitVec.getLsbD_xor, BitVec.getLsbD_allOnes, BitVec.getLsbD_ofNat, BitVec.getLsbD_ofNat, decide_eq_true (show p < 32 by omega)]
    simp
theorem pcnt_set {G p : Nat} (hp : G.testBit p = false) : ∀ k, pcnt (G ||| 2 ^ p) k = pcnt G k + (if p < k then 1 else 0)
  | 0 => rfl
  | k + 1 => by
    have ih := pcnt_set hp k
    show pcnt (G ||| 2 ^ p) k + _ = pcnt G k + _ + _
    rw [ih, tb_set]
    by_cases c : p = k
    · subst c
      rw [hp, decide_eq_true rfl, Bool.or_true, if_neg (Nat.lt_irrefl _), if_pos (show p < p + 1 by omega)]
      rfl
    · rw [decide_eq_false c, Bool.or_false]
      by_cases d : p < k
      · rw [if_pos d, if_pos (show p < k + 1 by omega)]; omega
      · rw [if_neg d, if_neg (show ¬ p < k + 1 by omega)]; omega
theorem por_gt {G p : Nat} (hp : G.testBit p = false) : G < G ||| 2 ^ p := by
  refine Nat.lt_of_le_of_ne Nat.left_le_or (fun z => ?_)
  have : (G ||| 2 ^ p).testBit p = true := by rw [tb_set, decide_eq_true rfl, Bool.or_true]
  rw [← z, hp] at this
  cases this
theorem or_lt {G p k : Nat} (hG : G < 2 ^ k) (hp : p < k) : G ||| 2 ^ p < 2 ^ k := Nat.or_lt_two_pow hG (Nat.pow_lt_pow_right (by decide) hp)
def o64 (o : Option Nat) : Int64 := Int64.ofNat (o.getD 1099511627776)
theorem nat64 {a : Nat} (h : a < 9223372036854775808) : (Int64.ofNat a).toInt = (a : Int) := Int64.toInt_ofNat_of_lt h
theorem lt64 {a b : Nat} (ha : a < 9223372036854775808) (hb : b < 9223372036854775808) : (Int64.ofNat a < Int64.ofNat b) ↔ a < b := by
  rw [Int64.lt_iff_toInt_lt, nat64 ha, nat64 hb]
  omega
theorem eq64 {a b : Nat} (ha : a < 9223372036854775808) (hb : b < 9223372036854775808) (h : Int64.ofNat a = Int64.ofNat b) : a = b := by
  have := congrArg Int64.toInt h
  rw [nat64 ha, nat64 hb] at this
  omega
theorem min64 {a nx : Option Nat} {c : Nat} (ha : ∀ v, a = some v → v ≤ 1000000) (hn : ∀ w, nx = some w → w ≤ 1000000) (hc : c ≤ 1000000) : kMinL (o64 a) (o64 nx + Int64.ofNat c) = o64 (omin2 a (nx.map (fun w => c + w))) := by
  have e : o64 nx + Int64.ofNat c = Int64.ofNat (nx.getD 1099511627776 + c) := by
    unfold o64
    rw [Int64.ofNat_add]
  rw [e]
  unfold kMinL o64
  have l1 : a.getD 1099511627776 < 9223372036854775808 := by
    cases a with
    | none => show 1099511627776 < _; omega
    | some v => have := ha v rfl; show v < _; omega
  have l2 : nx.getD 1099511627776 + c < 9223372036854775808 := by
    cases nx with
    | none => show 1099511627776 + c < _; omega
    | some v => have := hn v rfl; show v + c < _; omega
  by_cases q : nx.getD 1099511627776 + c < a.getD 1099511627776
  · rw [if_pos ((lt64 l2 l1).mpr q)]
    cases nx with
    | none =>
      cases a with
      | none => have : 1099511627776 + c < 1099511627776 := q; omega
      | some v => have : 1099511627776 + c < v := q; have := ha v rfl; omega
    | some w =>
      cases a with
      | none => show Int64.ofNat (w + c) = Int64.ofNat (c + w); rw [Nat.add_comm]
      | some v =>
        have q' : w + c < v := q
        show Int64.ofNat (w + c) = Int64.ofNat ((some (if c + w < v then c + w else v)).getD 1099511627776)
        rw [if_pos (by omega), Nat.add_comm]
        rfl
  · rw [if_neg (fun z => q ((lt64 l2 l1).mp z))]
    cases nx with
    | none =>
      cases a with
      | none => rfl
      | some v => rfl
    | some w =>
      cases a with
      | none => have q' : ¬ w + c < 1099511627776 := q; have := hn w rfl; omega
      | some v =>
        have q' : ¬ w + c < v := q
        show Int64.ofNat v = Int64.ofNat ((some (if c + w < v then c + w else v)).getD 1099511627776)
        rw [if_neg (by omega)]
        rfl
/-- K of the handings -/
def hK (c : Nat → Bool) (ns : Nat) (ba : Nat → Nat) (B : Nat → Nat → Bool) : Nat → Nat → Bool := fun k s => decide (s < ns) && (c s && !B (ba k) s)
def hCo (C0 : Nat → Nat → Nat) (ba : Nat → Nat) (a1 : Int) : Nat → Nat → Nat := fun k s => if a1 = 0 then 0 else C0 (ba k) s
/-- the SHIRTS whose places are gone -/
def pS (c : Nat → Bool) (ns G : Nat) : Nat → Bool := fun s => decide (s < ns) && (c s && G.testBit (cnt c s))
theorem pS_add {c : Nat → Bool} {ns G p : Nat} (hp : p < cnt c ns) : pS c ns (G ||| 2 ^ p) = pAdd (pS c ns G) (nth c ns p) := by
  obtain ⟨a1, a2, a3⟩ := nth_ok ns p hp
  funext s
  show (decide (s < ns) && (c s && (G ||| 2 ^ p).testBit (cnt c s))) = ((decide (s < ns) && (c s && G.testBit (cnt c s))) || decide (s = nth c ns p))
  by_cases q : s < ns
  · rw [decide_eq_true q, Bool.true_and, Bool.true_and]
    cases qc : c s with
    | false =>
      rw [Bool.false_and, Bool.false_and, Bool.false_or]
      exact (decide_eq_false (fun z => by rw [z, a2] at qc; cases qc)).symm
    | true =>
      rw [Bool.true_and, Bool.true_and, tb_set]
      congr 1
      refine decide_eq_decide.mpr ⟨fun z => ?_, fun z => ?_⟩
      · exact cnt_inj qc a2 (by omega)
      · rw [z, a3]
  · rw [decide_eq_false q, Bool.false_and, Bool.false_and, Bool.false_or]
    exact (decide_eq_false (fun z => q (by omega))).symm
theorem pS_at {c : Nat → Bool} {ns G p : Nat} (hp : p < cnt c ns) : pS c ns G (nth c ns p) = G.testBit p := by
  obtain ⟨a1, a2, a3⟩ := nth_ok ns p hp
  unfold pS
  rw [decide_eq_true a1, a2, a3]
  rfl
theorem hK_at {c : Nat → Bool} {ns p k : Nat} {ba : Nat → Nat} {B : Nat → Nat → Bool} (hp : p < cnt c ns) : hK c ns ba B k (nth c ns p) = !B (ba k) (nth c ns p) := by
  obtain ⟨a1, a2, a3⟩ := nth_ok ns p hp
  unfold hK
  rw [decide_eq_true a1, a2]
  rfl
theorem hK_in {c : Nat → Bool} {ns s k : Nat} {ba : Nat → Nat} {B : Nat → Nat → Bool} (h : hK c ns ba B k s = true) : s < ns ∧ c s = true ∧ B (ba k) s = false := by
  unfold hK at h
  rw [Bool.and_eq_true, Bool.and_eq_true, decide_eq_true_iff] at h
  refine ⟨h.1, h.2.1, ?_⟩
  have := h.2.2
  cases q : B (ba k) s with
  | false => rfl
  | true => rw [q] at this; cases this
/-- what the class's table says of a set of places -/
def tV (K : Nat → Nat → Bool) (C : Nat → Nat → Nat) (c : Nat → Bool) (ns N G : Nat) : Option Nat := if pcnt G 12 ≤ N then oV K C (N - pcnt G 12) (pcnt G 12) (pS c ns G) else none
theorem tV_le {K : Nat → Nat → Bool} {C : Nat → Nat → Nat} {c : Nat → Bool} {ns N G v : Nat} (hN : N ≤ 10) (hC : ∀ k s, C k s ≤ 11988) (h : tV K C c ns N G = some v) : v ≤ 119880 := by
  unfold tV at h
  by_cases q : pcnt G 12 ≤ N
  · rw [if_pos q] at h
    have := oV_le hC _ _ _ _ h
    have : (N - pcnt G 12) * 11988 ≤ 10 * 11988 := Nat.mul_le_mul_right _ (by omega)
    omega
  · rw [if_neg q] at h; cases h
section TB
variable {c : Nat → Bool} {ns N : Nat} {ba : Nat → Nat} {B : Nat → Nat → Bool} {C0 : Nat → Nat → Nat} {eb ec en ep : Nat → Int} {a1 : Int}
theorem c_priceAt (hH : HK N (cnt c ns) ba (nth c ns) B C0 eb ec en ep) {k p : Nat} (hN : N ≤ 10) (hs : ns ≤ 12) (hk : k < N) (hp : p < cnt c ns) (hb : B (ba k) (nth c ns p) = false) (hc : C0 (ba k) (nth c ns p) ≤ 11988) : F_z_Hand_priceAt ep (k : Int) (p : Int) a1 = Int64.ofNat (hCo C0 ba a1 k (nth c ns p)) := by
  have lp := cnt_le c ns
  unfold F_z_Hand_priceAt F_z_Hand_priceAt_j1 hCo
  simp only [kLet, Int32.reduceToInt]
  by_cases q : a1 = 0
  · rw [if_pos q, if_pos q]; rfl
  · rw [if_neg q, if_neg q, kW_id (z := (k : Int) * 12) (by omega) (by omega), kW_id (by omega) (by omega), c_valueAt (by decide), if_pos (by omega), show ((k : Int) * 12 + (p : Int)).toNat = 12 * k + p from by omega, hH.2.2.2 k p hk hp hb]
    unfold kI2l
    refine Int64.toInt_inj.mp ?_
    rw [Int32.toInt_toInt64, nat64 (by omega)]
    exact kW_id (by omega) (by omega)
theorem c_valueOf {et : Nat → Int64} {G : Nat} (h : G < 4096) : F_z_Hand_valueOf et (G : Int) = et G := by
  unfold F_z_Hand_valueOf F_z_Hand_valueOf_j1
  simp only [kLet, Int32.reduceToInt]
  rw [if_neg (by omega), if_neg (by omega), Int.toNat_natCast]
theorem c_least (hH : HK N (cnt c ns) ba (nth c ns) B C0 eb ec en ep) (hN : N ≤ 10) (hs : ns ≤ 12) (hC : ∀ m s, C0 m s ≤ 11988) {et : Nat → Int64} {G : Nat} (hG : G < 2 ^ cnt c ns) (ht : ∀ H, G < H → H < 2 ^ cnt c ns → et H = o64 (tV (hK c ns ba B) (hCo C0 ba a1) c ns N H)) : F_z_Hand_leastFrom (N : Int) (cnt c ns : Int) et en ep (G : Int) a1 = o64 (tV (hK c ns ba B) (hCo C0 ba a1) c ns N G) := by
  have lp := cnt_le c ns
  have hG2 : G < 4096 := Nat.lt_of_lt_of_le hG (pw12 (by omega))
  have hbc := bc_all hG2
  have hCo' : ∀ k s, hCo C0 ba a1 k s ≤ 11988 := fun k s => by
    unfold hCo
    split
    · omega
    · exact hC _ _
  unfold F_z_Hand_leastFrom F_z_Hand_leastFrom_j3
  simp only [kLet, Int32.reduceToInt, hbc, show ((-1) : Int32).toInt = -1 from by decide]
  by_cases q : pcnt G 12 < N
  · rw [if_pos (by omega)]
    obtain ⟨Y, y1, y2⟩ := hH.2.2.1 (pcnt G 12) q
    have hY : Y < 2 ^ cnt c ns := tb_lt (fun t htb => by
      rw [y2 t] at htb
      refine Decidable.byContradiction (fun z => ?_)
      rw [decide_eq_false z] at htb
      cases htb)
    have hY2 : Y < 4096 := Nat.lt_of_lt_of_le hY (pw12 (by omega))
    have ev : F_z_valueAt 10 en ((pcnt G 12 : Nat) : Int) = (Y : Int) := by
      rw [c_valueAt (by decide), if_pos (by omega), Int.toNat_natCast]
      exact y1
    obtain ⟨Z, z1, z2, z3⟩ := and_not (show Y < 2147483648 by omega) (show G < 2147483648 by omega)
    rw [ev, z1]
    unfold F_z_Hand_leastFrom_l1
    have key := kInd (st := F_z_Hand_leastFrom_l1_s (cnt c ns : Int) et ep (G : Int) a1 (pcnt G 12 : Int) (Z : Int)) (fun n (s : Int × Int64) => ∃ p : Nat, s = ((p : Int), o64 (oMin (fun p => oStep (hK c ns ba B) (hCo C0 ba a1) (oV (hK c ns ba B) (hCo C0 ba a1) (N - pcnt G 12 - 1) (pcnt G 12 + 1)) (pcnt G 12) (pS c ns G) (nth c ns p)) p)) ∧ p + n = cnt c ns) (fun t => t = o64 (oMin (fun p => oStep (hK c ns ba B) (hCo C0 ba a1) (oV (hK c ns ba B) (hCo C0 ba a1) (N - pcnt G 12 - 1) (pcnt G 12 + 1)) (pcnt G 12) (pS c ns G) (nth c ns p)) (cnt c ns))) (by
      rintro n s ⟨p, rfl, hp⟩
      have p1 : (p : Int) + 1 = ((p + 1 : Nat) : Int) := by omega
      unfold F_z_Hand_leastFrom_l1_s F_z_Hand_leastFrom_j2
      simp only [kC, kLet, Int32.reduceToInt]
      by_cases cp : (cnt c ns : Int) ≤ (p : Int)
      · rw [if_pos cp]
        have : cnt c ns = p := by omega
        rw [this]
        exact Or.inl ⟨_, rfl, rfl⟩
      · have ebit : kAnd (kShr (Z : Int) (p : Int)) 1 = bI (!B (ba (pcnt G 12)) (nth c ns p) && !G.testBit p) := by rw [bit_at z2 (by omega), z3 p (by omega), y2 p, decide_eq_true (show p < cnt c ns by omega), Bool.true_and]
        rw [if_neg cp]
        refine Or.inr ?_
        simp only [ebit]
        have hpS := pS_at (G := G) (show p < cnt c ns by omega)
        have hKa := hK_at (k := pcnt G 12) (ba := ba) (B := B) (show p < cnt c ns by omega)
        by_cases d : (!B (ba (pcnt G 12)) (nth c ns p)) = true ∧ G.testBit p = false
        · have hb : B (ba (pcnt G 12)) (nth c ns p) = false := by
            cases z : B (ba (pcnt G 12)) (nth c ns p) with
            | false => rfl
            | true => rw [z] at d; exact absurd d.1 (by decide)
          have e3 : pcnt (G ||| 2 ^ p) 12 = pcnt G 12 + 1 := by rw [pcnt_set d.2, if_pos (by omega)]
          rw [d.2, hb, bit_set (by omega) (by omega), c_valueOf (Nat.lt_of_lt_of_le (or_lt hG (show p < cnt c ns by omega)) (pw12 (by omega))), ht _ (por_gt d.2) (or_lt hG (by omega)), c_priceAt hH hN hs q (show p < cnt c ns by omega) hb (hC _ _)]
          have e4 : tV (hK c ns ba B) (hCo C0 ba a1) c ns N (G ||| 2 ^ p) = oV (hK c ns ba B) (hCo C0 ba a1) (N - pcnt G 12 - 1) (pcnt G 12 + 1) (pAdd (pS c ns G) (nth c ns p)) := by
            unfold tV
            rw [e3, if_pos (by omega), pS_add (show p < cnt c ns by omega), show N - (pcnt G 12 + 1) = N - pcnt G 12 - 1 from by omega]
          have l1 : ∀ v, oMin (fun p => oStep (hK c ns ba B) (hCo C0 ba a1) (oV (hK c ns ba B) (hCo C0 ba a1) (N - pcnt G 12 - 1) (pcnt G 12 + 1)) (pcnt G 12) (pS c ns G) (nth c ns p)) p = some v → v ≤ 1000000 := fun v hv => by
            obtain ⟨⟨s, _, q2⟩, _⟩ := oMin_le p v hv
            have q2 : oStep (hK c ns ba B) (hCo C0 ba a1) (oV (hK c ns ba B) (hCo C0 ba a1) (N - pcnt G 12 - 1) (pcnt G 12 + 1)) (pcnt G 12) (pS c ns G) (nth c ns s) = some v := q2
            unfold oStep at q2
            by_cases cc : hK c ns ba B (pcnt G 12) (nth c ns s) = true ∧ pS c ns G (nth c ns s) = false
            · rw [if_pos cc] at q2
              obtain ⟨w, w1, w2⟩ := Option.map_eq_some_iff.mp q2
              have a1 := oV_le hCo' _ _ _ _ w1
              have a2 := hCo' (pcnt G 12) (nth c ns s)
              have a3 : (N - pcnt G 12 - 1) * 11988 ≤ 10 * 11988 := Nat.mul_le_mul_right _ (by omega)
              omega
            · rw [if_neg cc] at q2; cases q2
          have l2 : ∀ w, tV (hK c ns ba B) (hCo C0 ba a1) c ns N (G ||| 2 ^ p) = some w → w ≤ 1000000 := fun w hw => by have := tV_le hN hCo' hw; omega
          simp only [bI, Bool.not_false, Bool.and_self, ↓reduceIte]
          rw [if_neg (by decide), min64 l1 l2 (by have := hCo' (pcnt G 12) (nth c ns p); omega), e4, p1]
          refine ⟨n - 1, _, by omega, rfl, p + 1, ?_, by omega⟩
          congr 2
          show omin2 _ _ = omin2 _ _
          congr 1
          show _ = oStep (hK c ns ba B) (hCo C0 ba a1) (oV (hK c ns ba B) (hCo C0 ba a1) (N - pcnt G 12 - 1) (pcnt G 12 + 1)) (pcnt G 12) (pS c ns G) (nth c ns p)
          unfold oStep
          rw [if_pos ⟨by rw [hKa]; exact d.1, by rw [hpS]; exact d.2⟩]
        · have e5 : (!B (ba (pcnt G 12)) (nth c ns p) && !G.testBit p) = false := by
            cases z1 : B (ba (pcnt G 12)) (nth c ns p) with
            | true => rfl
            | false =>
              cases z2 : G.testBit p with
              | true => rfl
              | false => rw [z1, z2] at d; exact absurd ⟨rfl, rfl⟩ d
          rw [e5]
          refine ⟨n - 1, ((p + 1 : Nat), o64 (oMin (fun p => oStep (hK c ns ba B) (hCo C0 ba a1) (oV (hK c ns ba B) (hCo C0 ba a1) (N - pcnt G 12 - 1) (pcnt G 12 + 1)) (pcnt G 12) (pS c ns G) (nth c ns p)) p)), by omega, ?_, p + 1, ?_, by omega⟩
          · rw [p1]; rfl
          · congr 2
            show _ = omin2 _ _
            have : oStep (hK c ns ba B) (hCo C0 ba a1) (oV (hK c ns ba B) (hCo C0 ba a1) (N - pcnt G 12 - 1) (pcnt G 12 + 1)) (pcnt G 12) (pS c ns G) (nth c ns p) = none := by
              unfold oStep
              rw [if_neg (by rw [hKa, hpS]; exact d)]
            show oMin (fun p => oStep (hK c ns ba B) (hCo C0 ba a1) (oV (hK c ns ba B) (hCo C0 ba a1) (N - pcnt G 12 - 1) (pcnt G 12 + 1)) (pcnt G 12) (pS c ns G) (nth c ns p)) p = omin2 (oMin (fun p => oStep (hK c ns ba B) (hCo C0 ba a1) (oV (hK c ns ba B) (hCo C0 ba a1) (N - pcnt G 12 - 1) (pcnt G 12 + 1)) (pcnt G 12) (pS c ns G) (nth c ns p)) p) (oStep (hK c ns ba B) (hCo C0 ba a1) (oV (hK c ns ba B) (hCo C0 ba a1) (N - pcnt G 12 - 1) (pcnt G 12 + 1)) (pcnt G 12) (pS c ns G) (nth c ns p))
            rw [this]
            cases oMin (fun p => oStep (hK c ns ba B) (hCo C0 ba a1) (oV (hK c ns ba B) (hCo C0 ba a1) (N - pcnt G 12 - 1) (pcnt G 12 + 1)) (pcnt G 12) (pS c ns G) (nth c ns p)) p <;> rfl) (cnt c ns) ((0 : Int), (1099511627776 : Int64)) ⟨0, rfl, by omega⟩
    refine key.trans ?_
    congr 1
    unfold tV
    rw [if_pos (by omega), show N - pcnt G 12 = N - pcnt G 12 - 1 + 1 from by omega]
    refine oMin_re (c := nth c ns) (fun p hp => ⟨by have := (nth_ok ns p hp).1; omega, rfl⟩) (fun s hs' hn => ?_)
    unfold oStep at hn
    by_cases cc : hK c ns ba B (pcnt G 12) s = true ∧ pS c ns G s = false
    · obtain ⟨b1, b2, b3⟩ := hK_in cc.1
      exact ⟨cnt c s, cnt_lt b1 b2, nth_cnt b1 b2⟩
    · rw [if_neg cc] at hn; exact absurd rfl hn
  · rw [if_neg (by omega)]
    unfold tV
    by_cases d : pcnt G 12 = N
    · rw [if_pos (by omega), if_pos (by omega), show N - pcnt G 12 = 0 from by omega]
      rfl
    · rw [if_neg (by omega), if_neg (by omega)]
      rfl
theorem c_weigh (hH : HK N (cnt c ns) ba (nth c ns) B C0 eb ec en ep) (hN : N ≤ 10) (hs : ns ≤ 12) (hC : ∀ m s, C0 m s ≤ 11988) (et : Nat → Int64) : ∃ et' : Nat → Int64, F_z_Hand_weigh (N : Int) (cnt c ns : Int) et en ep a1 = (o64 (tV (hK c ns ba B) (hCo C0 ba a1) c ns N 0), et') ∧ ∀ G, G < 2 ^ cnt c ns → et' G = o64 (tV (hK c ns ba B) (hCo C0 ba a1) c ns N G) := by
  have lp := cnt_le c ns
  have hp := pw12 (show cnt c ns ≤ 12 by omega)
  have h0 : 0 < 2 ^ cnt c ns := Nat.two_pow_pos _
  unfold F_z_Hand_weigh
  simp only [kLet, Int32.reduceToInt]
  rw [kShl1 _ (by omega), kMin_eq (by omega) (by omega) (by omega) (by omega), if_neg (by omega)]
  unfold F_z_Hand_weigh_l1
  refine kInd (st := F_z_Hand_weigh_l1_s (N : Int) (cnt c ns : Int) en ep a1) (fun n (s : Int × (Nat → Int64)) => ∃ et' : Nat → Int64, s = ((n : Int) - 1, et') ∧ n ≤ 2 ^ cnt c ns ∧ ∀ G, n ≤ G → G < 2 ^ cnt c ns → et' G = o64 (tV (hK c ns ba B) (hCo C0 ba a1) c ns N G)) (fun t => ∃ et' : Nat → Int64, t = (o64 (tV (hK c ns ba B) (hCo C0 ba a1) c ns N 0), et') ∧ ∀ G, G < 2 ^ cnt c ns → et' G = o64 (tV (hK c ns ba B) (hCo C0 ba a1) c ns N G)) ?_ (2 ^ cnt c ns) _ ⟨et, rfl, Nat.le_refl _, fun G h1 h2 => by omega⟩
  rintro n s ⟨et', rfl, h1, h2⟩
  unfold F_z_Hand_weigh_l1_s
  simp only [kC, kLet, Int32.reduceToInt, show ((-1) : Int32).toInt = -1 from by decide]
  by_cases cn : (n : Int) - 1 < 0
  · rw [if_pos cn]
    have e0 := c_valueOf (et := et') (show 0 < 4096 by decide)
    have e1 : F_z_Hand_valueOf et' 0 = et' 0 := e0
    rw [e1, h2 0 (by omega) h0]
    exact Or.inl ⟨_, rfl, et', rfl, fun G hG => h2 G (by omega) hG⟩
  · rw [if_neg cn]
    have e2 : (n : Int) - 1 = ((n - 1 : Nat) : Int) := by omega
    rw [e2, c_least hH hN hs hC (show n - 1 < 2 ^ cnt c ns by omega) (fun H g1 g2 => h2 H (by omega) g2), Int.toNat_natCast]
    refine Or.inr ⟨n - 1, _, by omega, rfl, _, rfl, by omega, fun G g1 g2 => ?_⟩
    by_cases d : G = n - 1
    · subst d; rw [kUpd_at]
    · rw [kUpd_ne d]; exact h2 G (by omega) g2
end TB
