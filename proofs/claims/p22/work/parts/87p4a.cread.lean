/-! The class's readers of a law: K i = e1 i, nx i = i + 1, begins e2. -/
def cL (k : Int) : Int := if k = 1025 then 3 else if k = 1026 then 4 else if k = 1027 then 2 else if k = 1028 then 2 else if k = 1029 then 3 else if k = 1030 then 3 else 1
theorem cL_pos (k : Int) : 1 ≤ cL k := by
  unfold cL
  repeat' split
  all_goals omega
def cT (e1 e2 : Nat → Int) (z : Nat) : Prop := z ≤ 401 ∧ ∀ i, i < z → (0 ≤ e2 i ∧ e2 i ≤ 400) ∧ (e1 i ≠ 1000 → i + 1 < z ∧ e2 i + cL (e1 i) ≤ e2 (i + 1))
section CR
variable {e1 e2 : Nat → Int} {z : Nat}
theorem cT_nx (h : cT e1 e2 z) {i : Nat} {k : Int} (hi : i < z) (hk : e1 i = k) (hne : k ≠ 1000) : i + 1 < z ∧ e2 i + cL k ≤ e2 (i + 1) := by
  have q := (h.2 i hi).2 (by rw [hk]; exact hne)
  rw [hk] at q
  exact q
theorem cT_n1 (h : cT e1 e2 z) {i : Nat} (hi : i < z) (hne : e1 i ≠ 1000) : i + 1 < z ∧ e2 i + 1 ≤ e2 (i + 1) := by
  have q := (h.2 i hi).2 hne
  have := cL_pos (e1 i)
  exact ⟨q.1, by omega⟩
theorem c_kd (h : cT e1 e2 z) {i : Nat} (hi : i < z) : F_z_R5_kind (i : Int) (z : Int) e1 = e1 i := by
  have := h.1
  unfold F_z_R5_kind F_z_R5_kind_j2 F_z_R5_kind_j1
  simp only [kLet, Int32.reduceToInt]
  rw [if_neg (by omega), if_neg (by omega), if_neg (by omega)]
  simp
theorem c_ref (h : cT e1 e2 z) {i : Nat} (hi : i < z) : F_z_R5_refuse (i : Int) e2 = (0, e2 i) := by
  have := h.1
  unfold F_z_R5_refuse F_z_R5_refuse_j2 F_z_R5_refuse_j1
  simp only [kLet, Int32.reduceToInt]
  rw [if_neg (by omega), if_neg (by omega)]
  simp
theorem c_w1 {i : Nat} (hi : i ≤ 1000) : kW ((i : Int) + 1) = ((i + 1 : Nat) : Int) := by
  rw [kW_id (by omega) (by omega)]
  omega
theorem c_step (h : cT e1 e2 z) {i : Nat} (hi : i < z) {wr v : Int} : F_z_R5_step (i : Int) wr (z : Int) e1 e2 v = if e1 i = v then (1, ((i + 1 : Nat) : Int), wr) else (0, (i : Int), e2 i) := by
  have := h.1
  unfold F_z_R5_step
  simp only [kC, kLet, Int32.reduceToInt, c_kd h hi, c_ref h hi, c_w1 (show i ≤ 1000 by omega)]
theorem c_number (h : cT e1 e2 z) {i : Nat} (hi : i < z) {wr : Int} : F_z_R5_number (i : Int) wr (z : Int) e1 e2 999 = if 0 ≤ e1 i ∧ e1 i ≤ 999 then (e1 i, ((i + 1 : Nat) : Int), wr) else (-1, (i : Int), e2 i) := by
  have := h.1
  unfold F_z_R5_number F_z_R5_number_j1
  simp only [kC, kLet, Int32.reduceToInt, c_kd h hi, c_ref h hi, c_w1 (show i ≤ 1000 by omega)]
  by_cases h1 : e1 i < 0
  · rw [if_pos h1, if_neg (by omega)]
  · rw [if_neg h1]
    by_cases h2 : e1 i ≤ 999
    · rw [if_pos h2, if_pos (by omega)]
    · rw [if_neg h2, if_neg (by omega)]
/-- the steps cs written behind one another from z on -/
def pW (w : Nat → Int) (z : Nat) : List Int → (Nat → Int)
  | [] => w
  | c :: cs => pW (kUpd w z c) (z + 1) cs
theorem pW_app (w : Nat → Int) (z : Nat) (cs ds : List Int) : pW w z (cs ++ ds) = pW (pW w z cs) (z + cs.length) ds := by
  induction cs generalizing w z with
  | nil => rfl
  | cons c cs ih =>
    show pW (kUpd w z c) (z + 1) (cs ++ ds) = pW (pW (kUpd w z c) (z + 1) cs) (z + (cs.length + 1)) ds
    rw [ih, show z + 1 + cs.length = z + (cs.length + 1) from by omega]
theorem pW_one (w : Nat → Int) (z : Nat) (c : Int) : kUpd w z c = pW w z [c] := rfl
theorem pW_snoc (w : Nat → Int) (z : Nat) (cs : List Int) (c : Int) : kUpd (pW w z cs) (z + cs.length) c = pW w z (cs ++ [c]) := by rw [pW_app]; rfl
theorem c_write {s : Nat} {w : Nat → Int} {v : Int} (hs : s < 400) : F_z_LR_write (s : Int) w v = (((s + 1 : Nat) : Int), kUpd w s v) := by
  unfold F_z_LR_write F_z_LR_write_j1
  simp only [kLet, Int32.reduceToInt]
  rw [if_neg (by omega)]
  simp
theorem c_isPart_y {v : Int} (h : pIsPart v) : F_z_LR_isPart v = 1 := by
  unfold F_z_LR_isPart F_z_LR_isPart_j1
  simp only [Int32.reduceToInt]
  rcases h with h | h
  · unfold pNum at h
    rw [if_pos (by omega), if_neg (by omega), if_neg (by omega)]
  · unfold pCode at h
    repeat' split at h
    all_goals first | omega | (rename_i q; subst q; decide)
theorem c_isPart_n {v : Int} (h : ¬ pIsPart v) : F_z_LR_isPart v = 0 := by
  have h1 : ¬ (0 ≤ v ∧ v ≤ 999) := fun q => h (Or.inl q)
  have h2 : ¬ 0 ≤ pCode v := fun q => h (Or.inr q)
  unfold F_z_LR_isPart F_z_LR_isPart_j1
  simp only [Int32.reduceToInt]
  by_cases hr : v < 1011 ∨ 1037 < v
  · rw [if_pos hr]
    by_cases h3 : v < 0
    · rw [if_pos h3]
    · rw [if_neg h3, if_pos (by omega)]
  · rw [if_neg hr]
    unfold pCode at h2
    have q1 : v ≠ 1034 := fun q => h2 (by rw [if_pos q]; decide)
    have q2 : v ≠ 1015 := fun q => h2 (by rw [q]; decide)
    have q3 : v ≠ 1016 := fun q => h2 (by rw [q]; decide)
    have q4 : v ≠ 1017 := fun q => h2 (by rw [q]; decide)
    have q5 : v ≠ 1035 := fun q => h2 (by rw [q]; decide)
    have q6 : v ≠ 1011 := fun q => h2 (by rw [q]; decide)
    have q7 : v ≠ 1036 := fun q => h2 (by rw [q]; decide)
    have q8 : v ≠ 1012 := fun q => h2 (by rw [q]; decide)
    have q9 : v ≠ 1037 := fun q => h2 (by rw [q]; decide)
    rcases (show v = 1013 ∨ v = 1014 ∨ v = 1018 ∨ v = 1019 ∨ v = 1020 ∨ v = 1021 ∨ v = 1022 ∨ v = 1023 ∨ v = 1024 ∨ v = 1025 ∨ v = 1026 ∨ v = 1027 ∨ v = 1028 ∨ v = 1029 ∨ v = 1030 ∨ v = 1031 ∨ v = 1032 ∨ v = 1033 by omega) with rfl | rfl | rfl | rfl | rfl | rfl | rfl | rfl | rfl | rfl | rfl | rfl | rfl | rfl | rfl | rfl | rfl | rfl <;> rfl
/-- what a reader of the class answers: A holds from i on; sl: how much shorter the steps are than the text -/
def cGood (A : pR) (e2 : Nat → Int) (z i : Nat) (wr : Int) (zs : Nat) (w : Nat → Int) (sl : Int) (o : Int × Int × Int × Int × (Nat → Int)) : Prop := (∃ r cs rs, A i true r cs rs ∧ r < z ∧ i ≤ r ∧ ((zs + cs.length : Nat) : Int) + sl ≤ e2 r ∧ o = (1, (r : Int), wr, ((zs + cs.length : Nat) : Int), pW w zs cs)) ∨ (∃ r cs rs a' z' w', A i false r cs rs ∧ r < z ∧ o = (0, a', e2 r, z', w'))
theorem pSum_plus {K : Nat → Int} {nx : Nat → Nat} {i : Nat} {b : Bool} {r : Nat} {cs : List Int} {rs : List (Int × Int)} (h1 : pIsPart (K i)) (h2 : K (nx i) = 1007) (h : pSum K nx (nx (nx i)) b r cs rs) : ∃ rs', pSum K nx i b r (K i :: cs) rs' := by
  have hp : pPart K nx i true (nx i) [K i] [pPr (K i)] := Or.inl ⟨h1, rfl, rfl, rfl, rfl⟩
  rcases h with ⟨rfl, h3⟩ | ⟨j, c1, r1, c2, r2, h3, h4, rfl, rfl⟩
  · exact ⟨_, pSeq_go hp (pLoop_bad h2 h3)⟩
  · exact ⟨_, pSeq_go hp (pLoop_go h2 h3 h4)⟩
theorem pSum_one {K : Nat → Int} {nx : Nat → Nat} {i : Nat} (h1 : pIsPart (K i)) (h2 : K (nx i) ≠ 1007) : ∃ rs, pSum K nx i true (nx i) [K i] rs := ⟨_, show pSeq K nx 1007 [] [(13, 0)] (pPart K nx) i true (nx i) ([K i] ++ []) ([pPr (K i)] ++ []) from pSeq_go (Or.inl ⟨h1, rfl, rfl, rfl, rfl⟩) (pLoop_stop h2)⟩
theorem pSum_bad {K : Nat → Int} {nx : Nat → Nat} {i : Nat} (h1 : ¬ pIsPart (K i)) : pSum K nx i false i [] [] := pSeq_bad (Or.inr ⟨h1, rfl, rfl, rfl, rfl⟩)
theorem pCmp_plus {K : Nat → Int} {nx : Nat → Nat} {i : Nat} {b : Bool} {r : Nat} {cs : List Int} {rs : List (Int × Int)} (h1 : pIsPart (K i)) (h2 : K (nx i) = 1007) (h : pCmp K nx (nx (nx i)) b r cs rs) : ∃ cs' rs', pCmp K nx i b r cs' rs' ∧ (b = true → cs' = K i :: cs) := by
  rcases h with ⟨rfl, h3⟩ | ⟨j, c1, r1, h3, h4⟩
  · obtain ⟨rs', q⟩ := pSum_plus h1 h2 h3
    exact ⟨_, _, Or.inl ⟨rfl, q⟩, fun q => absurd q (by decide)⟩
  · obtain ⟨rs', q⟩ := pSum_plus h1 h2 h3
    rcases h4 with ⟨a1, a2, rfl, rfl, rfl, rfl⟩ | ⟨a1, a2⟩
    · exact ⟨_, _, Or.inr ⟨_, _, _, q, Or.inl ⟨a1, a2, rfl, rfl, rfl, rfl⟩⟩, fun q => absurd q (by decide)⟩
    · rcases a2 with ⟨rfl, a2⟩ | ⟨c2, r2, a2, rfl, rfl, rfl⟩
      · exact ⟨_, _, Or.inr ⟨_, _, _, q, Or.inr ⟨a1, Or.inl ⟨rfl, a2⟩⟩⟩, fun q => absurd q (by decide)⟩
      · exact ⟨_, _, Or.inr ⟨_, _, _, q, Or.inr ⟨a1, Or.inr ⟨_, _, a2, rfl, rfl, rfl⟩⟩⟩, fun _ => rfl⟩
theorem npart {k : Int} (h : k = 1000 ∨ k = 1005 ∨ k = 1006 ∨ k = 1007) : ¬ pIsPart k := by
  unfold pIsPart pNum pCode
  rcases h with rfl | rfl | rfl | rfl <;> decide
/-- a comparison behind its sign -/
theorem c_cmp2 (h : cT e1 e2 z) {wr sg sl : Int} (hsg : sg ≠ -1) (hsl : 0 ≤ sl) : ∀ (m i c zs : Nat) (w : Nat → Int), z - i = m → i < z → 2 * c ≤ i → (zs : Int) + sl + 1 ≤ e2 i → (∃ r cs rs, pSum e1 Nat.succ i true r cs rs ∧ r < z ∧ i ≤ r ∧ ((zs + cs.length : Nat) : Int) + 1 + sl ≤ e2 r ∧ F_z_LR_comparison_l1 wr (z : Int) e1 e2 ((c : Int), sg, (i : Int), (zs : Int), w) = (1, (r : Int), wr, ((zs + cs.length + 1 : Nat) : Int), pW w zs (cs ++ [sg]))) ∨ (∃ r cs rs a' z' w', pSum e1 Nat.succ i false r cs rs ∧ r < z ∧ F_z_LR_comparison_l1 wr (z : Int) e1 e2 ((c : Int), sg, (i : Int), (zs : Int), w) = (0, a', e2 r, z', w')) := by
  intro m
  induction m using Nat.strongRecOn with
  | _ m ih =>
    intro i c zs w hm hi hc hz
    have hz4 := h.1
    have hE := (h.2 i hi).1
    by_cases hp : pIsPart (e1 i)
    · have hne : e1 i ≠ 1000 := fun q => npart (Or.inl q) hp
      obtain ⟨n1, n2⟩ := cT_n1 h hi hne
      have hE1 := (h.2 _ n1).1
      by_cases hk : e1 (i + 1) = 1007
      · obtain ⟨n3, n4⟩ := cT_n1 h n1 (by rw [hk]; decide)
        have n4 : e2 (i + 1) + 1 ≤ e2 (i + 2) := n4
        have st : F_z_LR_comparison_l1_s wr (z : Int) e1 e2 ((c : Int), sg, (i : Int), (zs : Int), w) = Sum.inl (((c + 1 : Nat) : Int), sg, ((i + 2 : Nat) : Int), ((zs + 1 : Nat) : Int), kUpd w zs (e1 i)) := by
          unfold F_z_LR_comparison_l1_s F_z_LR_comparison_j3 F_z_LR_comparison_j2
          simp only [kC, kLet, Int32.reduceToInt, c_kd h hi, c_isPart_y hp, c_w1 (show i ≤ 1000 by omega), c_kd h n1, c_write (show zs < 400 by omega), c_w1 (show i + 1 ≤ 1000 by omega)]
          rw [if_neg (by omega), if_neg (by decide), if_pos hk]
          rfl
        rcases ih (z - (i + 2)) (by omega) (i + 2) (c + 1) (zs + 1) (kUpd w zs (e1 i)) rfl n3 (by omega) (by omega) with ⟨r, cs, rs, a1, a2, a3, a4, a5⟩ | ⟨r, cs, rs, a', z', w', a1, a2, a3⟩
        · obtain ⟨rs', q⟩ := pSum_plus (nx := Nat.succ) hp hk a1
          refine Or.inl ⟨r, _, rs', q, a2, by omega, by simp only [List.length_cons]; omega, ?_⟩
          unfold F_z_LR_comparison_l1 at a5 ⊢
          rw [kIter_go st, a5]
          simp only [List.length_cons]
          congr 4
          omega
        · obtain ⟨rs', q⟩ := pSum_plus (nx := Nat.succ) hp hk a1
          refine Or.inr ⟨r, _, rs', a', z', w', q, a2, ?_⟩
          unfold F_z_LR_comparison_l1 at a3 ⊢
          rw [kIter_go st, a3]
      · obtain ⟨rs', q⟩ := pSum_one (nx := Nat.succ) hp hk
        refine Or.inl ⟨i + 1, _, rs', q, n1, by omega, by simp only [List.length_cons, List.length_nil]; omega, ?_⟩
        unfold F_z_LR_comparison_l1
        refine kIter_out ?_
        unfold F_z_LR_comparison_l1_s F_z_LR_comparison_j3 F_z_LR_comparison_j2
        simp only [kC, kLet, Int32.reduceToInt, c_kd h hi, c_isPart_y hp, c_w1 (show i ≤ 1000 by omega), c_kd h n1, c_write (show zs < 400 by omega), c_write (show zs + 1 < 400 by omega)]
        rw [if_neg (by omega), if_neg (by decide), if_neg hk, if_neg hsg]
        rfl
    · refine Or.inr ⟨i, _, _, (i : Int), (zs : Int), w, pSum_bad hp, hi, ?_⟩
      unfold F_z_LR_comparison_l1
      refine kIter_out ?_
      unfold F_z_LR_comparison_l1_s
      simp only [kC, kLet, Int32.reduceToInt, c_kd h hi, c_isPart_n hp, c_ref h hi]
      rw [if_neg (by omega), if_pos (by trivial)]
theorem c_cmp1 (h : cT e1 e2 z) {wr sl : Int} (hsl : 0 ≤ sl) : ∀ (m i c zs : Nat) (w : Nat → Int), z - i = m → i < z → 2 * c ≤ i → (zs : Int) + sl + 1 ≤ e2 i → cGood (pCmp e1 Nat.succ) e2 z i wr zs w sl (F_z_LR_comparison_l1 wr (z : Int) e1 e2 ((c : Int), -1, (i : Int), (zs : Int), w)) := by
  intro m
  induction m using Nat.strongRecOn with
  | _ m ih =>
    intro i c zs w hm hi hc hz
    have hz4 := h.1
    have hE := (h.2 i hi).1
    by_cases hp : pIsPart (e1 i)
    · have hne : e1 i ≠ 1000 := fun q => npart (Or.inl q) hp
      obtain ⟨n1, n2⟩ := cT_n1 h hi hne
      have hE1 := (h.2 _ n1).1
      by_cases hk : e1 (i + 1) = 1007
      · obtain ⟨n3, n4⟩ := cT_n1 h n1 (by rw [hk]; decide)
        have n4 : e2 (i + 1) + 1 ≤ e2 (i + 2) := n4
        have st : F_z_LR_comparison_l1_s wr (z : Int) e1 e2 ((c : Int), -1, (i : Int), (zs : Int), w) = Sum.inl (((c + 1 : Nat) : Int), -1, ((i + 2 : Nat) : Int), ((zs + 1 : Nat) : Int), kUpd w zs (e1 i)) := by
          unfold F_z_LR_comparison_l1_s F_z_LR_comparison_j3 F_z_LR_comparison_j2
          simp only [kC, kLet, Int32.reduceToInt, c_kd h hi, c_isPart_y hp, c_w1 (show i ≤ 1000 by omega), c_kd h n1, c_write (show zs < 400 by omega), c_w1 (show i + 1 ≤ 1000 by omega)]
          rw [if_neg (by omega), if_neg (by decide), if_pos hk]
          rfl
        rcases ih (z - (i + 2)) (by omega) (i + 2) (c + 1) (zs + 1) (kUpd w zs (e1 i)) rfl n3 (by omega) (by omega) with ⟨r, cs, rs, a1, a2, a3, a4, a5⟩ | ⟨r, cs, rs, a', z', w', a1, a2, a3⟩
        · obtain ⟨cs', rs', q, q2⟩ := pCmp_plus (nx := Nat.succ) hp hk a1
          obtain rfl := q2 rfl
          refine Or.inl ⟨r, _, rs', q, a2, by omega, by simp only [List.length_cons]; omega, ?_⟩
          unfold F_z_LR_comparison_l1 at a5 ⊢
          rw [kIter_go st, a5]
          simp only [List.length_cons]
          congr 4
          omega
        · obtain ⟨cs', rs', q, _⟩ := pCmp_plus (nx := Nat.succ) hp hk a1
          refine Or.inr ⟨r, _, rs', a', z', w', q, a2, ?_⟩
          unfold F_z_LR_comparison_l1 at a3 ⊢
          rw [kIter_go st, a3]
      · obtain ⟨rs1, q⟩ := pSum_one (nx := Nat.succ) hp hk
        by_cases hs : e1 (i + 1) = 1005 ∨ e1 (i + 1) = 1006
        · obtain ⟨n3, n4⟩ := cT_n1 h n1 (by rcases hs with hs | hs <;> rw [hs] <;> decide)
          have n4 : e2 (i + 1) + 1 ≤ e2 (i + 2) := n4
          have st : F_z_LR_comparison_l1_s wr (z : Int) e1 e2 ((c : Int), -1, (i : Int), (zs : Int), w) = Sum.inl (((c + 1 : Nat) : Int), e1 (i + 1), ((i + 2 : Nat) : Int), ((zs + 2 : Nat) : Int), pW w zs [e1 i, 1008]) := by
            unfold F_z_LR_comparison_l1_s F_z_LR_comparison_j3 F_z_LR_comparison_j2
            simp only [kC, kLet, Int32.reduceToInt, c_kd h hi, c_isPart_y hp, c_w1 (show i ≤ 1000 by omega), c_kd h n1, c_write (show zs < 400 by omega), c_w1 (show i + 1 ≤ 1000 by omega), c_write (show zs + 1 < 400 by omega)]
            rw [if_neg (by omega), if_neg (by decide), if_neg hk, if_pos (by trivial)]
            by_cases h5 : e1 (i + 1) = 1005
            · rw [if_pos h5]; rfl
            · rw [if_neg h5, if_pos (hs.resolve_left h5)]; rfl
          rcases c_cmp2 h (wr := wr) (sg := e1 (i + 1)) (sl := sl) (by rcases hs with hs | hs <;> rw [hs] <;> decide) hsl _ (i + 2) (c + 1) (zs + 2) (pW w zs [e1 i, 1008]) rfl n3 (by omega) (by omega) with ⟨r, cs, rs, a1, a2, a3, a4, a5⟩ | ⟨r, cs, rs, a', z', w', a1, a2, a3⟩
          · refine Or.inl ⟨r, _, _, Or.inr ⟨_, _, _, q, Or.inr ⟨hs, Or.inr ⟨_, _, a1, rfl, rfl, rfl⟩⟩⟩, a2, by omega, by simp only [List.length_cons, List.length_append, List.length_nil]; omega, ?_⟩
            unfold F_z_LR_comparison_l1 at a5 ⊢
            rw [kIter_go st, a5]
            simp only [List.length_cons, List.length_append, List.length_nil, List.cons_append, List.nil_append]
            congr 4
            omega
          · refine Or.inr ⟨r, _, _, a', z', w', Or.inr ⟨_, _, _, q, Or.inr ⟨hs, Or.inl ⟨rfl, a1⟩⟩⟩, a2, ?_⟩
            unfold F_z_LR_comparison_l1 at a3 ⊢
            rw [kIter_go st, a3]
        · have hs1 : e1 (i + 1) ≠ 1005 := fun q => hs (Or.inl q)
          have hs2 : e1 (i + 1) ≠ 1006 := fun q => hs (Or.inr q)
          refine Or.inr ⟨i + 1, _, _, ((i + 1 : Nat) : Int), ((zs + 1 : Nat) : Int), kUpd w zs (e1 i), Or.inr ⟨_, _, _, q, Or.inl ⟨hs1, hs2, rfl, rfl, rfl, rfl⟩⟩, n1, ?_⟩
          unfold F_z_LR_comparison_l1
          refine kIter_out ?_
          unfold F_z_LR_comparison_l1_s
          simp only [kC, kLet, Int32.reduceToInt, c_kd h hi, c_isPart_y hp, c_w1 (show i ≤ 1000 by omega), c_kd h n1, c_write (show zs < 400 by omega), c_ref h n1]
          rw [if_neg (by omega), if_neg (by decide), if_neg hk, if_pos (by trivial), if_neg hs1, if_neg hs2]
    · refine Or.inr ⟨i, _, _, (i : Int), (zs : Int), w, Or.inl ⟨rfl, pSum_bad hp⟩, hi, ?_⟩
      unfold F_z_LR_comparison_l1
      refine kIter_out ?_
      unfold F_z_LR_comparison_l1_s
      simp only [kC, kLet, Int32.reduceToInt, c_kd h hi, c_isPart_n hp, c_ref h hi]
      rw [if_neg (by omega), if_pos (by trivial)]
theorem c_cmp (h : cT e1 e2 z) {wr sl : Int} (hsl : 0 ≤ sl) {i zs : Nat} {w : Nat → Int} (hi : i < z) (hz : (zs : Int) + sl + 1 ≤ e2 i) : cGood (pCmp e1 Nat.succ) e2 z i wr zs w sl (F_z_LR_comparison (i : Int) wr (zs : Int) w (z : Int) e1 e2) := by
  unfold F_z_LR_comparison
  simp only [Int32.reduceToInt]
  exact c_cmp1 h hsl _ i 0 zs w rfl hi (by omega) hz
theorem c_atom6 (h : cT e1 e2 z) {wr sl : Int} (hsl : 0 ≤ sl) {i zs : Nat} {w : Nat → Int} (hi : i < z) (hz : (zs : Int) + sl + 1 ≤ e2 i) : cGood (pAtom e1 Nat.succ 0) e2 z i wr zs w sl (F_z_LR_atom6 (i : Int) wr (zs : Int) w (z : Int) e1 e2) := by
  have hz4 := h.1
  have hE := (h.2 i hi).1
  unfold F_z_LR_atom6 F_z_LR_atom6_j1 F_z_LR_atom6_j2
  simp only [kC, kLet, Int32.reduceToInt, c_kd h hi, c_w1 (show i ≤ 1000 by omega), c_write (show zs < 400 by omega)]
  by_cases ht : 0 ≤ pTg (e1 i)
  · have hne : e1 i ≠ 1000 := fun q => by rw [q] at ht; exact absurd ht (by decide)
    obtain ⟨n1, n2⟩ := cT_n1 h hi hne
    refine Or.inl ⟨i + 1, _, _, Or.inl ⟨ht, rfl, rfl, rfl, rfl⟩, n1, by omega, by simp only [List.length_cons, List.length_nil]; omega, ?_⟩
    unfold pTg at ht
    by_cases k1 : e1 i = 1031
    · rw [if_pos k1]; rfl
    · rw [if_neg k1]
      by_cases k2 : e1 i = 1032
      · rw [if_pos k2]; rfl
      · rw [if_neg k2]
        by_cases k3 : e1 i = 1033
        · rw [if_pos k3]; rfl
        · rw [if_neg k1, if_neg k2, if_neg k3] at ht
          exact absurd ht (by decide)
  · have k1 : e1 i ≠ 1031 := fun q => ht (by rw [q]; decide)
    have k2 : e1 i ≠ 1032 := fun q => ht (by rw [q]; decide)
    have k3 : e1 i ≠ 1033 := fun q => ht (by rw [q]; decide)
    rw [if_neg k1, if_neg k2, if_neg k3]
    by_cases k4 : e1 i = 1003
    · rw [if_pos k4, c_ref h hi]
      exact Or.inr ⟨i, _, _, _, _, _, Or.inr (Or.inl ⟨k4, rfl, rfl, rfl, rfl⟩), hi, rfl⟩
    · rw [if_neg k4]
      by_cases k5 : e1 i = 1030
      · rw [if_pos k5, c_ref h hi]
        exact Or.inr ⟨i, _, _, _, _, _, Or.inr (Or.inr (Or.inl ⟨k5, rfl, rfl, rfl, rfl⟩)), hi, rfl⟩
      · rw [if_neg k5]
        rcases c_cmp h (wr := wr) hsl (w := w) hi hz with ⟨r, cs, rs, a1, a2, a3, a4, a5⟩ | ⟨r, cs, rs, a', z', w', a1, a2, a3⟩
        · rw [a5]
          exact Or.inl ⟨r, _, _, Or.inr (Or.inr (Or.inr ⟨by omega, k4, k5, a1⟩)), a2, a3, a4, rfl⟩
        · rw [a3]
          exact Or.inr ⟨r, _, _, _, _, _, Or.inr (Or.inr (Or.inr ⟨by omega, k4, k5, a1⟩)), a2, rfl⟩
theorem c_alll6 (h : cT e1 e2 z) {sl : Int} (hsl : 0 ≤ sl) : ∀ (m i c zs : Nat) (wr : Int) (w : Nat → Int), z - i = m → i < z → c ≤ i → (zs : Int) + sl ≤ e2 i → cGood (pLoop e1 Nat.succ 1029 [1029] [(17, 0)] (pAtom e1 Nat.succ 0)) e2 z i wr zs w sl (F_z_LR_all6_l1 (z : Int) e1 e2 ((c : Int), (i : Int), wr, (zs : Int), w)) := by
  intro m
  induction m using Nat.strongRecOn with
  | _ m ih =>
    intro i c zs wr w hm hi hc hz
    have hz4 := h.1
    by_cases hk : e1 i = 1029
    · obtain ⟨n1, n2⟩ := cT_nx h hi hk (by decide)
      have n2' : e2 i + 3 ≤ e2 (i + 1) := n2
      rcases c_atom6 h (wr := wr) (sl := sl + 2) (by omega) (w := w) n1 (show (zs : Int) + (sl + 2) + 1 ≤ e2 (i + 1) by omega) with ⟨r, cs, rs, a1, a2, a3, a4, a5⟩ | ⟨r, cs, rs, a', z', w', a1, a2, a3⟩
      · have hEr := (h.2 r a2).1
        have st : F_z_LR_all6_l1_s (z : Int) e1 e2 ((c : Int), (i : Int), wr, (zs : Int), w) = Sum.inl (((c + 1 : Nat) : Int), (r : Int), wr, ((zs + cs.length + 1 : Nat) : Int), pW w zs (cs ++ [1029])) := by
          unfold F_z_LR_all6_l1_s F_z_LR_all6_j2
          simp only [kC, kLet, Int32.reduceToInt, c_kd h hi, c_w1 (show i ≤ 1000 by omega), a5]
          rw [if_neg (by omega), if_pos hk, if_neg (by decide), c_write (show zs + cs.length < 400 by omega), pW_snoc]
          rfl
        rcases ih (z - r) (by omega) r (c + 1) (zs + cs.length + 1) wr (pW w zs (cs ++ [1029])) rfl a2 (by omega) (by omega) with ⟨r2, cs2, rs2, b1, b2, b3, b4, b5⟩ | ⟨r2, cs2, rs2, a', z', w', b1, b2, b3⟩
        · refine Or.inl ⟨r2, _, _, pLoop_go hk a1 b1, b2, by omega, by simp only [List.length_append, List.length_cons, List.length_nil]; omega, ?_⟩
          unfold F_z_LR_all6_l1 at b5 ⊢
          rw [kIter_go st, b5, show cs ++ ([1029] ++ cs2) = (cs ++ [1029]) ++ cs2 from by simp, pW_app w zs (cs ++ [1029]) cs2]
          simp only [List.length_append, List.length_cons, List.length_nil]
          congr 4
          omega
        · refine Or.inr ⟨r2, _, _, a', z', w', pLoop_go hk a1 b1, b2, ?_⟩
          unfold F_z_LR_all6_l1 at b3 ⊢
          rw [kIter_go st, b3]
      · refine Or.inr ⟨r, _, _, a', z', w', pLoop_bad hk a1, a2, ?_⟩
        unfold F_z_LR_all6_l1
        refine kIter_out ?_
        unfold F_z_LR_all6_l1_s F_z_LR_all6_j2
        simp only [kC, kLet, Int32.reduceToInt, c_kd h hi, c_w1 (show i ≤ 1000 by omega), a3]
        rw [if_neg (by omega), if_pos hk, if_pos (by trivial)]
    · refine Or.inl ⟨i, _, _, pLoop_stop hk, hi, Nat.le_refl _, by simp only [List.length_nil]; omega, ?_⟩
      unfold F_z_LR_all6_l1
      refine kIter_out ?_
      unfold F_z_LR_all6_l1_s F_z_LR_all6_j2
      simp only [kC, kLet, Int32.reduceToInt, c_kd h hi]
      by_cases h4 : (400 : Int) ≤ (c : Int)
      · rw [if_pos h4]
        rfl
      · rw [if_neg h4, if_neg hk]
        rfl
theorem c_all6 (h : cT e1 e2 z) {wr sl : Int} (hsl : 0 ≤ sl) {i zs : Nat} {w : Nat → Int} (hi : i < z) (hz : (zs : Int) + sl + 1 ≤ e2 i) : cGood (pAll e1 Nat.succ 0) e2 z i wr zs w sl (F_z_LR_all6 (i : Int) wr (zs : Int) w (z : Int) e1 e2) := by
  unfold F_z_LR_all6
  rcases c_atom6 h (wr := wr) hsl (w := w) hi hz with ⟨r, cs, rs, a1, a2, a3, a4, a5⟩ | ⟨r, cs, rs, a', z', w', a1, a2, a3⟩
  · simp only [kC, kLet, Int32.reduceToInt, a5]
    rw [if_neg (by decide)]
    rcases c_alll6 h hsl _ r 0 (zs + cs.length) wr (pW w zs cs) rfl a2 (by omega) a4 with ⟨r2, cs2, rs2, b1, b2, b3, b4, b5⟩ | ⟨r2, cs2, rs2, a', z', w', b1, b2, b3⟩
    · refine Or.inl ⟨r2, _, _, pSeq_go a1 b1, b2, by omega, by simp only [List.length_append]; omega, ?_⟩
      rw [pW_app, List.length_append, ← Nat.add_assoc]
      exact b5
    · exact Or.inr ⟨r2, _, _, a', z', w', pSeq_go a1 b1, b2, b3⟩
  · simp only [kC, kLet, Int32.reduceToInt, a3]
    rw [if_pos (by trivial)]
    exact Or.inr ⟨r, _, _, a', z', w', pSeq_bad a1, a2, rfl⟩
theorem c_condl6 (h : cT e1 e2 z) {sl : Int} (hsl : 0 ≤ sl) : ∀ (m i c zs : Nat) (wr : Int) (w : Nat → Int), z - i = m → i < z → c ≤ i → (zs : Int) + sl ≤ e2 i → cGood (pLoop e1 Nat.succ 1028 [1028] [(18, 0)] (pAll e1 Nat.succ 0)) e2 z i wr zs w sl (F_z_LR_condition6_l1 (z : Int) e1 e2 ((c : Int), (i : Int), wr, (zs : Int), w)) := by
  intro m
  induction m using Nat.strongRecOn with
  | _ m ih =>
    intro i c zs wr w hm hi hc hz
    have hz4 := h.1
    by_cases hk : e1 i = 1028
    · obtain ⟨n1, n2⟩ := cT_nx h hi hk (by decide)
      have n2' : e2 i + 2 ≤ e2 (i + 1) := n2
      rcases c_all6 h (wr := wr) (sl := sl + 1) (by omega) (w := w) n1 (show (zs : Int) + (sl + 1) + 1 ≤ e2 (i + 1) by omega) with ⟨r, cs, rs, a1, a2, a3, a4, a5⟩ | ⟨r, cs, rs, a', z', w', a1, a2, a3⟩
      · have hEr := (h.2 r a2).1
        have st : F_z_LR_condition6_l1_s (z : Int) e1 e2 ((c : Int), (i : Int), wr, (zs : Int), w) = Sum.inl (((c + 1 : Nat) : Int), (r : Int), wr, ((zs + cs.length + 1 : Nat) : Int), pW w zs (cs ++ [1028])) := by
          unfold F_z_LR_condition6_l1_s F_z_LR_condition6_j2
          simp only [kC, kLet, Int32.reduceToInt, c_kd h hi, c_w1 (show i ≤ 1000 by omega), a5]
          rw [if_neg (by omega), if_pos hk, if_neg (by decide), c_write (show zs + cs.length < 400 by omega), pW_snoc]
          rfl
        rcases ih (z - r) (by omega) r (c + 1) (zs + cs.length + 1) wr (pW w zs (cs ++ [1028])) rfl a2 (by omega) (by omega) with ⟨r2, cs2, rs2, b1, b2, b3, b4, b5⟩ | ⟨r2, cs2, rs2, a', z', w', b1, b2, b3⟩
        · refine Or.inl ⟨r2, _, _, pLoop_go hk a1 b1, b2, by omega, by simp only [List.length_append, List.length_cons, List.length_nil]; omega, ?_⟩
          unfold F_z_LR_condition6_l1 at b5 ⊢
          rw [kIter_go st, b5, show cs ++ ([1028] ++ cs2) = (cs ++ [1028]) ++ cs2 from by simp, pW_app w zs (cs ++ [1028]) cs2]
          simp only [List.length_append, List.length_cons, List.length_nil]
          congr 4
          omega
        · refine Or.inr ⟨r2, _, _, a', z', w', pLoop_go hk a1 b1, b2, ?_⟩
          unfold F_z_LR_condition6_l1 at b3 ⊢
          rw [kIter_go st, b3]
      · refine Or.inr ⟨r, _, _, a', z', w', pLoop_bad hk a1, a2, ?_⟩
        unfold F_z_LR_condition6_l1
        refine kIter_out ?_
        unfold F_z_LR_condition6_l1_s F_z_LR_condition6_j2
        simp only [kC, kLet, Int32.reduceToInt, c_kd h hi, c_w1 (show i ≤ 1000 by omega), a3]
        rw [if_neg (by omega), if_pos hk, if_pos (by trivial)]
    · refine Or.inl ⟨i, _, _, pLoop_stop hk, hi, Nat.le_refl _, by simp only [List.length_nil]; omega, ?_⟩
      unfold F_z_LR_condition6_l1
      refine kIter_out ?_
      unfold F_z_LR_condition6_l1_s F_z_LR_condition6_j2
      simp only [kC, kLet, Int32.reduceToInt, c_kd h hi]
      by_cases h4 : (400 : Int) ≤ (c : Int)
      · rw [if_pos h4]
        rfl
      · rw [if_neg h4, if_neg hk]
        rfl
theorem c_cond6 (h : cT e1 e2 z) {wr sl : Int} (hsl : 0 ≤ sl) {i zs : Nat} {w : Nat → Int} (hi : i < z) (hz : (zs : Int) + sl + 1 ≤ e2 i) : cGood (pCond e1 Nat.succ 0) e2 z i wr zs w sl (F_z_LR_condition6 (i : Int) wr (zs : Int) w (z : Int) e1 e2) := by
  unfold F_z_LR_condition6
  rcases c_all6 h (wr := wr) hsl (w := w) hi hz with ⟨r, cs, rs, a1, a2, a3, a4, a5⟩ | ⟨r, cs, rs, a', z', w', a1, a2, a3⟩
  · simp only [kC, kLet, Int32.reduceToInt, a5]
    rw [if_neg (by decide)]
    rcases c_condl6 h hsl _ r 0 (zs + cs.length) wr (pW w zs cs) rfl a2 (by omega) a4 with ⟨r2, cs2, rs2, b1, b2, b3, b4, b5⟩ | ⟨r2, cs2, rs2, a', z', w', b1, b2, b3⟩
    · refine Or.inl ⟨r2, _, _, pSeq_go a1 b1, b2, by omega, by simp only [List.length_append]; omega, ?_⟩
      rw [pW_app, List.length_append, ← Nat.add_assoc]
      exact b5
    · exact Or.inr ⟨r2, _, _, a', z', w', pSeq_go a1 b1, b2, b3⟩
  · simp only [kC, kLet, Int32.reduceToInt, a3]
    rw [if_pos (by trivial)]
    exact Or.inr ⟨r, _, _, a', z', w', pSeq_bad a1, a2, rfl⟩
theorem c_atom5 (h : cT e1 e2 z) {wr sl : Int} (hsl : 0 ≤ sl) {i zs : Nat} {w : Nat → Int} (hi : i < z) (hz : (zs : Int) + sl + 1 ≤ e2 i) : cGood (pAtom e1 Nat.succ 1) e2 z i wr zs w sl (F_z_LR_atom5 (i : Int) wr (zs : Int) w (z : Int) e1 e2) := by
  have hz4 := h.1
  have hE := (h.2 i hi).1
  unfold F_z_LR_atom5 F_z_LR_atom5_j1 F_z_LR_atom5_j2
  simp only [kC, kLet, Int32.reduceToInt, c_kd h hi, c_w1 (show i ≤ 1000 by omega), c_write (show zs < 400 by omega)]
  by_cases ht : 0 ≤ pTg (e1 i)
  · have hne : e1 i ≠ 1000 := fun q => by rw [q] at ht; exact absurd ht (by decide)
    obtain ⟨n1, n2⟩ := cT_n1 h hi hne
    refine Or.inl ⟨i + 1, _, _, Or.inl ⟨ht, rfl, rfl, rfl, rfl⟩, n1, by omega, by simp only [List.length_cons, List.length_nil]; omega, ?_⟩
    unfold pTg at ht
    by_cases k1 : e1 i = 1031
    · rw [if_pos k1]; rfl
    · rw [if_neg k1]
      by_cases k2 : e1 i = 1032
      · rw [if_pos k2]; rfl
      · rw [if_neg k2]
        by_cases k3 : e1 i = 1033
        · rw [if_pos k3]; rfl
        · rw [if_neg k1, if_neg k2, if_neg k3] at ht
          exact absurd ht (by decide)
  · have k1 : e1 i ≠ 1031 := fun q => ht (by rw [q]; decide)
    have k2 : e1 i ≠ 1032 := fun q => ht (by rw [q]; decide)
    have k3 : e1 i ≠ 1033 := fun q => ht (by rw [q]; decide)
    rw [if_neg k1, if_neg k2, if_neg k3]
    by_cases k4 : e1 i = 1003
    · obtain ⟨n1, n2⟩ := cT_n1 h hi (by rw [k4]; decide)
      rw [if_pos k4, if_pos k4]
      rcases c_cond6 h (wr := wr) (sl := sl + 1) (by omega) (w := w) n1 (show (zs : Int) + (sl + 1) + 1 ≤ e2 (i + 1) by omega) with ⟨r, cs, rs, a1, a2, a3, a4, a5⟩ | ⟨r, cs, rs, a', z', w', a1, a2, a3⟩
      · rw [a5]
        have hst := c_step h a2 (wr := wr) (v := 1004)
        show cGood _ e2 z i wr zs w sl (if (1 : Int) = 0 then _ else _)
        rw [if_neg (by decide)]
        rw [hst]
        by_cases k6 : e1 r = 1004
        · obtain ⟨n3, n4⟩ := cT_n1 h a2 (by rw [k6]; decide)
          rw [if_pos k6]
          exact Or.inl ⟨r + 1, _, _, Or.inr (Or.inl ⟨k4, Or.inr ⟨_, _, _, a1, Or.inl ⟨k6, rfl, rfl, rfl, rfl⟩⟩⟩), n3, by omega, by omega, rfl⟩
        · rw [if_neg k6]
          exact Or.inr ⟨r, _, _, _, _, _, Or.inr (Or.inl ⟨k4, Or.inr ⟨_, _, _, a1, Or.inr ⟨k6, rfl, rfl, rfl, rfl⟩⟩⟩), a2, rfl⟩
      · rw [a3]
        exact Or.inr ⟨r, _, _, _, _, _, Or.inr (Or.inl ⟨k4, Or.inl ⟨rfl, a1⟩⟩), a2, rfl⟩
    · rw [if_neg k4]
      by_cases k5 : e1 i = 1030
      · obtain ⟨n1, n2⟩ := cT_nx h hi k5 (by decide)
        have n2' : e2 i + 3 ≤ e2 (i + 1) := n2
        rw [if_pos k5, if_neg (by rw [k5]; decide)]
        rcases c_atom6 h (wr := wr) (sl := sl + 3) (by omega) (w := w) n1 (show (zs : Int) + (sl + 3) + 1 ≤ e2 (i + 1) by omega) with ⟨r, cs, rs, a1, a2, a3, a4, a5⟩ | ⟨r, cs, rs, a', z', w', a1, a2, a3⟩
        · have hEr := (h.2 r a2).1
          rw [a5]
          show cGood _ e2 z i wr zs w sl (if (1 : Int) = 0 then _ else _)
          rw [if_neg (by decide)]
          rw [c_write (show zs + cs.length < 400 by omega), pW_snoc]
          refine Or.inl ⟨r, _, _, Or.inr (Or.inr (Or.inl ⟨k5, Or.inr ⟨_, _, a1, rfl, rfl, rfl⟩⟩)), a2, by omega, by simp only [List.length_append, List.length_cons, List.length_nil]; omega, ?_⟩
          simp only [List.length_append, List.length_cons, List.length_nil]
          rfl
        · rw [a3]
          exact Or.inr ⟨r, _, _, _, _, _, Or.inr (Or.inr (Or.inl ⟨k5, Or.inl ⟨rfl, a1⟩⟩)), a2, rfl⟩
      · rw [if_neg k5]
        rcases c_cmp h (wr := wr) hsl (w := w) hi hz with ⟨r, cs, rs, a1, a2, a3, a4, a5⟩ | ⟨r, cs, rs, a', z', w', a1, a2, a3⟩
        · rw [a5]
          exact Or.inl ⟨r, _, _, Or.inr (Or.inr (Or.inr ⟨by omega, k4, k5, a1⟩)), a2, a3, a4, rfl⟩
        · rw [a3]
          exact Or.inr ⟨r, _, _, _, _, _, Or.inr (Or.inr (Or.inr ⟨by omega, k4, k5, a1⟩)), a2, rfl⟩
theorem c_alll5 (h : cT e1 e2 z) {sl : Int} (hsl : 0 ≤ sl) : ∀ (m i c zs : Nat) (wr : Int) (w : Nat → Int), z - i = m → i < z → c ≤ i → (zs : Int) + sl ≤ e2 i → cGood (pLoop e1 Nat.succ 1029 [1029] [(17, 0)] (pAtom e1 Nat.succ 1)) e2 z i wr zs w sl (F_z_LR_all5_l1 (z : Int) e1 e2 ((c : Int), (i : Int), wr, (zs : Int), w)) := by
  intro m
  induction m using Nat.strongRecOn with
  | _ m ih =>
    intro i c zs wr w hm hi hc hz
    have hz4 := h.1
    by_cases hk : e1 i = 1029
    · obtain ⟨n1, n2⟩ := cT_nx h hi hk (by decide)
      have n2' : e2 i + 3 ≤ e2 (i + 1) := n2
      rcases c_atom5 h (wr := wr) (sl := sl + 2) (by omega) (w := w) n1 (show (zs : Int) + (sl + 2) + 1 ≤ e2 (i + 1) by omega) with ⟨r, cs, rs, a1, a2, a3, a4, a5⟩ | ⟨r, cs, rs, a', z', w', a1, a2, a3⟩
      · have hEr := (h.2 r a2).1
        have st : F_z_LR_all5_l1_s (z : Int) e1 e2 ((c : Int), (i : Int), wr, (zs : Int), w) = Sum.inl (((c + 1 : Nat) : Int), (r : Int), wr, ((zs + cs.length + 1 : Nat) : Int), pW w zs (cs ++ [1029])) := by
          unfold F_z_LR_all5_l1_s F_z_LR_all5_j2
          simp only [kC, kLet, Int32.reduceToInt, c_kd h hi, c_w1 (show i ≤ 1000 by omega), a5]
          rw [if_neg (by omega), if_pos hk, if_neg (by decide), c_write (show zs + cs.length < 400 by omega), pW_snoc]
          rfl
        rcases ih (z - r) (by omega) r (c + 1) (zs + cs.length + 1) wr (pW w zs (cs ++ [1029])) rfl a2 (by omega) (by omega) with ⟨r2, cs2, rs2, b1, b2, b3, b4, b5⟩ | ⟨r2, cs2, rs2, a', z', w', b1, b2, b3⟩
        · refine Or.inl ⟨r2, _, _, pLoop_go hk a1 b1, b2, by omega, by simp only [List.length_append, List.length_cons, List.length_nil]; omega, ?_⟩
          unfold F_z_LR_all5_l1 at b5 ⊢
          rw [kIter_go st, b5, show cs ++ ([1029] ++ cs2) = (cs ++ [1029]) ++ cs2 from by simp, pW_app w zs (cs ++ [1029]) cs2]
          simp only [List.length_append, List.length_cons, List.length_nil]
          congr 4
          omega
        · refine Or.inr ⟨r2, _, _, a', z', w', pLoop_go hk a1 b1, b2, ?_⟩
          unfold F_z_LR_all5_l1 at b3 ⊢
          rw [kIter_go st, b3]
      · refine Or.inr ⟨r, _, _, a', z', w', pLoop_bad hk a1, a2, ?_⟩
        unfold F_z_LR_all5_l1
        refine kIter_out ?_
        unfold F_z_LR_all5_l1_s F_z_LR_all5_j2
        simp only [kC, kLet, Int32.reduceToInt, c_kd h hi, c_w1 (show i ≤ 1000 by omega), a3]
        rw [if_neg (by omega), if_pos hk, if_pos (by trivial)]
    · refine Or.inl ⟨i, _, _, pLoop_stop hk, hi, Nat.le_refl _, by simp only [List.length_nil]; omega, ?_⟩
      unfold F_z_LR_all5_l1
      refine kIter_out ?_
      unfold F_z_LR_all5_l1_s F_z_LR_all5_j2
      simp only [kC, kLet, Int32.reduceToInt, c_kd h hi]
      by_cases h4 : (400 : Int) ≤ (c : Int)
      · rw [if_pos h4]
        rfl
      · rw [if_neg h4, if_neg hk]
        rfl
theorem c_all5 (h : cT e1 e2 z) {wr sl : Int} (hsl : 0 ≤ sl) {i zs : Nat} {w : Nat → Int} (hi : i < z) (hz : (zs : Int) + sl + 1 ≤ e2 i) : cGood (pAll e1 Nat.succ 1) e2 z i wr zs w sl (F_z_LR_all5 (i : Int) wr (zs : Int) w (z : Int) e1 e2) := by
  unfold F_z_LR_all5
  rcases c_atom5 h (wr := wr) hsl (w := w) hi hz with ⟨r, cs, rs, a1, a2, a3, a4, a5⟩ | ⟨r, cs, rs, a', z', w', a1, a2, a3⟩
  · simp only [kC, kLet, Int32.reduceToInt, a5]
    rw [if_neg (by decide)]
    rcases c_alll5 h hsl _ r 0 (zs + cs.length) wr (pW w zs cs) rfl a2 (by omega) a4 with ⟨r2, cs2, rs2, b1, b2, b3, b4, b5⟩ | ⟨r2, cs2, rs2, a', z', w', b1, b2, b3⟩
    · refine Or.inl ⟨r2, _, _, pSeq_go a1 b1, b2, by omega, by simp only [List.length_append]; omega, ?_⟩
      rw [pW_app, List.length_append, ← Nat.add_assoc]
      exact b5
    · exact Or.inr ⟨r2, _, _, a', z', w', pSeq_go a1 b1, b2, b3⟩
  · simp only [kC, kLet, Int32.reduceToInt, a3]
    rw [if_pos (by trivial)]
    exact Or.inr ⟨r, _, _, a', z', w', pSeq_bad a1, a2, rfl⟩
theorem c_condl5 (h : cT e1 e2 z) {sl : Int} (hsl : 0 ≤ sl) : ∀ (m i c zs : Nat) (wr : Int) (w : Nat → Int), z - i = m → i < z → c ≤ i → (zs : Int) + sl ≤ e2 i → cGood (pLoop e1 Nat.succ 1028 [1028] [(18, 0)] (pAll e1 Nat.succ 1)) e2 z i wr zs w sl (F_z_LR_condition5_l1 (z : Int) e1 e2 ((c : Int), (i : Int), wr, (zs : Int), w)) := by
  intro m
  induction m using Nat.strongRecOn with
  | _ m ih =>
    intro i c zs wr w hm hi hc hz
    have hz4 := h.1
    by_cases hk : e1 i = 1028
    · obtain ⟨n1, n2⟩ := cT_nx h hi hk (by decide)
      have n2' : e2 i + 2 ≤ e2 (i + 1) := n2
      rcases c_all5 h (wr := wr) (sl := sl + 1) (by omega) (w := w) n1 (show (zs : Int) + (sl + 1) + 1 ≤ e2 (i + 1) by omega) with ⟨r, cs, rs, a1, a2, a3, a4, a5⟩ | ⟨r, cs, rs, a', z', w', a1, a2, a3⟩
      · have hEr := (h.2 r a2).1
        have st : F_z_LR_condition5_l1_s (z : Int) e1 e2 ((c : Int), (i : Int), wr, (zs : Int), w) = Sum.inl (((c + 1 : Nat) : Int), (r : Int), wr, ((zs + cs.length + 1 : Nat) : Int), pW w zs (cs ++ [1028])) := by
          unfold F_z_LR_condition5_l1_s F_z_LR_condition5_j2
          simp only [kC, kLet, Int32.reduceToInt, c_kd h hi, c_w1 (show i ≤ 1000 by omega), a5]
          rw [if_neg (by omega), if_pos hk, if_neg (by decide), c_write (show zs + cs.length < 400 by omega), pW_snoc]
          rfl
        rcases ih (z - r) (by omega) r (c + 1) (zs + cs.length + 1) wr (pW w zs (cs ++ [1028])) rfl a2 (by omega) (by omega) with ⟨r2, cs2, rs2, b1, b2, b3, b4, b5⟩ | ⟨r2, cs2, rs2, a', z', w', b1, b2, b3⟩
        · refine Or.inl ⟨r2, _, _, pLoop_go hk a1 b1, b2, by omega, by simp only [List.length_append, List.length_cons, List.length_nil]; omega, ?_⟩
          unfold F_z_LR_condition5_l1 at b5 ⊢
          rw [kIter_go st, b5, show cs ++ ([1028] ++ cs2) = (cs ++ [1028]) ++ cs2 from by simp, pW_app w zs (cs ++ [1028]) cs2]
          simp only [List.length_append, List.length_cons, List.length_nil]
          congr 4
          omega
        · refine Or.inr ⟨r2, _, _, a', z', w', pLoop_go hk a1 b1, b2, ?_⟩
          unfold F_z_LR_condition5_l1 at b3 ⊢
          rw [kIter_go st, b3]
      · refine Or.inr ⟨r, _, _, a', z', w', pLoop_bad hk a1, a2, ?_⟩
        unfold F_z_LR_condition5_l1
        refine kIter_out ?_
        unfold F_z_LR_condition5_l1_s F_z_LR_condition5_j2
        simp only [kC, kLet, Int32.reduceToInt, c_kd h hi, c_w1 (show i ≤ 1000 by omega), a3]
        rw [if_neg (by omega), if_pos hk, if_pos (by trivial)]
    · refine Or.inl ⟨i, _, _, pLoop_stop hk, hi, Nat.le_refl _, by simp only [List.length_nil]; omega, ?_⟩
      unfold F_z_LR_condition5_l1
      refine kIter_out ?_
      unfold F_z_LR_condition5_l1_s F_z_LR_condition5_j2
      simp only [kC, kLet, Int32.reduceToInt, c_kd h hi]
      by_cases h4 : (400 : Int) ≤ (c : Int)
      · rw [if_pos h4]
        rfl
      · rw [if_neg h4, if_neg hk]
        rfl
theorem c_cond5 (h : cT e1 e2 z) {wr sl : Int} (hsl : 0 ≤ sl) {i zs : Nat} {w : Nat → Int} (hi : i < z) (hz : (zs : Int) + sl + 1 ≤ e2 i) : cGood (pCond e1 Nat.succ 1) e2 z i wr zs w sl (F_z_LR_condition5 (i : Int) wr (zs : Int) w (z : Int) e1 e2) := by
  unfold F_z_LR_condition5
  rcases c_all5 h (wr := wr) hsl (w := w) hi hz with ⟨r, cs, rs, a1, a2, a3, a4, a5⟩ | ⟨r, cs, rs, a', z', w', a1, a2, a3⟩
  · simp only [kC, kLet, Int32.reduceToInt, a5]
    rw [if_neg (by decide)]
    rcases c_condl5 h hsl _ r 0 (zs + cs.length) wr (pW w zs cs) rfl a2 (by omega) a4 with ⟨r2, cs2, rs2, b1, b2, b3, b4, b5⟩ | ⟨r2, cs2, rs2, a', z', w', b1, b2, b3⟩
    · refine Or.inl ⟨r2, _, _, pSeq_go a1 b1, b2, by omega, by simp only [List.length_append]; omega, ?_⟩
      rw [pW_app, List.length_append, ← Nat.add_assoc]
      exact b5
    · exact Or.inr ⟨r2, _, _, a', z', w', pSeq_go a1 b1, b2, b3⟩
  · simp only [kC, kLet, Int32.reduceToInt, a3]
    rw [if_pos (by trivial)]
    exact Or.inr ⟨r, _, _, a', z', w', pSeq_bad a1, a2, rfl⟩
theorem c_atom4 (h : cT e1 e2 z) {wr sl : Int} (hsl : 0 ≤ sl) {i zs : Nat} {w : Nat → Int} (hi : i < z) (hz : (zs : Int) + sl + 1 ≤ e2 i) : cGood (pAtom e1 Nat.succ 2) e2 z i wr zs w sl (F_z_LR_atom4 (i : Int) wr (zs : Int) w (z : Int) e1 e2) := by
  have hz4 := h.1
  have hE := (h.2 i hi).1
  unfold F_z_LR_atom4 F_z_LR_atom4_j1 F_z_LR_atom4_j2
  simp only [kC, kLet, Int32.reduceToInt, c_kd h hi, c_w1 (show i ≤ 1000 by omega), c_write (show zs < 400 by omega)]
  by_cases ht : 0 ≤ pTg (e1 i)
  · have hne : e1 i ≠ 1000 := fun q => by rw [q] at ht; exact absurd ht (by decide)
    obtain ⟨n1, n2⟩ := cT_n1 h hi hne
    refine Or.inl ⟨i + 1, _, _, Or.inl ⟨ht, rfl, rfl, rfl, rfl⟩, n1, by omega, by simp only [List.length_cons, List.length_nil]; omega, ?_⟩
    unfold pTg at ht
    by_cases k1 : e1 i = 1031
    · rw [if_pos k1]; rfl
    · rw [if_neg k1]
      by_cases k2 : e1 i = 1032
      · rw [if_pos k2]; rfl
      · rw [if_neg k2]
        by_cases k3 : e1 i = 1033
        · rw [if_pos k3]; rfl
        · rw [if_neg k1, if_neg k2, if_neg k3] at ht
          exact absurd ht (by decide)
  · have k1 : e1 i ≠ 1031 := fun q => ht (by rw [q]; decide)
    have k2 : e1 i ≠ 1032 := fun q => ht (by rw [q]; decide)
    have k3 : e1 i ≠ 1033 := fun q => ht (by rw [q]; decide)
    rw [if_neg k1, if_neg k2, if_neg k3]
    by_cases k4 : e1 i = 1003
    · obtain ⟨n1, n2⟩ := cT_n1 h hi (by rw [k4]; decide)
      rw [if_pos k4, if_pos k4]
      rcases c_cond5 h (wr := wr) (sl := sl + 1) (by omega) (w := w) n1 (show (zs : Int) + (sl + 1) + 1 ≤ e2 (i + 1) by omega) with ⟨r, cs, rs, a1, a2, a3, a4, a5⟩ | ⟨r, cs, rs, a', z', w', a1, a2, a3⟩
      · rw [a5]
        have hst := c_step h a2 (wr := wr) (v := 1004)
        show cGood _ e2 z i wr zs w sl (if (1 : Int) = 0 then _ else _)
        rw [if_neg (by decide)]
        rw [hst]
        by_cases k6 : e1 r = 1004
        · obtain ⟨n3, n4⟩ := cT_n1 h a2 (by rw [k6]; decide)
          rw [if_pos k6]
          exact Or.inl ⟨r + 1, _, _, Or.inr (Or.inl ⟨k4, Or.inr ⟨_, _, _, a1, Or.inl ⟨k6, rfl, rfl, rfl, rfl⟩⟩⟩), n3, by omega, by omega, rfl⟩
        · rw [if_neg k6]
          exact Or.inr ⟨r, _, _, _, _, _, Or.inr (Or.inl ⟨k4, Or.inr ⟨_, _, _, a1, Or.inr ⟨k6, rfl, rfl, rfl, rfl⟩⟩⟩), a2, rfl⟩
      · rw [a3]
        exact Or.inr ⟨r, _, _, _, _, _, Or.inr (Or.inl ⟨k4, Or.inl ⟨rfl, a1⟩⟩), a2, rfl⟩
    · rw [if_neg k4]
      by_cases k5 : e1 i = 1030
      · obtain ⟨n1, n2⟩ := cT_nx h hi k5 (by decide)
        have n2' : e2 i + 3 ≤ e2 (i + 1) := n2
        rw [if_pos k5, if_neg (by rw [k5]; decide)]
        rcases c_atom5 h (wr := wr) (sl := sl + 3) (by omega) (w := w) n1 (show (zs : Int) + (sl + 3) + 1 ≤ e2 (i + 1) by omega) with ⟨r, cs, rs, a1, a2, a3, a4, a5⟩ | ⟨r, cs, rs, a', z', w', a1, a2, a3⟩
        · have hEr := (h.2 r a2).1
          rw [a5]
          show cGood _ e2 z i wr zs w sl (if (1 : Int) = 0 then _ else _)
          rw [if_neg (by decide)]
          rw [c_write (show zs + cs.length < 400 by omega), pW_snoc]
          refine Or.inl ⟨r, _, _, Or.inr (Or.inr (Or.inl ⟨k5, Or.inr ⟨_, _, a1, rfl, rfl, rfl⟩⟩)), a2, by omega, by simp only [List.length_append, List.length_cons, List.length_nil]; omega, ?_⟩
          simp only [List.length_append, List.length_cons, List.length_nil]
          rfl
        · rw [a3]
          exact Or.inr ⟨r, _, _, _, _, _, Or.inr (Or.inr (Or.inl ⟨k5, Or.inl ⟨rfl, a1⟩⟩)), a2, rfl⟩
      · rw [if_neg k5]
        rcases c_cmp h (wr := wr) hsl (w := w) hi hz with ⟨r, cs, rs, a1, a2, a3, a4, a5⟩ | ⟨r, cs, rs, a', z', w', a1, a2, a3⟩
        · rw [a5]
          exact Or.inl ⟨r, _, _, Or.inr (Or.inr (Or.inr ⟨by omega, k4, k5, a1⟩)), a2, a3, a4, rfl⟩
        · rw [a3]
          exact Or.inr ⟨r, _, _, _, _, _, Or.inr (Or.inr (Or.inr ⟨by omega, k4, k5, a1⟩)), a2, rfl⟩
theorem c_alll4 (h : cT e1 e2 z) {sl : Int} (hsl : 0 ≤ sl) : ∀ (m i c zs : Nat) (wr : Int) (w : Nat → Int), z - i = m → i < z → c ≤ i → (zs : Int) + sl ≤ e2 i → cGood (pLoop e1 Nat.succ 1029 [1029] [(17, 0)] (pAtom e1 Nat.succ 2)) e2 z i wr zs w sl (F_z_LR_all4_l1 (z : Int) e1 e2 ((c : Int), (i : Int), wr, (zs : Int), w)) := by
  intro m
  induction m using Nat.strongRecOn with
  | _ m ih =>
    intro i c zs wr w hm hi hc hz
    have hz4 := h.1
    by_cases hk : e1 i = 1029
    · obtain ⟨n1, n2⟩ := cT_nx h hi hk (by decide)
      have n2' : e2 i + 3 ≤ e2 (i + 1) := n2
      rcases c_atom4 h (wr := wr) (sl := sl + 2) (by omega) (w := w) n1 (show (zs : Int) + (sl + 2) + 1 ≤ e2 (i + 1) by omega) with ⟨r, cs, rs, a1, a2, a3, a4, a5⟩ | ⟨r, cs, rs, a', z', w', a1, a2, a3⟩
      · have hEr := (h.2 r a2).1
        have st : F_z_LR_all4_l1_s (z : Int) e1 e2 ((c : Int), (i : Int), wr, (zs : Int), w) = Sum.inl (((c + 1 : Nat) : Int), (r : Int), wr, ((zs + cs.length + 1 : Nat) : Int), pW w zs (cs ++ [1029])) := by
          unfold F_z_LR_all4_l1_s F_z_LR_all4_j2
          simp only [kC, kLet, Int32.reduceToInt, c_kd h hi, c_w1 (show i ≤ 1000 by omega), a5]
          rw [if_neg (by omega), if_pos hk, if_neg (by decide), c_write (show zs + cs.length < 400 by omega), pW_snoc]
          rfl
        rcases ih (z - r) (by omega) r (c + 1) (zs + cs.length + 1) wr (pW w zs (cs ++ [1029])) rfl a2 (by omega) (by omega) with ⟨r2, cs2, rs2, b1, b2, b3, b4, b5⟩ | ⟨r2, cs2, rs2, a', z', w', b1, b2, b3⟩
        · refine Or.inl ⟨r2, _, _, pLoop_go hk a1 b1, b2, by omega, by simp only [List.length_append, List.length_cons, List.length_nil]; omega, ?_⟩
          unfold F_z_LR_all4_l1 at b5 ⊢
          rw [kIter_go st, b5, show cs ++ ([1029] ++ cs2) = (cs ++ [1029]) ++ cs2 from by simp, pW_app w zs (cs ++ [1029]) cs2]
          simp only [List.length_append, List.length_cons, List.length_nil]
          congr 4
          omega
        · refine Or.inr ⟨r2, _, _, a', z', w', pLoop_go hk a1 b1, b2, ?_⟩
          unfold F_z_LR_all4_l1 at b3 ⊢
          rw [kIter_go st, b3]
      · refine Or.inr ⟨r, _, _, a', z', w', pLoop_bad hk a1, a2, ?_⟩
        unfold F_z_LR_all4_l1
        refine kIter_out ?_
        unfold F_z_LR_all4_l1_s F_z_LR_all4_j2
        simp only [kC, kLet, Int32.reduceToInt, c_kd h hi, c_w1 (show i ≤ 1000 by omega), a3]
        rw [if_neg (by omega), if_pos hk, if_pos (by trivial)]
    · refine Or.inl ⟨i, _, _, pLoop_stop hk, hi, Nat.le_refl _, by simp only [List.length_nil]; omega, ?_⟩
      unfold F_z_LR_all4_l1
      refine kIter_out ?_
      unfold F_z_LR_all4_l1_s F_z_LR_all4_j2
      simp only [kC, kLet, Int32.reduceToInt, c_kd h hi]
      by_cases h4 : (400 : Int) ≤ (c : Int)
      · rw [if_pos h4]
        rfl
      · rw [if_neg h4, if_neg hk]
        rfl
theorem c_all4 (h : cT e1 e2 z) {wr sl : Int} (hsl : 0 ≤ sl) {i zs : Nat} {w : Nat → Int} (hi : i < z) (hz : (zs : Int) + sl + 1 ≤ e2 i) : cGood (pAll e1 Nat.succ 2) e2 z i wr zs w sl (F_z_LR_all4 (i : Int) wr (zs : Int) w (z : Int) e1 e2) := by
  unfold F_z_LR_all4
  rcases c_atom4 h (wr := wr) hsl (w := w) hi hz with ⟨r, cs, rs, a1, a2, a3, a4, a5⟩ | ⟨r, cs, rs, a', z', w', a1, a2, a3⟩
  · simp only [kC, kLet, Int32.reduceToInt, a5]
    rw [if_neg (by decide)]
    rcases c_alll4 h hsl _ r 0 (zs + cs.length) wr (pW w zs cs) rfl a2 (by omega) a4 with ⟨r2, cs2, rs2, b1, b2, b3, b4, b5⟩ | ⟨r2, cs2, rs2, a', z', w', b1, b2, b3⟩
    · refine Or.inl ⟨r2, _, _, pSeq_go a1 b1, b2, by omega, by simp only [List.length_append]; omega, ?_⟩
      rw [pW_app, List.length_append, ← Nat.add_assoc]
      exact b5
    · exact Or.inr ⟨r2, _, _, a', z', w', pSeq_go a1 b1, b2, b3⟩
  · simp only [kC, kLet, Int32.reduceToInt, a3]
    rw [if_pos (by trivial)]
    exact Or.inr ⟨r, _, _, a', z', w', pSeq_bad a1, a2, rfl⟩
theorem c_condl4 (h : cT e1 e2 z) {sl : Int} (hsl : 0 ≤ sl) : ∀ (m i c zs : Nat) (wr : Int) (w : Nat → Int), z - i = m → i < z → c ≤ i → (zs : Int) + sl ≤ e2 i → cGood (pLoop e1 Nat.succ 1028 [1028] [(18, 0)] (pAll e1 Nat.succ 2)) e2 z i wr zs w sl (F_z_LR_condition4_l1 (z : Int) e1 e2 ((c : Int), (i : Int), wr, (zs : Int), w)) := by
  intro m
  induction m using Nat.strongRecOn with
  | _ m ih =>
    intro i c zs wr w hm hi hc hz
    have hz4 := h.1
    by_cases hk : e1 i = 1028
    · obtain ⟨n1, n2⟩ := cT_nx h hi hk (by decide)
      have n2' : e2 i + 2 ≤ e2 (i + 1) := n2
      rcases c_all4 h (wr := wr) (sl := sl + 1) (by omega) (w := w) n1 (show (zs : Int) + (sl + 1) + 1 ≤ e2 (i + 1) by omega) with ⟨r, cs, rs, a1, a2, a3, a4, a5⟩ | ⟨r, cs, rs, a', z', w', a1, a2, a3⟩
      · have hEr := (h.2 r a2).1
        have st : F_z_LR_condition4_l1_s (z : Int) e1 e2 ((c : Int), (i : Int), wr, (zs : Int), w) = Sum.inl (((c + 1 : Nat) : Int), (r : Int), wr, ((zs + cs.length + 1 : Nat) : Int), pW w zs (cs ++ [1028])) := by
          unfold F_z_LR_condition4_l1_s F_z_LR_condition4_j2
          simp only [kC, kLet, Int32.reduceToInt, c_kd h hi, c_w1 (show i ≤ 1000 by omega), a5]
          rw [if_neg (by omega), if_pos hk, if_neg (by decide), c_write (show zs + cs.length < 400 by omega), pW_snoc]
          rfl
        rcases ih (z - r) (by omega) r (c + 1) (zs + cs.length + 1) wr (pW w zs (cs ++ [1028])) rfl a2 (by omega) (by omega) with ⟨r2, cs2, rs2, b1, b2, b3, b4, b5⟩ | ⟨r2, cs2, rs2, a', z', w', b1, b2, b3⟩
        · refine Or.inl ⟨r2, _, _, pLoop_go hk a1 b1, b2, by omega, by simp only [List.length_append, List.length_cons, List.length_nil]; omega, ?_⟩
          unfold F_z_LR_condition4_l1 at b5 ⊢
          rw [kIter_go st, b5, show cs ++ ([1028] ++ cs2) = (cs ++ [1028]) ++ cs2 from by simp, pW_app w zs (cs ++ [1028]) cs2]
          simp only [List.length_append, List.length_cons, List.length_nil]
          congr 4
          omega
        · refine Or.inr ⟨r2, _, _, a', z', w', pLoop_go hk a1 b1, b2, ?_⟩
          unfold F_z_LR_condition4_l1 at b3 ⊢
          rw [kIter_go st, b3]
      · refine Or.inr ⟨r, _, _, a', z', w', pLoop_bad hk a1, a2, ?_⟩
        unfold F_z_LR_condition4_l1
        refine kIter_out ?_
        unfold F_z_LR_condition4_l1_s F_z_LR_condition4_j2
        simp only [kC, kLet, Int32.reduceToInt, c_kd h hi, c_w1 (show i ≤ 1000 by omega), a3]
        rw [if_neg (by omega), if_pos hk, if_pos (by trivial)]
    · refine Or.inl ⟨i, _, _, pLoop_stop hk, hi, Nat.le_refl _, by simp only [List.length_nil]; omega, ?_⟩
      unfold F_z_LR_condition4_l1
      refine kIter_out ?_
      unfold F_z_LR_condition4_l1_s F_z_LR_condition4_j2
      simp only [kC, kLet, Int32.reduceToInt, c_kd h hi]
      by_cases h4 : (400 : Int) ≤ (c : Int)
      · rw [if_pos h4]
        rfl
      · rw [if_neg h4, if_neg hk]
        rfl
theorem c_cond4 (h : cT e1 e2 z) {wr sl : Int} (hsl : 0 ≤ sl) {i zs : Nat} {w : Nat → Int} (hi : i < z) (hz : (zs : Int) + sl + 1 ≤ e2 i) : cGood (pCond e1 Nat.succ 2) e2 z i wr zs w sl (F_z_LR_condition4 (i : Int) wr (zs : Int) w (z : Int) e1 e2) := by
  unfold F_z_LR_condition4
  rcases c_all4 h (wr := wr) hsl (w := w) hi hz with ⟨r, cs, rs, a1, a2, a3, a4, a5⟩ | ⟨r, cs, rs, a', z', w', a1, a2, a3⟩
  · simp only [kC, kLet, Int32.reduceToInt, a5]
    rw [if_neg (by decide)]
    rcases c_condl4 h hsl _ r 0 (zs + cs.length) wr (pW w zs cs) rfl a2 (by omega) a4 with ⟨r2, cs2, rs2, b1, b2, b3, b4, b5⟩ | ⟨r2, cs2, rs2, a', z', w', b1, b2, b3⟩
    · refine Or.inl ⟨r2, _, _, pSeq_go a1 b1, b2, by omega, by simp only [List.length_append]; omega, ?_⟩
      rw [pW_app, List.length_append, ← Nat.add_assoc]
      exact b5
    · exact Or.inr ⟨r2, _, _, a', z', w', pSeq_go a1 b1, b2, b3⟩
  · simp only [kC, kLet, Int32.reduceToInt, a3]
    rw [if_pos (by trivial)]
    exact Or.inr ⟨r, _, _, a', z', w', pSeq_bad a1, a2, rfl⟩
end CR
