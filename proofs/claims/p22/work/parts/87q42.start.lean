/-! The relation at the start. -/
theorem r_init_at : ∀ i, F_r_init i = if i = 6 then 1 else if i = 8 then 50 else if i = 9 then 1 else if 145 ≤ i ∧ i < 505 then -1 else 0 := by
  have key : ∀ g0 : Nat → Int, ∀ i, F_r_init_l1 ((0 : Int), g0) i = if 145 ≤ i ∧ i < 505 then -1 else g0 i := by
    intro g0
    unfold F_r_init_l1
    refine kInd (st := F_r_init_l1_s) (fun n (y : Int × (Nat → Int)) => ∃ (a : Nat) (g : Nat → Int), y = ((a : Int), g) ∧ a + n = 360 ∧ ∀ i, g i = if 145 ≤ i ∧ i < 145 + a then -1 else g0 i) (fun (t : Nat → Int) => ∀ i, t i = if 145 ≤ i ∧ i < 505 then -1 else g0 i) ?_ 360 _ ⟨0, g0, rfl, by omega, fun i => by rw [if_neg (by omega)]⟩
    rintro n y ⟨a, g, rfl, ha, hg⟩
    unfold F_r_init_l1_s
    simp only [kC, kLet, Int32.reduceToInt, show ((-1) : Int32).toInt = -1 from by decide]
    by_cases c : 360 ≤ a
    · rw [if_pos (by omega)]
      refine Or.inl ⟨_, rfl, fun i => ?_⟩
      rw [hg i, show 145 + a = 505 from by omega]
    · rw [if_neg (by omega)]
      refine Or.inr ⟨n - 1, _, by omega, rfl, a + 1, _, rfl, by omega, fun i => ?_⟩
      rw [show ((145 : Int) + (a : Int)).toNat = 145 + a from by omega]
      by_cases ci : i = 145 + a
      · subst ci
        rw [kUpd_at, if_pos (by omega)]
      · rw [kUpd_ne ci, hg i]
        by_cases d : 145 ≤ i ∧ i < 145 + a
        · rw [if_pos d, if_pos (by omega)]
        · rw [if_neg d, if_neg (by omega)]
  intro i
  unfold F_r_init
  simp only [kLet, Int32.reduceToInt]
  rw [key, show ((6 : Int)).toNat = 6 from rfl, show ((8 : Int)).toNat = 8 from rfl, show ((9 : Int)).toNat = 9 from rfl]
  by_cases c6 : i = 6
  · subst c6
    rw [if_neg (by omega), kUpd_ne (by omega), kUpd_ne (by omega), kUpd_at, if_pos rfl]
  · rw [if_neg c6]
    by_cases c8 : i = 8
    · subst c8
      rw [if_neg (by omega), kUpd_ne (by omega), kUpd_at, if_pos rfl]
    · rw [if_neg c8]
      by_cases c9 : i = 9
      · subst c9
        rw [if_neg (by omega), kUpd_at, if_pos rfl]
      · rw [if_neg c9, kUpd_ne c9, kUpd_ne c8, kUpd_ne c6]
        by_cases d : 145 ≤ i ∧ i < 505
        · rw [if_pos d, if_pos d]
        · rw [if_neg d, if_neg d]
          rfl
theorem gT_0 (i : Nat) : gT (fun _ => 0) i = 0 := rfl
theorem start_C {g : Nat → Int} (h : F_r_init = g) : kC9 0 (0 : Int32).toInt (0 : Int32).toInt (0 : Int32).toInt (1 : Int32).toInt (0 : Int32).toInt (50 : Int32).toInt (0 : Int32).toInt (0 : Int32).toInt (1 : Int32).toInt (gT (fun _ => 0)) (gT (fun _ => 0)) (fun _ => 0) g := by
  have e0 : (0 : Int32).toInt = 0 := by decide
  have e1 : (1 : Int32).toInt = 1 := by decide
  have e50 : (50 : Int32).toInt = 50 := by decide
  have hi := r_init_at
  rw [h] at hi
  rw [e0, e1, e50]
  refine ⟨⟨⟨hi 0, hi 1, hi 2, hi 4, hi 5, hi 6, hi 7, hi 8, hi 9, hi 10⟩, fun i hi2 => ?_, fun s k hs hk => ?_, fun a s ha hs => ?_, fun s hs h12 => by omega, by decide, by decide, by decide, by decide, fun m hm => by omega, fun s hs => by omega⟩, ⟨by decide, fun s _ _ => nib_zero s, fun a _ _ s _ => nib_zero s⟩, by decide, by decide, by decide⟩
  · rw [hi, gT_0, if_neg (by omega), if_neg (by omega), if_neg (by omega), if_neg (by omega)]
  · rw [hi, gT_0, if_neg (by omega), if_neg (by omega), if_neg (by omega), if_neg (by omega)]
  · rw [hi, if_neg (by omega), if_neg (by omega), if_neg (by omega), if_pos (by omega)]
    show -1 = nib 0 s - 1 ∧ nib 0 s ≤ 10
    rw [nib_zero]
    decide
theorem start_L {g : Nat → Int} (h : F_r_init = g) : kLw [] none g := Or.inl ⟨rfl, by rw [← h, r_init_at]; decide⟩
theorem start_P {mc sc tx nr ra ru dy wa se : Int} {f1 f2 g : Nat → Int} {f3 : Nat → Int64} {lw : Option Nat} : kPi 0 [] (0 : Int32).toInt mc sc tx nr ra ru dy wa se lw f1 f2 f3 g := fun h => absurd (by decide) h
theorem start_K {fc : Nat → Int} {h3 : Int} : kPa 0 [] (0 : Int32).toInt (0 : Int32).toInt (fun _ => none) none (0 : Int32).toInt fc h3 := by
  rw [show (0 : Int32).toInt = 0 from by decide]
  exact ⟨by decide, by decide, by decide, by decide, rfl, fun i j _ _ _ h => absurd rfl h, fun j hj => by omega⟩
