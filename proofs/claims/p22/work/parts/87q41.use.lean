/-! How the whole relation is used in the law's loop. -/
theorem kI2l_t (x : Int32) : kI2l x.toInt = x.toInt64 := by unfold kI2l; rw [Int32.ofInt_toInt]
section US
variable {B B' : Nat} {Ls : List LawG} {Cs Cs1 : List CampG} {mc sc tx nr ra ru dy wa se nw zz nn re h3 : Int} {f1 f2 g fc : Nat → Int} {f3 : Nat → Int64} {lw : Option Nat} {kf : Nat → Option Nat}
theorem kC9_rem {nw' zz' mc' sc' tx' nr' ra' ru' dy' wa' se' : Int} {h1 h2 : Nat → Int} {h3 : Nat → Int64} (q : kRmb mc sc tx nr ra ru dy wa se f1 f2 f3 zz nn nw' zz' mc' sc' tx' nr' ra' ru' dy' wa' se' h1 h2 h3) (h : kC9 B mc sc tx nr ra ru dy wa se f1 f2 f3 g) (hB : B ≤ B') : kC9 B' mc' sc' tx' nr' ra' ru' dy' wa' se' h1 h2 h3 g := by
  obtain ⟨_, _, rfl, rfl, rfl, rfl, rfl, rfl, rfl, rfl, rfl, a, b, c⟩ := q
  exact kC9_cg h hB a b c (fun _ _ => rfl)
theorem up_at {n a : Nat} : va_up kf n (some a) n = some a := by unfold va_up; rw [if_pos rfl]
theorem up_m {n a : Nat} {c : CampG} : ∀ i, i < 12 → i ≠ n → va_up kf n (some a) i = kf i ∧ ∀ q ∈ Cs, kf i = some q.1 → q ∈ c :: Cs := fun i _ hn => ⟨by unfold va_up; rw [if_neg hn], fun q hq _ => List.mem_cons_of_mem _ hq⟩
theorem pm_s {n : Nat} {qo c' : CampG} (hd : ∀ i j, i < 12 → j < 12 → i ≠ j → kf i ≠ none → kf i ≠ kf j) (hn : n < 12) (hk : kf n = some qo.1) (hC1 : ∀ z : CampG, z ∈ Cs ↔ z = qo ∨ z ∈ Cs1) : ∀ i, i < 12 → i ≠ n → kf i = kf i ∧ ∀ q ∈ Cs, kf i = some q.1 → q ∈ c' :: Cs1 := fun i hi hin => ⟨rfl, fun q hq e => by
  rcases (hC1 q).mp hq with z | z
  · subst z
    exact absurd (e.trans hk.symm) (hd i n hi hn hin (by rw [e]; exact fun y => by cases y))
  · exact List.mem_cons_of_mem _ z⟩
theorem mem_put {α : Type} {L L1 : List α} {c : α} (h : ∀ z : α, z ∈ L ↔ z = c ∨ z ∈ L1) : ∀ q ∈ L, q ∈ c :: L1 := fun q hq => ((h q).mp hq).elim (fun e => by rw [e]; exact List.mem_cons_self) (fun z => List.mem_cons_of_mem _ z)
theorem mem_self {α : Type} {L : List α} : ∀ q ∈ L, q ∈ L := fun _ h => h
theorem kPa_d (h : kPa B Cs nw zz kf lw re fc h3) : ∀ i j, i < 12 → j < 12 → i ≠ j → kf i ≠ none → kf i ≠ kf j := h.2.2.2.2.2.1
theorem kPa_re (h : kPa B Cs nw zz kf lw re fc h3) : re = zz := h.2.2.2.2.1
theorem kPa_top (h : kPa B Cs nw zz kf lw re fc h3) (hz : 1 ≤ zz) : ∃ q ∈ Cs, kf nw.toNat = some q.1 ∧ q.2.2.2.1 = lw ∧ rSl re.toNat fc 0 3 = h3 ∧ cgC B q (rSl re.toNat fc 0) := by
  obtain ⟨a1, a2, a3, a4, a5, a6, a7⟩ := h
  obtain ⟨q, q1, q2, q3, q4, q5⟩ := a7 0 (by omega)
  rw [rgP_0 (by omega)] at q2
  exact ⟨q, q1, q2, q3, q4, q5⟩
theorem sub_fl {α : Type} : ∀ (L : List (List α)) (l : List α), l ∈ L → l.Sublist L.flatten
  | [], l, h => by cases h
  | a :: L, l, h => by
    rw [List.flatten_cons]
    rcases List.mem_cons.mp h with e | e
    · subst e
      exact List.sublist_append_left _ _
    · exact (sub_fl L l e).trans (List.sublist_append_right _ _)
end US
