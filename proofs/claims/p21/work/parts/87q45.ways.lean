/-! ways, least: both answer alike. -/
theorem nSum_re {f : Nat → Nat} {c : Nat → Bool} {ns : Nat} (h : ∀ s, s < ns → ¬ c s = true → f s = 0) : ∀ n, n ≤ ns → nSum (fun p => f (nth c ns p)) (cnt c n) = nSum f n
  | 0, _ => rfl
  | n + 1, hn => by
    have ih := nSum_re h n (by omega)
    by_cases q : c n = true
    · rw [cnt_y q]
      show nSum (fun p => f (nth c ns p)) (cnt c n) + f (nth c ns (cnt c n)) = nSum f n + f n
      rw [ih, nth_cnt (by omega) q]
    · rw [cnt_n q, ih]
      show _ = nSum f n + f n
      rw [h n (by omega) q, Nat.add_zero]
def hW1 (K : Nat → Nat → Bool) (n k : Nat) (P : Nat → Bool) (s : Nat) : Nat := if K k s = true ∧ P s = false then wV K n (k + 1) (pAdd P s) else 0
section WY
variable {c : Nat → Bool} {ns N : Nat} {ba : Nat → Nat} {B : Nat → Nat → Bool} {C0 : Nat → Nat → Nat} {eb ec en ep : Nat → Int}
end WY
section WL
variable {mc sc tx nr ra ru dy wa se : Int} {f1 f2 : Nat → Int} {f3 : Nat → Int64} {g : Nat → Int} {B : Nat → Nat → Bool} {C0 : Nat → Nat → Nat} {M1 M2 M3 : Nat} {y1 y2 y3 : Nat → Int}
theorem mk_R {fn' fk' : Nat → Int} (u1 : ∀ k, k < cnt (bB1 f1) mc.toNat → fn' k = (nth (bB1 f1) mc.toNat k : Int)) (u2 : ∀ k, k < cnt (bB1 f1) mc.toNat → ∃ X : Nat, fk' k = (X : Int) ∧ X < 2 ^ sc.toNat ∧ ∀ t, X.testBit t = (decide (t < sc.toNat) && (bC1 f2 t && !B (nth (bB1 f1) mc.toNat k) t))) : RK (cnt (bB1 f1) mc.toNat) sc.toNat (nth (bB1 f1) mc.toNat) (hK (bC1 f2) sc.toNat (nth (bB1 f1) mc.toNat) B) fn' fk' := ⟨u1, u2, fun k t z => (hK_in z).1⟩
end WL