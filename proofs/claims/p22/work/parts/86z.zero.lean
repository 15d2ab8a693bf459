/-! Rows of zeros. -/
theorem rg0 {a b : Int} (h1 : a ≤ 0) (h2 : 0 ≤ b) : Rg (0 : Int32) a b := by
  have q : (0 : Int32).toInt = 0 := by decide
  unfold Rg
  rw [q]
  exact ⟨h1, h2⟩
theorem n0_lt (b : Nat) : ¬ (b : Int) < (0 : Int32).toInt := by
  have q : (0 : Int32).toInt = 0 := by decide
  omega
theorem wW_zero : wW (fun _ => 0) := ⟨⟨rg0 (by decide) (by decide), rg0 (by decide) (by decide), rg0 (by decide) (by decide)⟩, fun _ _ => ⟨rg0 (by decide) (by decide), rg0 (by decide) (by decide)⟩, fun _ _ => ⟨rg0 (by decide) (by decide), rg0 (by decide) (by decide)⟩⟩
theorem wB_zero : wB (fun _ => 0) := fun b hb => absurd hb (n0_lt b)
theorem wL_zero : wL (fun _ => 0) := ⟨rg0 (by decide) (by decide), fun i hi => absurd hi (n0_lt i)⟩
theorem wC_zero : wC (fun _ => 0) := fun _ _ => ⟨wW_zero, wB_zero⟩
theorem wN_zero : wN (fun _ => 0) := fun _ => rg0 (by decide) (by decide)
theorem wK_zero : wK (fun _ => 0) := fun _ => rg0 (by decide) (by decide)
theorem wF_zero : wF (fun _ => 0) := fun _ => rg0 (by decide) (by decide)
