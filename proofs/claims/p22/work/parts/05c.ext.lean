/-! What a method computes, as a function over Int and rows of Int: the walker writes it; lets, pairs and loops by these. -/
def gT (f : Nat → Int32) : Nat → Int := fun j => (f j).toInt
def gTb (tb : List Int32) (n : Nat) : Int := (tb.getD n 0).toInt
def kLet {α β : Type} (e : α) (f : α → β) : β := f e
theorem kLet_eq {α β : Type} {e x : α} {f : α → β} {r : β} (h : x = e) (h2 : f x = r) : kLet e f = r := by subst h; exact h2
def kC {α β γ : Type} (p : α × β) (f : α → β → γ) : γ := f p.1 p.2
theorem kC_eq {α β γ : Type} {p : α × β} {a : α} {b : β} {f : α → β → γ} {r : γ} (h : p = (a, b)) (h2 : f a b = r) : kC p f = r := by subst h; exact h2
def kS {α β γ : Type} (p : α ⊕ β) (f : α → γ) (g : β → γ) : γ := match p with
  | .inl a => f a
  | .inr b => g b
theorem kS_l {α β γ : Type} {p : α ⊕ β} {f : α → γ} {g : β → γ} {a : α} {r : γ} (h : p = .inl a) (h2 : f a = r) : kS p f g = r := by subst h; exact h2
theorem kS_r {α β γ : Type} {p : α ⊕ β} {f : α → γ} {g : β → γ} {b : β} {r : γ} (h : p = .inr b) (h2 : g b = r) : kS p f g = r := by subst h; exact h2
/-- which exception -/
def kXc {α β : Type} (p : α ⊕ (Int × β)) : Int := match p with
  | .inl _ => -1
  | .inr q => q.1
theorem kXc_eq {α β : Type} {p : α ⊕ (Int × β)} {c : Int} {b : β} (h : p = .inr (c, b)) : kXc p = c := by subst h; rfl
theorem kXc_r {α β : Type} {p : α ⊕ (Int × β)} {c : Int} {b : β} (h : ∃ d : Int, p = .inr (d, b)) (hc : kXc p = c) : p = .inr (c, b) := by
  obtain ⟨d, h⟩ := h
  subst h
  have : d = c := hc
  rw [this]
theorem kif_t {α : Type} {c : Prop} {hd : Decidable c} {a b r : α} (h : c) (h2 : a = r) : (@ite α c hd a b) = r := by rw [if_pos h]; exact h2
theorem kif_f {α : Type} {c : Prop} {hd : Decidable c} {a b r : α} (h : ¬ c) (h2 : b = r) : (@ite α c hd a b) = r := by rw [if_neg h]; exact h2
def kRun {S T : Type} (st : S → S ⊕ T) : Nat → S → Option T
  | 0, _ => none
  | n + 1, s => match st s with
    | .inl s' => kRun st n s'
    | .inr o => some o
noncomputable def kIter {S T : Type} [Nonempty T] (st : S → S ⊕ T) (s : S) : T := Classical.epsilon (fun o => ∃ n, kRun st n s = some o)
theorem kRun_l {S T : Type} {st : S → S ⊕ T} {s s' : S} (h : st s = .inl s') (n : Nat) : kRun st (n + 1) s = kRun st n s' := by
  show (match st s with | .inl s' => kRun st n s' | .inr o => some o) = _
  rw [h]
theorem kRun_r {S T : Type} {st : S → S ⊕ T} {s : S} {o : T} (h : st s = .inr o) (n : Nat) : kRun st (n + 1) s = some o := by
  show (match st s with | .inl s' => kRun st n s' | .inr o => some o) = _
  rw [h]
theorem kIter_go {S T : Type} [Nonempty T] {st : S → S ⊕ T} {s s' : S} (h : st s = .inl s') : kIter st s = kIter st s' := by
  unfold kIter
  congr 1
  funext o
  refine propext ⟨fun ⟨n, hn⟩ => ?_, fun ⟨n, hn⟩ => ⟨n + 1, by rw [kRun_l h]; exact hn⟩⟩
  cases n with
  | zero => exact absurd hn (by unfold kRun; exact fun q => by cases q)
  | succ n => exact ⟨n, by rw [kRun_l h] at hn; exact hn⟩
theorem kIter_out {S T : Type} [Nonempty T] {st : S → S ⊕ T} {s : S} {o : T} (h : st s = .inr o) : kIter st s = o := by
  have q : ∃ o', ∃ n, kRun st n s = some o' := ⟨o, 1, kRun_r h 0⟩
  obtain ⟨n, hn⟩ : ∃ n, kRun st n s = some (kIter st s) := Classical.epsilon_spec (p := fun o => ∃ n, kRun st n s = some o) q
  cases n with
  | zero => exact absurd hn (by unfold kRun; exact fun q => by cases q)
  | succ n => rw [kRun_r h] at hn; exact (Option.some.inj hn).symm
def kUpd {α : Type} (f : Nat → α) (k : Nat) (v : α) : Nat → α := fun j => if j = k then v else f j
def kW (z : Int) : Int := (Int32.ofInt z).toInt
def kAnd (a b : Int) : Int := (Int32.ofInt a &&& Int32.ofInt b).toInt
def kOr (a b : Int) : Int := (Int32.ofInt a ||| Int32.ofInt b).toInt
def kXor (a b : Int) : Int := (Int32.ofInt a ^^^ Int32.ofInt b).toInt
def kShl (a b : Int) : Int := (Int32.ofInt a <<< (Int32.ofInt b &&& 31)).toInt
def kShr (a b : Int) : Int := (Int32.ofInt a >>> (Int32.ofInt b &&& 31)).toInt
def kUshr (a b : Int) : Int := (((Int32.ofInt a).toUInt32 >>> ((Int32.ofInt b).toUInt32 &&& Int32.toUInt32 31)).toInt32).toInt
def kDiv (a b : Int) : Int := (Int32.ofInt a / Int32.ofInt b).toInt
def kRem (a b : Int) : Int := (Int32.ofInt a - Int32.ofInt a / Int32.ofInt b * Int32.ofInt b).toInt
def kNeg (a : Int) : Int := (-(Int32.ofInt a)).toInt
def kI2b (a : Int) : Int := (Int32.ofInt a).toInt8.toInt32.toInt
def kNarB (a : Int) : Int := (vp_nar .byte (Int32.ofInt a)).toInt
def kAbs (a : Int) : Int := (if 0 ≤ Int32.ofInt a then Int32.ofInt a else 0 - Int32.ofInt a).toInt
def kMin (a b : Int) : Int := (if Int32.ofInt b < Int32.ofInt a then Int32.ofInt b else Int32.ofInt a).toInt
def kMax (a b : Int) : Int := (if Int32.ofInt a < Int32.ofInt b then Int32.ofInt b else Int32.ofInt a).toInt
def kI2l (a : Int) : Int64 := (Int32.ofInt a).toInt64
def kL2i (a : Int64) : Int := a.toInt32.toInt
def kCmp (a b : Int64) : Int := (lg_cmp a b).toInt
def kMinL (x y : Int64) : Int64 := if y < x then y else x
def kMaxL (x y : Int64) : Int64 := if x < y then y else x
def kLshl (x : Int64) (y : Int) : Int64 := x <<< ((Int32.ofInt y).toInt64 &&& 63)
def kLshr (x : Int64) (y : Int) : Int64 := x >>> ((Int32.ofInt y).toInt64 &&& 63)
def kLushr (x : Int64) (y : Int) : Int64 := (x.toUInt64 >>> ((Int32.ofInt y).toInt64.toUInt64 &&& Int64.toUInt64 63)).toInt64
/-- copyOf of a row of N: at N it is the row itself -/
def F_copyOf (N : Nat) (f : Nat → Int) (n : Int) : Nat × (Nat → Int) := if n = (N : Int) then (N, f) else (n.toNat, fun j => if j < n.toNat then f j else 0)
section XB
variable {x y z : Int32} {u v w : Int64}
theorem ke_wadd (e : z = x + y) : z.toInt = kW (x.toInt + y.toInt) := by rw [e]; unfold kW; rw [Int32.toInt_add, Int32.toInt_ofInt]
theorem ke_wsub (e : z = x - y) : z.toInt = kW (x.toInt - y.toInt) := by rw [e]; unfold kW; rw [Int32.toInt_sub, Int32.toInt_ofInt]
theorem ke_wmul (e : z = x * y) : z.toInt = kW (x.toInt * y.toInt) := by rw [e]; unfold kW; rw [Int32.toInt_mul, Int32.toInt_ofInt]
theorem ke_and (e : z = x &&& y) : z.toInt = kAnd x.toInt y.toInt := by unfold kAnd; rw [Int32.ofInt_toInt, Int32.ofInt_toInt, e]
theorem ke_or (e : z = x ||| y) : z.toInt = kOr x.toInt y.toInt := by unfold kOr; rw [Int32.ofInt_toInt, Int32.ofInt_toInt, e]
theorem ke_xor (e : z = x ^^^ y) : z.toInt = kXor x.toInt y.toInt := by unfold kXor; rw [Int32.ofInt_toInt, Int32.ofInt_toInt, e]
theorem ke_shl (e : z = x <<< (y &&& 31)) : z.toInt = kShl x.toInt y.toInt := by unfold kShl; rw [Int32.ofInt_toInt, Int32.ofInt_toInt, e]
theorem ke_shr (e : z = x >>> (y &&& 31)) : z.toInt = kShr x.toInt y.toInt := by unfold kShr; rw [Int32.ofInt_toInt, Int32.ofInt_toInt, e]
theorem ke_ushr (e : z = (x.toUInt32 >>> (y.toUInt32 &&& Int32.toUInt32 31)).toInt32) : z.toInt = kUshr x.toInt y.toInt := by unfold kUshr; rw [Int32.ofInt_toInt, Int32.ofInt_toInt, e]
theorem ke_div (e : z = x / y) : z.toInt = kDiv x.toInt y.toInt := by unfold kDiv; rw [Int32.ofInt_toInt, Int32.ofInt_toInt, e]
theorem ke_rem (e : z = x - x / y * y) : z.toInt = kRem x.toInt y.toInt := by unfold kRem; rw [Int32.ofInt_toInt, Int32.ofInt_toInt, e]
theorem ke_neg (e : z = -x) : z.toInt = kNeg x.toInt := by unfold kNeg; rw [Int32.ofInt_toInt, e]
theorem ke_i2b (e : z = x.toInt8.toInt32) : z.toInt = kI2b x.toInt := by unfold kI2b; rw [Int32.ofInt_toInt, e]
theorem ke_abs (e : z = if 0 ≤ x then x else 0 - x) : z.toInt = kAbs x.toInt := by unfold kAbs; rw [Int32.ofInt_toInt, e]
theorem ke_min (e : z = if y < x then y else x) : z.toInt = kMin x.toInt y.toInt := by unfold kMin; rw [Int32.ofInt_toInt, Int32.ofInt_toInt, e]
theorem ke_max (e : z = if x < y then y else x) : z.toInt = kMax x.toInt y.toInt := by unfold kMax; rw [Int32.ofInt_toInt, Int32.ofInt_toInt, e]
theorem ke_i2l (e : w = x.toInt64) : w = kI2l x.toInt := by unfold kI2l; rw [Int32.ofInt_toInt, e]
theorem ke_l2i (e : z = w.toInt32) : z.toInt = kL2i w := by unfold kL2i; rw [e]
theorem ke_cmp (e : z = lg_cmp u v) : z.toInt = kCmp u v := by unfold kCmp; rw [e]
theorem ke_lshl (e : w = v <<< (y.toInt64 &&& 63)) : w = kLshl v y.toInt := by unfold kLshl; rw [Int32.ofInt_toInt, e]
theorem ke_lshr (e : w = v >>> (y.toInt64 &&& 63)) : w = kLshr v y.toInt := by unfold kLshr; rw [Int32.ofInt_toInt, e]
theorem ke_lushr (e : w = (v.toUInt64 >>> (y.toInt64.toUInt64 &&& Int64.toUInt64 63)).toInt64) : w = kLushr v y.toInt := by unfold kLushr; rw [Int32.ofInt_toInt, e]
theorem ke_ld {f : Nat → Int32} (e : z = f x.toNatClampNeg) : z.toInt = gT f x.toInt.toNat := by rw [e]; rfl
theorem ke_ldL {f : Nat → Int64} (e : w = f x.toNatClampNeg) : w = f x.toInt.toNat := e
theorem ke_ldx {b : Nat → Int32} {n : Nat} (e : z = b n) : z.toInt = gT b n := by rw [e]; rfl
theorem ke_st {f g : Nat → Int32} (h : upd f x.toNatClampNeg y = g) : gT g = kUpd (gT f) x.toInt.toNat y.toInt := by
  rw [← h]
  funext j
  show (upd f _ _ j).toInt = _
  unfold upd kUpd gT
  by_cases q : j = x.toNatClampNeg
  · rw [if_pos q, if_pos (show j = x.toInt.toNat from q)]
  · rw [if_neg q, if_neg (show ¬ j = x.toInt.toNat from q)]
theorem ke_stb {f g : Nat → Int32} (h : upd f x.toNatClampNeg (vp_nar .byte y) = g) : gT g = kUpd (gT f) x.toInt.toNat (kNarB y.toInt) := by
  have e : kNarB y.toInt = (vp_nar .byte y).toInt := by unfold kNarB; rw [Int32.ofInt_toInt]
  rw [e]; exact ke_st h
theorem ke_stL {f g : Nat → Int64} (h : vp_updL f x.toNatClampNeg w = g) : g = kUpd f x.toInt.toNat w := h.symm
theorem gT_upd {f : Nat → Int32} {F : Nat → Int} {k : Nat} (h : gT f = F) : gT (upd f k x) = kUpd F k x.toInt := by
  subst h
  funext j
  show (upd f k x j).toInt = _
  unfold upd kUpd gT
  by_cases q : j = k
  · rw [if_pos q, if_pos q]
  · rw [if_neg q, if_neg q]
theorem gT_cpy {f g : Nat → Int32} {F G : Nat → Int} {a b n : Nat} (h1 : gT f = F) (h2 : gT g = G) : gT (va_cpy f g a b n) = va_cpy F G a b n := by
  subst h1 h2
  funext j
  show (va_cpy f g a b n j).toInt = _
  unfold va_cpy gT
  by_cases q : b ≤ j ∧ j < b + n
  · rw [if_pos q, if_pos q]
  · rw [if_neg q, if_neg q]
theorem ke_tb {tb : List Int32} (e : z = tb.getD x.toNatClampNeg 0) : z.toInt = gTb tb x.toInt.toNat := by rw [e]; rfl
theorem xF_lt (h : ¬ x < y) : ¬ x.toInt < y.toInt := fun q => h (Int32.lt_iff_toInt_lt.mpr q)
theorem xF_le (h : ¬ x ≤ y) : ¬ x.toInt ≤ y.toInt := fun q => h (Int32.le_iff_toInt_le.mpr q)
end XB
