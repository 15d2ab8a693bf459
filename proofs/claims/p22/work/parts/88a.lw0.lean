/-! The order of a world's cells does not matter. -/
theorem vp_perm {D : va_G} {w1 w2 : va_W} {H : Heap} (p : w1.Perm w2) (h : va_P D vwCl w1 H) : va_P D vwCl w2 H := by
  intro k q hq
  have hm : q ∈ w1 := p.mem_iff.mpr (List.mem_of_getElem? hq)
  obtain ⟨i, hi⟩ := List.getElem?_of_mem hm
  exact h i q hi
theorem vd_nd {A : Nat → Prop} {w : va_W} (h : va_D A w) : (w.map Prod.fst).Nodup := by
  refine List.pairwise_iff_getElem.mpr (fun i j hi hj hij => ?_)
  intro e
  rw [List.length_map] at hi hj
  rw [List.getElem_map, List.getElem_map] at e
  have q := h.1 i j w[i] w[j] (List.getElem?_eq_getElem hi) (List.getElem?_eq_getElem hj) e
  omega
theorem vd_perm {A : Nat → Prop} {w1 w2 : va_W} (p : w1.Perm w2) (h : va_D A w1) : va_D A w2 := by
  have hn : (w2.map Prod.fst).Nodup := (p.map Prod.fst).nodup (vd_nd h)
  have hn2 := List.pairwise_iff_getElem.mp hn
  refine ⟨fun i j x y hi hj e => ?_, fun k q hq => ?_⟩
  · obtain ⟨hi1, hi2⟩ := List.getElem?_eq_some_iff.mp hi
    obtain ⟨hj1, hj2⟩ := List.getElem?_eq_some_iff.mp hj
    rcases Nat.lt_trichotomy i j with c | c | c
    · refine absurd ?_ (hn2 i j (by rw [List.length_map]; exact hi1) (by rw [List.length_map]; exact hj1) c)
      rw [List.getElem_map, List.getElem_map, hi2, hj2]
      exact e
    · exact c
    · refine absurd ?_ (hn2 j i (by rw [List.length_map]; exact hj1) (by rw [List.length_map]; exact hi1) c)
      rw [List.getElem_map, List.getElem_map, hi2, hj2]
      exact e.symm
  · have hm : q ∈ w1 := p.mem_iff.mpr (List.mem_of_getElem? hq)
    obtain ⟨i, hi⟩ := List.getElem?_of_mem hm
    exact h.2 i q hi
theorem kPick {α β : Type} {f : α → List β} {Ls : List α} {q : α} (h : q ∈ Ls) : ∃ Ls' : List α, (∀ z : α, z ∈ Ls ↔ z = q ∨ z ∈ Ls') ∧ (Ls.flatMap f).Perm (f q ++ Ls'.flatMap f) := by
  obtain ⟨a, b, rfl⟩ := List.append_of_mem h
  refine ⟨a ++ b, fun z => ?_, ?_⟩
  · simp only [List.mem_append, List.mem_cons]
    constructor
    · rintro (h | h | h)
      · exact Or.inr (Or.inl h)
      · exact Or.inl h
      · exact Or.inr (Or.inr h)
    · rintro (h | h | h)
      · exact Or.inr (Or.inl h)
      · exact Or.inl h
      · exact Or.inr (Or.inr h)
  · exact (List.Perm.flatMap_right f List.perm_middle)
theorem kT_map {ws pl wc : va_W} : ∀ {is : List Nat}, is.map (fun i => ws[i]?) = wc.map some → is.map (fun i => (ws ++ pl)[i]?) = wc.map some := by
  intro is
  induction is generalizing wc with
  | nil => intro h; exact h
  | cons i is ih =>
    intro h
    cases wc with
    | nil => simp at h
    | cons q wc =>
      simp only [List.map_cons, List.cons.injEq] at h ⊢
      refine ⟨?_, ih h.2⟩
      have hl : i < ws.length := (List.getElem?_eq_some_iff.mp h.1).1
      rw [List.getElem?_append_left hl]
      exact h.1
theorem kT_P {D : va_G} {X cx pl : va_W} {H : Heap} (h : va_P D vwCl (X ++ pl) H) (is : List Nat) (hs : is.map (fun i => X[i]?) = cx.map some) : va_P D vwCl (cx ++ pl) H := h.by _ (va_part is hs)
theorem perm_op {α : Type} {X a b a1 a2 b1 b2 r : List α} (pa : a.Perm (a1 ++ a2)) (pb : b.Perm (b1 ++ b2)) : (X ++ (a ++ (b ++ r))).Perm (X ++ (a1 ++ (b1 ++ (a2 ++ (b2 ++ r))))) := by
  classical
  refine List.perm_iff_count.mpr (fun z => ?_)
  have h1 := List.perm_iff_count.mp pa z
  have h2 := List.perm_iff_count.mp pb z
  simp only [List.count_append] at *
  omega
theorem perm_cl {α : Type} {X a1 b1 nl nc a2 b2 r : List α} : (X ++ (a1 ++ (b1 ++ (nl ++ (nc ++ (a2 ++ (b2 ++ r))))))).Perm (X ++ ((nl ++ (a1 ++ a2)) ++ ((nc ++ (b1 ++ b2)) ++ r))) := by
  classical
  refine List.perm_iff_count.mpr (fun z => ?_)
  simp only [List.count_append]
  omega
theorem feed_eq {ts r n r' n' : Int32} (h : (380 < ts.toInt ∧ r = -1 ∧ n = ts) ∨ (ts.toInt ≤ 380 ∧ r = n ∧ n.toInt = ts.toInt + 20)) (h' : (380 < ts.toInt ∧ r' = -1 ∧ n' = ts) ∨ (ts.toInt ≤ 380 ∧ r' = n' ∧ (n').toInt = ts.toInt + 20)) : r = r' ∧ n = n' := by
  rcases h with ⟨a, b, c⟩ | ⟨a, b, c⟩ <;> rcases h' with ⟨d, e, f⟩ | ⟨d, e, f⟩
  · exact ⟨by rw [b, e], by rw [c, f]⟩
  · omega
  · omega
  · have q : n = n' := Int32.toInt_inj.mp (by omega)
    exact ⟨by rw [b, e, q], q⟩
theorem end_eq {ts n r m r' m' : Int32} (h : (0 ≤ n.toInt ∧ n.toInt ≤ ts.toInt ∧ r = 1 ∧ m = n) ∨ ((n.toInt < 0 ∨ ts.toInt < n.toInt) ∧ r = 0 ∧ m = ts)) (h' : (0 ≤ n.toInt ∧ n.toInt ≤ ts.toInt ∧ r' = 1 ∧ m' = n) ∨ ((n.toInt < 0 ∨ ts.toInt < n.toInt) ∧ r' = 0 ∧ m' = ts)) : r = r' ∧ m = m' := by
  rcases h with ⟨a, b, c, d⟩ | ⟨a, b, c⟩ <;> rcases h' with ⟨a', b', c', d'⟩ | ⟨a', b', c'⟩
  · exact ⟨by rw [c, c'], by rw [d, d']⟩
  · omega
  · omega
  · exact ⟨by rw [b, b'], by rw [c, c']⟩
theorem rg_nx {x : Int32} (h : Rg x 0 11) : Rg (kNx x) 0 11 := by
  obtain ⟨h1, h2⟩ := h
  unfold kNx
  split
  · rename_i c
    have q : (1 : Int32).toInt = 1 := by decide
    unfold Rg
    rw [Int32.toInt_add, q, rg_bm (by omega) (by omega)]
    exact ⟨by omega, by omega⟩
  · exact ⟨by decide, by decide⟩
theorem vp_inN {x : Int32} {k L : Nat} (h : x.toInt = (k : Int)) (hl : k < L) : vp_in x L := by
  obtain ⟨j, j1, j2, j3, j4⟩ := rg_nat (x := x) (a := 0) (b := (k : Int)) ⟨by omega, by omega⟩ (by omega)
  rintro (q | q)
  · rw [Int32.lt_iff_toInt_lt, h] at q
    have q0 : (0 : Int32).toInt = 0 := by decide
    omega
  · rw [j3, nI_clamp j2] at q
    omega
section Q9
variable {p : Program} {l : Launch} {e : Env} {R : Room} {s : State} {m : MethodId} {args : Array Value} {below : List Frame} {meth : Method} {c : Code} {H : Heap} {locs : List Loc} {cells slots : Nat} {Q : State → Prop} {pc : Nat} {ls : Array Slot} {rest st0 : List Value} {a : Array Value} {A : Nat → Prop} {mc ms : Nat} {D : va_G} {T : List (ClassId × FieldType)} {ws wc wr pl : va_W}
theorem kcallTi {S : Type} {post : Int32 → S → Prop} {w1 : S → va_W} (hP : va_P D vwCl (ws ++ pl) H) (hD : va_D A (ws ++ pl)) (hS : va_S A s.heap H locs) (hA : ∀ q, s.heap.size ≤ q → A q) (isC isR : List Nat) (hC : isC.map (fun i => ws[i]?) = wc.map some) (hR : isR.map (fun i => ws[i]?) = wr.map some) (hnC : va_nd isC = true) (hn : va_nd isR = true) (hdis : ∀ i ∈ isR, i ∉ isC)
    (hr : va_P D vwCl wc H → va_D (fun _ => True) wc → (∀ q, va_A wc H.size q → A q) → va_Run p l e R s m args below meth c H locs cells slots mc ms (F0 m pc ls st0) rest (va_Qi post (fun u t => kB D T (va_A wc H.size) (w1 u) t) (va_A wc H.size) a) (va_A wc H.size))
    (kk : ∀ (r : Int32) (u : S) (H1 : Heap) (locs1 : List Loc), post r u → va_P D vwCl ((wr ++ w1 u) ++ pl) H1 → va_D A ((wr ++ w1 u) ++ pl) → va_S A s.heap H1 locs1 → W p l e R s m args below meth c H1 locs1 (cells + mc) (slots + ms) Q (F0 m (pc + 3) ls (.int r :: rest))) : W p l e R s m args below meth c H locs cells slots Q (F0 m pc ls st0) := by
  have hFc := va_free hD hS hA isC (kT_map hC)
  refine va_calli (hr (kc_P hP (kT_map hC)) ((hD.sub isC hnC (kT_map hC)).weaken (fun _ _ _ _ => trivial)) hFc) hS (fun q _ h => hFc q h) hFc (fun r u t H1 locs1 ht hvm hw hB hz1 hk1 hS1 => ?_)
  obtain ⟨hP1, hK1, hD1⟩ := hB
  rw [ht] at hP1
  obtain ⟨hP2, hD2⟩ := va_joinQ hP hD isC isR hC hR hn hdis hk1 hFc hP1 hD1
  exact kk r u H1 locs1 hw hP2 hD2 hS1
theorem kcallTl {S : Type} {post : Int64 → S → Prop} {w1 : S → va_W} (hP : va_P D vwCl (ws ++ pl) H) (hD : va_D A (ws ++ pl)) (hS : va_S A s.heap H locs) (hA : ∀ q, s.heap.size ≤ q → A q) (isC isR : List Nat) (hC : isC.map (fun i => ws[i]?) = wc.map some) (hR : isR.map (fun i => ws[i]?) = wr.map some) (hnC : va_nd isC = true) (hn : va_nd isR = true) (hdis : ∀ i ∈ isR, i ∉ isC)
    (hr : va_P D vwCl wc H → va_D (fun _ => True) wc → (∀ q, va_A wc H.size q → A q) → va_Run p l e R s m args below meth c H locs cells slots mc ms (F0 m pc ls st0) rest (va_Ql post (fun u t => kB D T (va_A wc H.size) (w1 u) t) (va_A wc H.size) a) (va_A wc H.size))
    (kk : ∀ (r : Int64) (u : S) (H1 : Heap) (locs1 : List Loc), post r u → va_P D vwCl ((wr ++ w1 u) ++ pl) H1 → va_D A ((wr ++ w1 u) ++ pl) → va_S A s.heap H1 locs1 → W p l e R s m args below meth c H1 locs1 (cells + mc) (slots + ms) Q (F0 m (pc + 3) ls (.long r :: rest))) : W p l e R s m args below meth c H locs cells slots Q (F0 m pc ls st0) := by
  have hFc := va_free hD hS hA isC (kT_map hC)
  refine va_calll (hr (kc_P hP (kT_map hC)) ((hD.sub isC hnC (kT_map hC)).weaken (fun _ _ _ _ => trivial)) hFc) hS (fun q _ h => hFc q h) hFc (fun r u t H1 locs1 ht hvm hw hB hz1 hk1 hS1 => ?_)
  obtain ⟨hP1, hK1, hD1⟩ := hB
  rw [ht] at hP1
  obtain ⟨hP2, hD2⟩ := va_joinQ hP hD isC isR hC hR hn hdis hk1 hFc hP1 hD1
  exact kk r u H1 locs1 hw hP2 hD2 hS1
theorem kcallTv {S : Type} {post : S → Prop} {w1 : S → va_W} (hP : va_P D vwCl (ws ++ pl) H) (hD : va_D A (ws ++ pl)) (hS : va_S A s.heap H locs) (hA : ∀ q, s.heap.size ≤ q → A q) (isC isR : List Nat) (hC : isC.map (fun i => ws[i]?) = wc.map some) (hR : isR.map (fun i => ws[i]?) = wr.map some) (hnC : va_nd isC = true) (hn : va_nd isR = true) (hdis : ∀ i ∈ isR, i ∉ isC)
    (hr : va_P D vwCl wc H → va_D (fun _ => True) wc → (∀ q, va_A wc H.size q → A q) → va_Run p l e R s m args below meth c H locs cells slots mc ms (F0 m pc ls st0) rest (va_Qv post (fun u t => kB D T (va_A wc H.size) (w1 u) t) (va_A wc H.size) a) (va_A wc H.size))
    (kk : ∀ (u : S) (H1 : Heap) (locs1 : List Loc), post u → va_P D vwCl ((wr ++ w1 u) ++ pl) H1 → va_D A ((wr ++ w1 u) ++ pl) → va_S A s.heap H1 locs1 → W p l e R s m args below meth c H1 locs1 (cells + mc) (slots + ms) Q (F0 m (pc + 3) ls (rest))) : W p l e R s m args below meth c H locs cells slots Q (F0 m pc ls st0) := by
  have hFc := va_free hD hS hA isC (kT_map hC)
  refine va_callv (hr (kc_P hP (kT_map hC)) ((hD.sub isC hnC (kT_map hC)).weaken (fun _ _ _ _ => trivial)) hFc) hS (fun q _ h => hFc q h) hFc (fun u t H1 locs1 ht hvm hw hB hz1 hk1 hS1 => ?_)
  obtain ⟨hP1, hK1, hD1⟩ := hB
  rw [ht] at hP1
  obtain ⟨hP2, hD2⟩ := va_joinQ hP hD isC isR hC hR hn hdis hk1 hFc hP1 hD1
  exact kk u H1 locs1 hw hP2 hD2 hS1
end Q9
