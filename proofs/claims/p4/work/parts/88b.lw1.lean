/-! The law's invariant: what the class and the reference hold, block by block; laws and kept camps in pools. -/
def lwC (cI : ClassId) (q : LawG) : va_W := match q with | (l0, (l1, l2, l3, l4), (M1, M2, M3), (y1_, y2_, y3_, y4_)) => [(l0, .inr (4, [.ref l1, .ref l2, .ref l3, .ref l4])), (l1, .inl (cI, M1, .inl y1_)), (l2, .inl (cI, M2, .inl y2_)), (l3, .inl (cI, M3, .inl y3_)), (l4, .inl (cI, 28, .inl y4_))]
def cpC (cI cJ : ClassId) (q : CampG) : va_W := match q with | (oh, (om1, om2, om3), (mcO, scO, txO, nrO, raO, ruO, dyO, waO, seO), lwO, (pO1, pO2, pO3)) => [(oh, oX0 om1 om2 om3 mcO scO txO nrO raO ruO dyO waO seO lwO), (om1, .inl (cI, 50, .inl pO1)), (om2, .inl (cI, 72, .inl pO2)), (om3, .inl (cJ, 30, .inr (.inl pO3)))]
def lOK (Ls : List LawG) (lw : Option Nat) : Prop := ∀ a : Nat, lw = some a → ∃ q ∈ Ls, q.1 = a
def kOK (Cs : List CampG) (kf : Nat → Option Nat) : Prop := ∀ j : Nat, kf j = none ∨ ∃ q ∈ Cs, kf j = some q.1
def cOK (Ls : List LawG) (Cs : List CampG) : Prop := ∀ q ∈ Cs, lOK Ls q.2.2.2.1
theorem lok_none {Ls : List LawG} : lOK Ls none := fun a h => by cases h
theorem lok_some {Ls : List LawG} {q : LawG} (h : q ∈ Ls) : lOK Ls (some q.1) := fun a e => ⟨q, h, Option.some.inj e⟩
theorem lok_mono {Ls Ls' : List LawG} {lw : Option Nat} (h : lOK Ls lw) (m : ∀ q ∈ Ls, ∃ q' ∈ Ls', q'.1 = q.1) : lOK Ls' lw := fun a e => by
  obtain ⟨q, h1, h2⟩ := h a e
  obtain ⟨q', h3, h4⟩ := m q h1
  exact ⟨q', h3, h4.trans h2⟩
theorem cok_mono {Ls Ls' : List LawG} {Cs : List CampG} (h : cOK Ls Cs) (m : ∀ q ∈ Ls, ∃ q' ∈ Ls', q'.1 = q.1) : cOK Ls' Cs := fun q hq => lok_mono (h q hq) m
theorem cok_cons {Ls : List LawG} {Cs : List CampG} {c : CampG} (h1 : lOK Ls c.2.2.2.1) (h2 : cOK Ls Cs) : cOK Ls (c :: Cs) := fun q hq => (List.mem_cons.mp hq).elim (fun e => by rw [e]; exact h1) (h2 q)
theorem kok_mono {Cs Cs' : List CampG} {kf : Nat → Option Nat} (h : kOK Cs kf) (m : ∀ q ∈ Cs, ∃ q' ∈ Cs', q'.1 = q.1) : kOK Cs' kf := fun j => (h j).elim Or.inl (fun ⟨q, h1, h2⟩ => by
  obtain ⟨q', h3, h4⟩ := m q h1
  exact Or.inr ⟨q', h3, by rw [h4]; exact h2⟩)
theorem kok_up {Cs : List CampG} {kf : Nat → Option Nat} {n : Nat} {c : CampG} (h : kOK Cs kf) (hc : c ∈ Cs) : kOK Cs (va_up kf n (some c.1)) := fun j => by
  unfold va_up
  split
  · exact Or.inr ⟨c, hc, rfl⟩
  · exact h j
theorem mono_self {α : Type} {f : α → Nat} {L : List α} : ∀ q ∈ L, ∃ q' ∈ L, f q' = f q := fun q h => ⟨q, h, rfl⟩
theorem mono_cons {α : Type} {f : α → Nat} {L : List α} {c : α} : ∀ q ∈ L, ∃ q' ∈ c :: L, f q' = f q := fun q h => ⟨q, List.mem_cons_of_mem _ h, rfl⟩
theorem mono_put {α : Type} {f : α → Nat} {L L1 : List α} {c c' : α} (h : ∀ z : α, z ∈ L ↔ z = c ∨ z ∈ L1) (e : f c' = f c) : ∀ q ∈ L, ∃ q' ∈ c' :: L1, f q' = f q := fun q hq => ((h q).mp hq).elim (fun z => ⟨c', List.mem_cons_self, by rw [z]; exact e⟩) (fun z => ⟨q, List.mem_cons_of_mem _ z, rfl⟩)
theorem cok_part {Ls : List LawG} {Cs C1 : List CampG} {c : CampG} (h : cOK Ls Cs) (m : ∀ z : CampG, z ∈ Cs ↔ z = c ∨ z ∈ C1) : cOK Ls C1 := fun q hq => h q ((m q).mpr (Or.inr hq))
theorem wL_b {f : Nat → Int32} (h : wL f) : ∀ i : Nat, (i : Int) < gT f 505 → gT f (508 + 3 * i) ≤ 400 := fun i hi => by
  obtain ⟨_, a, b, _, e, _, hb, _⟩ := h.2 i hi
  show (f (508 + 3 * i)).toInt ≤ 400
  omega
theorem nx_int {x y : Int32} (h : Rg x 0 11) (e : y = kNx x) : y.toInt = if x.toInt < 11 then x.toInt + 1 else 0 := by
  obtain ⟨h1, h2⟩ := h
  rw [e]
  unfold kNx
  by_cases c : x.toInt < 11
  · have q : (1 : Int32).toInt = 1 := by decide
    rw [if_pos c, if_pos c, Int32.toInt_add, q, rg_bm (by omega) (by omega)]
  · rw [if_neg c, if_neg c]
    decide
theorem cp_fresh {A : Nat → Prop} {cI cJ : ClassId} {L : List va_W} {c : CampG} {Cs : List CampG} (h : va_D A L.flatten) (hm : (c :: Cs).flatMap (cpC cI cJ) ∈ L) : ∀ q ∈ Cs, q.1 ≠ c.1 := by
  intro q hq e
  have n1 := vd_nd h
  have n2 := List.Nodup.sublist ((sub_fl L _ hm).map Prod.fst) n1
  obtain ⟨a, ⟨a1, a2, a3⟩, ⟨v1, v2, v3, v4, v5, v6, v7, v8, v9⟩, lw, p1, p2, p3⟩ := c
  rw [List.flatMap_cons, List.map_append] at n2
  have n3 : (a :: ((cpC cI cJ (a, (a1, a2, a3), (v1, v2, v3, v4, v5, v6, v7, v8, v9), lw, p1, p2, p3)).tail.map Prod.fst ++ (Cs.flatMap (cpC cI cJ)).map Prod.fst)).Nodup := n2
  have n4 := (List.nodup_cons.mp n3).1
  refine n4 (List.mem_append_right _ ?_)
  refine List.mem_map.mpr ⟨((cpC cI cJ q).head?.getD (0, .inr (0, []))), List.mem_flatMap.mpr ⟨q, hq, ?_⟩, ?_⟩
  · obtain ⟨b, ⟨b1, b2, b3⟩, ⟨w1, w2, w3, w4, w5, w6, w7, w8, w9⟩, lw2, p4, p5, p6⟩ := q
    exact List.mem_cons_self
  · obtain ⟨b, ⟨b1, b2, b3⟩, ⟨w1, w2, w3, w4, w5, w6, w7, w8, w9⟩, lw2, p4, p5, p6⟩ := q
    exact e
theorem kf_new {kf : Nat → Option Nat} {Cs : List CampG} {a : Nat} (h : kOK Cs kf) (hf : ∀ q ∈ Cs, q.1 ≠ a) : ∀ i, i < 12 → kf i ≠ some a := fun i _ e => by
  rcases h i with z | ⟨q, hq, z⟩
  · rw [z] at e
    cases e
  · rw [z] at e
    exact hf q hq (Option.some.inj e)
def b_sw (cI cJ cB cC : ClassId) (w0 tp h ph ps cr lr hd pk gs : Nat) (ts : Int32) (pd : Int32) (wb : Int32) (w : va_W) : Prop := w = [(w0, oX10 tp ts wb h ph pd ps cr lr hd pk gs)]
def b_tp (cI cJ cB cC : ClassId) (tp : Nat) (ft0 : Nat → Int32) (w : va_W) : Prop := w = [(tp, .inl (cI, 400, .inl ft0))]
def b_cp (cI cJ cB cC : ClassId) (h m1 m2 m3 : Nat) (Ls : List LawG) (mcA : Int32) (scA : Int32) (txA : Int32) (nrA : Int32) (raA : Int32) (ruA : Int32) (dyA : Int32) (waA : Int32) (seA : Int32) (lwA : Option Nat) (pA1 : Nat → Int32) (pA2 : Nat → Int32) (pA3 : Nat → Int64) (w : va_W) : Prop := w = [(h, oX0 m1 m2 m3 mcA scA txA nrA raA ruA dyA waA seA lwA), (m1, .inl (cI, 50, .inl pA1)), (m2, .inl (cI, 72, .inl pA2)), (m3, .inl (cJ, 30, .inr (.inl pA3)))] ∧ lOK Ls lwA
def b_pc (cI cJ cB cC : ClassId) (ph pm1 pm2 pm3 : Nat) (Ls : List LawG) (mcB : Int32) (scB : Int32) (txB : Int32) (nrB : Int32) (raB : Int32) (ruB : Int32) (dyB : Int32) (waB : Int32) (seB : Int32) (lwB : Option Nat) (pB1 : Nat → Int32) (pB2 : Nat → Int32) (pB3 : Nat → Int64) (w : va_W) : Prop := w = [(ph, oX0 pm1 pm2 pm3 mcB scB txB nrB raB ruB dyB waB seB lwB), (pm1, .inl (cI, 50, .inl pB1)), (pm2, .inl (cI, 72, .inl pB2)), (pm3, .inl (cJ, 30, .inr (.inl pB3)))] ∧ lOK Ls lwB
def b_ps (cI cJ cB cC : ClassId) (ps ka : Nat) (Cs : List CampG) (nwA : Int32) (zzA : Int32) (kfA : Nat → Option Nat) (w : va_W) : Prop := w = [(ps, .inr (7, [.ref ka, .int nwA, .int zzA])), (ka, .inl (cC, 12, .inr (.inr (.inr (.inr kfA)))))] ∧ Rg nwA 0 11 ∧ Rg zzA 0 12 ∧ kOK Cs kfA
def b_cr (cI cJ cB cC : ClassId) (cr tkc kc1 kc2 dh dm1 dm2 dm3 : Nat) (Ls : List LawG) (w : va_W) : Prop := ∃ aaC : Int32, ∃ lcC : Int32, ∃ wrC : Int32, ∃ szC : Int32, ∃ eC1 : Nat → Int32, ∃ eC2 : Nat → Int32, ∃ mcD : Int32, ∃ scD : Int32, ∃ txD : Int32, ∃ nrD : Int32, ∃ raD : Int32, ∃ ruD : Int32, ∃ dyD : Int32, ∃ waD : Int32, ∃ seD : Int32, ∃ lwD : Option Nat, ∃ pD1 : Nat → Int32, ∃ pD2 : Nat → Int32, ∃ pD3 : Nat → Int64, w = [(cr, oX1 tkc aaC lcC wrC dh), (tkc, .inr (8, [.ref kc1, .ref kc2, .int szC])), (kc1, .inl (cI, 401, .inl eC1)), (kc2, .inl (cI, 401, .inl eC2)), (dh, oX0 dm1 dm2 dm3 mcD scD txD nrD raD ruD dyD waD seD lwD), (dm1, .inl (cI, 50, .inl pD1)), (dm2, .inl (cI, 72, .inl pD2)), (dm3, .inl (cJ, 30, .inr (.inl pD3)))] ∧ lOK Ls lwD
def b_lr (cI cJ cB cC : ClassId) (lr tkl kl1 kl2 lr1 lr2 lr3 : Nat) (w : va_W) : Prop := ∃ aaL : Int32, ∃ lcL : Int32, ∃ wrL : Int32, ∃ zsL : Int32, ∃ szL : Int32, ∃ eL1 : Nat → Int32, ∃ eL2 : Nat → Int32, ∃ v1L : Nat → Int32, ∃ v2L : Nat → Int32, ∃ v3L : Nat → Int32, w = [(lr, oX5 tkl aaL lcL wrL lr1 lr2 lr3 zsL), (tkl, .inr (8, [.ref kl1, .ref kl2, .int szL])), (kl1, .inl (cI, 401, .inl eL1)), (kl2, .inl (cI, 401, .inl eL2)), (lr1, .inl (cI, 400, .inl v1L)), (lr2, .inl (cI, 12, .inl v2L)), (lr3, .inl (cI, 12, .inl v3L))] ∧ Rg zsL 0 400
def b_hd (cI cJ cB cC : ClassId) (hd hdt hdb hdc hdn hdp hds : Nat) (w : va_W) : Prop := ∃ bcH : Int32, ∃ ccH : Int32, ∃ etH : Nat → Int64, ∃ ebH : Nat → Int32, ∃ ecH : Nat → Int32, ∃ enH : Nat → Int32, ∃ epH : Nat → Int32, ∃ esH : Nat → Int32, w = [(hd, oX3 hdt hdb hdc hdn hdp hds bcH ccH), (hdt, .inl (cJ, 4096, .inr (.inl etH))), (hdb, .inl (cI, 10, .inl ebH)), (hdc, .inl (cI, 12, .inl ecH)), (hdn, .inl (cI, 10, .inl enH)), (hdp, .inl (cI, 120, .inl epH)), (hds, .inl (cI, 10, .inl esH))]
def b_pk (cI cJ cB cC : ClassId) (pk pk1 pk2 : Nat) (w : va_W) : Prop := ∃ myK : Int32, ∃ eK1 : Nat → Int32, ∃ eK2 : Nat → Int32, w = [(pk, .inr (6, [.ref pk1, .ref pk2, .int myK])), (pk1, .inl (cI, 4096, .inl eK1)), (pk2, .inl (cI, 12, .inl eK2))]
def b_gs (cI cJ cB cC : ClassId) (gs gs1 gs2 : Nat) (w : va_W) : Prop := ∃ eG1 : Nat → Int64, ∃ eG2 : Nat → Int64, w = [(gs, .inr (2, [.ref gs1, .ref gs2])), (gs1, .inl (cJ, 550, .inr (.inl eG1))), (gs2, .inl (cJ, 550, .inr (.inl eG2)))]
def b_rf (cI cJ cB cC : ClassId) (mo aw ai ab ac aP a5 av an ak aW aC ag aT aN aF : Nat) (ts : Int32) (pd : Int32) (ft : Nat → Int32) (re : Int32) (fa : Int32) (fw : Nat → Int32) (fi : Nat → Int32) (fc : Nat → Int32) (w : va_W) : Prop := ∃ th : Int32, ∃ po : Int32, ∃ en : Int32, ∃ be : Int32, ∃ de : Int32, ∃ sp : Int32, ∃ ne : Int32, ∃ fb : Nat → Int32, ∃ f5 : Nat → Int32, ∃ fv : Nat → Int32, ∃ fn : Nat → Int32, ∃ fk : Nat → Int32, ∃ fW : Nat → Int64, ∃ fC : Nat → Int32, ∃ fg : Nat → Int32, ∃ fT : Nat → Int64, ∃ fN : Nat → Int64, ∃ fF : Nat → Int32, w = [(mo, oX11 th aw ai ab ac pd re aP ts po en be de fa a5 sp av an ak ne aW aC ag aT aN aF), (aw, .inl (cI, 2179, .inl fw)), (ai, .inl (cI, 1342, .inl fi)), (ab, .inl (cI, 1342, .inl fb)), (ac, .inl (cI, 6060, .inl fc)), (aP, .inl (cB, 400, .inl ft)), (a5, .inl (cI, 5, .inl f5)), (av, .inl (cI, 400, .inl fv)), (an, .inl (cI, 10, .inl fn)), (ak, .inl (cI, 10, .inl fk)), (aW, .inl (cJ, 4096, .inr (.inl fW))), (aC, .inl (cI, 4096, .inl fC)), (ag, .inl (cI, 10, .inl fg)), (aT, .inl (cJ, 550, .inr (.inl fT))), (aN, .inl (cJ, 550, .inr (.inl fN))), (aF, .inl (cI, 4096, .inl fF))] ∧ Rg re 0 12 ∧ wW fw ∧ wB fw ∧ wL fw ∧ wW fi ∧ wB fi ∧ wL fi ∧ wC fc ∧ wN fn ∧ wK fk ∧ wF fC
def b_ou (cI cJ cB cC : ClassId) (ou : Nat) (w : va_W) : Prop := ∃ fo : Nat → Int64, w = [(ou, .inl (cJ, 1, .inr (.inl fo)))]
def kInv (B9 : Nat) (D : va_G) (cI cJ cB cC : ClassId) (A : Nat → Prop) (w0 tp h ph ps cr lr hd pk gs m1 m2 m3 pm1 pm2 pm3 ka tkc kc1 kc2 dh dm1 dm2 dm3 tkl kl1 kl2 lr1 lr2 lr3 hdt hdb hdc hdn hdp hds pk1 pk2 gs1 gs2 mo aw ai ab ac aP a5 av an ak aW aC ag aT aN aF ou : Nat) (H : Heap) : Prop := ∃ (ts : Int32) (pd : Int32) (wb : Int32) (mcA : Int32) (scA : Int32) (txA : Int32) (nrA : Int32) (raA : Int32) (ruA : Int32) (dyA : Int32) (waA : Int32) (seA : Int32) (lwA : Option Nat) (pA1 : Nat → Int32) (pA2 : Nat → Int32) (pA3 : Nat → Int64) (mcB : Int32) (scB : Int32) (txB : Int32) (nrB : Int32) (raB : Int32) (ruB : Int32) (dyB : Int32) (waB : Int32) (seB : Int32) (lwB : Option Nat) (pB1 : Nat → Int32) (pB2 : Nat → Int32) (pB3 : Nat → Int64) (nwA : Int32) (zzA : Int32) (kfA : Nat → Option Nat) (re : Int32) (fa : Int32) (fw : Nat → Int32) (fi : Nat → Int32) (fc : Nat → Int32) (ft0 : Nat → Int32) (ft : Nat → Int32) (Ls : List LawG) (Cs : List CampG) (w0_ w1_ w2_ w3_ w4_ w5_ w6_ w7_ w8_ w9_ w10_ w11_ : va_W), Rg ts 0 400 ∧ Rg pd 0 1 ∧ tTape ts.toInt.toNat (gT ft0) (gT ft) ∧ wb.toInt = fa.toInt ∧ kC9 B9 mcA.toInt scA.toInt txA.toInt nrA.toInt raA.toInt ruA.toInt dyA.toInt waA.toInt seA.toInt (gT pA1) (gT pA2) pA3 (gT fw) ∧ kLw Ls lwA (gT fw) ∧ kPi B9 Ls pd.toInt mcB.toInt scB.toInt txB.toInt nrB.toInt raB.toInt ruB.toInt dyB.toInt waB.toInt seB.toInt lwB (gT pB1) (gT pB2) pB3 (gT fi) ∧ kPa B9 Cs nwA.toInt zzA.toInt kfA lwA re.toInt (gT fc) (gT fw 3) ∧ b_sw cI cJ cB cC w0 tp h ph ps cr lr hd pk gs ts pd wb w0_ ∧ b_tp cI cJ cB cC tp ft0 w1_ ∧ b_cp cI cJ cB cC h m1 m2 m3 Ls mcA scA txA nrA raA ruA dyA waA seA lwA pA1 pA2 pA3 w2_ ∧ b_pc cI cJ cB cC ph pm1 pm2 pm3 Ls mcB scB txB nrB raB ruB dyB waB seB lwB pB1 pB2 pB3 w3_ ∧ b_ps cI cJ cB cC ps ka Cs nwA zzA kfA w4_ ∧ b_cr cI cJ cB cC cr tkc kc1 kc2 dh dm1 dm2 dm3 Ls w5_ ∧ b_lr cI cJ cB cC lr tkl kl1 kl2 lr1 lr2 lr3 w6_ ∧ b_hd cI cJ cB cC hd hdt hdb hdc hdn hdp hds w7_ ∧ b_pk cI cJ cB cC pk pk1 pk2 w8_ ∧ b_gs cI cJ cB cC gs gs1 gs2 w9_ ∧ b_rf cI cJ cB cC mo aw ai ab ac aP a5 av an ak aW aC ag aT aN aF ts pd ft re fa fw fi fc w10_ ∧ b_ou cI cJ cB cC ou w11_ ∧ cOK Ls Cs ∧ va_P D vwCl [w0_, w1_, w2_, w3_, w4_, w5_, w6_, w7_, w8_, w9_, w10_, w11_, Ls.flatMap (lwC cI), Cs.flatMap (cpC cI cJ)].flatten H ∧ va_D A [w0_, w1_, w2_, w3_, w4_, w5_, w6_, w7_, w8_, w9_, w10_, w11_, Ls.flatMap (lwC cI), Cs.flatMap (cpC cI cJ)].flatten
def kCtx (p : Program) (s : State) (m : MethodId) (meth : Method) (c : Code) (b L : Nat) (xs : Nat → Int32) (A : Nat → Prop) (D : va_G) (cI cJ cB cC : ClassId) : Prop :=
  p.tables.exec = Jvm.exec ∧ c.code = cL_law_ ∧ meth.sig.returnType = ret ∧ c.maxLocals = 8 ∧ s.vm.findClass RL = some m.cls ∧ (∀ w ∈ kG, w.before #[Value.ref b] s = true) ∧ va_X b L xs s s.heap ∧ b < s.heap.size ∧ meth.locks = false ∧ kN s ∧ kEv A s s.heap ∧ va_K D vwCl (kT cI cJ cB cC) s ∧ (∀ q, s.heap.size ≤ q → A q) ∧ (∀ q, A q → s.heap.size ≤ q) ∧ ¬ A b
theorem bm_cp {cI cJ cB cC : ClassId} {h m1 m2 m3 : Nat} {mcA : Int32} {scA : Int32} {txA : Int32} {nrA : Int32} {raA : Int32} {ruA : Int32} {dyA : Int32} {waA : Int32} {seA : Int32} {lwA : Option Nat} {pA1 : Nat → Int32} {pA2 : Nat → Int32} {pA3 : Nat → Int64} {L0 L0' : List LawG} {w : va_W} (hb9 : b_cp cI cJ cB cC h m1 m2 m3 L0 mcA scA txA nrA raA ruA dyA waA seA lwA pA1 pA2 pA3 w) (mo9 : ∀ q ∈ L0, ∃ q' ∈ L0', q'.1 = q.1) : b_cp cI cJ cB cC h m1 m2 m3 L0' mcA scA txA nrA raA ruA dyA waA seA lwA pA1 pA2 pA3 w := by
  obtain ⟨rfl, HlA⟩ := hb9
  exact ⟨rfl, lok_mono HlA mo9⟩
theorem bm_pc {cI cJ cB cC : ClassId} {ph pm1 pm2 pm3 : Nat} {mcB : Int32} {scB : Int32} {txB : Int32} {nrB : Int32} {raB : Int32} {ruB : Int32} {dyB : Int32} {waB : Int32} {seB : Int32} {lwB : Option Nat} {pB1 : Nat → Int32} {pB2 : Nat → Int32} {pB3 : Nat → Int64} {L0 L0' : List LawG} {w : va_W} (hb9 : b_pc cI cJ cB cC ph pm1 pm2 pm3 L0 mcB scB txB nrB raB ruB dyB waB seB lwB pB1 pB2 pB3 w) (mo9 : ∀ q ∈ L0, ∃ q' ∈ L0', q'.1 = q.1) : b_pc cI cJ cB cC ph pm1 pm2 pm3 L0' mcB scB txB nrB raB ruB dyB waB seB lwB pB1 pB2 pB3 w := by
  obtain ⟨rfl, HlB⟩ := hb9
  exact ⟨rfl, lok_mono HlB mo9⟩
theorem bm_cr {cI cJ cB cC : ClassId} {cr tkc kc1 kc2 dh dm1 dm2 dm3 : Nat} {L0 L0' : List LawG} {w : va_W} (hb9 : b_cr cI cJ cB cC cr tkc kc1 kc2 dh dm1 dm2 dm3 L0 w) (mo9 : ∀ q ∈ L0, ∃ q' ∈ L0', q'.1 = q.1) : b_cr cI cJ cB cC cr tkc kc1 kc2 dh dm1 dm2 dm3 L0' w := by
  obtain ⟨aaC, lcC, wrC, szC, eC1, eC2, mcD, scD, txD, nrD, raD, ruD, dyD, waD, seD, lwD, pD1, pD2, pD3, rfl, HlD⟩ := hb9
  exact ⟨aaC, lcC, wrC, szC, eC1, eC2, mcD, scD, txD, nrD, raD, ruD, dyD, waD, seD, lwD, pD1, pD2, pD3, rfl, lok_mono HlD mo9⟩
theorem bm_ps {cI cJ cB cC : ClassId} {ps ka : Nat} {nwA : Int32} {zzA : Int32} {kfA : Nat → Option Nat} {L0 L0' : List CampG} {w : va_W} (hb9 : b_ps cI cJ cB cC ps ka L0 nwA zzA kfA w) (mo9 : ∀ q ∈ L0, ∃ q' ∈ L0', q'.1 = q.1) : b_ps cI cJ cB cC ps ka L0' nwA zzA kfA w := by
  obtain ⟨rfl, H_nwA, H_zzA, HkO⟩ := hb9
  exact ⟨rfl, H_nwA, H_zzA, kok_mono HkO mo9⟩
