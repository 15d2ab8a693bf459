/-! One list of words for all methods. -/
/-- the constructor of NoSuchElementException calls its super by index 13, not 7 (JDK 17): the words of the printed names, put right -/
def kRx : ByteArray := ⟨#[0x2a, 0x2b, 0xb7, 0x00, 0x0d, 0xb1]⟩
def kFix : Cond → Cond
  | .methodLink o i y => if o = "java/util/NoSuchElementException" ∧ i = 7 then .methodLink o 13 y else .methodLink o i y
  | .code y b n r => if y.cls = "java/util/NoSuchElementException" then .code y kRx n r else .code y b n r
  | w => w
def kE0 : List Cond := (vx_atS RX10 99 "java/lang/IllegalArgumentException" ["java/lang/RuntimeException", "java/lang/Exception"]).filter goodWord
def kE1 : List Cond := (vx_atS RX10 109 "java/lang/UnsupportedOperationException" ["java/lang/RuntimeException", "java/lang/Exception"]).filter goodWord
def kE2 : List Cond := (vx_atS RX10 143 "java/lang/IndexOutOfBoundsException" ["java/lang/RuntimeException", "java/lang/Exception"]).filter goodWord
def kE3 : List Cond := ((vx_atS RX10 148 "java/util/NoSuchElementException" ["java/lang/RuntimeException", "java/lang/Exception"]).filter goodWord).map kFix
def kE4 : List Cond := (vx_atS RX10 199 "java/lang/IllegalStateException" ["java/lang/RuntimeException", "java/lang/Exception"]).filter goodWord
def gG : List (List Cond) := [wsL_law_0_r1, wsL_law_0_r2, wsL_law_0_r3, wsL_law_0_r4, wsL_law_0_r5, wsL_law_0_r6, wsL_law_0_r7, wsL_law_0_r8, wsL_law_0_r9, wsL_law_0_r10, wsL_law_0_r11, wsL_law_0_r12, wsL_law_0_r13, wsL_law_0_r14, wsL_law_0_r15, wsL_law_0_r16, wsL_law_0_r17, wsL_law_0_r18, wsL_law_0_r19, wsL_law_0_r20, wsL_law_0_r21, wsL_law_0_r22, wsL_law_0_r23, wsL_law_0_r24, wsL_law_0_r25, wsL_law_0_r26, wsL_law_0_r27, wsL_law_0_r28, wsL_law_0_r29, wsL_law_0_r30, wsL_law_0_r31, wsL_law_0_r32, wsL_law_0_r33, wsL_law_0_r34, wsL_law_0_r35, wsL_law_0_r36, wsL_law_0_r37, wsL_law_0_r38, wsL_law_0_r39, wsL_law_0_r40, wsL_law_0_r41, wsL_law_0_r42, wsL_law_0_r43, wsL_law_0_r44, wsL_law_0_r45, wsL_law_0_r46, wsL_law_0_r47, wsL_law_0_r48, wsL_law_0_r49, wsL_law_0_r50, wsL_law_0_r51, wsL_law_0_r52, wsL_law_0_r53, wsL_law_0_r54, wsL_law_0_r55, wsX100, wsX110, wsX00, wsX70, wsX10, wsX50, wsX30, wsX60, wsX20, wsX90, wsX40, kE0, kE1, kE2, kE3, kE4]
def kG : List Cond := gG.flatten
theorem gC {c : List Cond} (k : Nat) (h : gG[k]? = some c) : ∀ w ∈ c, w ∈ kG := fun _ hw => List.mem_flatten_of_mem (List.mem_of_getElem? h) hw
theorem gIn {w : Cond} {c : List Cond} (k o : Nat) (h : gG[k]? = some c) (h2 : c[o]? = some w) : w ∈ kG := gC k h w (List.mem_of_getElem? h2)
set_option maxRecDepth 20000 in
theorem kGood0 : gG.all (fun c => c.all goodWord) = true := by decide +kernel
theorem kGood : ∀ w ∈ kG, goodWord w = true := fun w h => by
  obtain ⟨c, hc, hw⟩ := List.mem_flatten.mp h
  exact List.all_eq_true.mp (List.all_eq_true.mp kGood0 c hc) w hw
theorem gGG : GoodIn kG kG := fun w h => ⟨h, good_of_word (kGood w h)⟩
theorem gK {w : Cond} {ws : List Cond} (h : w ∈ kG) (g : GoodIn kG ws) : GoodIn kG (w :: ws) := fun v hv => (List.mem_cons.mp hv).elim (fun e => by rw [e]; exact ⟨h, good_of_word (kGood w h)⟩) (g v)
theorem iG_X10 : ∀ w ∈ u_ws RX10 TX10 12, w ∈ kG := gC 55 rfl
theorem iG_X11 : ∀ w ∈ u_ws RX11 TX11 26, w ∈ kG := gC 56 rfl
theorem iG_X0 : ∀ w ∈ u_ws RX0 TX0 13, w ∈ kG := gC 57 rfl
theorem iG_X7 : ∀ w ∈ u_ws RX7 TX7 3, w ∈ kG := gC 58 rfl
theorem iG_X1 : ∀ w ∈ u_ws RX1 TX1 5, w ∈ kG := gC 59 rfl
theorem iG_X5 : ∀ w ∈ u_ws RX5 TX5 8, w ∈ kG := gC 60 rfl
theorem iG_X3 : ∀ w ∈ u_ws RX3 TX3 8, w ∈ kG := gC 61 rfl
theorem iG_X6 : ∀ w ∈ u_ws RX6 TX6 3, w ∈ kG := gC 62 rfl
theorem iG_X2 : ∀ w ∈ u_ws RX2 TX2 2, w ∈ kG := gC 63 rfl
theorem iG_X9 : ∀ w ∈ u_ws RX9 TX9 3, w ∈ kG := gC 64 rfl
theorem iG_X4 : ∀ w ∈ u_ws RX4 TX4 4, w ∈ kG := gC 65 rfl
