/-! orders and duels of all depths -/
theorem c_X8_tryOrders_all (l : Launch) (G : mG) (ad : Nat → Nat) (sh : Nat → Option mSh) (t ta tb tl ne ng : Nat) (ask : fAsks) : ∀ d : Nat, ∀ (V : mV) (z : fZ) (P : Nat → Bool) (tn gn : Nat) (dg ga : Int32), (ThOk sh V t ta tb tl ne ng ask z) → (tn + d = ne) → (gn < 32) → (∀ k, k < 5 → (gn / 2 ^ k % 2 = 0 ↔ P k = false)) → mM l yX8_tryOrders wsX8_tryOrders ({ frames := 20 + 2 * d, cells := 0, slots := 0, locals := 600 + 60 * d } : Room) G ad sh V [.ref (ad 5), .int (nI tn), .int (nI gn), .int dg, .int ga] 0 0 (mPv ad sh (fun V' => (ThFr V V') ∧ ((V' 5 1, V' 5 2) = zOrd ask ne ng d z P dg ga (V 5 1, V 5 2)))) := by
  intro d
  induction d with
  | zero =>
    intro V z P tn gn dg ga hH htn hgn hP
    exact c_X8_tryOrders_0 l G ad sh V t ta tb tl ne ng ask z P 0 tn gn dg ga hH htn hgn hP
  | succ d ih =>
    intro V z P tn gn dg ga hH htn hgn hP
    exact c_X8_tryOrders_s l G ad sh V t ta tb tl ne ng ask z P d tn gn dg ga hH htn hgn hP ih
theorem c_X8_tryDuel_all (l : Launch) (G : mG) (ad : Nat → Nat) (sh : Nat → Option mSh) (t ta tb tl ne ng : Nat) (ask : fAsks) : ∀ n : Nat, n < 100 → ∀ (V : mV) (z : fZ) (i j : Nat), (ThOk sh V t ta tb tl ne ng ask z) → (i < ne) → (j < ne) → mM l yX8_tryDuel wsX8_tryDuel ({ frames := 20 + 2 * n, cells := 0, slots := 0, locals := 600 + 60 * n } : Room) G ad sh V [.ref (ad 5), .ref (ad (80 + 4 + i)), .ref (ad (80 + 4 + j)), .int (nI n)] 0 0 (mPi ad sh (fun r V' => (zDuel ask ng n z i j).1 = r ∧ (ThFr V V') ∧ (n ≠ 0 → V' 5 3 = (zDuel ask ng n z i j).2))) := by
  intro n
  induction n with
  | zero =>
    intro hn V z i j hH hi hj
    exact c_X8_tryDuel_0 l G ad sh V t ta tb tl ne ng ask z 0 i j hH hi hj
  | succ n ih =>
    intro hn V z i j hH hi hj
    exact c_X8_tryDuel_s l G ad sh V t ta tb tl ne ng ask z n i j hH hi hj (by omega) (ih (by omega))
/-! the tape -/
/-- what the reading of a tape has: next, token, where it stands, its number, the fault, the steps -/
abbrev pS : Type := Nat × Int32 × Nat × Int32 × Int32 × List Int32
def TpOk (sh : Nat → Option mSh) (V : mV) (sz : Nat) (B : Nat → Int32) (q : pS) : Prop := (sh 1 = some sTape ∧ sh 2 = some (mI 160) ∧ sh 3 = some (mI 160)) ∧ V 2 = B ∧ sz ≤ 160 ∧ V 1 1 = nI sz ∧ (V 1 2 = nI q.1 ∧ q.1 ≤ sz) ∧ V 1 3 = q.2.1 ∧ (V 1 4 = nI q.2.2.1 ∧ q.2.2.1 ≤ 160) ∧ V 1 5 = q.2.2.2.1 ∧ V 1 6 = q.2.2.2.2.1 ∧ V 1 8 = nI q.2.2.2.2.2.length ∧ q.2.2.2.2.2.length ≤ 160 ∧ (∀ k x, q.2.2.2.2.2[k]? = some x → V 3 k = x)
section TP
variable {sh : Nat → Option mSh} {V : mV} {sz : Nat} {B : Nat → Int32} {q : pS}
theorem TpOk.h1 (h : TpOk sh V sz B q) : sh 1 = some sTape := h.1.1
theorem TpOk.h2 (h : TpOk sh V sz B q) : sh 2 = some (mI 160) := h.1.2.1
theorem TpOk.h3 (h : TpOk sh V sz B q) : sh 3 = some (mI 160) := h.1.2.2
theorem TpOk.by_ (h : TpOk sh V sz B q) : V 2 = B := h.2.1
theorem TpOk.s160 (h : TpOk sh V sz B q) : sz ≤ 160 := h.2.2.1
theorem TpOk.size (h : TpOk sh V sz B q) : V 1 1 = nI sz := h.2.2.2.1
theorem TpOk.nx (h : TpOk sh V sz B q) : V 1 2 = nI q.1 := h.2.2.2.2.1.1
theorem TpOk.nxl (h : TpOk sh V sz B q) : q.1 ≤ sz := h.2.2.2.2.1.2
theorem TpOk.tk (h : TpOk sh V sz B q) : V 1 3 = q.2.1 := h.2.2.2.2.2.1
theorem TpOk.ta (h : TpOk sh V sz B q) : V 1 4 = nI q.2.2.1 := h.2.2.2.2.2.2.1.1
theorem TpOk.tal (h : TpOk sh V sz B q) : q.2.2.1 ≤ 160 := h.2.2.2.2.2.2.1.2
theorem TpOk.nm (h : TpOk sh V sz B q) : V 1 5 = q.2.2.2.1 := h.2.2.2.2.2.2.2.1
theorem TpOk.ft (h : TpOk sh V sz B q) : V 1 6 = q.2.2.2.2.1 := h.2.2.2.2.2.2.2.2.1
theorem TpOk.sc (h : TpOk sh V sz B q) : V 1 8 = nI q.2.2.2.2.2.length := h.2.2.2.2.2.2.2.2.2.1
theorem TpOk.scl (h : TpOk sh V sz B q) : q.2.2.2.2.2.length ≤ 160 := h.2.2.2.2.2.2.2.2.2.2.1
theorem TpOk.st (h : TpOk sh V sz B q) : ∀ k x, q.2.2.2.2.2[k]? = some x → V 3 k = x := h.2.2.2.2.2.2.2.2.2.2.2
theorem TpOk.uNx (h : TpOk sh V sz B q) {n : Nat} (hn : n ≤ sz) : TpOk sh (mU V 1 2 (nI n)) sz B (n, q.2) := by
  obtain ⟨a1, a2, a3, a4, a5, a6, a7, a8, a9, a10, a11, a12⟩ := h
  exact ⟨a1, by rw [mU_no _ _ (by decide)]; exact a2, a3, by rw [mU_ne _ _ (by decide)]; exact a4, ⟨mU_eq _ _ _ _, hn⟩, by rw [mU_ne _ _ (by decide)]; exact a6, ⟨by rw [mU_ne _ _ (by decide)]; exact a7.1, a7.2⟩, by rw [mU_ne _ _ (by decide)]; exact a8, by rw [mU_ne _ _ (by decide)]; exact a9, by rw [mU_ne _ _ (by decide)]; exact a10, a11, by rw [mU_no _ _ (by decide)]; exact a12⟩
theorem TpOk.uTk (h : TpOk sh V sz B q) (x : Int32) : TpOk sh (mU V 1 3 x) sz B (q.1, x, q.2.2) := by
  obtain ⟨a1, a2, a3, a4, a5, a6, a7, a8, a9, a10, a11, a12⟩ := h
  exact ⟨a1, by rw [mU_no _ _ (by decide)]; exact a2, a3, by rw [mU_ne _ _ (by decide)]; exact a4, ⟨by rw [mU_ne _ _ (by decide)]; exact a5.1, a5.2⟩, mU_eq _ _ _ _, ⟨by rw [mU_ne _ _ (by decide)]; exact a7.1, a7.2⟩, by rw [mU_ne _ _ (by decide)]; exact a8, by rw [mU_ne _ _ (by decide)]; exact a9, by rw [mU_ne _ _ (by decide)]; exact a10, a11, by rw [mU_no _ _ (by decide)]; exact a12⟩
theorem TpOk.uTa (h : TpOk sh V sz B q) {n : Nat} (hn : n ≤ 160) : TpOk sh (mU V 1 4 (nI n)) sz B (q.1, q.2.1, n, q.2.2.2) := by
  obtain ⟨a1, a2, a3, a4, a5, a6, a7, a8, a9, a10, a11, a12⟩ := h
  exact ⟨a1, by rw [mU_no _ _ (by decide)]; exact a2, a3, by rw [mU_ne _ _ (by decide)]; exact a4, ⟨by rw [mU_ne _ _ (by decide)]; exact a5.1, a5.2⟩, by rw [mU_ne _ _ (by decide)]; exact a6, ⟨mU_eq _ _ _ _, hn⟩, by rw [mU_ne _ _ (by decide)]; exact a8, by rw [mU_ne _ _ (by decide)]; exact a9, by rw [mU_ne _ _ (by decide)]; exact a10, a11, by rw [mU_no _ _ (by decide)]; exact a12⟩
theorem TpOk.u9 (h : TpOk sh V sz B q) {k : Nat} (x : Int32) (hk : k = 9 ∨ k = 10) : TpOk sh (mU V 1 k x) sz B q := by
  obtain ⟨a1, a2, a3, a4, a5, a6, a7, a8, a9, a10, a11, a12⟩ := h
  exact ⟨a1, by rw [mU_no _ _ (by decide)]; exact a2, a3, by rw [mU_ne _ _ (by omega)]; exact a4, ⟨by rw [mU_ne _ _ (by omega)]; exact a5.1, a5.2⟩, by rw [mU_ne _ _ (by omega)]; exact a6, ⟨by rw [mU_ne _ _ (by omega)]; exact a7.1, a7.2⟩, by rw [mU_ne _ _ (by omega)]; exact a8, by rw [mU_ne _ _ (by omega)]; exact a9, by rw [mU_ne _ _ (by omega)]; exact a10, a11, by rw [mU_no _ _ (by decide)]; exact a12⟩
theorem TpOk.uNm (h : TpOk sh V sz B q) (x : Int32) : TpOk sh (mU V 1 5 x) sz B (q.1, q.2.1, q.2.2.1, x, q.2.2.2.2) := by
  obtain ⟨a1, a2, a3, a4, a5, a6, a7, a8, a9, a10, a11, a12⟩ := h
  exact ⟨a1, by rw [mU_no _ _ (by decide)]; exact a2, a3, by rw [mU_ne _ _ (by decide)]; exact a4, ⟨by rw [mU_ne _ _ (by decide)]; exact a5.1, a5.2⟩, by rw [mU_ne _ _ (by decide)]; exact a6, ⟨by rw [mU_ne _ _ (by decide)]; exact a7.1, a7.2⟩, mU_eq _ _ _ _, by rw [mU_ne _ _ (by decide)]; exact a9, by rw [mU_ne _ _ (by decide)]; exact a10, a11, by rw [mU_no _ _ (by decide)]; exact a12⟩
theorem TpOk.uFt (h : TpOk sh V sz B q) (x : Int32) : TpOk sh (mU V 1 6 x) sz B (q.1, q.2.1, q.2.2.1, q.2.2.2.1, x, q.2.2.2.2.2) := by
  obtain ⟨a1, a2, a3, a4, a5, a6, a7, a8, a9, a10, a11, a12⟩ := h
  exact ⟨a1, by rw [mU_no _ _ (by decide)]; exact a2, a3, by rw [mU_ne _ _ (by decide)]; exact a4, ⟨by rw [mU_ne _ _ (by decide)]; exact a5.1, a5.2⟩, by rw [mU_ne _ _ (by decide)]; exact a6, ⟨by rw [mU_ne _ _ (by decide)]; exact a7.1, a7.2⟩, by rw [mU_ne _ _ (by decide)]; exact a8, mU_eq _ _ _ _, by rw [mU_ne _ _ (by decide)]; exact a10, a11, by rw [mU_no _ _ (by decide)]; exact a12⟩
theorem TpOk.uEm (h : TpOk sh V sz B q) (hl : q.2.2.2.2.2.length < 160) (x : Int32) : TpOk sh (mU (mU V 1 8 (nI (q.2.2.2.2.2.length + 1))) 3 q.2.2.2.2.2.length x) sz B (q.1, q.2.1, q.2.2.1, q.2.2.2.1, q.2.2.2.2.1, q.2.2.2.2.2 ++ [x]) := by
  obtain ⟨a1, a2, a3, a4, a5, a6, a7, a8, a9, a10, a11, a12⟩ := h
  refine ⟨a1, by rw [mU_no _ _ (by decide), mU_no _ _ (by decide)]; exact a2, a3, by rw [mU_no _ _ (by decide), mU_ne _ _ (by decide)]; exact a4, ⟨by rw [mU_no _ _ (by decide), mU_ne _ _ (by decide)]; exact a5.1, a5.2⟩, by rw [mU_no _ _ (by decide), mU_ne _ _ (by decide)]; exact a6, ⟨by rw [mU_no _ _ (by decide), mU_ne _ _ (by decide)]; exact a7.1, a7.2⟩, by rw [mU_no _ _ (by decide), mU_ne _ _ (by decide)]; exact a8, by rw [mU_no _ _ (by decide), mU_ne _ _ (by decide)]; exact a9, by rw [mU_no _ _ (by decide), mU_eq]; simp, by simp; omega, fun k y hy => ?_⟩
  by_cases hk : k = q.2.2.2.2.2.length
  · subst hk
    rw [mU_eq]
    simp at hy
    exact hy
  · rw [mU_ne _ _ (fun z => hk z.2), mU_no _ _ (by decide)]
    refine a12 k y ?_
    rw [List.getElem?_append_left] at hy
    · exact hy
    · have := (List.getElem?_eq_some_iff.mp hy).1
      simp at this
      omega
end TP
def TpFr (V V' : mV) : Prop := (∀ a, a ≠ 1 → a ≠ 3 → V' a = V a) ∧ V' 1 1 = V 1 1 ∧ V' 1 9 = V 1 9 ∧ V' 1 10 = V 1 10
theorem TpFr.rfl (V : mV) : TpFr V V := ⟨fun _ _ _ => Eq.refl _, Eq.refl _, Eq.refl _, Eq.refl _⟩
theorem TpFr.trans {V V1 V2 : mV} (h : TpFr V V1) (h' : TpFr V1 V2) : TpFr V V2 := ⟨fun a h1 h2 => (h'.1 a h1 h2).trans (h.1 a h1 h2), h'.2.1.trans h.2.1, h'.2.2.1.trans h.2.2.1, h'.2.2.2.trans h.2.2.2⟩
theorem TpFr.p1 {V V' : mV} (h : TpFr V V') {k : Nat} (x : Int32) (hk : k ≠ 1 ∧ k ≠ 9 ∧ k ≠ 10) : TpFr V (mU V' 1 k x) := ⟨fun a h1 h2 => by rw [mU_no _ _ h1]; exact h.1 a h1 h2, by rw [mU_ne _ _ (by omega)]; exact h.2.1, by rw [mU_ne _ _ (by omega)]; exact h.2.2.1, by rw [mU_ne _ _ (by omega)]; exact h.2.2.2⟩
theorem TpFr.p3 {V V' : mV} (h : TpFr V V') (k : Nat) (x : Int32) : TpFr V (mU V' 3 k x) := ⟨fun a h1 h2 => by rw [mU_no _ _ h2]; exact h.1 a h1 h2, by rw [mU_no _ _ (by decide)]; exact h.2.1, by rw [mU_no _ _ (by decide)]; exact h.2.2.1, by rw [mU_no _ _ (by decide)]; exact h.2.2.2⟩
/-! what the reading does -/
def pFail (q : pS) : pS := (q.1, -1, q.2.2.1, q.2.2.2.1, if q.2.2.2.2.1 < nI 0 then nI q.2.2.1 else q.2.2.2.2.1, q.2.2.2.2.2)
def pEmit (x : Int32) (q : pS) : pS := (q.1, q.2.1, q.2.2.1, q.2.2.2.1, q.2.2.2.2.1, if q.2.2.2.2.2.length < 160 then q.2.2.2.2.2 ++ [x] else q.2.2.2.2.2)
def fSk (P : Int32 → Bool) (B : Nat → Int32) : Nat → Nat → Nat
  | 0, i => i
  | f + 1, i => if P (B i) = true then fSk P B f (i + 1) else i
/-- behind what has the property -/
def fSpan (P : Int32 → Bool) (B : Nat → Int32) (sz i : Nat) : Nat := fSk P B (sz - i) i
theorem fSpan_s {P : Int32 → Bool} {B : Nat → Int32} {sz i : Nat} (hi : i < sz) (h : P (B i) = true) : fSpan P B sz i = fSpan P B sz (i + 1) := by
  rw [fSpan, show sz - i = (sz - (i + 1)) + 1 by omega, fSk, if_pos h]
  rfl
theorem fSpan_n {P : Int32 → Bool} {B : Nat → Int32} {sz i : Nat} (h : ¬ P (B i) = true) : fSpan P B sz i = i := by
  rw [fSpan]
  cases sz - i with
  | zero => rfl
  | succ n => rw [fSk, if_neg h]
theorem fSpan_e {P : Int32 → Bool} {B : Nat → Int32} {sz i : Nat} (h : sz ≤ i) : fSpan P B sz i = i := by
  rw [fSpan, show sz - i = 0 by omega]
  rfl
theorem fSk_le (P : Int32 → Bool) (B : Nat → Int32) : ∀ f i, i ≤ fSk P B f i ∧ fSk P B f i ≤ i + f
  | 0, i => ⟨Nat.le_refl _, Nat.le_refl _⟩
  | f + 1, i => by
    rw [fSk]
    by_cases h : P (B i) = true
    · rw [if_pos h]
      have := fSk_le P B f (i + 1)
      omega
    · rw [if_neg h]
      omega
theorem fSpan_le (P : Int32 → Bool) (B : Nat → Int32) {sz i : Nat} (h : i ≤ sz) : i ≤ fSpan P B sz i ∧ fSpan P B sz i ≤ sz := by
  have := fSk_le P B (sz - i) i
  rw [fSpan]
  omega
def fWhite (x : Int32) : Bool := decide (x = nI 32 ∨ x = nI 10)
def fLet (x : Int32) : Bool := decide (mIn x 97 123)
def fDig (x : Int32) : Bool := decide (mIn x 48 58)
def fDgs (B : Nat → Int32) : Nat → Nat → Int32 → Int32
  | 0, _, v => v
  | f + 1, i, v => if fDig (B i) = true then fDgs B f (i + 1) (nI 10 * v + B i - nI 48) else v
/-- the number that digits tell -/
def fNum (B : Nat → Int32) (sz i : Nat) (v : Int32) : Int32 := fDgs B (sz - i) i v
theorem fNum_s {B : Nat → Int32} {sz i : Nat} (v : Int32) (hi : i < sz) (h : fDig (B i) = true) : fNum B sz i v = fNum B sz (i + 1) (nI 10 * v + B i - nI 48) := by
  rw [fNum, show sz - i = (sz - (i + 1)) + 1 by omega, fDgs, if_pos h]
  rfl
theorem fNum_n {B : Nat → Int32} {sz i : Nat} (v : Int32) (h : ¬ fDig (B i) = true) : fNum B sz i v = v := by
  rw [fNum]
  cases sz - i with
  | zero => rfl
  | succ n => rw [fDgs, if_neg h]
theorem fNum_e {B : Nat → Int32} {sz i : Nat} (v : Int32) (h : sz ≤ i) : fNum B sz i v = v := by
  rw [fNum, show sz - i = 0 by omega]
  rfl
def pNum (B : Nat → Int32) (sz : Nat) (q : pS) : pS := (fSpan fDig B sz q.1, if 4 < fSpan fDig B sz q.1 - q.2.2.1 then -1 else nI 1, q.2.2.1, fNum B sz q.1 (nI 0), q.2.2.2.2)
set_option maxHeartbeats 4000000 in
set_option maxRecDepth 100000 in
theorem c_X6_size (l : Launch) (G : mG) (ad : Nat → Nat) (sh : Nat → Option mSh) (V : mV) (sz : Nat) (B : Nat → Int32) (q : pS) (hT : TpOk sh V sz B q) : mM l yX6_size wsX6_size ({ frames := 0, cells := 0, slots := 0, locals := 0 } : Room) G ad sh V [.ref (ad 1)] 0 0 (mPe ad sh V (nI sz)) := by
  refine mM.of (cc := cX6_size) (maxL := 1) (ret := (some .int)) (by decide) rfl (Nat.le_of_ble_eq_true rfl) ?_
  intro p e s m below meth c S hr hlk hnm hW ls hl
  obtain ⟨hx, hb, hml, hown, hts⟩ := id S
  have hl : lv_has ls 1 [(0, .ref (ad 1))] := hl
  have hS0 : True := trivial
  refine lv_aload_n hx hb dX6_size_0 rfl (lv_at hl 0 rfl) ?_
  refine m_geti S hW hT.h1 1 rfl kX6 (iW6 _) (by decide) (List.mem_cons_of_mem _ (wa_5 _ (List.mem_of_getElem? (i := 21) (by decide +kernel)))) dX6_size_1 ?_
  refine m_top (y := nI sz) hT.size ?_
  exact m_iret S hr hlk hW dX6_size_4 ⟨rfl, (by rfl)⟩
set_option maxHeartbeats 4000000 in
set_option maxRecDepth 100000 in
theorem c_X6_room (l : Launch) (G : mG) (ad : Nat → Nat) (sh : Nat → Option mSh) (V : mV) (sz : Nat) (B : Nat → Int32) (q : pS) (hT : TpOk sh V sz B q) : mM l yX6_room wsX6_room ({ frames := 0, cells := 0, slots := 0, locals := 0 } : Room) G ad sh V [.ref (ad 1)] 0 0 (mPe ad sh V (nI (160 - sz))) := by
  refine mM.of (cc := cX6_room) (maxL := 1) (ret := (some .int)) (by decide) rfl (Nat.le_of_ble_eq_true rfl) ?_
  intro p e s m below meth c S hr hlk hnm hW ls hl
  obtain ⟨hx, hb, hml, hown, hts⟩ := id S
  have hl : lv_has ls 1 [(0, .ref (ad 1))] := hl
  have hS0 : True := trivial
  have hs1 := hT.s160
  have hn1 := hT.nxl
  have ha1 := hT.tal
  have hc1 := hT.scl
  refine lv_sipush (v := nI 160) hx hb dX6_room_0 (by decide) ?_
  refine lv_aload_n hx hb dX6_room_3 rfl (lv_at hl 0 rfl) ?_
  refine m_geti S hW hT.h1 1 rfl kX6 (iW6 _) (by decide) (List.mem_cons_of_mem _ (wa_5 _ (List.mem_of_getElem? (i := 21) (by decide +kernel)))) dX6_room_4 ?_
  refine m_top (y := nI sz) hT.size ?_
  refine lv_isub hx hb dX6_room_7 ?_
  refine m_top (y := nI (160 - sz)) (pk_sub (by omega)) ?_
  exact m_iret S hr hlk hW dX6_room_8 ⟨rfl, (by rfl)⟩
set_option maxHeartbeats 4000000 in
set_option maxRecDepth 100000 in
theorem c_X6_clear (l : Launch) (G : mG) (ad : Nat → Nat) (sh : Nat → Option mSh) (V : mV) (sz : Nat) (B : Nat → Int32) (q : pS) (hT : TpOk sh V sz B q) : mM l yX6_clear wsX6_clear ({ frames := 0, cells := 0, slots := 0, locals := 0 } : Room) G ad sh V [.ref (ad 1)] 0 0 (mPv ad sh (fun V' => V' = mU V 1 1 (nI 0))) := by
  refine mM.of (cc := cX6_clear) (maxL := 1) (ret := none) (by decide) rfl (Nat.le_of_ble_eq_true rfl) ?_
  intro p e s m below meth c S hr hlk hnm hW ls hl
  obtain ⟨hx, hb, hml, hown, hts⟩ := id S
  have hl : lv_has ls 1 [(0, .ref (ad 1))] := hl
  have hS0 : True := trivial
  refine lv_aload_n hx hb dX6_clear_0 rfl (lv_at hl 0 rfl) ?_
  refine lv_iconst (v := nI 0) hx hb dX6_clear_1 (by decide) ?_
  refine m_puti S hW hT.h1 1 rfl kX6 (iW6 _) tyX6 tyX6_ok nmX6 (by decide) (List.mem_cons_of_mem _ (wa_5 _ (List.mem_of_getElem? (i := 21) (by decide +kernel)))) (Or.inl rfl) rfl rfl dX6_clear_2 (fun H locs hW => ?_)
  obtain ⟨V_1, eV_1⟩ : ∃ z : mV, z = mU V 1 1 (nI 0) := ⟨_, rfl⟩
  rw [← eV_1] at hW
  exact m_vret S hr hlk hW dX6_clear_5 (by simp only [eV_1])
set_option maxHeartbeats 4000000 in
set_option maxRecDepth 100000 in
theorem c_X6_emit (l : Launch) (G : mG) (ad : Nat → Nat) (sh : Nat → Option mSh) (V : mV) (sz : Nat) (B : Nat → Int32) (q : pS) (x : Int32) (hT : TpOk sh V sz B q) : mM l yX6_emit wsX6_emit ({ frames := 0, cells := 0, slots := 0, locals := 0 } : Room) G ad sh V [.ref (ad 1), .int x] 0 0 (mPv ad sh (fun V' => (TpOk sh V' sz B (pEmit x q)) ∧ (TpFr V V'))) := by
  refine mM.of (cc := cX6_emit) (maxL := 2) (ret := none) (by decide) rfl (Nat.le_of_ble_eq_true rfl) ?_
  intro p e s m below meth c S hr hlk hnm hW ls hl
  obtain ⟨hx, hb, hml, hown, hts⟩ := id S
  have hl : lv_has ls 2 [(0, .ref (ad 1)), (1, .int x)] := hl
  have hS0 : True := trivial
  have hs1 := hT.s160
  have hn1 := hT.nxl
  have ha1 := hT.tal
  have hc1 := hT.scl
  refine lv_aload_n hx hb dX6_emit_0 rfl (lv_at hl 0 rfl) ?_
  refine m_geti S hW hT.h1 8 rfl kX6 (iW6 _) (by decide) (List.mem_cons_of_mem _ (wa_6 _ (List.mem_of_getElem? (i := 4) (by decide +kernel)))) dX6_emit_1 ?_
  refine m_top (y := nI q.2.2.2.2.2.length) hT.sc ?_
  refine lv_sipush (v := nI 160) hx hb dX6_emit_4 (by decide) ?_
  refine lv_icmp_ge (tgt := 27) hx hb dX6_emit_7 (by decide) (fun c_1 => ?_) (fun c_1 => ?_)
  · skip
    have c_1 : 160 ≤ q.2.2.2.2.2.length := (nI_leI (by omega) (by omega)).mp c_1
    exact m_vret S hr hlk hW dX6_emit_27 (by rw [pEmit, if_neg (by omega)]; exact ⟨hT, TpFr.rfl V⟩)
  · skip
    have c_1 : ¬ 160 ≤ q.2.2.2.2.2.length := mt (nI_leI (by omega) (by omega)).mpr c_1
    refine lv_aload_n hx hb dX6_emit_10 rfl (lv_at hl 0 rfl) ?_
    refine m_getr S hW hT.h1 7 rfl (j := 3) rfl kX6 (iW6 _) (by decide) (List.mem_cons_of_mem _ (wa_2 _ (List.mem_of_getElem? (i := 21) (by decide +kernel)))) dX6_emit_11 ?_
    refine lv_aload_n hx hb dX6_emit_14 rfl (lv_at hl 0 rfl) ?_
    refine lv_dup hx hb dX6_emit_15 rfl ?_
    refine m_geti S hW hT.h1 8 rfl kX6 (iW6 _) (by decide) (List.mem_cons_of_mem _ (wa_6 _ (List.mem_of_getElem? (i := 4) (by decide +kernel)))) dX6_emit_16 ?_
    refine m_top (y := nI q.2.2.2.2.2.length) hT.sc ?_
    refine lv_dup_x1 hx hb dX6_emit_19 rfl rfl ?_
    refine lv_iconst (v := nI 1) hx hb dX6_emit_20 (by decide) ?_
    refine lv_iadd hx hb dX6_emit_21 ?_
    refine m_top (y := nI (q.2.2.2.2.2.length + 1)) (nI_add q.2.2.2.2.2.length 1) ?_
    refine m_puti S hW hT.h1 8 rfl kX6 (iW6 _) tyX6 tyX6_ok nmX6 (by decide) (List.mem_cons_of_mem _ (wa_6 _ (List.mem_of_getElem? (i := 4) (by decide +kernel)))) (Or.inl rfl) rfl rfl dX6_emit_22 (fun H locs hW => ?_)
    obtain ⟨V_2, eV_2⟩ : ∃ z : mV, z = mU V 1 8 (nI (q.2.2.2.2.2.length + 1)) := ⟨_, rfl⟩
    rw [← eV_2] at hW
    refine lv_iload_n hx hb dX6_emit_25 rfl (lv_at hl 1 rfl) ?_
    refine m_iast S hW hT.h3 q.2.2.2.2.2.length rfl (by omega) (by decide) dX6_emit_26 (fun H locs hW => ?_)
    obtain ⟨V_3, eV_3⟩ : ∃ z : mV, z = mU V_2 3 q.2.2.2.2.2.length (x) := ⟨_, rfl⟩
    rw [← eV_3] at hW
    exact m_vret S hr hlk hW dX6_emit_27 (by rw [pEmit, if_pos (by omega), eV_3, eV_2]; exact ⟨hT.uEm (by omega) x, ((TpFr.rfl V).p1 _ (by decide)).p3 _ _⟩)
set_option maxHeartbeats 4000000 in
set_option maxRecDepth 100000 in
theorem c_X6_fail (l : Launch) (G : mG) (ad : Nat → Nat) (sh : Nat → Option mSh) (V : mV) (sz : Nat) (B : Nat → Int32) (q : pS) (hT : TpOk sh V sz B q) : mM l yX6_fail wsX6_fail ({ frames := 0, cells := 0, slots := 0, locals := 0 } : Room) G ad sh V [.ref (ad 1)] 0 0 (mPv ad sh (fun V' => (TpOk sh V' sz B (pFail q)) ∧ (TpFr V V'))) := by
  refine mM.of (cc := cX6_fail) (maxL := 1) (ret := none) (by decide) rfl (Nat.le_of_ble_eq_true rfl) ?_
  intro p e s m below meth c S hr hlk hnm hW ls hl
  obtain ⟨hx, hb, hml, hown, hts⟩ := id S
  have hl : lv_has ls 1 [(0, .ref (ad 1))] := hl
  have hS0 : True := trivial
  have hs1 := hT.s160
  have hn1 := hT.nxl
  have ha1 := hT.tal
  have hc1 := hT.scl
  refine lv_aload_n hx hb dX6_fail_0 rfl (lv_at hl 0 rfl) ?_
  refine m_geti S hW hT.h1 6 rfl kX6 (iW6 _) (by decide) (List.mem_cons_of_mem _ (wa_6 _ (List.mem_of_getElem? (i := 3) (by decide +kernel)))) dX6_fail_1 ?_
  refine m_top (y := q.2.2.2.2.1) hT.ft ?_
  refine m_if_ge (tgt := 15) hx hb dX6_fail_4 (by decide) (fun c_1 => ?_) (fun c_1 => ?_)
  · skip
    refine lv_aload_n hx hb dX6_fail_15 rfl (lv_at hl 0 rfl) ?_
    refine lv_iconst (v := -1) hx hb dX6_fail_16 (by decide) ?_
    refine m_puti S hW hT.h1 3 rfl kX6 (iW6 _) tyX6 tyX6_ok nmX6 (by decide) (List.mem_cons_of_mem _ (wa_6 _ (List.mem_of_getElem? (i := 7) (by decide +kernel)))) (Or.inl rfl) rfl rfl dX6_fail_17 (fun H locs hW => ?_)
    obtain ⟨V_2, eV_2⟩ : ∃ z : mV, z = mU V 1 3 (-1) := ⟨_, rfl⟩
    rw [← eV_2] at hW
    exact m_vret S hr hlk hW dX6_fail_20 (by rw [pFail, if_neg (Int32.not_lt.mpr c_1), eV_2]; exact ⟨hT.uTk _, (TpFr.rfl V).p1 _ (by decide)⟩)
  · skip
    refine lv_aload_n hx hb dX6_fail_7 rfl (lv_at hl 0 rfl) ?_
    refine lv_aload_n hx hb dX6_fail_8 rfl (lv_at hl 0 rfl) ?_
    refine m_geti S hW hT.h1 4 rfl kX6 (iW6 _) (by decide) (List.mem_cons_of_mem _ (wa_6 _ (List.mem_of_getElem? (i := 12) (by decide +kernel)))) dX6_fail_9 ?_
    refine m_top (y := nI q.2.2.1) hT.ta ?_
    refine m_puti S hW hT.h1 6 rfl kX6 (iW6 _) tyX6 tyX6_ok nmX6 (by decide) (List.mem_cons_of_mem _ (wa_6 _ (List.mem_of_getElem? (i := 3) (by decide +kernel)))) (Or.inl rfl) rfl rfl dX6_fail_12 (fun H locs hW => ?_)
    obtain ⟨V_3, eV_3⟩ : ∃ z : mV, z = mU V 1 6 (nI q.2.2.1) := ⟨_, rfl⟩
    rw [← eV_3] at hW
    refine lv_aload_n hx hb dX6_fail_15 rfl (lv_at hl 0 rfl) ?_
    refine lv_iconst (v := -1) hx hb dX6_fail_16 (by decide) ?_
    refine m_puti S hW hT.h1 3 rfl kX6 (iW6 _) tyX6 tyX6_ok nmX6 (by decide) (List.mem_cons_of_mem _ (wa_6 _ (List.mem_of_getElem? (i := 7) (by decide +kernel)))) (Or.inl rfl) rfl rfl dX6_fail_17 (fun H locs hW => ?_)
    obtain ⟨V_4, eV_4⟩ : ∃ z : mV, z = mU V_3 1 3 (-1) := ⟨_, rfl⟩
    rw [← eV_4] at hW
    exact m_vret S hr hlk hW dX6_fail_20 (by rw [pFail, if_pos (Int32.not_le.mp c_1), eV_4, eV_3]; exact ⟨(hT.uFt _).uTk _, ((TpFr.rfl V).p1 _ (by decide)).p1 _ (by decide)⟩)
set_option maxHeartbeats 4000000 in
set_option maxRecDepth 100000 in
theorem c_X6_mayOpen (l : Launch) (G : mG) (ad : Nat → Nat) (sh : Nat → Option mSh) (V : mV) (sz : Nat) (B : Nat → Int32) (q : pS) (o : Nat) (hT : TpOk sh V sz B q) (ho : o < 100) : mM l yX6_mayOpen wsX6_mayOpen ({ frames := 1, cells := 0, slots := 0, locals := 20 } : Room) G ad sh V [.ref (ad 1), .int (nI o)] 0 0 (mPi ad sh (fun r V' => (nI 1 = r ∧ V' = V ∧ (o < 5)) ∨ (nI 0 = r ∧ (¬ o < 5) ∧ (TpOk sh V' sz B (pFail q)) ∧ (TpFr V V')))) := by
  refine mM.of (cc := cX6_mayOpen) (maxL := 2) (ret := (some .boolean)) (by decide) rfl (Nat.le_of_ble_eq_true rfl) ?_
  intro p e s m below meth c S hr hlk hnm hW ls hl
  obtain ⟨hx, hb, hml, hown, hts⟩ := id S
  have hl : lv_has ls 2 [(0, .ref (ad 1)), (1, .int (nI o))] := hl
  have hS0 : True := trivial
  have hs1 := hT.s160
  have hn1 := hT.nxl
  have ha1 := hT.tal
  have hc1 := hT.scl
  refine lv_iload_n hx hb dX6_mayOpen_0 rfl (lv_at hl 1 rfl) ?_
  refine lv_iconst (v := nI 5) hx hb dX6_mayOpen_1 (by decide) ?_
  refine lv_icmp_lt (tgt := 9) hx hb dX6_mayOpen_2 (by decide) (fun c_1 => ?_) (fun c_1 => ?_)
  · skip
    have c_1 : o < 5 := (nI_ltI (by omega) (by omega)).mp c_1
    refine lv_iload_n hx hb dX6_mayOpen_9 rfl (lv_at hl 1 rfl) ?_
    refine lv_iconst (v := nI 5) hx hb dX6_mayOpen_10 (by decide) ?_
    refine lv_icmp_ge (tgt := 18) hx hb dX6_mayOpen_11 (by decide) (fun c_2 => ?_) (fun c_2 => ?_)
    · skip
      have c_2 : 5 ≤ o := (nI_leI (by omega) (by omega)).mp c_2
      refine lv_iconst (v := nI 0) hx hb dX6_mayOpen_18 (by decide) ?_
      exact m_zret S hr hlk hW rfl dX6_mayOpen_19 (by exfalso; omega)
    · skip
      have c_2 : ¬ 5 ≤ o := mt (nI_leI (by omega) (by omega)).mpr c_2
      refine lv_iconst (v := nI 1) hx hb dX6_mayOpen_14 (by decide) ?_
      refine lv_goto (tgt := 19) hx hb dX6_mayOpen_15 (by decide) ?_
      exact m_zret S hr hlk hW rfl dX6_mayOpen_19 (by exact Or.inl ⟨rfl, rfl, by omega⟩)
  · skip
    have c_1 : ¬ o < 5 := mt (nI_ltI (by omega) (by omega)).mpr c_1
    refine lv_aload_n hx hb dX6_mayOpen_5 rfl (lv_at hl 0 rfl) ?_
    refine m_cv (m_rV S hW (c_X6_fail l G ad sh V sz B q (by first | assumption | omega)) (cwV 0 hts (gCall [.methodLink RX6 66 yX6_fail, .instanceMethod yX6_fail, .selects RX6 yX6_fail yX6_fail, .initialized RX6] (List.forall_mem_cons.mpr ⟨(wa_7 _ (List.mem_of_getElem? (i := 22) (by decide +kernel))), (List.forall_mem_cons.mpr ⟨(wa_7 _ (List.mem_of_getElem? (i := 19) (by decide +kernel))), (List.forall_mem_cons.mpr ⟨(wa_7 _ (List.mem_of_getElem? (i := 20) (by decide +kernel))), (List.forall_mem_cons.mpr ⟨(wa_7 _ (List.mem_of_getElem? (i := 21) (by decide +kernel))), (List.forall_mem_cons.mpr ⟨(wa_1 _ (List.mem_of_getElem? (i := 14) (by decide +kernel))), (fun _ h => absurd h List.not_mem_nil)⟩)⟩)⟩)⟩)⟩)) rfl rfl rfl (by decide +kernel) ⟨Nat.le_of_ble_eq_true rfl, Nat.le_of_ble_eq_true rfl⟩) hT.h1 kX6 rfl hl.1 rfl (Nat.le_of_ble_eq_true rfl) dX6_mayOpen_6 ⟨Nat.le_of_ble_eq_true rfl, Nat.le_of_ble_eq_true rfl⟩) hW (fun V_3 H locs hp_4 hW => ?_)
    obtain ⟨hT_6, hf_7⟩ := hp_4
    refine lv_iload_n hx hb dX6_mayOpen_9 rfl (lv_at hl 1 rfl) ?_
    refine lv_iconst (v := nI 5) hx hb dX6_mayOpen_10 (by decide) ?_
    refine lv_icmp_ge (tgt := 18) hx hb dX6_mayOpen_11 (by decide) (fun c_8 => ?_) (fun c_8 => ?_)
    · skip
      have c_8 : 5 ≤ o := (nI_leI (by omega) (by omega)).mp c_8
      refine lv_iconst (v := nI 0) hx hb dX6_mayOpen_18 (by decide) ?_
      exact m_zret S hr hlk hW rfl dX6_mayOpen_19 (by exact Or.inr ⟨rfl, by omega, hT_6, hf_7⟩)
    · skip
      have c_8 : ¬ 5 ≤ o := mt (nI_leI (by omega) (by omega)).mpr c_8
      refine lv_iconst (v := nI 1) hx hb dX6_mayOpen_14 (by decide) ?_
      refine lv_goto (tgt := 19) hx hb dX6_mayOpen_15 (by decide) ?_
      exact m_zret S hr hlk hW rfl dX6_mayOpen_19 (by exfalso; omega)
set_option maxHeartbeats 4000000 in
set_option maxRecDepth 100000 in
theorem c_X6_isLetter (l : Launch) (G : mG) (ad : Nat → Nat) (sh : Nat → Option mSh) (V : mV) (x : Int32) : mM l yX6_isLetter wsX6_isLetter ({ frames := 1, cells := 0, slots := 0, locals := 22 } : Room) G ad sh V [.int x] 0 0 (mPip ad sh V (fun r => (nI 1 = r ∧ (mIn x 97 123)) ∨ (nI 0 = r ∧ (¬ mIn x 97 123)))) := by
  refine mM.of (cc := cX6_isLetter) (maxL := 1) (ret := (some .boolean)) (by decide) rfl (Nat.le_of_ble_eq_true rfl) ?_
  intro p e s m below meth c S hr hlk hnm hW ls hl
  obtain ⟨hx, hb, hml, hown, hts⟩ := id S
  have hl : lv_has ls 1 [(0, .int x)] := hl
  have hS0 : True := trivial
  refine lv_iload_n hx hb dX6_isLetter_0 rfl (lv_at hl 0 rfl) ?_
  refine lv_bipush (v := nI 97) hx hb dX6_isLetter_1 (by decide) ?_
  refine lv_icmp_lt (tgt := 16) hx hb dX6_isLetter_3 (by decide) (fun c_1 => ?_) (fun c_1 => ?_)
  · skip
    refine lv_iconst (v := nI 0) hx hb dX6_isLetter_16 (by decide) ?_
    have a1 : (nI 97).toInt = 97 := by decide
    have a2 : (nI 122).toInt = 122 := by decide
    simp only [Int32.lt_iff_toInt_lt, Int32.not_lt, Int32.le_iff_toInt_le, a1, a2] at c_1
    exact m_zret S hr hlk hW rfl dX6_isLetter_17 ⟨rfl, (by exact Or.inr ⟨rfl, fun h => by obtain ⟨h1, h2⟩ := h; omega⟩)⟩
  · skip
    refine lv_iload_n hx hb dX6_isLetter_6 rfl (lv_at hl 0 rfl) ?_
    refine lv_bipush (v := nI 122) hx hb dX6_isLetter_7 (by decide) ?_
    refine lv_icmp_gt (tgt := 16) hx hb dX6_isLetter_9 (by decide) (fun c_2 => ?_) (fun c_2 => ?_)
    · skip
      refine lv_iconst (v := nI 0) hx hb dX6_isLetter_16 (by decide) ?_
      have a1 : (nI 97).toInt = 97 := by decide
      have a2 : (nI 122).toInt = 122 := by decide
      simp only [Int32.lt_iff_toInt_lt, Int32.not_lt, Int32.le_iff_toInt_le, a1, a2] at c_1 c_2
      exact m_zret S hr hlk hW rfl dX6_isLetter_17 ⟨rfl, (by exact Or.inr ⟨rfl, fun h => by obtain ⟨h1, h2⟩ := h; omega⟩)⟩
    · skip
      refine lv_iconst (v := nI 1) hx hb dX6_isLetter_12 (by decide) ?_
      refine lv_goto (tgt := 17) hx hb dX6_isLetter_13 (by decide) ?_
      have a1 : (nI 97).toInt = 97 := by decide
      have a2 : (nI 122).toInt = 122 := by decide
      simp only [Int32.lt_iff_toInt_lt, Int32.not_lt, Int32.le_iff_toInt_le, a1, a2] at c_1 c_2
      exact m_zret S hr hlk hW rfl dX6_isLetter_17 ⟨rfl, (by exact Or.inl ⟨rfl, by omega, by omega⟩)⟩
set_option maxHeartbeats 4000000 in
set_option maxRecDepth 100000 in
theorem c_X6_isDigit (l : Launch) (G : mG) (ad : Nat → Nat) (sh : Nat → Option mSh) (V : mV) (x : Int32) : mM l yX6_isDigit wsX6_isDigit ({ frames := 1, cells := 0, slots := 0, locals := 22 } : Room) G ad sh V [.int x] 0 0 (mPip ad sh V (fun r => (nI 1 = r ∧ (mIn x 48 58)) ∨ (nI 0 = r ∧ (¬ mIn x 48 58)))) := by
  refine mM.of (cc := cX6_isDigit) (maxL := 1) (ret := (some .boolean)) (by decide) rfl (Nat.le_of_ble_eq_true rfl) ?_
  intro p e s m below meth c S hr hlk hnm hW ls hl
  obtain ⟨hx, hb, hml, hown, hts⟩ := id S
  have hl : lv_has ls 1 [(0, .int x)] := hl
  have hS0 : True := trivial
  refine lv_iload_n hx hb dX6_isDigit_0 rfl (lv_at hl 0 rfl) ?_
  refine lv_bipush (v := nI 48) hx hb dX6_isDigit_1 (by decide) ?_
  refine lv_icmp_lt (tgt := 16) hx hb dX6_isDigit_3 (by decide) (fun c_1 => ?_) (fun c_1 => ?_)
  · skip
    refine lv_iconst (v := nI 0) hx hb dX6_isDigit_16 (by decide) ?_
    have a1 : (nI 48).toInt = 48 := by decide
    have a2 : (nI 57).toInt = 57 := by decide
    simp only [Int32.lt_iff_toInt_lt, Int32.not_lt, Int32.le_iff_toInt_le, a1, a2] at c_1
    exact m_zret S hr hlk hW rfl dX6_isDigit_17 ⟨rfl, (by exact Or.inr ⟨rfl, fun h => by obtain ⟨h1, h2⟩ := h; omega⟩)⟩
  · skip
    refine lv_iload_n hx hb dX6_isDigit_6 rfl (lv_at hl 0 rfl) ?_
    refine lv_bipush (v := nI 57) hx hb dX6_isDigit_7 (by decide) ?_
    refine lv_icmp_gt (tgt := 16) hx hb dX6_isDigit_9 (by decide) (fun c_2 => ?_) (fun c_2 => ?_)
    · skip
      refine lv_iconst (v := nI 0) hx hb dX6_isDigit_16 (by decide) ?_
      have a1 : (nI 48).toInt = 48 := by decide
      have a2 : (nI 57).toInt = 57 := by decide
      simp only [Int32.lt_iff_toInt_lt, Int32.not_lt, Int32.le_iff_toInt_le, a1, a2] at c_1 c_2
      exact m_zret S hr hlk hW rfl dX6_isDigit_17 ⟨rfl, (by exact Or.inr ⟨rfl, fun h => by obtain ⟨h1, h2⟩ := h; omega⟩)⟩
    · skip
      refine lv_iconst (v := nI 1) hx hb dX6_isDigit_12 (by decide) ?_
      refine lv_goto (tgt := 17) hx hb dX6_isDigit_13 (by decide) ?_
      have a1 : (nI 48).toInt = 48 := by decide
      have a2 : (nI 57).toInt = 57 := by decide
      simp only [Int32.lt_iff_toInt_lt, Int32.not_lt, Int32.le_iff_toInt_le, a1, a2] at c_1 c_2
      exact m_zret S hr hlk hW rfl dX6_isDigit_17 ⟨rfl, (by exact Or.inl ⟨rfl, by omega, by omega⟩)⟩
set_option maxHeartbeats 4000000 in
set_option maxRecDepth 100000 in
theorem c_X6_readNumber (l : Launch) (G : mG) (ad : Nat → Nat) (sh : Nat → Option mSh) (V : mV) (sz : Nat) (B : Nat → Int32) (q : pS) (hT : TpOk sh V sz B q) (hna : q.2.2.1 ≤ q.1) : mM l yX6_readNumber wsX6_readNumber ({ frames := 2, cells := 0, slots := 0, locals := 42 } : Room) G ad sh V [.ref (ad 1)] 0 0 (mPv ad sh (fun V' => (TpOk sh V' sz B (pNum B sz q)) ∧ (TpFr V V'))) := by
  refine mM.of (cc := cX6_readNumber) (maxL := 1) (ret := none) (by decide) rfl (Nat.le_of_ble_eq_true rfl) ?_
  intro p e s m below meth c S hr hlk hnm hW ls hl
  obtain ⟨hx, hb, hml, hown, hts⟩ := id S
  have hl : lv_has ls 1 [(0, .ref (ad 1))] := hl
  have hS0 : True := trivial
  have hs1 := hT.s160
  have hn1 := hT.nxl
  have ha1 := hT.tal
  have hc1 := hT.scl
  refine lv_aload_n hx hb dX6_readNumber_0 rfl (lv_at hl 0 rfl) ?_
  refine lv_iconst (v := nI 0) hx hb dX6_readNumber_1 (by decide) ?_
  refine m_puti S hW hT.h1 5 rfl kX6 (iW6 _) tyX6 tyX6_ok nmX6 (by decide) (List.mem_cons_of_mem _ (wa_7 _ (List.mem_of_getElem? (i := 7) (by decide +kernel)))) (Or.inl rfl) rfl rfl dX6_readNumber_2 (fun H locs hW => ?_)
  obtain ⟨V_1, eV_1⟩ : ∃ z : mV, z = mU V 1 5 (nI 0) := ⟨_, rfl⟩
  rw [← eV_1] at hW
  have loop_5 : ∀ (n_5 : Nat) (q1 : pS) (V1 : mV) (H : Heap) (locs : List Loc) (ls : Array Slot), (q.1 ≤ q1.1) → (TpOk sh V1 sz B q1) → (TpFr V V1) → (fSpan fDig B sz q1.1 = fSpan fDig B sz q.1) → (fNum B sz q1.1 q1.2.2.2.1 = fNum B sz q.1 (nI 0)) → (q1.2.1 = q.2.1 ∧ q1.2.2.1 = q.2.2.1 ∧ q1.2.2.2.2 = q.2.2.2.2) → (sz - q1.1) < n_5 → mC (mA ad sh s.heap.size) s.heap s G ad sh V1 H locs → lv_has ls 1 [(0, .ref (ad 1))] → W p l e ({ frames := 2, cells := 0, slots := 0, locals := 42 } : Room) s m ([.ref (ad 1)] : List Value).toArray below meth c H locs 0 0 (MQ below (mPost G ad sh s.heap.size (mPv ad sh (fun V' => (TpOk sh V' sz B (pNum B sz q)) ∧ (TpFr V V')))) ([.ref (ad 1)] : List Value).toArray s 0 0 (mA ad sh s.heap.size)) (F0 m 5 ls []) := by
    intro n_5
    induction n_5 with
    | zero => intro q1 V1 H locs ls hk hT1 hf1 hsp hnu hres hM_ hW hl; omega
    | succ n_5 ih_5 =>
      intro q1 V1 H locs ls hk hT1 hf1 hsp hnu hres hM_ hW hl
      have hn2 := hT1.nxl
      refine lv_aload_n hx hb dX6_readNumber_5 rfl (lv_at hl 0 rfl) ?_
      refine m_geti S hW hT.h1 2 rfl kX6 (iW6 _) (by decide) (List.mem_cons_of_mem _ (wa_6 _ (List.mem_of_getElem? (i := 2) (by decide +kernel)))) dX6_readNumber_6 ?_
      refine m_top (y := nI q1.1) hT1.nx ?_
      refine lv_aload_n hx hb dX6_readNumber_9 rfl (lv_at hl 0 rfl) ?_
      refine m_geti S hW hT.h1 1 rfl kX6 (iW6 _) (by decide) (List.mem_cons_of_mem _ (wa_5 _ (List.mem_of_getElem? (i := 21) (by decide +kernel)))) dX6_readNumber_10 ?_
      refine m_top (y := nI sz) hT1.size ?_
      refine lv_icmp_ge (tgt := 68) hx hb dX6_readNumber_13 (by decide) (fun c_2 => ?_) (fun c_2 => ?_)
      · skip
        have c_2 : sz ≤ q1.1 := (nI_leI (by omega) (by omega)).mp c_2
        have ha2 := hres.2.1
        refine lv_aload_n hx hb dX6_readNumber_68 rfl (lv_at hl 0 rfl) ?_
        refine lv_aload_n hx hb dX6_readNumber_69 rfl (lv_at hl 0 rfl) ?_
        refine m_geti S hW hT.h1 2 rfl kX6 (iW6 _) (by decide) (List.mem_cons_of_mem _ (wa_6 _ (List.mem_of_getElem? (i := 2) (by decide +kernel)))) dX6_readNumber_70 ?_
        refine m_top (y := nI q1.1) hT1.nx ?_
        refine lv_aload_n hx hb dX6_readNumber_73 rfl (lv_at hl 0 rfl) ?_
        refine m_geti S hW hT.h1 4 rfl kX6 (iW6 _) (by decide) (List.mem_cons_of_mem _ (wa_6 _ (List.mem_of_getElem? (i := 12) (by decide +kernel)))) dX6_readNumber_74 ?_
        refine m_top (y := nI q1.2.2.1) hT1.ta ?_
        refine lv_isub hx hb dX6_readNumber_77 ?_
        refine m_top (y := nI (q1.1 - q1.2.2.1)) (pk_sub (by omega)) ?_
        refine lv_iconst (v := nI 4) hx hb dX6_readNumber_78 (by decide) ?_
        refine lv_icmp_le (tgt := 86) hx hb dX6_readNumber_79 (by decide) (fun c_3 => ?_) (fun c_3 => ?_)
        · skip
          have c_3 : (q1.1 - q1.2.2.1) ≤ 4 := (nI_leI (by omega) (by omega)).mp c_3
          refine lv_iconst (v := nI 1) hx hb dX6_readNumber_86 (by decide) ?_
          refine m_puti S hW hT.h1 3 rfl kX6 (iW6 _) tyX6 tyX6_ok nmX6 (by decide) (List.mem_cons_of_mem _ (wa_6 _ (List.mem_of_getElem? (i := 7) (by decide +kernel)))) (Or.inl rfl) rfl rfl dX6_readNumber_87 (fun H locs hW => ?_)
          obtain ⟨V_4, eV_4⟩ : ∃ z : mV, z = mU V1 1 3 (nI 1) := ⟨_, rfl⟩
          rw [← eV_4] at hW
          have ha : fSpan fDig B sz q.1 = q1.1 := hsp.symm.trans (fSpan_e (by omega))
          have hv : fNum B sz q.1 (nI 0) = q1.2.2.2.1 := hnu.symm.trans (fNum_e _ (by omega))
          have hq1 : q1 = (q1.1, q.2.1, q.2.2.1, q1.2.2.2.1, q.2.2.2.2) := by obtain ⟨r1, r2, r3, r4, r5⟩ := q1; simp only at hres ⊢; rw [hres.1, hres.2.1, hres.2.2]
          have hu := hT1.uTk (if 4 < q1.1 - q.2.2.1 then -1 else nI 1)
          exact m_vret S hr hlk hW dX6_readNumber_90 (by refine ⟨?_, by rw [eV_4]; exact hf1.p1 _ (by decide)⟩; rw [pNum, ha, hv, eV_4]; have hx : (if 4 < q1.1 - q.2.2.1 then (-1 : Int32) else nI 1) = _ := if_neg (by omega); rw [hx] at hu ⊢; rw [hq1] at hu; exact hu)
        · skip
          have c_3 : ¬ (q1.1 - q1.2.2.1) ≤ 4 := mt (nI_leI (by omega) (by omega)).mpr c_3
          refine lv_iconst (v := -1) hx hb dX6_readNumber_82 (by decide) ?_
          refine lv_goto (tgt := 87) hx hb dX6_readNumber_83 (by decide) ?_
          refine m_puti S hW hT.h1 3 rfl kX6 (iW6 _) tyX6 tyX6_ok nmX6 (by decide) (List.mem_cons_of_mem _ (wa_6 _ (List.mem_of_getElem? (i := 7) (by decide +kernel)))) (Or.inl rfl) rfl rfl dX6_readNumber_87 (fun H locs hW => ?_)
          obtain ⟨V_5, eV_5⟩ : ∃ z : mV, z = mU V1 1 3 (-1) := ⟨_, rfl⟩
          rw [← eV_5] at hW
          have ha : fSpan fDig B sz q.1 = q1.1 := hsp.symm.trans (fSpan_e (by omega))
          have hv : fNum B sz q.1 (nI 0) = q1.2.2.2.1 := hnu.symm.trans (fNum_e _ (by omega))
          have hq1 : q1 = (q1.1, q.2.1, q.2.2.1, q1.2.2.2.1, q.2.2.2.2) := by obtain ⟨r1, r2, r3, r4, r5⟩ := q1; simp only at hres ⊢; rw [hres.1, hres.2.1, hres.2.2]
          have hu := hT1.uTk (if 4 < q1.1 - q.2.2.1 then -1 else nI 1)
          exact m_vret S hr hlk hW dX6_readNumber_90 (by refine ⟨?_, by rw [eV_5]; exact hf1.p1 _ (by decide)⟩; rw [pNum, ha, hv, eV_5]; have hx : (if 4 < q1.1 - q.2.2.1 then (-1 : Int32) else nI 1) = _ := if_pos (by omega); rw [hx] at hu ⊢; rw [hq1] at hu; exact hu)
      · skip
        have c_2 : ¬ sz ≤ q1.1 := mt (nI_leI (by omega) (by omega)).mpr c_2
        refine lv_aload_n hx hb dX6_readNumber_16 rfl (lv_at hl 0 rfl) ?_
        refine m_getr S hW hT.h1 0 rfl (j := 2) rfl kX6 (iW6 _) (by decide) (List.mem_cons_of_mem _ (wa_2 _ (List.mem_of_getElem? (i := 20) (by decide +kernel)))) dX6_readNumber_17 ?_
        refine lv_aload_n hx hb dX6_readNumber_20 rfl (lv_at hl 0 rfl) ?_
        refine m_geti S hW hT.h1 2 rfl kX6 (iW6 _) (by decide) (List.mem_cons_of_mem _ (wa_6 _ (List.mem_of_getElem? (i := 2) (by decide +kernel)))) dX6_readNumber_21 ?_
        refine m_top (y := nI q1.1) hT1.nx ?_
        refine m_iald S hW hT.h2 q1.1 rfl (by omega) (by decide) dX6_readNumber_24 ?_
        refine m_cip (m_rS S hW (c_X6_isDigit l G ad sh V1 (V1 2 q1.1)) (va_cwS 1 hts (gCall [.methodLink RX6 110 yX6_isDigit, .static yX6_isDigit, .initialized RX6] (List.forall_mem_cons.mpr ⟨(wa_7 _ (List.mem_of_getElem? (i := 2) (by decide +kernel))), (List.forall_mem_cons.mpr ⟨(wa_7 _ (List.mem_of_getElem? (i := 0) (by decide +kernel))), (List.forall_mem_cons.mpr ⟨(wa_7 _ (List.mem_of_getElem? (i := 1) (by decide +kernel))), (List.forall_mem_cons.mpr ⟨(wa_1 _ (List.mem_of_getElem? (i := 14) (by decide +kernel))), (fun _ h => absurd h List.not_mem_nil)⟩)⟩)⟩)⟩)) rfl rfl rfl (by decide +kernel) ⟨Nat.le_of_ble_eq_true rfl, Nat.le_of_ble_eq_true rfl⟩) rfl hl.1 rfl (Nat.le_of_ble_eq_true rfl) dX6_readNumber_25 ⟨Nat.le_of_ble_eq_true rfl, Nat.le_of_ble_eq_true rfl⟩) hW (fun r_7 H locs hp_6 hW => ?_)
        rcases hp_6 with ⟨rfl, w_8⟩ | ⟨rfl, w_9⟩
        · skip
          refine m_if_eq (tgt := 68) hx hb dX6_readNumber_28 (by decide) (fun c_10 => ?_) (fun c_10 => ?_)
          · exact absurd c_10 (by decide)
          · skip
            refine lv_aload_n hx hb dX6_readNumber_31 rfl (lv_at hl 0 rfl) ?_
            refine lv_bipush (v := nI 10) hx hb dX6_readNumber_32 (by decide) ?_
            refine lv_aload_n hx hb dX6_readNumber_34 rfl (lv_at hl 0 rfl) ?_
            refine m_geti S hW hT.h1 5 rfl kX6 (iW6 _) (by decide) (List.mem_cons_of_mem _ (wa_7 _ (List.mem_of_getElem? (i := 7) (by decide +kernel)))) dX6_readNumber_35 ?_
            refine m_top (y := q1.2.2.2.1) hT1.nm ?_
            refine lv_imul hx hb dX6_readNumber_38 ?_
            refine lv_aload_n hx hb dX6_readNumber_39 rfl (lv_at hl 0 rfl) ?_
            refine m_getr S hW hT.h1 0 rfl (j := 2) rfl kX6 (iW6 _) (by decide) (List.mem_cons_of_mem _ (wa_2 _ (List.mem_of_getElem? (i := 20) (by decide +kernel)))) dX6_readNumber_40 ?_
            refine lv_aload_n hx hb dX6_readNumber_43 rfl (lv_at hl 0 rfl) ?_
            refine m_geti S hW hT.h1 2 rfl kX6 (iW6 _) (by decide) (List.mem_cons_of_mem _ (wa_6 _ (List.mem_of_getElem? (i := 2) (by decide +kernel)))) dX6_readNumber_44 ?_
            refine m_top (y := nI q1.1) hT1.nx ?_
            refine m_iald S hW hT.h2 q1.1 rfl (by omega) (by decide) dX6_readNumber_47 ?_
            refine lv_iadd hx hb dX6_readNumber_48 ?_
            refine lv_bipush (v := nI 48) hx hb dX6_readNumber_49 (by decide) ?_
            refine lv_isub hx hb dX6_readNumber_51 ?_
            refine m_puti S hW hT.h1 5 rfl kX6 (iW6 _) tyX6 tyX6_ok nmX6 (by decide) (List.mem_cons_of_mem _ (wa_7 _ (List.mem_of_getElem? (i := 7) (by decide +kernel)))) (Or.inl rfl) rfl rfl dX6_readNumber_52 (fun H locs hW => ?_)
            obtain ⟨V_11, eV_11⟩ : ∃ z : mV, z = mU V1 1 5 (((((nI 10) * q1.2.2.2.1) + (V1 2 q1.1)) - (nI 48))) := ⟨_, rfl⟩
            rw [← eV_11] at hW
            refine lv_aload_n hx hb dX6_readNumber_55 rfl (lv_at hl 0 rfl) ?_
            refine lv_dup hx hb dX6_readNumber_56 rfl ?_
            refine m_geti S hW hT.h1 2 rfl kX6 (iW6 _) (by decide) (List.mem_cons_of_mem _ (wa_6 _ (List.mem_of_getElem? (i := 2) (by decide +kernel)))) dX6_readNumber_57 ?_
            refine m_top (y := nI q1.1) (by rw [eV_11, mU_ne _ _ (by omega)]; exact hT1.nx) ?_
            refine lv_iconst (v := nI 1) hx hb dX6_readNumber_60 (by decide) ?_
            refine lv_iadd hx hb dX6_readNumber_61 ?_
            refine m_top (y := nI (q1.1 + 1)) (nI_add q1.1 1) ?_
            refine m_puti S hW hT.h1 2 rfl kX6 (iW6 _) tyX6 tyX6_ok nmX6 (by decide) (List.mem_cons_of_mem _ (wa_6 _ (List.mem_of_getElem? (i := 2) (by decide +kernel)))) (Or.inl rfl) rfl rfl dX6_readNumber_62 (fun H locs hW => ?_)
            obtain ⟨V_12, eV_12⟩ : ∃ z : mV, z = mU V_11 1 2 (nI (q1.1 + 1)) := ⟨_, rfl⟩
            rw [← eV_12] at hW
            refine lv_goto (tgt := 5) hx hb dX6_readNumber_65 (by decide) ?_
            exact ih_5  (q1.1 + 1, q1.2.1, q1.2.2.1, nI 10 * q1.2.2.2.1 + B q1.1 - nI 48, q1.2.2.2.2) V_12 _ _ _ (by show q.1 ≤ q1.1 + 1; omega) (by rw [eV_12, eV_11, hT1.by_]; exact (hT1.uNm _).uNx (n := q1.1 + 1) (by omega)) (by rw [eV_12, eV_11]; exact (hf1.p1 _ (by decide)).p1 _ (by decide)) (by have hw : fDig (B q1.1) = true := decide_eq_true (by rw [← hT1.by_]; exact w_8); exact (fSpan_s (by omega) hw).symm.trans hsp) (by have hw : fDig (B q1.1) = true := decide_eq_true (by rw [← hT1.by_]; exact w_8); exact (fNum_s _ (by omega) hw).symm.trans hnu) (by exact hres) (by dsimp only; omega) hW (lv_sub hl [0] rfl)
        · skip
          refine m_if_eq (tgt := 68) hx hb dX6_readNumber_28 (by decide) (fun c_13 => ?_) (fun c_13 => ?_)
          · skip
            have ha2 := hres.2.1
            refine lv_aload_n hx hb dX6_readNumber_68 rfl (lv_at hl 0 rfl) ?_
            refine lv_aload_n hx hb dX6_readNumber_69 rfl (lv_at hl 0 rfl) ?_
            refine m_geti S hW hT.h1 2 rfl kX6 (iW6 _) (by decide) (List.mem_cons_of_mem _ (wa_6 _ (List.mem_of_getElem? (i := 2) (by decide +kernel)))) dX6_readNumber_70 ?_
            refine m_top (y := nI q1.1) hT1.nx ?_
            refine lv_aload_n hx hb dX6_readNumber_73 rfl (lv_at hl 0 rfl) ?_
            refine m_geti S hW hT.h1 4 rfl kX6 (iW6 _) (by decide) (List.mem_cons_of_mem _ (wa_6 _ (List.mem_of_getElem? (i := 12) (by decide +kernel)))) dX6_readNumber_74 ?_
            refine m_top (y := nI q1.2.2.1) hT1.ta ?_
            refine lv_isub hx hb dX6_readNumber_77 ?_
            refine m_top (y := nI (q1.1 - q1.2.2.1)) (pk_sub (by omega)) ?_
            refine lv_iconst (v := nI 4) hx hb dX6_readNumber_78 (by decide) ?_
            refine lv_icmp_le (tgt := 86) hx hb dX6_readNumber_79 (by decide) (fun c_14 => ?_) (fun c_14 => ?_)
            · skip
              have c_14 : (q1.1 - q1.2.2.1) ≤ 4 := (nI_leI (by omega) (by omega)).mp c_14
              refine lv_iconst (v := nI 1) hx hb dX6_readNumber_86 (by decide) ?_
              refine m_puti S hW hT.h1 3 rfl kX6 (iW6 _) tyX6 tyX6_ok nmX6 (by decide) (List.mem_cons_of_mem _ (wa_6 _ (List.mem_of_getElem? (i := 7) (by decide +kernel)))) (Or.inl rfl) rfl rfl dX6_readNumber_87 (fun H locs hW => ?_)
              obtain ⟨V_15, eV_15⟩ : ∃ z : mV, z = mU V1 1 3 (nI 1) := ⟨_, rfl⟩
              rw [← eV_15] at hW
              have hw : ¬ fDig (B q1.1) = true := fun z => w_9 (by rw [hT1.by_]; exact of_decide_eq_true z)
              have ha : fSpan fDig B sz q.1 = q1.1 := hsp.symm.trans (fSpan_n hw)
              have hv : fNum B sz q.1 (nI 0) = q1.2.2.2.1 := hnu.symm.trans (fNum_n _ hw)
              have hq1 : q1 = (q1.1, q.2.1, q.2.2.1, q1.2.2.2.1, q.2.2.2.2) := by obtain ⟨r1, r2, r3, r4, r5⟩ := q1; simp only at hres ⊢; rw [hres.1, hres.2.1, hres.2.2]
              have hu := hT1.uTk (if 4 < q1.1 - q.2.2.1 then -1 else nI 1)
              exact m_vret S hr hlk hW dX6_readNumber_90 (by refine ⟨?_, by rw [eV_15]; exact hf1.p1 _ (by decide)⟩; rw [pNum, ha, hv, eV_15]; have hx : (if 4 < q1.1 - q.2.2.1 then (-1 : Int32) else nI 1) = _ := if_neg (by omega); rw [hx] at hu ⊢; rw [hq1] at hu; exact hu)
            · skip
              have c_14 : ¬ (q1.1 - q1.2.2.1) ≤ 4 := mt (nI_leI (by omega) (by omega)).mpr c_14
              refine lv_iconst (v := -1) hx hb dX6_readNumber_82 (by decide) ?_
              refine lv_goto (tgt := 87) hx hb dX6_readNumber_83 (by decide) ?_
              refine m_puti S hW hT.h1 3 rfl kX6 (iW6 _) tyX6 tyX6_ok nmX6 (by decide) (List.mem_cons_of_mem _ (wa_6 _ (List.mem_of_getElem? (i := 7) (by decide +kernel)))) (Or.inl rfl) rfl rfl dX6_readNumber_87 (fun H locs hW => ?_)
              obtain ⟨V_16, eV_16⟩ : ∃ z : mV, z = mU V1 1 3 (-1) := ⟨_, rfl⟩
              rw [← eV_16] at hW
              have hw : ¬ fDig (B q1.1) = true := fun z => w_9 (by rw [hT1.by_]; exact of_decide_eq_true z)
              have ha : fSpan fDig B sz q.1 = q1.1 := hsp.symm.trans (fSpan_n hw)
              have hv : fNum B sz q.1 (nI 0) = q1.2.2.2.1 := hnu.symm.trans (fNum_n _ hw)
              have hq1 : q1 = (q1.1, q.2.1, q.2.2.1, q1.2.2.2.1, q.2.2.2.2) := by obtain ⟨r1, r2, r3, r4, r5⟩ := q1; simp only at hres ⊢; rw [hres.1, hres.2.1, hres.2.2]
              have hu := hT1.uTk (if 4 < q1.1 - q.2.2.1 then -1 else nI 1)
              exact m_vret S hr hlk hW dX6_readNumber_90 (by refine ⟨?_, by rw [eV_16]; exact hf1.p1 _ (by decide)⟩; rw [pNum, ha, hv, eV_16]; have hx : (if 4 < q1.1 - q.2.2.1 then (-1 : Int32) else nI 1) = _ := if_pos (by omega); rw [hx] at hu ⊢; rw [hq1] at hu; exact hu)
          · exact absurd c_13 (by decide)
  exact loop_5 (sz - (q.1, q.2.1, q.2.2.1, nI 0, q.2.2.2.2).1 + 1) (q.1, q.2.1, q.2.2.1, nI 0, q.2.2.2.2) V_1 _ _ _ (by exact Nat.le_refl _) (by rw [eV_1]; exact hT.uNm _) (by rw [eV_1]; exact (TpFr.rfl V).p1 _ (by decide)) (by rfl) (by rfl) (by exact ⟨rfl, rfl, rfl⟩) (by dsimp only; omega) hW (lv_sub hl [0] rfl)
