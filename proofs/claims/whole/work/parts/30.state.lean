/-! the state that class and reference share -/
abbrev sQ : Type := fZ × Nat × Nat × Nat
abbrev sT : Type := List Int32 × Nat × Nat
abbrev Sg : Type := sQ × List sT × List Int32 × (Bool × sQ) × (Nat → Int32 × Nat × (Nat → Int32))
def gZ (q : Sg) : fZ := q.1.1
def gNe (q : Sg) : Nat := q.1.2.1
def gNg (q : Sg) : Nat := q.1.2.2.1
def gRl (q : Sg) : Nat := q.1.2.2.2
def gTxs (q : Sg) : List sT := q.2.1
def gTp (q : Sg) : List Int32 := q.2.2.1
def gHas (q : Sg) : Bool := q.2.2.2.1.1
def gIm (q : Sg) : sQ := q.2.2.2.1.2
def gSh (q : Sg) : Nat → Int32 × Nat × (Nat → Int32) := q.2.2.2.2
def gT (q : Sg) (t : Nat) : sT := (gTxs q).getD t ([], 0, 0)
/-- what a text says -/
def askT (x : sT) : fAsks := fAsk (fun k => x.1.getD k 0) x.2.1 x.2.2 x.1.length
def gAsk (q : Sg) : fAsks := askT (gT q (gRl q))
theorem evX_stc {nm st st' : Nat → Int32} {a : Nat} : ∀ k, (∀ j, a ≤ j → j < a + k → st j = st' j) → evX nm st a k = evX nm st' a k
  | 0, _ => rfl
  | k + 1, h => by rw [evX, evX, evX_stc k (fun j h1 h2 => h j h1 (by omega)), h (a + k) (by omega) (by omega)]
theorem fAsk_stc {st st' : Nat → Int32} {ta tb tl : Nat} (h1 : ta ≤ tb) (h2 : tb ≤ tl) (h : ∀ j, j < tl → st j = st' j) : fAsk st ta tb tl = fAsk st' ta tb tl := by
  funext pt nm
  unfold fAsk
  rw [evX_stc ta (fun j _ hj => h j (by omega)), evX_stc (tb - ta) (fun j _ hj => h j (by omega)), evX_stc (tl - tb) (fun j _ hj => h j (by omega))]
/-- text t, as it lies -/
def TxI (V : mV) (t : Nat) (x : sT) : Prop := V (110 + 3 * t) 0 = nI t ∧ V (110 + 3 * t) 2 = nI x.2.1 ∧ V (110 + 3 * t) 3 = nI x.2.2 ∧ (∀ k, k < x.1.length → V (111 + 3 * t) k = x.1.getD k 0) ∧ x.2.1 ≤ x.2.2 ∧ x.2.2 ≤ x.1.length ∧ x.1.length ≤ 160
def XSh (sh : Nat → Option mSh) (tx : List sT) : Prop := sh 0 = some sBF ∧ (sh 1 = some sTape ∧ sh 2 = some (mI 160) ∧ sh 3 = some (mI 160)) ∧ sh 4 = some sTexts ∧ sh 5 = some sThought ∧ (sh 6 = some sFit ∧ sh 7 = some sEater) ∧ (sh 8 = some sCover ∧ sh 9 = some (mI 1024)) ∧ (sh 10 = some sSheets ∧ ∀ i, i < 4 → sh (11 + i) = some (sSheet (11 + i)) ∧ sh (15 + i) = some (mI 40)) ∧ (ScOk sh 20 ∧ ScOk sh 50 ∧ ScOk sh 80) ∧ (∀ t, t < tx.length → TxS sh (110 + 3 * t) (tx.getD t ([], 0, 0)).1.length)
/-- a scene, as it lies -/
def ScQ (V : mV) (b : Nat) (q : sQ) : Prop := V b 2 = nI q.2.1 ∧ V b 3 = nI q.2.2.1 ∧ q.2.1 ≤ 5 ∧ q.2.2.1 ≤ 6 ∧ V b 5 = nI q.2.2.2 ∧ q.1 = zv V b q.2.1 q.2.2.1
def XI (sh : Nat → Option mSh) (V : mV) (q : Sg) : Prop := XSh sh (gTxs q) ∧ (V 0 2 = nI (gTxs q).length ∧ 1 ≤ (gTxs q).length ∧ (gTxs q).length ≤ 6) ∧ (V 0 5 = if gHas q = true then nI 1 else nI 0) ∧ (ScQ V 20 q.1 ∧ gRl q < (gTxs q).length) ∧ (ScQ V 50 (gIm q) ∧ (gIm q).2.2.2 < (gTxs q).length) ∧ (∀ t, t < (gTxs q).length → TxI V t (gT q t) ∧ V 4 t = nI 1)
  ∧ (V 1 1 = nI (gTp q).length ∧ (gTp q).length ≤ 160 ∧ ∀ k x, (gTp q)[k]? = some x → V 2 k = x) ∧ (∃ ta, ta ≤ 160 ∧ V 1 4 = nI ta) ∧ V 9 0 = nI 0 ∧ (∀ i, i < 4 → V (11 + i) 0 = (gSh q i).1 ∧ V (11 + i) 1 = nI (gSh q i).2.1 ∧ (gSh q i).2.1 ≤ 40 ∧ ∀ k, k < 40 → V (15 + i) k = (gSh q i).2.2 k)
section XIS
variable {sh : Nat → Option mSh} {V V' : mV} {q : Sg}
theorem XI.sp (h : XI sh V q) : XSh sh (gTxs q) := h.1
theorem XI.tn (h : XI sh V q) : V 0 2 = nI (gTxs q).length ∧ 1 ≤ (gTxs q).length ∧ (gTxs q).length ≤ 6 := h.2.1
theorem XI.has (h : XI sh V q) : V 0 5 = if gHas q = true then nI 1 else nI 0 := h.2.2.1
theorem XI.now (h : XI sh V q) : ScQ V 20 q.1 := h.2.2.2.1.1
theorem XI.rl (h : XI sh V q) : gRl q < (gTxs q).length := h.2.2.2.1.2
theorem XI.im (h : XI sh V q) : ScQ V 50 (gIm q) := h.2.2.2.2.1.1
theorem XI.imr (h : XI sh V q) : (gIm q).2.2.2 < (gTxs q).length := h.2.2.2.2.1.2
theorem XI.tx (h : XI sh V q) : ∀ t, t < (gTxs q).length → TxI V t (gT q t) ∧ V 4 t = nI 1 := h.2.2.2.2.2.1
theorem XI.tp (h : XI sh V q) : V 1 1 = nI (gTp q).length ∧ (gTp q).length ≤ 160 ∧ ∀ k x, (gTp q)[k]? = some x → V 2 k = x := h.2.2.2.2.2.2.1
theorem XI.ta (h : XI sh V q) : ∃ ta, ta ≤ 160 ∧ V 1 4 = nI ta := h.2.2.2.2.2.2.2.1
theorem XI.cov (h : XI sh V q) : V 9 0 = nI 0 := h.2.2.2.2.2.2.2.2.1
theorem XI.shs (h : XI sh V q) : ∀ i, i < 4 → V (11 + i) 0 = (gSh q i).1 ∧ V (11 + i) 1 = nI (gSh q i).2.1 ∧ (gSh q i).2.1 ≤ 40 ∧ ∀ k, k < 40 → V (15 + i) k = (gSh q i).2.2 k := h.2.2.2.2.2.2.2.2.2
theorem ScQ.eq {b : Nat} {q : sQ} (h : ScQ V b q) (h1 : ∀ a, b + 4 ≤ a → a < b + 22 → V' a = V a) (h2 : ∀ k, k < 6 → V' b k = V b k) : ScQ V' b q := by
  obtain ⟨a1, a2, a3, a4, a5, a6⟩ := h
  exact ⟨by rw [h2 2 (by omega)]; exact a1, by rw [h2 3 (by omega)]; exact a2, a3, a4, by rw [h2 5 (by omega)]; exact a5, a6.trans (zv_congr (h2 4 (by omega)) (fun e k he hk => by rw [h1 _ (by omega) (by omega)]) (fun g k hg hk => by rw [h1 _ (by omega) (by omega)]) (fun g k hg hk => by rw [h1 _ (by omega) (by omega)])).symm⟩
theorem XI.txs (h : XI sh V q) {t : Nat} (ht : t < (gTxs q).length) : TxS sh (110 + 3 * t) (gT q t).1.length := h.sp.2.2.2.2.2.2.2.2 t ht
theorem ScQ.sz {b rl : Nat} {z : fZ} {ne ng : Nat} (hq : ScQ V b (z, ne, ng, rl)) (h : XI sh V q) (hb : ScOk sh b) (hr : rl < (gTxs q).length) : SzOk sh V b (110 + 3 * rl) (gT q rl).2.1 (gT q rl).2.2 (gT q rl).1.length ne ng (askT (gT q rl)) z := by
  obtain ⟨a1, a2, a3, a4, a5, a6⟩ := hq
  have hn := h.tn
  obtain ⟨⟨b1, b2, b3, b4, b5, b6, b7⟩, -⟩ := h.tx rl hr
  refine ⟨hb, ⟨a1, a2, a3, a4, ?_, b2, b3, b5, b6, b7⟩, h.txs hr, ?_, a6⟩
  · rw [a5]
    show 110 + 3 * (nI rl).toNatClampNeg = _
    rw [nI_clamp (by omega)]
  · rw [show 110 + 3 * rl + 1 = 111 + 3 * rl by omega]
    exact fAsk_stc b5 b6 (fun j hj => (b4 j hj).symm)
theorem XI.sz (h : XI sh V q) : SzOk sh V 20 (110 + 3 * gRl q) (gT q (gRl q)).2.1 (gT q (gRl q)).2.2 (gT q (gRl q)).1.length (gNe q) (gNg q) (gAsk q) (gZ q) := h.now.sz h h.sp.2.2.2.2.2.2.2.1.1 h.rl
end XIS
/-- what a query may leave otherwise: scratch -/
def XK (V V' : mV) : Prop := (∀ a, a ≠ 3 → a ≠ 5 → a ≠ 6 → a ≠ 7 → a ≠ 9 → a ≠ 20 → a < 80 ∨ 104 ≤ a → V' a = V a) ∧ (∀ k, k < 6 → V' 20 k = V 20 k) ∧ V' 9 0 = V 9 0
theorem XK.rfl (V : mV) : XK V V := ⟨fun _ _ _ _ _ _ _ _ => Eq.refl _, fun _ _ => Eq.refl _, Eq.refl _⟩
theorem XK.trans {V V1 V2 : mV} (h : XK V V1) (h' : XK V1 V2) : XK V V2 := ⟨fun a a1 a2 a3 a4 a5 a6 a7 => (h'.1 a a1 a2 a3 a4 a5 a6 a7).trans (h.1 a a1 a2 a3 a4 a5 a6 a7), fun k hk => (h'.2.1 k hk).trans (h.2.1 k hk), h'.2.2.trans h.2.2⟩
theorem XI.k {sh : Nat → Option mSh} {V V' : mV} {q : Sg} (h : XI sh V q) (hk : XK V V') : XI sh V' q := by
  have hn := h.tn
  have k := fun a a1 a2 a3 a4 a5 a6 a7 => hk.1 a a1 a2 a3 a4 a5 a6 a7
  refine ⟨h.sp, ⟨by rw [k 0 (by omega) (by omega) (by omega) (by omega) (by omega) (by omega) (by omega)]; exact h.tn.1, h.tn.2⟩, by rw [k 0 (by omega) (by omega) (by omega) (by omega) (by omega) (by omega) (by omega)]; exact h.has, ⟨h.now.eq (fun a h1 h2 => k a (by omega) (by omega) (by omega) (by omega) (by omega) (by omega) (by omega)) hk.2.1, h.rl⟩, ⟨h.im.eq (fun a h1 h2 => k a (by omega) (by omega) (by omega) (by omega) (by omega) (by omega) (by omega)) (fun j _ => by rw [k 50 (by omega) (by omega) (by omega) (by omega) (by omega) (by omega) (by omega)]), h.imr⟩, fun t ht => ?_, ?_, ?_, by rw [hk.2.2]; exact h.cov, fun i hi => ?_⟩
  · have e1 := k (110 + 3 * t) (by omega) (by omega) (by omega) (by omega) (by omega) (by omega) (by omega)
    have e2 := k (111 + 3 * t) (by omega) (by omega) (by omega) (by omega) (by omega) (by omega) (by omega)
    have e3 := k 4 (by omega) (by omega) (by omega) (by omega) (by omega) (by omega) (by omega)
    obtain ⟨⟨b1, b2, b3, b4, b5⟩, b6⟩ := h.tx t ht
    exact ⟨⟨by rw [e1]; exact b1, by rw [e1]; exact b2, by rw [e1]; exact b3, by rw [e2]; exact b4, b5⟩, by rw [e3]; exact b6⟩
  · have e1 := k 1 (by omega) (by omega) (by omega) (by omega) (by omega) (by omega) (by omega)
    have e2 := k 2 (by omega) (by omega) (by omega) (by omega) (by omega) (by omega) (by omega)
    rw [e1, e2]
    exact h.tp
  · have e1 := k 1 (by omega) (by omega) (by omega) (by omega) (by omega) (by omega) (by omega)
    rw [e1]
    exact h.ta
  · have e1 := k (11 + i) (by omega) (by omega) (by omega) (by omega) (by omega) (by omega) (by omega)
    have e2 := k (15 + i) (by omega) (by omega) (by omega) (by omega) (by omega) (by omega) (by omega)
    rw [e1, e2]
    exact h.shs i hi
theorem XK.best (V : mV) (x y : Int32) : XK V (mU (mU V 20 6 x) 20 7 y) := ⟨fun a _ _ _ _ _ h _ => by rw [mU_no _ _ h, mU_no _ _ h], fun k hk => by rw [mU_ne _ _ (by omega), mU_ne _ _ (by omega)], by rw [mU_no _ _ (by omega), mU_no _ _ (by omega)]⟩
/-! answers -/
def aCount (q : Sg) (x : Int32) : Int32 := if x = nI 0 then nI (gNe q) else if x = nI 1 then nI (gNg q) else if x = nI 2 then gZ q 0 4 else if x = nI 3 then nI (gTxs q).length else if x = nI 4 then nI (gRl q) else if x = nI 5 then nI (gTp q).length else -2
/-- part k of good g by the view -/
def zPart (z : fZ) (g k : Nat) : Int32 := if k = 10 then z (10 + 2 * g) 1 else if k = 11 then z (10 + 2 * g) 2 else z (11 + 2 * g) k
def aPart (q : Sg) (x y : Int32) : Int32 := if mIn x 0 (gNg q) then (if mIn y 0 12 then zPart (gZ q) x.toNatClampNeg y.toNatClampNeg else -7) else -5
def aTold (q : Sg) (x y : Int32) : Int32 := if mIn x 0 (gNe q) then (if mIn y 0 5 then gZ q (4 + x.toNatClampNeg) y.toNatClampNeg else -7) else -5
def zSp (z : fZ) (i g : Nat) : Int32 := fShape (z (4 + i) 0) (z (4 + i) 1) (z (4 + i) 2) (z (10 + 2 * g) 1)
def aShape (q : Sg) (x y : Int32) : Int32 := if mIn x 0 (gNe q) then (if mIn y 0 (gNg q) then zSp (gZ q) x.toNatClampNeg y.toNatClampNeg else -5) else -5
