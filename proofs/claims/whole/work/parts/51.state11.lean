/-! the reference's state -/
def imV (V : mV) : mV := fun a k => if a = 204 then V 209 k else if a = 201 then V 208 k else if a = 200 ∧ k = 6 then V 210 2 else V a k
def MImg (V : mV) (q : Sg) : Prop := (V 210 0 = nI (gIm q).2.1 ∧ V 210 1 = nI (gIm q).2.2.1 ∧ V 210 2 = (gIm q).1 0 4 ∧ V 210 3 = nI (gIm q).2.2.2) ∧ (gIm q).2.2.2 < (gTxs q).length ∧ (gIm q).2.1 ≤ gNe q ∧ (gIm q).2.2.1 ≤ 6 ∧ (gIm q).1 = mv (imV V) (gIm q).2.1 (gIm q).2.2.1 ∧ ZOk (gIm q).1 (gIm q).2.1 (gIm q).2.2.1
/-- the words, as the reference compares them -/
def wdT : List Int32 := [112, 97, 121, 115, 32, 32, 32, 32, 108, 105, 107, 101, 115, 32, 32, 32, 119, 97, 105, 116, 115, 32, 32, 32, 99, 101, 108, 108, 115, 32, 32, 32, 119, 111, 114, 116, 104, 32, 32, 32, 115, 111, 102, 116, 32, 32, 32, 32, 109, 111, 114, 101, 32, 32, 32, 32, 108, 101, 102, 116, 32, 32, 32, 32, 100, 97, 121, 32, 32, 32, 32, 32, 111, 114, 32, 32, 32, 32, 32, 32, 97, 110, 100, 32, 32, 32, 32, 32, 110, 111, 116, 32, 32, 32, 32, 32]
def MI (sh : Nat → Option mSh) (V : mV) (q : Sg) : Prop := MZ sh V (gZ q) (gNe q) (gNg q) (gRl q) (gT q (gRl q)) ∧ (V 200 11 = nI (gTxs q).length ∧ 1 ≤ (gTxs q).length ∧ (gTxs q).length ≤ 6 ∧ gRl q < (gTxs q).length) ∧ (∀ t, t < (gTxs q).length → MTx V t (gT q t) ∧ WfT (gT q t)) ∧ (V 200 8 = nI (gTp q).length ∧ (gTp q).length ≤ 160 ∧ ∀ k x, (gTp q)[k]? = some x → V 205 k = x) ∧ (V 200 13 = (if gHas q = true then nI 1 else nI 0) ∧ (gHas q = true → MImg V q)) ∧ (∀ i, i < 4 → V 211 i = gSo q i ∧ V 212 i = nI (gSz q i) ∧ gSz q i ≤ 40 ∧ ∀ k, k < 40 → V 213 (40 * i + k) = gCl q i k) ∧ (∀ k, k < 96 → V 215 k = wdT.getD k 0)
section MIS
variable {sh : Nat → Option mSh} {V V' : mV} {q : Sg}
theorem MI.z (h : MI sh V q) : MZ sh V (gZ q) (gNe q) (gNg q) (gRl q) (gT q (gRl q)) := h.1
theorem MI.tn (h : MI sh V q) : V 200 11 = nI (gTxs q).length ∧ 1 ≤ (gTxs q).length ∧ (gTxs q).length ≤ 6 ∧ gRl q < (gTxs q).length := h.2.1
theorem MI.tx (h : MI sh V q) : ∀ t, t < (gTxs q).length → MTx V t (gT q t) ∧ WfT (gT q t) := h.2.2.1
theorem MI.tp (h : MI sh V q) : V 200 8 = nI (gTp q).length ∧ (gTp q).length ≤ 160 ∧ ∀ k x, (gTp q)[k]? = some x → V 205 k = x := h.2.2.2.1
theorem MI.has (h : MI sh V q) : V 200 13 = (if gHas q = true then nI 1 else nI 0) := h.2.2.2.2.1.1
theorem MI.im (h : MI sh V q) : gHas q = true → MImg V q := h.2.2.2.2.1.2
theorem MI.shs (h : MI sh V q) : ∀ i, i < 4 → V 211 i = gSo q i ∧ V 212 i = nI (gSz q i) ∧ gSz q i ≤ 40 ∧ ∀ k, k < 40 → V 213 (40 * i + k) = gCl q i k := h.2.2.2.2.2.1
theorem MI.wd (h : MI sh V q) : ∀ k, k < 96 → V 215 k = wdT.getD k 0 := h.2.2.2.2.2.2
theorem MImg.eq (h : MImg V q) {q' : Sg} (h1 : gIm q' = gIm q) (h2 : (gTxs q).length ≤ (gTxs q').length) (h3 : (gIm q).2.1 ≤ gNe q') (h5 : gNe q ≤ 5) (ha : V' 208 = V 208) (hb : V' 209 = V 209) (hc : V' 210 = V 210) (hk : ∀ e, e < gNe q → V' 202 e = V 202 e ∧ V' 203 e = V 203 e) : MImg V' q' := by
  obtain ⟨⟨a1, a2, a3, a4⟩, a5, a6, a7, a8, a9⟩ := h
  unfold MImg
  rw [h1]
  refine ⟨⟨by rw [hc]; exact a1, by rw [hc]; exact a2, by rw [hc]; exact a3, by rw [hc]; exact a4⟩, Nat.lt_of_lt_of_le a5 h2, h3, a7, ?_, a9⟩
  rw [mv_congr (imV V) (V' := imV V') (by omega) ?_ (fun e he => ⟨?_, ?_⟩) (fun k hk' => ?_) (fun k hk' => ?_)]
  · exact a8
  · show V' 210 2 = V 210 2
    rw [hc]
  · exact (hk e (by omega)).1
  · exact (hk e (by omega)).2
  · show V' 209 k = V 209 k
    rw [hb]
  · show V' 208 k = V 208 k
    rw [ha]
theorem MI.scene (h : MI sh V q) {s' : sQ} (hz : MZ sh V' s'.1 s'.2.1 s'.2.2.1 s'.2.2.2 (gT q s'.2.2.2)) (hr : s'.2.2.2 < (gTxs q).length) (hk : ∀ a, 205 ≤ a → a ≠ 219 → a ≠ 220 → V' a = V a) (h2 : V' 200 8 = V 200 8 ∧ V' 200 11 = V 200 11 ∧ V' 200 13 = V 200 13) (hi : ∀ e, e < gNe q → V' 202 e = V 202 e ∧ V' 203 e = V 203 e) (hn : gHas q = true → (gIm q).2.1 ≤ s'.2.1) : MI sh V' (s', q.2) := by
  have k := fun a h1 h2 h3 => hk a h1 h2 h3
  refine ⟨hz, ⟨by rw [h2.2.1]; exact h.tn.1, h.tn.2.1, h.tn.2.2.1, hr⟩, fun t ht => ⟨(h.tx t ht).1.eq (k 206 (by decide) (by decide) (by decide)) (k 207 (by decide) (by decide) (by decide)), (h.tx t ht).2⟩, ⟨by rw [h2.1]; exact h.tp.1, h.tp.2.1, by rw [k 205 (by decide) (by decide) (by decide)]; exact h.tp.2.2⟩, ⟨by rw [h2.2.2]; exact h.has, fun hh => (h.im hh).eq rfl (Nat.le_refl _) (hn hh) h.z.ne5 (k 208 (by decide) (by decide) (by decide)) (k 209 (by decide) (by decide) (by decide)) (k 210 (by decide) (by decide) (by decide)) hi⟩, fun i hi => ?_, by rw [k 215 (by decide) (by decide) (by decide)]; exact h.wd⟩
  rw [k 211 (by decide) (by decide) (by decide), k 212 (by decide) (by decide) (by decide), k 213 (by decide) (by decide) (by decide)]
  exact h.shs i hi
theorem MI.k (h : MI sh V q) (hk : MK V V') : MI sh V' q := h.scene (s' := q.1) (h.z.k hk) h.tn.2.2.2 (fun a a1 a2 a3 => hk.1 a (by omega) (by omega) (by omega) a2 a3) ⟨hk.2.2.2 8 (by decide) (by decide) (by decide), hk.2.2.2 11 (by decide) (by decide) (by decide), hk.2.2.2 13 (by decide) (by decide) (by decide)⟩ (fun e _ => ⟨by rw [hk.1 202 (by decide) (by decide) (by decide) (by decide) (by decide)], by rw [hk.1 203 (by decide) (by decide) (by decide) (by decide) (by decide)]⟩) (fun hh => (h.im hh).2.2.1)
theorem MK.f {V V' : mV} (h : MK V V') : ∀ a, a < 200 → V' a = V a := fun a ha => h.1 a (by omega) (by omega) (by omega) (by omega) (by omega)
theorem MI.so (h : MI sh V q) {k : Nat} (hk : k < 4) : V 211 k = gSo q k := (h.shs k hk).1
theorem MI.ss (h : MI sh V q) {k : Nat} (hk : k < 4) : V 212 k = nI (gSz q k) := (h.shs k hk).2.1
theorem MI.sl (h : MI sh V q) {k : Nat} (hk : k < 4) : gSz q k ≤ 40 := (h.shs k hk).2.2.1
theorem MI.sc (h : MI sh V q) {k j : Nat} (hk : k < 4) (hj : j < 40) : V 213 (40 * k + j) = gCl q k j := (h.shs k hk).2.2.2 j hj
end MIS
/-! bounds of what is put -/
def zB (a k : Nat) (x : Int32) : Prop := if a = 0 then ∃ d, d < 100 ∧ x = nI d else if a < 10 then (if k = 0 then ∃ d, d < 6 ∧ x = nI d else if k = 1 then ∃ d, d < 10 ∧ x = nI d else if k = 2 then ∃ d, 1 ≤ d ∧ d < 64 ∧ x = nI d else ∃ d, d < 10000 ∧ x = nI d) else if a % 2 = 0 then (if k = 1 then ∃ d, d < 10 ∧ x = nI d else ∃ d, d < 1024 ∧ x = nI d) else ∃ d, d < 100 ∧ x = nI d
theorem zok_to {z : fZ} {ne ng : Nat} (h : ZOk z ne ng) (h5 : ne ≤ 5) {a k : Nat} (hm : zM ne ng a k) : zB a k (z a k) := by
  rcases hm with ⟨rfl, rfl⟩ | ⟨h1, h2, h3⟩ | ⟨h1, h2, ⟨h3, h4⟩ | ⟨h3, h4⟩⟩
  · rw [zB, if_pos rfl]
    exact h.1
  · rw [zB, if_neg (by omega), if_pos (by omega)]
    obtain ⟨e, rfl⟩ : ∃ e, a = 4 + e := ⟨a - 4, by omega⟩
    obtain ⟨g1, g2, g3, g4, g5⟩ := h.2.1 e (by omega)
    match k, h3 with
    | 0, _ => exact g1
    | 1, _ => exact g2
    | 2, _ => exact g3
    | 3, _ => exact g4
    | 4, _ => exact g5
  · rw [zB, if_neg (by omega), if_neg (by omega), if_pos h3]
    obtain ⟨g, rfl⟩ : ∃ g, a = 10 + 2 * g := ⟨(a - 10) / 2, by omega⟩
    obtain ⟨g1, g2, g3⟩ := h.2.2 g (by omega)
    rcases h4 with rfl | rfl
    · exact g1
    · exact g2
  · rw [zB, if_neg (by omega), if_neg (by omega), if_neg (by omega)]
    obtain ⟨g, rfl⟩ : ∃ g, a = 11 + 2 * g := ⟨(a - 11) / 2, by omega⟩
    exact (h.2.2 g (by omega)).2.2 k h4
theorem zok_of {z : fZ} {ne ng : Nat} (h5 : ne ≤ 5) (h : ∀ a k, zM ne ng a k → zB a k (z a k)) : ZOk z ne ng := by
  refine ⟨?_, fun e he => ⟨?_, ?_, ?_, ?_, ?_⟩, fun g hg => ⟨?_, ?_, fun c hc => ?_⟩⟩
  · have := h 0 4 (Or.inl ⟨rfl, rfl⟩)
    rw [zB, if_pos rfl] at this
    exact this
  · have := h (4 + e) 0 (Or.inr (Or.inl (by omega)))
    rw [zB, if_neg (by omega), if_pos (by omega)] at this
    exact this
  · have := h (4 + e) 1 (Or.inr (Or.inl (by omega)))
    rw [zB, if_neg (by omega), if_pos (by omega)] at this
    exact this
  · have := h (4 + e) 2 (Or.inr (Or.inl (by omega)))
    rw [zB, if_neg (by omega), if_pos (by omega)] at this
    exact this
  · have := h (4 + e) 3 (Or.inr (Or.inl (by omega)))
    rw [zB, if_neg (by omega), if_pos (by omega)] at this
    exact this
  · have := h (4 + e) 4 (Or.inr (Or.inl (by omega)))
    rw [zB, if_neg (by omega), if_pos (by omega)] at this
    exact this
  · have := h (10 + 2 * g) 1 (Or.inr (Or.inr (by omega)))
    rw [zB, if_neg (by omega), if_neg (by omega), if_pos (by omega)] at this
    exact this
  · have := h (10 + 2 * g) 2 (Or.inr (Or.inr (by omega)))
    rw [zB, if_neg (by omega), if_neg (by omega), if_pos (by omega)] at this
    exact this
  · have := h (11 + 2 * g) c (Or.inr (Or.inr (by omega)))
    rw [zB, if_neg (by omega), if_neg (by omega), if_neg (by omega)] at this
    exact this
theorem ZOk.put {z : fZ} {ne ng a k : Nat} {x : Int32} (h : ZOk z ne ng) (h5 : ne ≤ 5) (hx : zB a k x) : ZOk (mU z a k x) ne ng := zok_of h5 (fun c j hm => by
  by_cases hc : c = a ∧ j = k
  · obtain ⟨rfl, rfl⟩ := hc
    rw [mU_eq]
    exact hx
  · rw [mU_ne _ _ hc]
    exact zok_to h h5 hm)
theorem MZ.put {sh : Nat → Option mSh} {V : mV} {z : fZ} {ne ng rl : Nat} {x : sT} (h : MZ sh V z ne ng rl x) {a k o i : Nat} (hm : zM ne ng a k) (e1 : (mvL a k).1 = o) (e2 : (mvL a k).2 = i) {y : Int32} (hy : zB a k y) : MZ sh (mU V o i y) (mU z a k y) ne ng rl x ∧ (∀ b, 205 ≤ b ∨ b < 200 → mU V o i y b = V b) ∧ (∀ j, j ≠ 6 → mU V o i y 200 j = V 200 j) := by
  have hne := h.ne5
  have hc := mvL_cases hne hm
  have ho : (o = 200 ∧ i = 6) ∨ (201 ≤ o ∧ o ≤ 204) := by
    rcases hc with ⟨c1, c2, c3, c4⟩ | ⟨c1, c2, c3, c4, c5⟩ | ⟨c1, c2, c3, c4, c5⟩ | ⟨c1, c2, c3, c4, c5, c6⟩ | ⟨g, j, c1, c2⟩ <;> omega
  have f1 : ∀ b, 205 ≤ b ∨ b < 200 → mU V o i y b = V b := fun b hb => mU_no _ _ (by omega)
  have f2 : ∀ j, j ≠ 6 → mU V o i y 200 j = V 200 j := fun j hj => mU_ne _ _ (by omega)
  obtain ⟨a1, ⟨a2, a3, a4⟩, a5, a6, ⟨a7, a8⟩, a9, a10⟩ := h
  refine ⟨⟨a1, ⟨by rw [f2 2 (by decide)]; exact a2, by rw [f2 0 (by decide)]; exact a3, a4⟩, ?_, a6.put hne hy, ⟨by rw [f2 12 (by decide)]; exact a7, a8⟩, a9.eq (f1 206 (by decide)) (f1 207 (by decide)), a10⟩, f1, f2⟩
  have := mv_mU (ng := ng) V hne y hm
  rw [e1, e2] at this
  rw [this, ← a5]
theorem mvL_e {e k : Nat} (he : e < 5) : mvL (4 + e) k = if k = 0 then (202, e) else if k = 1 then (203, e) else (204, 3 * e + (k - 2)) := by rw [mvL, if_neg (by omega), if_pos (by omega), show 4 + e - 4 = e by omega]
theorem mvL_g (g k : Nat) : mvL (10 + 2 * g) k = (201, 12 * g + (9 + k)) := by rw [mvL, if_neg (by omega), if_neg (by omega), if_pos (by omega), show (10 + 2 * g - 10) / 2 = g by omega]
theorem mvL_w (g k : Nat) : mvL (11 + 2 * g) k = (201, 12 * g + k) := by rw [mvL, if_neg (by omega), if_neg (by omega), if_neg (by omega), show (11 + 2 * g - 11) / 2 = g by omega]
theorem MZ.rRow {sh : Nat → Option mSh} {V : mV} {z : fZ} {ne ng rl : Nat} {x : sT} (h : MZ sh V z ne ng rl x) {e k : Nat} (he : e < ne) (h1 : 2 ≤ k) (h2 : k < 5) : V 204 (3 * e + k - 2) = z (4 + e) k := by
  match k, h1, h2 with
  | 2, _, _ => rw [show 3 * e + 2 - 2 = 3 * e by omega]; exact h.iJa he
  | 3, _, _ => rw [show 3 * e + 3 - 2 = 3 * e + 1 by omega]; exact h.rPu he
  | 4, _, _ => rw [show 3 * e + 4 - 2 = 3 * e + 2 by omega]; exact h.rHa he
theorem MZ.rPart {sh : Nat → Option mSh} {V : mV} {z : fZ} {ne ng rl : Nat} {x : sT} (h : MZ sh V z ne ng rl x) {g k : Nat} (hg : g < ng) (hk : k < 12) : V 201 (12 * g + k) = zPart z g k := by
  rw [zPart]
  by_cases h1 : k = 10
  · rw [if_pos h1, h1]; exact h.iSo hg
  · by_cases h2 : k = 11
    · rw [if_neg h1, if_pos h2, h2]; exact h.iLe hg
    · rw [if_neg h1, if_neg h2]; exact h.rWo hg (by omega)
