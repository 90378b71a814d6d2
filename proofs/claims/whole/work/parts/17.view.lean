/-! the one view of a scene, that class and reference share; orders, duels, days on it -/
abbrev fZ : Type := Nat → Nat → Int32
/-- the scene b, so far as it counts: the day at (0, 4), eater e at 4 + e, good g at 10 + 2 g (softness 1, what is left 2), its worths at 11 + 2 g -/
def zv (V : mV) (b ne ng : Nat) : fZ := fun a k => if (a = 0 ∧ k = 4) ∨ (4 ≤ a ∧ a < 4 + ne ∧ k < 5) ∨ (10 ≤ a ∧ a < 10 + 2 * ng ∧ ((a % 2 = 0 ∧ (k = 1 ∨ k = 2)) ∨ (a % 2 = 1 ∧ k < 10))) then V (b + a) k else 0
theorem zv_d (V : mV) (b ne ng : Nat) : zv V b ne ng 0 4 = V b 4 := by rw [zv, if_pos (Or.inl ⟨rfl, rfl⟩)]; rfl
theorem zv_e (V : mV) (b : Nat) {ne e : Nat} (ng : Nat) (k : Nat) (h : e < ne) (hk : k < 5) : zv V b ne ng (4 + e) k = V (b + 4 + e) k := by rw [zv, if_pos (Or.inr (Or.inl (by omega))), show b + (4 + e) = b + 4 + e by omega]
theorem zv_g (V : mV) (b ne : Nat) {ng g : Nat} (k : Nat) (h : g < ng) (hk : k = 1 ∨ k = 2) : zv V b ne ng (10 + 2 * g) k = V (b + 10 + 2 * g) k := by rw [zv, if_pos (Or.inr (Or.inr (by omega))), show b + (10 + 2 * g) = b + 10 + 2 * g by omega]
theorem zv_w (V : mV) (b ne : Nat) {ng g : Nat} (k : Nat) (h : g < ng) (hk : k < 10) : zv V b ne ng (11 + 2 * g) k = V (b + 10 + 2 * g + 1) k := by rw [zv, if_pos (Or.inr (Or.inr (by omega))), show b + (11 + 2 * g) = b + 10 + 2 * g + 1 by omega]
theorem zv_congr {V V' : mV} {b b2 ne ng : Nat} (h4 : V' b2 4 = V b 4) (he : ∀ e k, e < ne → k < 5 → V' (b2 + 4 + e) k = V (b + 4 + e) k) (hg : ∀ g k, g < ng → k = 1 ∨ k = 2 → V' (b2 + 10 + 2 * g) k = V (b + 10 + 2 * g) k) (hw : ∀ g k, g < ng → k < 10 → V' (b2 + 10 + 2 * g + 1) k = V (b + 10 + 2 * g + 1) k) : zv V' b2 ne ng = zv V b ne ng := by
  funext a k
  by_cases h : (a = 0 ∧ k = 4) ∨ (4 ≤ a ∧ a < 4 + ne ∧ k < 5) ∨ (10 ≤ a ∧ a < 10 + 2 * ng ∧ ((a % 2 = 0 ∧ (k = 1 ∨ k = 2)) ∨ (a % 2 = 1 ∧ k < 10)))
  · rw [zv, zv, if_pos h, if_pos h]
    rcases h with ⟨rfl, rfl⟩ | ⟨h1, h2, h3⟩ | ⟨h1, h2, ⟨h3, h4⟩ | ⟨h3, h4⟩⟩
    · exact h4
    · have := he (a - 4) k (by omega) h3
      rw [show b2 + 4 + (a - 4) = b2 + a by omega, show b + 4 + (a - 4) = b + a by omega] at this
      exact this
    · have := hg ((a - 10) / 2) k (by omega) h4
      rw [show b2 + 10 + 2 * ((a - 10) / 2) = b2 + a by omega, show b + 10 + 2 * ((a - 10) / 2) = b + a by omega] at this
      exact this
    · have := hw ((a - 10) / 2) k (by omega) h4
      rw [show b2 + 10 + 2 * ((a - 10) / 2) + 1 = b2 + a by omega, show b + 10 + 2 * ((a - 10) / 2) + 1 = b + a by omega] at this
      exact this
  · rw [zv, zv, if_neg h, if_neg h]
/-! what is told of a scene by its view -/
def zMk (z : fZ) (e g p : Nat) : Int32 := fMark (fShape (z (4 + e) 0) (z (4 + e) 1) (z (4 + e) 2) (z (10 + 2 * g) 1)) (z (10 + 2 * g) 2) (nI p)
def zCo (ask : fAsks) (z : fZ) (e g : Nat) (x : Int32) : Int32 := fCost ask (z (4 + e) 0) (z (4 + e) 1) (z (10 + 2 * g) 1) (z (10 + 2 * g) 2) (z 0 4) (z (11 + 2 * g)) x
def zLi (ask : fAsks) (z : fZ) (e g : Nat) (x : Int32) : Int32 := fLikes ask (z (4 + e) 0) (z (4 + e) 1) (z (10 + 2 * g) 1) (z (10 + 2 * g) 2) (z 0 4) (z (11 + 2 * g)) x 10
def zWa (ask : fAsks) (z : fZ) (e g : Nat) (x : Int32) : Int32 := fWait ask (z (4 + e) 1) (z (10 + 2 * g) 1) (z (10 + 2 * g) 2) (z 0 4) (z (11 + 2 * g)) x
/-- whether a bite can be -/
abbrev zCan (ask : fAsks) (z : fZ) (e g p : Nat) : Prop := ¬ zMk z e g p = nI 0 ∧ ¬ z (4 + e) 3 < zCo ask z e g (zMk z e g p)
/-- what it brings -/
def zGa (ask : fAsks) (z : fZ) (e g p : Nat) : Int32 := zLi ask z e g (zMk z e g p) - zCo ask z e g (zMk z e g p)
/-- the scene behind it -/
def zBi (ask : fAsks) (z : fZ) (e g p : Nat) : fZ := mU (mU (mU z (4 + e) 4 (if nI 9999 < z (4 + e) 4 + zLi ask z e g (zMk z e g p) then nI 9999 else z (4 + e) 4 + zLi ask z e g (zMk z e g p))) (4 + e) 3 (z (4 + e) 3 - zCo ask z e g (zMk z e g p))) (10 + 2 * g) 2 (z (10 + 2 * g) 2 &&& (zMk z e g p ^^^ -1))
/-- the best bite of the first n: how it is told, its gain -/
def zBest (ask : fAsks) (z : fZ) (e : Nat) : Nat → Int32 × Int32
  | 0 => (-1, nI 0)
  | n + 1 => if zCan ask z e (n / 16) (n % 16) ∧ ((zBest ask z e n).1 = -1 ∨ (zBest ask z e n).2 < zGa ask z e (n / 16) (n % 16)) ∧ zWa ask z e (n / 16) (zMk z e (n / 16) (n % 16)) ≤ zGa ask z e (n / 16) (n % 16) then (nI (100 * (n / 16) + n % 16), zGa ask z e (n / 16) (n % 16)) else zBest ask z e n
theorem zBest_range (ask : fAsks) (z : fZ) (e : Nat) : ∀ n, (zBest ask z e n = (-1, nI 0)) ∨ ∃ gg pp, 16 * gg + pp < n ∧ pp < 16 ∧ zBest ask z e n = (nI (100 * gg + pp), zGa ask z e gg pp) ∧ zCan ask z e gg pp
  | 0 => Or.inl rfl
  | n + 1 => by
    rw [zBest]
    by_cases h : zCan ask z e (n / 16) (n % 16) ∧ ((zBest ask z e n).1 = -1 ∨ (zBest ask z e n).2 < zGa ask z e (n / 16) (n % 16)) ∧ zWa ask z e (n / 16) (zMk z e (n / 16) (n % 16)) ≤ zGa ask z e (n / 16) (n % 16)
    · rw [if_pos h]
      exact Or.inr ⟨n / 16, n % 16, by omega, Nat.mod_lt _ (by omega), rfl, h.1⟩
    · rw [if_neg h]
      rcases zBest_range ask z e n with h1 | ⟨gg, pp, h1, h2, h3, h4⟩
      · exact Or.inl h1
      · exact Or.inr ⟨gg, pp, by omega, h2, h3, h4⟩
theorem fWorth_congr {w w' : Nat → Int32} (x : Int32) : ∀ n, (∀ c, c < n → w c = w' c) → fWorth w x n = fWorth w' x n
  | 0, _ => rfl
  | n + 1, h => by rw [fWorth, fWorth, fWorth_congr x n (fun c hc => h c (by omega)), h n (by omega)]
theorem fLikes_congr (ask : fAsks) (k mo so lf day : Int32) {w w' : Nat → Int32} (x : Int32) : ∀ n, (∀ c, c < n → w c = w' c) → fLikes ask k mo so lf day w x n = fLikes ask k mo so lf day w' x n
  | 0, _ => rfl
  | n + 1, h => by rw [fLikes, fLikes, fLikes_congr ask k mo so lf day x n (fun c hc => h c (by omega)), h n (by omega)]
section ZV
variable (ask : fAsks) (V : mV) (b : Nat) {ne ng e g : Nat}
theorem zMk_v (he : e < ne) (hg : g < ng) (p : Nat) : zMk (zv V b ne ng) e g p = fMark (fShape (V (b + 4 + e) 0) (V (b + 4 + e) 1) (V (b + 4 + e) 2) (V (b + 10 + 2 * g) 1)) (V (b + 10 + 2 * g) 2) (nI p) := by
  rw [zMk, zv_e V b ng 0 he (by omega), zv_e V b ng 1 he (by omega), zv_e V b ng 2 he (by omega), zv_g V b ne 1 hg (Or.inl rfl), zv_g V b ne 2 hg (Or.inr rfl)]
theorem zCo_v (he : e < ne) (hg : g < ng) (x : Int32) : zCo ask (zv V b ne ng) e g x = fCost ask (V (b + 4 + e) 0) (V (b + 4 + e) 1) (V (b + 10 + 2 * g) 1) (V (b + 10 + 2 * g) 2) (V b 4) (V (b + 10 + 2 * g + 1)) x := by
  rw [zCo, zv_e V b ng 0 he (by omega), zv_e V b ng 1 he (by omega), zv_g V b ne 1 hg (Or.inl rfl), zv_g V b ne 2 hg (Or.inr rfl), zv_d, fCost, fCost, fWorth_congr x 10 (fun c hc => zv_w V b ne c hg hc)]
theorem zLi_v (he : e < ne) (hg : g < ng) (x : Int32) : zLi ask (zv V b ne ng) e g x = fLikes ask (V (b + 4 + e) 0) (V (b + 4 + e) 1) (V (b + 10 + 2 * g) 1) (V (b + 10 + 2 * g) 2) (V b 4) (V (b + 10 + 2 * g + 1)) x 10 := by
  rw [zLi, zv_e V b ng 0 he (by omega), zv_e V b ng 1 he (by omega), zv_g V b ne 1 hg (Or.inl rfl), zv_g V b ne 2 hg (Or.inr rfl), zv_d, fLikes_congr ask _ _ _ _ _ x 10 (fun c hc => zv_w V b ne c hg hc)]
theorem zWa_v (he : e < ne) (hg : g < ng) (x : Int32) : zWa ask (zv V b ne ng) e g x = fWait ask (V (b + 4 + e) 1) (V (b + 10 + 2 * g) 1) (V (b + 10 + 2 * g) 2) (V b 4) (V (b + 10 + 2 * g + 1)) x := by
  rw [zWa, zv_e V b ng 1 he (by omega), zv_g V b ne 1 hg (Or.inl rfl), zv_g V b ne 2 hg (Or.inr rfl), zv_d, fWait, fWait, fWorth_congr x 10 (fun c hc => zv_w V b ne c hg hc)]
theorem zBi_v (he : e < ne) (hg : g < ng) (p : Nat) (hne : ne ≤ 5) {x wo co : Int32} (hx : x = zMk (zv V b ne ng) e g p) (hw : wo = zLi ask (zv V b ne ng) e g x) (hc : co = zCo ask (zv V b ne ng) e g x) : zv (fBite V b (b + 4 + e) (b + 10 + 2 * g) x wo co) b ne ng = zBi ask (zv V b ne ng) e g p := by
  have hz : zv V b ne ng (4 + e) 4 = V (b + 4 + e) 4 := zv_e V b ng 4 he (by omega)
  have hz3 : zv V b ne ng (4 + e) 3 = V (b + 4 + e) 3 := zv_e V b ng 3 he (by omega)
  have hz2 : zv V b ne ng (10 + 2 * g) 2 = V (b + 10 + 2 * g) 2 := zv_g V b ne 2 hg (Or.inr rfl)
  rw [zBi, ← hx, ← hw, ← hc, hz, hz3, hz2]
  funext a k
  simp only [zv, fBite, mU]
  by_cases h1 : a = 10 + 2 * g ∧ k = 2
  · rw [if_pos (Or.inr (Or.inr (by omega))), if_pos (by omega), if_pos h1]
  · by_cases h2 : a = 4 + e ∧ k = 3
    · rw [if_pos (Or.inr (Or.inl (by omega))), if_neg (by omega), if_pos (by omega), if_neg h1, if_pos h2]
    · by_cases h3 : a = 4 + e ∧ k = 4
      · rw [if_pos (Or.inr (Or.inl (by omega))), if_neg (by omega), if_neg (by omega), if_pos (by omega), if_neg h1, if_neg h2, if_pos h3]
      · rw [if_neg h1, if_neg h2, if_neg h3]
        by_cases h : (a = 0 ∧ k = 4) ∨ (4 ≤ a ∧ a < 4 + ne ∧ k < 5) ∨ (10 ≤ a ∧ a < 10 + 2 * ng ∧ ((a % 2 = 0 ∧ (k = 1 ∨ k = 2)) ∨ (a % 2 = 1 ∧ k < 10)))
        · rw [if_pos h, if_pos h, if_neg (by omega), if_neg (by omega), if_neg (by omega), if_neg (by omega)]
        · rw [if_neg h, if_neg h]
end ZV
theorem zBest_v (ask : fAsks) (V : mV) (b : Nat) {ne ng e : Nat} (he : e < ne) : ∀ n, n ≤ ng * 16 → zBest ask (zv V b ne ng) e n = fBest ask (V (b + 4 + e) 0) (V (b + 4 + e) 1) (V (b + 4 + e) 2) (V (b + 4 + e) 3) (V b 4) (fun g => V (b + 10 + 2 * g) 1) (fun g => V (b + 10 + 2 * g) 2) (fun g => V (b + 10 + 2 * g + 1)) n
  | 0, _ => rfl
  | n + 1, h => by
    have hg : n / 16 < ng := by omega
    rw [zBest, fBest, zBest_v ask V b he n (by omega)]
    generalize fBest ask (V (b + 4 + e) 0) (V (b + 4 + e) 1) (V (b + 4 + e) 2) (V (b + 4 + e) 3) (V b 4) (fun g => V (b + 10 + 2 * g) 1) (fun g => V (b + 10 + 2 * g) 2) (fun g => V (b + 10 + 2 * g + 1)) n = q
    unfold zCan zGa
    rw [zMk_v V b he hg, zCo_v ask V b he hg, zLi_v ask V b he hg, zWa_v ask V b he hg, zv_e V b ng 3 he (by omega), fPick]
    generalize fMark (fShape (V (b + 4 + e) 0) (V (b + 4 + e) 1) (V (b + 4 + e) 2) (V (b + 10 + 2 * (n / 16)) 1)) (V (b + 10 + 2 * (n / 16)) 2) (nI (n % 16)) = x
    by_cases h1 : x = nI 0
    · rw [if_pos h1, if_neg (fun z => z.1.1 h1)]
    · rw [if_neg h1]
      generalize fCost ask (V (b + 4 + e) 0) (V (b + 4 + e) 1) (V (b + 10 + 2 * (n / 16)) 1) (V (b + 10 + 2 * (n / 16)) 2) (V b 4) (V (b + 10 + 2 * (n / 16) + 1)) x = co
      by_cases h2 : V (b + 4 + e) 3 < co
      · rw [if_pos h2, if_neg (fun z => z.1.2 h2)]
      · rw [if_neg h2]
        by_cases h3 : (q.1 = -1 ∨ q.2 < fLikes ask (V (b + 4 + e) 0) (V (b + 4 + e) 1) (V (b + 10 + 2 * (n / 16)) 1) (V (b + 10 + 2 * (n / 16)) 2) (V b 4) (V (b + 10 + 2 * (n / 16) + 1)) x 10 - co) ∧ fWait ask (V (b + 4 + e) 1) (V (b + 10 + 2 * (n / 16)) 1) (V (b + 10 + 2 * (n / 16)) 2) (V b 4) (V (b + 10 + 2 * (n / 16) + 1)) x ≤ fLikes ask (V (b + 4 + e) 0) (V (b + 4 + e) 1) (V (b + 10 + 2 * (n / 16)) 1) (V (b + 10 + 2 * (n / 16)) 2) (V b 4) (V (b + 10 + 2 * (n / 16) + 1)) x 10 - co
        · rw [if_pos h3, if_pos ⟨⟨h1, h2⟩, h3⟩]
        · rw [if_neg h3, if_neg (fun z => h3 z.2)]
