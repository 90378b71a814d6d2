/-! what changes the scene of now -/
def gN (q : Sg) (z : fZ) (ne ng rl : Nat) : Sg := ((z, ne, ng, rl), q.2)
def aSet (q : Sg) (x : Int32) : Int32 := if mIn x 0 100 then gZ q 0 4 else -7
def nSet (q : Sg) (x : Int32) : Sg := if mIn x 0 100 then gN q (mU (gZ q) 0 4 x) (gNe q) (gNg q) (gRl q) else q
def zPut (z : fZ) (g k : Nat) (x : Int32) : fZ := if k = 10 then mU z (10 + 2 * g) 1 x else if k = 11 then mU z (10 + 2 * g) 2 x else mU z (11 + 2 * g) k x
def zMost (k : Nat) : Nat := if k = 10 then 9 else if k = 11 then 1023 else 99
theorem fMost_nI : ∀ k, k < 12 → fMost (nI k) = nI (zMost k) := by decide +kernel
theorem zMost_le (k : Nat) : zMost k < 1024 := by
  unfold zMost
  split
  · decide
  · split <;> decide
def aPut (q : Sg) (x y v : Int32) : Int32 := if mIn x 0 (gNg q) then (if mIn y 0 12 then (if mIn v 0 (zMost y.toNatClampNeg + 1) then zPart (gZ q) x.toNatClampNeg y.toNatClampNeg else -7) else -7) else -5
def nPut (q : Sg) (x y v : Int32) : Sg := if mIn x 0 (gNg q) then (if mIn y 0 12 then (if mIn v 0 (zMost y.toNatClampNeg + 1) then gN q (zPut (gZ q) x.toNatClampNeg y.toNatClampNeg v) (gNe q) (gNg q) (gRl q) else q) else q) else q
def zAddG (z : fZ) (ng : Nat) (x y : Int32) : fZ := fun a k => if a = 10 + 2 * ng ∧ k = 1 then x else if a = 10 + 2 * ng ∧ k = 2 then nI 1023 else if a = 11 + 2 * ng ∧ k < 10 then y else z a k
def zAddE (z : fZ) (ne : Nat) (x y w : Int32) : fZ := mU (mU (mU (mU (mU z (4 + ne) 0 x) (4 + ne) 1 y) (4 + ne) 2 w) (4 + ne) 3 (nI 100)) (4 + ne) 4 (nI 0)
def aGood (q : Sg) (x y : Int32) : Int32 := if mIn x 0 10 then (if mIn y 0 100 then (if gNg q = 6 then -4 else nI (gNg q)) else -2) else -2
def nGood (q : Sg) (x y : Int32) : Sg := if mIn x 0 10 then (if mIn y 0 100 then (if gNg q = 6 then q else gN q (zAddG (gZ q) (gNg q) x y) (gNe q) (gNg q + 1) (gRl q)) else q) else q
def aEater (q : Sg) (x y : Int32) : Int32 := if mIn x 0 60 then (if mIn y 1 64 then (if gNe q = 5 then -4 else nI (gNe q)) else -2) else -2
def nEater (q : Sg) (x y : Int32) : Sg := if mIn x 0 60 then (if mIn y 1 64 then (if gNe q = 5 then q else gN q (zAddE (gZ q) (gNe q) (nI (x.toNatClampNeg / 10)) (nI (x.toNatClampNeg % 10)) y) (gNe q + 1) (gNg q) (gRl q)) else q) else q
def aLend (q : Sg) (x w v : Int32) : Int32 := if mIn x 0 (gNe q) then (if w = nI 0 then (if mIn v 1 64 then gZ q (4 + x.toNatClampNeg) 2 else -7) else if w = nI 1 then (if mIn v 0 10000 then gZ q (4 + x.toNatClampNeg) 3 else -7) else -7) else -5
def nLend (q : Sg) (x w v : Int32) : Sg := if mIn x 0 (gNe q) then (if w = nI 0 then (if mIn v 1 64 then gN q (mU (gZ q) (4 + x.toNatClampNeg) 2 v) (gNe q) (gNg q) (gRl q) else q) else if w = nI 1 then (if mIn v 0 10000 then gN q (mU (gZ q) (4 + x.toNatClampNeg) 3 v) (gNe q) (gNg q) (gRl q) else q) else q) else q
def aBite (q : Sg) (x y pl : Int32) : Int32 := if mIn x 0 (gNe q) then (if mIn y 0 (gNg q) then (if mIn pl 0 16 then (if zMk (gZ q) x.toNatClampNeg y.toNatClampNeg pl.toNatClampNeg = nI 0 then -3 else if gZ q (4 + x.toNatClampNeg) 3 < zCo (gAsk q) (gZ q) x.toNatClampNeg y.toNatClampNeg (zMk (gZ q) x.toNatClampNeg y.toNatClampNeg pl.toNatClampNeg) then -4 else zCo (gAsk q) (gZ q) x.toNatClampNeg y.toNatClampNeg (zMk (gZ q) x.toNatClampNeg y.toNatClampNeg pl.toNatClampNeg)) else -7) else -5) else -5
def nBite (q : Sg) (x y pl : Int32) : Sg := if mIn x 0 (gNe q) then (if mIn y 0 (gNg q) then (if mIn pl 0 16 then (if zMk (gZ q) x.toNatClampNeg y.toNatClampNeg pl.toNatClampNeg = nI 0 then q else if gZ q (4 + x.toNatClampNeg) 3 < zCo (gAsk q) (gZ q) x.toNatClampNeg y.toNatClampNeg (zMk (gZ q) x.toNatClampNeg y.toNatClampNeg pl.toNatClampNeg) then q else gN q (zBi (gAsk q) (gZ q) x.toNatClampNeg y.toNatClampNeg pl.toNatClampNeg) (gNe q) (gNg q) (gRl q)) else q) else q) else q
def aForce (q : Sg) (x : Int32) : Int32 := if mIn x 0 (gTxs q).length then nI (gRl q) else -2
def nForce (q : Sg) (x : Int32) : Sg := if mIn x 0 (gTxs q).length then gN q (gZ q) (gNe q) (gNg q) x.toNatClampNeg else q
def nImage (q : Sg) : Sg := (q.1, q.2.1, q.2.2.1, (true, q.1), q.2.2.2.2)
def aBack (q : Sg) : Int32 := if gHas q = true then nI (gIm q).2.1 else -3
def nBack (q : Sg) : Sg := if gHas q = true then (gIm q, q.2) else q
section XCH
variable {sh : Nat → Option mSh} {V : mV} {q : Sg}
/-- one int of what counts is put -/
theorem ScQ.put {b : Nat} {z : fZ} {ne ng rl : Nat} (h : ScQ V b (z, ne, ng, rl)) {a k : Nat} (x : Int32) (hm : zM ne ng a k) : ScQ (mU V (b + a) k x) b (mU z a k x, ne, ng, rl) := by
  obtain ⟨a1, a2, a3, a4, a5, a6⟩ := h
  have a3' : ne ≤ 5 := a3
  refine ⟨by rw [mU_ne _ _ (by omega)]; exact a1, by rw [mU_ne _ _ (by omega)]; exact a2, a3, a4, by rw [mU_ne _ _ (by omega)]; exact a5, ?_⟩
  show mU z a k x = _
  rw [show z = zv V b ne ng from a6]
  exact (zv_mU x hm).symm
theorem XI.put (h : XI sh V q) {a k : Nat} (x : Int32) (hm : zM (gNe q) (gNg q) a k) : XI sh (mU V (20 + a) k x) (gN q (mU (gZ q) a k x) (gNe q) (gNg q) (gRl q)) := by
  have hne := h.ne5
  have hng := h.ng6
  exact h.scene (ScQ.put (z := gZ q) (ne := gNe q) (ng := gNg q) (rl := gRl q) h.now x hm) h.rl (fun c hc => mU_no _ _ (by omega))
theorem XI.addG (h : XI sh V q) (x y : Int32) (hg : gNg q < 6) : XI sh (mU (mU (mU (mFill V (20 + 10 + 2 * gNg q + 1) 0 10 y) (20 + 10 + 2 * gNg q) 1 x) (20 + 10 + 2 * gNg q) 2 (nI 1023)) 20 3 (nI (gNg q + 1))) (gN q (zAddG (gZ q) (gNg q) x y) (gNe q) (gNg q + 1) (gRl q)) := by
  have hne := h.ne5
  obtain ⟨a1, a2, a3, a4, a5, a6⟩ := h.now
  refine h.scene ⟨?_, ?_, a3, hg, ?_, ?_⟩ h.rl (fun c hc => by rw [mU_no _ _ (by omega), mU_no _ _ (by omega), mU_no _ _ (by omega), mFill_no _ _ (by omega)])
  · rw [mU_ne _ _ (by omega), mU_no _ _ (by omega), mU_no _ _ (by omega), mFill_no _ _ (by omega)]
    exact a1
  · rw [mU_eq]
  · rw [mU_ne _ _ (by omega), mU_no _ _ (by omega), mU_no _ _ (by omega), mFill_no _ _ (by omega)]
    exact a5
  · show zAddG (gZ q) (gNg q) x y = zv _ 20 (gNe q) (gNg q + 1)
    rw [show gZ q = zv V 20 (gNe q) (gNg q) from a6]
    funext c j
    simp only [zAddG, zv, mU, mFill]
    by_cases c1 : c = 10 + 2 * gNg q ∧ j = 1
    · rw [if_pos c1, if_pos (Or.inr (Or.inr (by omega))), if_neg (by omega), if_neg (by omega), if_pos (by omega)]
    · rw [if_neg c1]
      by_cases c2 : c = 10 + 2 * gNg q ∧ j = 2
      · rw [if_pos c2, if_pos (Or.inr (Or.inr (by omega))), if_neg (by omega), if_pos (by omega)]
      · rw [if_neg c2]
        by_cases c3 : c = 11 + 2 * gNg q ∧ j < 10
        · rw [if_pos c3, if_pos (Or.inr (Or.inr (by omega))), if_neg (by omega), if_neg (by omega), if_neg (by omega), if_pos (by omega)]
        · rw [if_neg c3]
          by_cases c4 : (c = 0 ∧ j = 4) ∨ (4 ≤ c ∧ c < 4 + gNe q ∧ j < 5) ∨ (10 ≤ c ∧ c < 10 + 2 * gNg q ∧ ((c % 2 = 0 ∧ (j = 1 ∨ j = 2)) ∨ (c % 2 = 1 ∧ j < 10)))
          · rw [if_pos c4, if_pos (by omega), if_neg (by omega), if_neg (by omega), if_neg (by omega), if_neg (by omega)]
          · rw [if_neg c4, if_neg (by omega)]
theorem XI.addE (h : XI sh V q) (x y w : Int32) (he : gNe q < 5) : XI sh (mU (mU (mU (mU (mU (mU V (20 + 4 + gNe q) 0 x) (20 + 4 + gNe q) 1 y) (20 + 4 + gNe q) 2 w) (20 + 4 + gNe q) 3 (nI 100)) (20 + 4 + gNe q) 4 (nI 0)) 20 2 (nI (gNe q + 1))) (gN q (zAddE (gZ q) (gNe q) x y w) (gNe q + 1) (gNg q) (gRl q)) := by
  have hng := h.ng6
  obtain ⟨a1, a2, a3, a4, a5, a6⟩ := h.now
  have no : ∀ c, c ≠ 20 → c ≠ 20 + 4 + gNe q → mU (mU (mU (mU (mU (mU V (20 + 4 + gNe q) 0 x) (20 + 4 + gNe q) 1 y) (20 + 4 + gNe q) 2 w) (20 + 4 + gNe q) 3 (nI 100)) (20 + 4 + gNe q) 4 (nI 0)) 20 2 (nI (gNe q + 1)) c = V c := fun c h1 h2 => by
    rw [mU_no _ _ h1, mU_no _ _ h2, mU_no _ _ h2, mU_no _ _ h2, mU_no _ _ h2, mU_no _ _ h2]
  refine h.scene ⟨?_, ?_, he, a4, ?_, ?_⟩ h.rl (fun c hc => no c (by omega) (by omega))
  · rw [mU_eq]
  · rw [mU_ne _ _ (by omega), mU_no _ _ (by omega), mU_no _ _ (by omega), mU_no _ _ (by omega), mU_no _ _ (by omega), mU_no _ _ (by omega)]
    exact a2
  · rw [mU_ne _ _ (by omega), mU_no _ _ (by omega), mU_no _ _ (by omega), mU_no _ _ (by omega), mU_no _ _ (by omega), mU_no _ _ (by omega)]
    exact a5
  · show zAddE (gZ q) (gNe q) x y w = zv _ 20 (gNe q + 1) (gNg q)
    rw [show gZ q = zv V 20 (gNe q) (gNg q) from a6]
    funext c j
    by_cases c1 : c = 4 + gNe q ∧ j < 5
    · obtain ⟨rfl, hj⟩ := c1
      rw [zv, if_pos (Or.inr (Or.inl (by omega))), mU_no _ _ (by omega), show 20 + (4 + gNe q) = 20 + 4 + gNe q by omega, zAddE]
      match j, hj with
      | 0, _ => simp [mU]
      | 1, _ => simp [mU]
      | 2, _ => simp [mU]
      | 3, _ => simp [mU]
      | 4, _ => simp [mU]
    · rw [zAddE, mU_ne _ _ (by omega), mU_ne _ _ (by omega), mU_ne _ _ (by omega), mU_ne _ _ (by omega), mU_ne _ _ (by omega)]
      by_cases c4 : (c = 0 ∧ j = 4) ∨ (4 ≤ c ∧ c < 4 + gNe q ∧ j < 5) ∨ (10 ≤ c ∧ c < 10 + 2 * gNg q ∧ ((c % 2 = 0 ∧ (j = 1 ∨ j = 2)) ∨ (c % 2 = 1 ∧ j < 10)))
      · rw [zv, zv, if_pos c4, if_pos (by omega)]
        by_cases c0 : c = 0
        · subst c0
          rw [show 20 + 0 = 20 from rfl, mU_ne _ _ (by omega), mU_no _ _ (by omega), mU_no _ _ (by omega), mU_no _ _ (by omega), mU_no _ _ (by omega), mU_no _ _ (by omega)]
        · rw [no _ (by omega) (by omega)]
      · rw [zv, zv, if_neg c4, if_neg (by omega)]
theorem XI.bited (h : XI sh V q) {u g pl : Nat} (hu : u < gNe q) (hg : g < gNg q) : XI sh (fBite V 20 (20 + 4 + u) (20 + 10 + 2 * g) (zMk (gZ q) u g pl) (zLi (gAsk q) (gZ q) u g (zMk (gZ q) u g pl)) (zCo (gAsk q) (gZ q) u g (zMk (gZ q) u g pl))) (gN q (zBi (gAsk q) (gZ q) u g pl) (gNe q) (gNg q) (gRl q)) := by
  have hne := h.ne5
  have hng := h.ng6
  obtain ⟨a1, a2, a3, a4, a5, a6⟩ := h.now
  have a6' : gZ q = zv V 20 (gNe q) (gNg q) := a6
  refine h.scene ⟨?_, ?_, a3, a4, ?_, ?_⟩ h.rl (fun c hc => by rw [fBite, mU_no _ _ (by omega), mU_no _ _ (by omega), mU_no _ _ (by omega), mU_no _ _ (by omega)])
  · rw [fBite, mU_no _ _ (by omega), mU_no _ _ (by omega), mU_no _ _ (by omega), mU_ne _ _ (by omega)]
    exact a1
  · rw [fBite, mU_no _ _ (by omega), mU_no _ _ (by omega), mU_no _ _ (by omega), mU_ne _ _ (by omega)]
    exact a2
  · rw [fBite, mU_no _ _ (by omega), mU_no _ _ (by omega), mU_no _ _ (by omega), mU_ne _ _ (by omega)]
    exact a5
  · show zBi (gAsk q) (gZ q) u g pl = zv _ 20 (gNe q) (gNg q)
    rw [a6']
    exact (zBi_v (gAsk q) V 20 hu hg pl hne rfl rfl rfl).symm
theorem XI.force (h : XI sh V q) {k : Nat} (hk : k < (gTxs q).length) : XI sh (mU V 20 5 (nI k)) (gN q (gZ q) (gNe q) (gNg q) k) := h.scene (ScQ.rl (z := gZ q) (ne := gNe q) (ng := gNg q) (r := gRl q) h.now k) hk (fun c hc => mU_no _ _ (by omega))
theorem XI.back (h : XI sh V q) : XI sh (fBec V 20 50 (gIm q).2.1 (gIm q).2.2.1) (gIm q, q.2) := h.scene (h.im.bec 20 (Or.inl (by omega))) h.imr (fun c hc => fBec_no V h.im.2.2.1 h.im.2.2.2.1 (by omega))
theorem XI.image (h : XI sh V q) : XI sh (mU (fBec V 50 20 (gNe q) (gNg q)) 0 5 (nI 1)) (nImage q) := by
  have hn := h.tn
  have hk : ∀ a, a ≠ 0 → a < 50 ∨ 72 ≤ a → mU (fBec V 50 20 (gNe q) (gNg q)) 0 5 (nI 1) a = V a := fun a h0 ha => by
    rw [mU_no _ _ h0]
    exact fBec_no V h.ne5 h.ng6 (by omega)
  refine ⟨h.sp, ⟨?_, h.tn.2⟩, mU_eq _ _ _ _, ⟨h.now.eq (fun a h1 h2 => hk a (by omega) (by omega)) (fun j _ => by rw [hk 20 (by omega) (by omega)]), h.rl⟩, ⟨(h.now.bec 50 (Or.inr (by omega))).eq (fun a h1 h2 => mU_no _ _ (by omega)) (fun j _ => by rw [mU_no _ _ (by omega)]; rfl), h.rl⟩, fun t ht => ?_, by rw [hk 1 (by omega) (by omega), hk 2 (by omega) (by omega)]; exact h.tp, by rw [hk 1 (by omega) (by omega)]; exact h.ta, by rw [hk 9 (by omega) (by omega)]; exact h.cov, fun i hi => by rw [hk (11 + i) (by omega) (by omega), hk (15 + i) (by omega) (by omega)]; exact h.shs i hi⟩
  · rw [mU_ne _ _ (by omega), fBec_no V h.ne5 h.ng6 (by omega)]
    exact h.tn.1
  · obtain ⟨⟨b1, b2, b3, b4, b5⟩, b6⟩ := h.tx t ht
    exact ⟨⟨by rw [hk _ (by omega) (by omega)]; exact b1, by rw [hk _ (by omega) (by omega)]; exact b2, by rw [hk _ (by omega) (by omega)]; exact b3, by rw [hk _ (by omega) (by omega)]; exact b4, b5⟩, by rw [hk 4 (by omega) (by omega)]; exact b6⟩
end XCH
theorem XI.putp {sh : Nat → Option mSh} {V : mV} {q : Sg} (h : XI sh V q) {g k : Nat} (x : Int32) (hg : g < gNg q) (hk : k < 12) : XI sh (fPut V (20 + 10 + 2 * g) k x) (gN q (zPut (gZ q) g k x) (gNe q) (gNg q) (gRl q)) := by
  rw [fPut, zPut]
  by_cases h1 : k = 10
  · rw [if_pos h1, if_pos h1, show 20 + 10 + 2 * g = 20 + (10 + 2 * g) by omega]
    exact h.put x (Or.inr (Or.inr (by omega)))
  · by_cases h2 : k = 11
    · rw [if_neg h1, if_neg h1, if_pos h2, if_pos h2, show 20 + 10 + 2 * g = 20 + (10 + 2 * g) by omega]
      exact h.put x (Or.inr (Or.inr (by omega)))
    · rw [if_neg h1, if_neg h1, if_neg h2, if_neg h2, show 20 + 10 + 2 * g + 1 = 20 + (11 + 2 * g) by omega]
      exact h.put x (Or.inr (Or.inr (by omega)))
theorem XF.putp {V : mV} {g k : Nat} (x : Int32) (hg : g + 1 < 200) : XF V (fPut V g k x) := by
  rw [fPut]
  by_cases h1 : k = 10
  · rw [if_pos h1]
    exact (XF.rfl V).u _ _ (by omega)
  · by_cases h2 : k = 11
    · rw [if_neg h1, if_pos h2]
      exact (XF.rfl V).u _ _ (by omega)
    · rw [if_neg h1, if_neg h2]
      exact (XF.rfl V).u _ _ (by omega)
theorem XI.tx20 {sh : Nat → Option mSh} {V : mV} {q : Sg} (h : XI sh V q) : sh (110 + 3 * (V 20 5).toNatClampNeg) ≠ none := by
  have := h.tn
  have := h.rl
  rw [h.now.2.2.2.2.1]
  show sh (110 + 3 * (nI (gRl q)).toNatClampNeg) ≠ none
  rw [nI_clamp (by omega), (h.txs h.rl).1]
  exact fun z => by cases z
theorem XI.tx50 {sh : Nat → Option mSh} {V : mV} {q : Sg} (h : XI sh V q) : sh (110 + 3 * (V 50 5).toNatClampNeg) ≠ none := by
  have := h.tn
  have := h.imr
  rw [h.im.2.2.2.2.1]
  show sh (110 + 3 * (nI (gIm q).2.2.2).toNatClampNeg) ≠ none
  rw [nI_clamp (by omega), (h.txs h.imr).1]
  exact fun z => by cases z
set_option maxHeartbeats 4000000 in
set_option maxRecDepth 100000 in
theorem c_X10_set (l : Launch) (G : mG) (ad : Nat → Nat) (sh : Nat → Option mSh) (V : mV) (q : Sg) (x : Int32) (hX : XI sh V q) : mM l yX10_set wsX10_set ({ frames := 1, cells := 0, slots := 0, locals := 22 } : Room) G ad sh V [.ref (ad 0), .int x] 0 0 (mPi ad sh (fun r V' => (aSet q x) = r ∧ (XI sh V' (nSet q x)) ∧ (XF V V'))) := by
  refine mM.of (cc := cX10_set) (maxL := 3) (ret := (some .int)) (by decide) rfl (Nat.le_of_ble_eq_true rfl) ?_
  intro p e s m below meth c S hr hlk hnm hW ls hl
  obtain ⟨hx, hb, hml, hown, hts⟩ := id S
  have hl : lv_has ls 3 [(0, .ref (ad 0)), (1, .int x)] := hl
  have hS0 : True := trivial
  have hne5 := hX.ne5
  have hng6 := hX.ng6
  have htn := hX.tn
  refine lv_iload_n hx hb dX10_set_0 rfl (lv_at hl 1 rfl) ?_
  refine lv_iconst (v := nI 0) hx hb dX10_set_1 (by decide) ?_
  refine lv_bipush (v := nI 99) hx hb dX10_set_2 (by decide) ?_
  refine m_cip (m_rS S hW (c_X10_within l G ad sh V x 0 99 (by first | assumption | omega) (by first | assumption | omega)) (va_cwS 3 hts (gCall [.methodLink RX10 102 yX10_within, .static yX10_within, .initialized RX10] (List.forall_mem_cons.mpr ⟨(wa_8 _ (List.mem_of_getElem? (i := 17) (by decide +kernel))), (List.forall_mem_cons.mpr ⟨(wa_15 _ (List.mem_of_getElem? (i := 8) (by decide +kernel))), (List.forall_mem_cons.mpr ⟨(wa_8 _ (List.mem_of_getElem? (i := 16) (by decide +kernel))), (List.forall_mem_cons.mpr ⟨(wa_1 _ (List.mem_of_getElem? (i := 2) (by decide +kernel))), (fun _ h => absurd h List.not_mem_nil)⟩)⟩)⟩)⟩)) rfl rfl rfl (by decide +kernel) ⟨Nat.le_of_ble_eq_true rfl, Nat.le_of_ble_eq_true rfl⟩) rfl hl.1 rfl (Nat.le_of_ble_eq_true rfl) dX10_set_4 ⟨Nat.le_of_ble_eq_true rfl, Nat.le_of_ble_eq_true rfl⟩) hW (fun r_2 H locs hp_1 hW => ?_)
  rcases hp_1 with ⟨rfl, w_3⟩ | ⟨rfl, w_4⟩
  · skip
    refine m_if_ne (tgt := 13) hx hb dX10_set_7 (by decide) (fun c_5 => ?_) (fun c_5 => ?_)
    · skip
      refine lv_aload_n hx hb dX10_set_13 rfl (lv_at hl 0 rfl) ?_
      refine m_getr S hW hX.sp.1 3 rfl (j := 20) rfl kX10 (iW10 _) (by decide) (List.mem_cons_of_mem _ (wa_2 _ (List.mem_of_getElem? (i := 8) (by decide +kernel)))) dX10_set_14 ?_
      refine m_geti S hW hX.sz.1.1 4 rfl kX4 (iW4 _) (by decide) (List.mem_cons_of_mem _ (wa_14 _ (List.mem_of_getElem? (i := 13) (by decide +kernel)))) dX10_set_17 ?_
      refine lv_istore_n (lv' := [(2, .int (V 20 4)), (0, .ref (ad 0)), (1, .int x)]) hx hb dX10_set_20 rfl hl (by decide) rfl (fun ls hl => ?_)
      refine lv_aload_n hx hb dX10_set_21 rfl (lv_at hl 1 rfl) ?_
      refine m_getr S hW hX.sp.1 3 rfl (j := 20) rfl kX10 (iW10 _) (by decide) (List.mem_cons_of_mem _ (wa_2 _ (List.mem_of_getElem? (i := 8) (by decide +kernel)))) dX10_set_22 ?_
      refine lv_iload_n hx hb dX10_set_25 rfl (lv_at hl 2 rfl) ?_
      refine m_puti S hW hX.sz.1.1 4 rfl kX4 (iW4 _) tyX4 tyX4_ok nmX4 (by decide) (List.mem_cons_of_mem _ (wa_14 _ (List.mem_of_getElem? (i := 13) (by decide +kernel)))) (Or.inl rfl) rfl rfl dX10_set_26 (fun H locs hW => ?_)
      obtain ⟨V_6, eV_6⟩ : ∃ z : mV, z = mU V 20 4 (x) := ⟨_, rfl⟩
      rw [← eV_6] at hW
      refine lv_iload_n hx hb dX10_set_29 rfl (lv_at hl 0 rfl) ?_
      exact m_iret S hr hlk hW dX10_set_30 (by exact ⟨by simp only [aSet, if_pos w_3]; exact hX.zD, by simp only [nSet, if_pos w_3]; rw [eV_6]; exact hX.put (a := 0) (k := 4) x (Or.inl ⟨rfl, rfl⟩), by rw [eV_6]; exact (XF.rfl V).u _ _ (by omega)⟩)
    · exact absurd c_5 (by decide)
  · skip
    refine m_if_ne (tgt := 13) hx hb dX10_set_7 (by decide) (fun c_7 => ?_) (fun c_7 => ?_)
    · exact absurd c_7 (by decide)
    · skip
      refine lv_bipush (v := -7) hx hb dX10_set_10 (by decide) ?_
      exact m_iret S hr hlk hW dX10_set_12 (by exact ⟨by simp only [aSet, if_neg w_4]; try rfl, by simp only [nSet, if_neg w_4]; exact hX, XF.rfl V⟩)
set_option maxHeartbeats 4000000 in
set_option maxRecDepth 100000 in
theorem c_X10_put (l : Launch) (G : mG) (ad : Nat → Nat) (sh : Nat → Option mSh) (V : mV) (q : Sg) (x y v : Int32) (hX : XI sh V q) : mM l yX10_put wsX10_put ({ frames := 2, cells := 0, slots := 0, locals := 44 } : Room) G ad sh V [.ref (ad 0), .int x, .int y, .int v] 0 0 (mPi ad sh (fun r V' => (aPut q x y v) = r ∧ (XI sh V' (nPut q x y v)) ∧ (XF V V'))) := by
  refine mM.of (cc := cX10_put) (maxL := 6) (ret := (some .int)) (by decide) rfl (Nat.le_of_ble_eq_true rfl) ?_
  intro p e s m below meth c S hr hlk hnm hW ls hl
  obtain ⟨hx, hb, hml, hown, hts⟩ := id S
  have hl : lv_has ls 6 [(0, .ref (ad 0)), (1, .int x), (2, .int y), (3, .int v)] := hl
  have hS0 : True := trivial
  have hne5 := hX.ne5
  have hng6 := hX.ng6
  have htn := hX.tn
  refine lv_aload_n hx hb dX10_put_0 rfl (lv_at hl 0 rfl) ?_
  refine m_getr S hW hX.sp.1 3 rfl (j := 20) rfl kX10 (iW10 _) (by decide) (List.mem_cons_of_mem _ (wa_2 _ (List.mem_of_getElem? (i := 8) (by decide +kernel)))) dX10_put_1 ?_
  refine lv_iload_n hx hb dX10_put_4 rfl (lv_at hl 1 rfl) ?_
  refine m_crp (m_rV S hW (c_X4_goodAt l G ad sh V 20 (110 + 3 * gRl q) ((gT q (gRl q)).2.1) ((gT q (gRl q)).2.2) ((gT q (gRl q)).1.length) (gNe q) (gNg q) x hX.sz.1 hX.sz.2.1) (cwV 1 hts (gCall [.methodLink RX10 124 yX4_goodAt, .instanceMethod yX4_goodAt, .selects RX4 yX4_goodAt yX4_goodAt, .initialized RX4] (List.forall_mem_cons.mpr ⟨(wa_17 _ (List.mem_of_getElem? (i := 13) (by decide +kernel))), (List.forall_mem_cons.mpr ⟨(wa_17 _ (List.mem_of_getElem? (i := 10) (by decide +kernel))), (List.forall_mem_cons.mpr ⟨(wa_17 _ (List.mem_of_getElem? (i := 11) (by decide +kernel))), (List.forall_mem_cons.mpr ⟨(wa_17 _ (List.mem_of_getElem? (i := 12) (by decide +kernel))), (List.forall_mem_cons.mpr ⟨(wa_2 _ (List.mem_of_getElem? (i := 7) (by decide +kernel))), (fun _ h => absurd h List.not_mem_nil)⟩)⟩)⟩)⟩)⟩)) rfl rfl rfl (by decide +kernel) ⟨Nat.le_of_ble_eq_true rfl, Nat.le_of_ble_eq_true rfl⟩) hX.sz.1.1 kX4 rfl hl.1 rfl (Nat.le_of_ble_eq_true rfl) dX10_put_5 ⟨Nat.le_of_ble_eq_true rfl, Nat.le_of_ble_eq_true rfl⟩) hW (fun r_2 H locs hp_1 hW => ?_)
  rcases hp_1 with ⟨n_3, rfl, hxn_4, hn_5⟩ | ⟨rfl, hx0_6⟩
  · skip
    refine W.eq (g2 := F0 m 8 ls [.ref (ad (20 + 10 + 2 * n_3))]) rfl ?_
    have hpx : mIn x 0 (gNg q) := by rw [hxn_4]; exact (mIn_nI (by have := hX.ne5; have := hX.ng6; omega)).mpr ⟨Nat.zero_le _, hn_5⟩
    have hcx : x.toNatClampNeg = n_3 := by rw [hxn_4]; exact nI_clamp (by have := hX.ne5; have := hX.ng6; omega)
    refine lv_astore (lv' := [(4, .ref (ad (20 + 10 + 2 * n_3))), (0, .ref (ad 0)), (1, .int x), (2, .int y), (3, .int v)]) hx hb dX10_put_8 hl (by decide) rfl (fun ls hl => ?_)
    refine lv_aload hx hb dX10_put_10 (lv_at hl 0 rfl) ?_
    refine lv_ifnonnull (tgt := 18) hx hb dX10_put_12 (by decide) ?_
    refine lv_iload_n hx hb dX10_put_18 rfl (lv_at hl 3 rfl) ?_
    refine lv_iconst (v := nI 0) hx hb dX10_put_19 (by decide) ?_
    refine lv_bipush (v := nI 11) hx hb dX10_put_20 (by decide) ?_
    refine m_cip (m_rS S hW (c_X10_within l G ad sh V y 0 11 (by first | assumption | omega) (by first | assumption | omega)) (va_cwS 3 hts (gCall [.methodLink RX10 102 yX10_within, .static yX10_within, .initialized RX10] (List.forall_mem_cons.mpr ⟨(wa_8 _ (List.mem_of_getElem? (i := 17) (by decide +kernel))), (List.forall_mem_cons.mpr ⟨(wa_15 _ (List.mem_of_getElem? (i := 8) (by decide +kernel))), (List.forall_mem_cons.mpr ⟨(wa_8 _ (List.mem_of_getElem? (i := 16) (by decide +kernel))), (List.forall_mem_cons.mpr ⟨(wa_1 _ (List.mem_of_getElem? (i := 2) (by decide +kernel))), (fun _ h => absurd h List.not_mem_nil)⟩)⟩)⟩)⟩)) rfl rfl rfl (by decide +kernel) ⟨Nat.le_of_ble_eq_true rfl, Nat.le_of_ble_eq_true rfl⟩) rfl hl.1 rfl (Nat.le_of_ble_eq_true rfl) dX10_put_22 ⟨Nat.le_of_ble_eq_true rfl, Nat.le_of_ble_eq_true rfl⟩) hW (fun r_8 H locs hp_7 hW => ?_)
    rcases hp_7 with ⟨rfl, w_9⟩ | ⟨rfl, w_10⟩
    · skip
      obtain ⟨ny, hny, hwny, hlny⟩ := w_9.ex
      have hcy : y.toNatClampNeg = ny := by rw [hny]; exact nI_clamp (by omega)
      refine m_if_eq (tgt := 40) hx hb dX10_put_25 (by decide) (fun c_11 => ?_) (fun c_11 => ?_)
      · exact absurd c_11 (by decide)
      · skip
        refine lv_iload_n hx hb dX10_put_28 rfl (lv_at hl 4 rfl) ?_
        refine lv_iconst (v := nI 0) hx hb dX10_put_29 (by decide) ?_
        refine lv_iload_n hx hb dX10_put_30 rfl (lv_at hl 3 rfl) ?_
        refine m_top (y := nI ny) hny ?_
        refine m_cie (m_rS S hW (c_X3_mostOf l G ad sh V (nI ny)) (va_cwS 1 hts (gCall [.methodLink RX10 138 yX3_mostOf, .static yX3_mostOf, .initialized RX3] (List.forall_mem_cons.mpr ⟨(wa_21 _ (List.mem_of_getElem? (i := 9) (by decide +kernel))), (List.forall_mem_cons.mpr ⟨(wa_21 _ (List.mem_of_getElem? (i := 7) (by decide +kernel))), (List.forall_mem_cons.mpr ⟨(wa_21 _ (List.mem_of_getElem? (i := 8) (by decide +kernel))), (List.forall_mem_cons.mpr ⟨(wa_10 _ (List.mem_of_getElem? (i := 5) (by decide +kernel))), (fun _ h => absurd h List.not_mem_nil)⟩)⟩)⟩)⟩)) rfl rfl rfl (by decide +kernel) ⟨Nat.le_of_ble_eq_true rfl, Nat.le_of_ble_eq_true rfl⟩) rfl hl.1 rfl (Nat.le_of_ble_eq_true rfl) dX10_put_31 ⟨Nat.le_of_ble_eq_true rfl, Nat.le_of_ble_eq_true rfl⟩) hW (fun H locs hW => ?_)
        refine m_top (y := nI (zMost ny)) (fMost_nI ny (by omega)) ?_
        have hzm := zMost_le ny
        refine m_cip (m_rS S hW (c_X10_within l G ad sh V v 0 (zMost ny) (by first | assumption | omega) (by first | assumption | omega)) (va_cwS 3 hts (gCall [.methodLink RX10 102 yX10_within, .static yX10_within, .initialized RX10] (List.forall_mem_cons.mpr ⟨(wa_8 _ (List.mem_of_getElem? (i := 17) (by decide +kernel))), (List.forall_mem_cons.mpr ⟨(wa_15 _ (List.mem_of_getElem? (i := 8) (by decide +kernel))), (List.forall_mem_cons.mpr ⟨(wa_8 _ (List.mem_of_getElem? (i := 16) (by decide +kernel))), (List.forall_mem_cons.mpr ⟨(wa_1 _ (List.mem_of_getElem? (i := 2) (by decide +kernel))), (fun _ h => absurd h List.not_mem_nil)⟩)⟩)⟩)⟩)) rfl rfl rfl (by decide +kernel) ⟨Nat.le_of_ble_eq_true rfl, Nat.le_of_ble_eq_true rfl⟩) rfl hl.1 rfl (Nat.le_of_ble_eq_true rfl) dX10_put_34 ⟨Nat.le_of_ble_eq_true rfl, Nat.le_of_ble_eq_true rfl⟩) hW (fun r_13 H locs hp_12 hW => ?_)
        rcases hp_12 with ⟨rfl, w_14⟩ | ⟨rfl, w_15⟩
        · skip
          refine m_if_ne (tgt := 43) hx hb dX10_put_37 (by decide) (fun c_16 => ?_) (fun c_16 => ?_)
          · skip
            refine lv_aload hx hb dX10_put_43 (lv_at hl 0 rfl) ?_
            refine lv_iload_n hx hb dX10_put_45 rfl (lv_at hl 3 rfl) ?_
            refine m_top (y := nI ny) hny ?_
            refine m_cie (m_rV S hW (c_X3_readPart l G ad sh V (20 + 10 + 2 * n_3) ny (hX.sz.sG hn_5) (hX.sz.sW hn_5) (by first | assumption | omega)) (cwV 1 hts (gCall [.methodLink RX10 142 yX3_readPart, .instanceMethod yX3_readPart, .selects RX3 yX3_readPart yX3_readPart, .initialized RX3] (List.forall_mem_cons.mpr ⟨(wa_21 _ (List.mem_of_getElem? (i := 13) (by decide +kernel))), (List.forall_mem_cons.mpr ⟨(wa_21 _ (List.mem_of_getElem? (i := 10) (by decide +kernel))), (List.forall_mem_cons.mpr ⟨(wa_21 _ (List.mem_of_getElem? (i := 11) (by decide +kernel))), (List.forall_mem_cons.mpr ⟨(wa_21 _ (List.mem_of_getElem? (i := 12) (by decide +kernel))), (List.forall_mem_cons.mpr ⟨(wa_10 _ (List.mem_of_getElem? (i := 5) (by decide +kernel))), (fun _ h => absurd h List.not_mem_nil)⟩)⟩)⟩)⟩)⟩)) rfl rfl rfl (by decide +kernel) ⟨Nat.le_of_ble_eq_true rfl, Nat.le_of_ble_eq_true rfl⟩) (hX.sz.1.2.2.2.2.2.1 n_3 (Nat.lt_of_lt_of_le hn_5 hX.sz.2.1.2.2.2.1)) kX3 rfl hl.1 rfl (Nat.le_of_ble_eq_true rfl) dX10_put_46 ⟨Nat.le_of_ble_eq_true rfl, Nat.le_of_ble_eq_true rfl⟩) hW (fun H locs hW => ?_)
            refine lv_istore (lv' := [(5, .int (fPart V (20 + 10 + 2 * n_3) ny)), (4, .ref (ad (20 + 10 + 2 * n_3))), (0, .ref (ad 0)), (1, .int x), (2, .int y), (3, .int v)]) hx hb dX10_put_49 hl (by decide) rfl (fun ls hl => ?_)
            refine lv_aload hx hb dX10_put_51 (lv_at hl 1 rfl) ?_
            refine lv_iload_n hx hb dX10_put_53 rfl (lv_at hl 4 rfl) ?_
            refine m_top (y := nI ny) hny ?_
            refine lv_iload_n hx hb dX10_put_54 rfl (lv_at hl 5 rfl) ?_
            refine m_cv (m_rV S hW (c_X3_writePart l G ad sh V (20 + 10 + 2 * n_3) ny v (hX.sz.sG hn_5) (hX.sz.sW hn_5) (by first | assumption | omega)) (cwV 2 hts (gCall [.methodLink RX10 145 yX3_writePart, .instanceMethod yX3_writePart, .selects RX3 yX3_writePart yX3_writePart, .initialized RX3] (List.forall_mem_cons.mpr ⟨(wa_21 _ (List.mem_of_getElem? (i := 17) (by decide +kernel))), (List.forall_mem_cons.mpr ⟨(wa_21 _ (List.mem_of_getElem? (i := 14) (by decide +kernel))), (List.forall_mem_cons.mpr ⟨(wa_21 _ (List.mem_of_getElem? (i := 15) (by decide +kernel))), (List.forall_mem_cons.mpr ⟨(wa_21 _ (List.mem_of_getElem? (i := 16) (by decide +kernel))), (List.forall_mem_cons.mpr ⟨(wa_10 _ (List.mem_of_getElem? (i := 5) (by decide +kernel))), (fun _ h => absurd h List.not_mem_nil)⟩)⟩)⟩)⟩)⟩)) rfl rfl rfl (by decide +kernel) ⟨Nat.le_of_ble_eq_true rfl, Nat.le_of_ble_eq_true rfl⟩) (hX.sz.1.2.2.2.2.2.1 n_3 (Nat.lt_of_lt_of_le hn_5 hX.sz.2.1.2.2.2.1)) kX3 rfl hl.1 rfl (Nat.le_of_ble_eq_true rfl) dX10_put_55 ⟨Nat.le_of_ble_eq_true rfl, Nat.le_of_ble_eq_true rfl⟩) hW (fun V_17 H locs hp_18 hW => ?_)
            have eV_17 : V_17 = fPut V (20 + 10 + 2 * n_3) ny v := hp_18
            refine lv_iload hx hb dX10_put_58 (lv_at hl 0 rfl) ?_
            exact m_iret S hr hlk hW dX10_put_60 (by exact ⟨by simp only [aPut, if_pos hpx, hcx, if_pos w_9, hcy, if_pos w_14]; exact hX.vPart hn_5 hlny, by simp only [nPut, if_pos hpx, hcx, if_pos w_9, hcy, if_pos w_14]; rw [eV_17]; exact hX.putp v hn_5 hlny, by rw [eV_17]; exact XF.putp _ (by omega)⟩)
          · exact absurd c_16 (by decide)
        · skip
          refine m_if_ne (tgt := 43) hx hb dX10_put_37 (by decide) (fun c_20 => ?_) (fun c_20 => ?_)
          · exact absurd c_20 (by decide)
          · skip
            refine lv_bipush (v := -7) hx hb dX10_put_40 (by decide) ?_
            exact m_iret S hr hlk hW dX10_put_42 (by exact ⟨by simp only [aPut, if_pos hpx, hcx, if_pos w_9, hcy, if_neg w_15]; try rfl, by simp only [nPut, if_pos hpx, hcx, if_pos w_9, hcy, if_neg w_15]; exact hX, XF.rfl V⟩)
    · skip
      refine m_if_eq (tgt := 40) hx hb dX10_put_25 (by decide) (fun c_21 => ?_) (fun c_21 => ?_)
      · skip
        refine lv_bipush (v := -7) hx hb dX10_put_40 (by decide) ?_
        exact m_iret S hr hlk hW dX10_put_42 (by exact ⟨by simp only [aPut, if_pos hpx, hcx, if_neg w_10]; try rfl, by simp only [nPut, if_pos hpx, hcx, if_neg w_10]; exact hX, XF.rfl V⟩)
      · exact absurd c_21 (by decide)
  · skip
    refine W.eq (g2 := F0 m 8 ls [.null]) rfl ?_
    refine lv_astoreN (lv' := [(4, .null), (0, .ref (ad 0)), (1, .int x), (2, .int y), (3, .int v)]) hx hb dX10_put_8 hl (by decide) rfl (fun ls hl => ?_)
    refine lv_aloadN hx hb dX10_put_10 (lv_at hl 0 rfl) ?_
    refine lv_ifnonnullN hx hb dX10_put_12 ?_
    refine lv_bipush (v := -5) hx hb dX10_put_15 (by decide) ?_
    exact m_iret S hr hlk hW dX10_put_17 (by exact ⟨by simp only [aPut, if_neg hx0_6]; try rfl, by simp only [nPut, if_neg hx0_6]; exact hX, XF.rfl V⟩)
set_option maxHeartbeats 4000000 in
set_option maxRecDepth 100000 in
theorem c_X10_good (l : Launch) (G : mG) (ad : Nat → Nat) (sh : Nat → Option mSh) (V : mV) (q : Sg) (x y : Int32) (hX : XI sh V q) : mM l yX10_good wsX10_good ({ frames := 2, cells := 0, slots := 0, locals := 45 } : Room) G ad sh V [.ref (ad 0), .int x, .int y] 0 0 (mPi ad sh (fun r V' => (aGood q x y) = r ∧ (XI sh V' (nGood q x y)) ∧ (XF V V'))) := by
  refine mM.of (cc := cX10_good) (maxL := 3) (ret := (some .int)) (by decide) rfl (Nat.le_of_ble_eq_true rfl) ?_
  intro p e s m below meth c S hr hlk hnm hW ls hl
  obtain ⟨hx, hb, hml, hown, hts⟩ := id S
  have hl : lv_has ls 3 [(0, .ref (ad 0)), (1, .int x), (2, .int y)] := hl
  have hS0 : True := trivial
  have hne5 := hX.ne5
  have hng6 := hX.ng6
  have htn := hX.tn
  refine lv_iload_n hx hb dX10_good_0 rfl (lv_at hl 1 rfl) ?_
  refine lv_iconst (v := nI 0) hx hb dX10_good_1 (by decide) ?_
  refine lv_bipush (v := nI 9) hx hb dX10_good_2 (by decide) ?_
  refine m_cip (m_rS S hW (c_X10_within l G ad sh V x 0 9 (by first | assumption | omega) (by first | assumption | omega)) (va_cwS 3 hts (gCall [.methodLink RX10 102 yX10_within, .static yX10_within, .initialized RX10] (List.forall_mem_cons.mpr ⟨(wa_8 _ (List.mem_of_getElem? (i := 17) (by decide +kernel))), (List.forall_mem_cons.mpr ⟨(wa_15 _ (List.mem_of_getElem? (i := 8) (by decide +kernel))), (List.forall_mem_cons.mpr ⟨(wa_8 _ (List.mem_of_getElem? (i := 16) (by decide +kernel))), (List.forall_mem_cons.mpr ⟨(wa_1 _ (List.mem_of_getElem? (i := 2) (by decide +kernel))), (fun _ h => absurd h List.not_mem_nil)⟩)⟩)⟩)⟩)) rfl rfl rfl (by decide +kernel) ⟨Nat.le_of_ble_eq_true rfl, Nat.le_of_ble_eq_true rfl⟩) rfl hl.1 rfl (Nat.le_of_ble_eq_true rfl) dX10_good_4 ⟨Nat.le_of_ble_eq_true rfl, Nat.le_of_ble_eq_true rfl⟩) hW (fun r_2 H locs hp_1 hW => ?_)
  rcases hp_1 with ⟨rfl, w_3⟩ | ⟨rfl, w_4⟩
  · skip
    refine m_if_eq (tgt := 20) hx hb dX10_good_7 (by decide) (fun c_5 => ?_) (fun c_5 => ?_)
    · exact absurd c_5 (by decide)
    · skip
      refine lv_iload_n hx hb dX10_good_10 rfl (lv_at hl 2 rfl) ?_
      refine lv_iconst (v := nI 0) hx hb dX10_good_11 (by decide) ?_
      refine lv_bipush (v := nI 99) hx hb dX10_good_12 (by decide) ?_
      refine m_cip (m_rS S hW (c_X10_within l G ad sh V y 0 99 (by first | assumption | omega) (by first | assumption | omega)) (va_cwS 3 hts (gCall [.methodLink RX10 102 yX10_within, .static yX10_within, .initialized RX10] (List.forall_mem_cons.mpr ⟨(wa_8 _ (List.mem_of_getElem? (i := 17) (by decide +kernel))), (List.forall_mem_cons.mpr ⟨(wa_15 _ (List.mem_of_getElem? (i := 8) (by decide +kernel))), (List.forall_mem_cons.mpr ⟨(wa_8 _ (List.mem_of_getElem? (i := 16) (by decide +kernel))), (List.forall_mem_cons.mpr ⟨(wa_1 _ (List.mem_of_getElem? (i := 2) (by decide +kernel))), (fun _ h => absurd h List.not_mem_nil)⟩)⟩)⟩)⟩)) rfl rfl rfl (by decide +kernel) ⟨Nat.le_of_ble_eq_true rfl, Nat.le_of_ble_eq_true rfl⟩) rfl hl.1 rfl (Nat.le_of_ble_eq_true rfl) dX10_good_14 ⟨Nat.le_of_ble_eq_true rfl, Nat.le_of_ble_eq_true rfl⟩) hW (fun r_7 H locs hp_6 hW => ?_)
      rcases hp_6 with ⟨rfl, w_8⟩ | ⟨rfl, w_9⟩
      · skip
        refine m_if_ne (tgt := 23) hx hb dX10_good_17 (by decide) (fun c_10 => ?_) (fun c_10 => ?_)
        · skip
          refine lv_aload_n hx hb dX10_good_23 rfl (lv_at hl 0 rfl) ?_
          refine m_getr S hW hX.sp.1 3 rfl (j := 20) rfl kX10 (iW10 _) (by decide) (List.mem_cons_of_mem _ (wa_2 _ (List.mem_of_getElem? (i := 8) (by decide +kernel)))) dX10_good_24 ?_
          refine lv_iload_n hx hb dX10_good_27 rfl (lv_at hl 1 rfl) ?_
          refine lv_iload_n hx hb dX10_good_28 rfl (lv_at hl 2 rfl) ?_
          refine m_ci (m_rV S hW (c_X4_addGood l G ad sh V 20 (110 + 3 * gRl q) ((gT q (gRl q)).2.1) ((gT q (gRl q)).2.2) ((gT q (gRl q)).1.length) (gNe q) (gNg q) x y hX.sz.1 hX.sz.2.1) (cwV 2 hts (gCall [.methodLink RX10 132 yX4_addGood, .instanceMethod yX4_addGood, .selects RX4 yX4_addGood yX4_addGood, .initialized RX4] (List.forall_mem_cons.mpr ⟨(wa_20 _ (List.mem_of_getElem? (i := 16) (by decide +kernel))), (List.forall_mem_cons.mpr ⟨(wa_20 _ (List.mem_of_getElem? (i := 13) (by decide +kernel))), (List.forall_mem_cons.mpr ⟨(wa_20 _ (List.mem_of_getElem? (i := 14) (by decide +kernel))), (List.forall_mem_cons.mpr ⟨(wa_20 _ (List.mem_of_getElem? (i := 15) (by decide +kernel))), (List.forall_mem_cons.mpr ⟨(wa_2 _ (List.mem_of_getElem? (i := 7) (by decide +kernel))), (fun _ h => absurd h List.not_mem_nil)⟩)⟩)⟩)⟩)⟩)) rfl rfl rfl (by decide +kernel) ⟨Nat.le_of_ble_eq_true rfl, Nat.le_of_ble_eq_true rfl⟩) hX.sz.1.1 kX4 rfl hl.1 rfl (Nat.le_of_ble_eq_true rfl) dX10_good_29 ⟨Nat.le_of_ble_eq_true rfl, Nat.le_of_ble_eq_true rfl⟩) hW (fun r_13 V_11 H locs hp_12 hW => ?_)
          rcases hp_12 with ⟨rfl, eV_11, w_14⟩ | ⟨rfl, eV_11, w_15⟩
          · skip
            exact m_iret S hr hlk hW dX10_good_32 (by rw [eV_11]; exact ⟨by simp only [aGood, if_pos w_3, if_pos w_8, if_pos w_14], by simp only [nGood, if_pos w_3, if_pos w_8, if_pos w_14]; exact hX, XF.rfl V⟩)
          · skip
            exact m_iret S hr hlk hW dX10_good_32 (by rw [eV_11]; exact ⟨by simp only [aGood, if_pos w_3, if_pos w_8, if_neg (show ¬ gNg q = 6 by omega)], by simp only [nGood, if_pos w_3, if_pos w_8, if_neg (show ¬ gNg q = 6 by omega)]; exact hX.addG _ _ w_15, fun c hc => by rw [mU_no _ _ (by omega), mU_no _ _ (by omega), mU_no _ _ (by omega), mFill_no _ _ (by omega)]⟩)
        · exact absurd c_10 (by decide)
      · skip
        refine m_if_ne (tgt := 23) hx hb dX10_good_17 (by decide) (fun c_16 => ?_) (fun c_16 => ?_)
        · exact absurd c_16 (by decide)
        · skip
          refine lv_bipush (v := -2) hx hb dX10_good_20 (by decide) ?_
          exact m_iret S hr hlk hW dX10_good_22 (by exact ⟨by simp only [aGood, if_pos w_3, if_neg w_9]; try rfl, by simp only [nGood, if_pos w_3, if_neg w_9]; exact hX, XF.rfl V⟩)
  · skip
    refine m_if_eq (tgt := 20) hx hb dX10_good_7 (by decide) (fun c_17 => ?_) (fun c_17 => ?_)
    · skip
      refine lv_bipush (v := -2) hx hb dX10_good_20 (by decide) ?_
      exact m_iret S hr hlk hW dX10_good_22 (by exact ⟨by simp only [aGood, if_neg w_4]; try rfl, by simp only [nGood, if_neg w_4]; exact hX, XF.rfl V⟩)
    · exact absurd c_17 (by decide)
set_option maxHeartbeats 4000000 in
set_option maxRecDepth 100000 in
theorem c_X10_comeEater (l : Launch) (G : mG) (ad : Nat → Nat) (sh : Nat → Option mSh) (V : mV) (q : Sg) (x y : Int32) (hX : XI sh V q) : mM l yX10_comeEater wsX10_comeEater ({ frames := 2, cells := 0, slots := 0, locals := 46 } : Room) G ad sh V [.ref (ad 0), .int x, .int y] 0 0 (mPi ad sh (fun r V' => (aEater q x y) = r ∧ (XI sh V' (nEater q x y)) ∧ (XF V V'))) := by
  refine mM.of (cc := cX10_comeEater) (maxL := 3) (ret := (some .int)) (by decide) rfl (Nat.le_of_ble_eq_true rfl) ?_
  intro p e s m below meth c S hr hlk hnm hW ls hl
  obtain ⟨hx, hb, hml, hown, hts⟩ := id S
  have hl : lv_has ls 3 [(0, .ref (ad 0)), (1, .int x), (2, .int y)] := hl
  have hS0 : True := trivial
  have hne5 := hX.ne5
  have hng6 := hX.ng6
  have htn := hX.tn
  refine lv_iload_n hx hb dX10_comeEater_0 rfl (lv_at hl 1 rfl) ?_
  refine lv_iconst (v := nI 0) hx hb dX10_comeEater_1 (by decide) ?_
  refine lv_bipush (v := nI 59) hx hb dX10_comeEater_2 (by decide) ?_
  refine m_cip (m_rS S hW (c_X10_within l G ad sh V x 0 59 (by first | assumption | omega) (by first | assumption | omega)) (va_cwS 3 hts (gCall [.methodLink RX10 102 yX10_within, .static yX10_within, .initialized RX10] (List.forall_mem_cons.mpr ⟨(wa_8 _ (List.mem_of_getElem? (i := 17) (by decide +kernel))), (List.forall_mem_cons.mpr ⟨(wa_15 _ (List.mem_of_getElem? (i := 8) (by decide +kernel))), (List.forall_mem_cons.mpr ⟨(wa_8 _ (List.mem_of_getElem? (i := 16) (by decide +kernel))), (List.forall_mem_cons.mpr ⟨(wa_1 _ (List.mem_of_getElem? (i := 2) (by decide +kernel))), (fun _ h => absurd h List.not_mem_nil)⟩)⟩)⟩)⟩)) rfl rfl rfl (by decide +kernel) ⟨Nat.le_of_ble_eq_true rfl, Nat.le_of_ble_eq_true rfl⟩) rfl hl.1 rfl (Nat.le_of_ble_eq_true rfl) dX10_comeEater_4 ⟨Nat.le_of_ble_eq_true rfl, Nat.le_of_ble_eq_true rfl⟩) hW (fun r_2 H locs hp_1 hW => ?_)
  rcases hp_1 with ⟨rfl, w_3⟩ | ⟨rfl, w_4⟩
  · skip
    obtain ⟨nx, hnx, hwnx, hlnx⟩ := w_3.ex
    have hcx : x.toNatClampNeg = nx := by rw [hnx]; exact nI_clamp (by omega)
    refine m_if_eq (tgt := 20) hx hb dX10_comeEater_7 (by decide) (fun c_5 => ?_) (fun c_5 => ?_)
    · exact absurd c_5 (by decide)
    · skip
      refine lv_iload_n hx hb dX10_comeEater_10 rfl (lv_at hl 2 rfl) ?_
      refine lv_iconst (v := nI 1) hx hb dX10_comeEater_11 (by decide) ?_
      refine lv_bipush (v := nI 63) hx hb dX10_comeEater_12 (by decide) ?_
      refine m_cip (m_rS S hW (c_X10_within l G ad sh V y 1 63 (by first | assumption | omega) (by first | assumption | omega)) (va_cwS 3 hts (gCall [.methodLink RX10 102 yX10_within, .static yX10_within, .initialized RX10] (List.forall_mem_cons.mpr ⟨(wa_8 _ (List.mem_of_getElem? (i := 17) (by decide +kernel))), (List.forall_mem_cons.mpr ⟨(wa_15 _ (List.mem_of_getElem? (i := 8) (by decide +kernel))), (List.forall_mem_cons.mpr ⟨(wa_8 _ (List.mem_of_getElem? (i := 16) (by decide +kernel))), (List.forall_mem_cons.mpr ⟨(wa_1 _ (List.mem_of_getElem? (i := 2) (by decide +kernel))), (fun _ h => absurd h List.not_mem_nil)⟩)⟩)⟩)⟩)) rfl rfl rfl (by decide +kernel) ⟨Nat.le_of_ble_eq_true rfl, Nat.le_of_ble_eq_true rfl⟩) rfl hl.1 rfl (Nat.le_of_ble_eq_true rfl) dX10_comeEater_14 ⟨Nat.le_of_ble_eq_true rfl, Nat.le_of_ble_eq_true rfl⟩) hW (fun r_7 H locs hp_6 hW => ?_)
      rcases hp_6 with ⟨rfl, w_8⟩ | ⟨rfl, w_9⟩
      · skip
        refine m_if_ne (tgt := 23) hx hb dX10_comeEater_17 (by decide) (fun c_10 => ?_) (fun c_10 => ?_)
        · skip
          refine lv_aload_n hx hb dX10_comeEater_23 rfl (lv_at hl 0 rfl) ?_
          refine m_getr S hW hX.sp.1 3 rfl (j := 20) rfl kX10 (iW10 _) (by decide) (List.mem_cons_of_mem _ (wa_2 _ (List.mem_of_getElem? (i := 8) (by decide +kernel)))) dX10_comeEater_24 ?_
          refine lv_iload_n hx hb dX10_comeEater_27 rfl (lv_at hl 1 rfl) ?_
          refine m_top (y := nI nx) hnx ?_
          refine lv_bipush (v := nI 10) hx hb dX10_comeEater_28 (by decide) ?_
          refine lv_idiv hx hb dX10_comeEater_30 (by decide) ?_
          refine m_top (y := nI (nx / 10)) (pk_div (by omega) (by omega) (by omega)) ?_
          refine lv_iload_n hx hb dX10_comeEater_31 rfl (lv_at hl 1 rfl) ?_
          refine m_top (y := nI nx) hnx ?_
          refine lv_bipush (v := nI 10) hx hb dX10_comeEater_32 (by decide) ?_
          refine lv_irem hx hb dX10_comeEater_34 (by decide) ?_
          refine m_top (y := nI (nx % 10)) (pk_rem (by omega) (by omega) (by omega)) ?_
          refine lv_iload_n hx hb dX10_comeEater_35 rfl (lv_at hl 2 rfl) ?_
          refine m_ci (m_rV S hW (c_X4_addEater l G ad sh V 20 (110 + 3 * gRl q) ((gT q (gRl q)).2.1) ((gT q (gRl q)).2.2) ((gT q (gRl q)).1.length) (gNe q) (gNg q) (nI (nx / 10)) (nI (nx % 10)) y hX.sz.1 hX.sz.2.1) (cwV 3 hts (gCall [.methodLink RX10 317 yX4_addEater, .instanceMethod yX4_addEater, .selects RX4 yX4_addEater yX4_addEater, .initialized RX4] (List.forall_mem_cons.mpr ⟨(wa_22 _ (List.mem_of_getElem? (i := 17) (by decide +kernel))), (List.forall_mem_cons.mpr ⟨(wa_22 _ (List.mem_of_getElem? (i := 14) (by decide +kernel))), (List.forall_mem_cons.mpr ⟨(wa_22 _ (List.mem_of_getElem? (i := 15) (by decide +kernel))), (List.forall_mem_cons.mpr ⟨(wa_22 _ (List.mem_of_getElem? (i := 16) (by decide +kernel))), (List.forall_mem_cons.mpr ⟨(wa_2 _ (List.mem_of_getElem? (i := 7) (by decide +kernel))), (fun _ h => absurd h List.not_mem_nil)⟩)⟩)⟩)⟩)⟩)) rfl rfl rfl (by decide +kernel) ⟨Nat.le_of_ble_eq_true rfl, Nat.le_of_ble_eq_true rfl⟩) hX.sz.1.1 kX4 rfl hl.1 rfl (Nat.le_of_ble_eq_true rfl) dX10_comeEater_36 ⟨Nat.le_of_ble_eq_true rfl, Nat.le_of_ble_eq_true rfl⟩) hW (fun r_13 V_11 H locs hp_12 hW => ?_)
          rcases hp_12 with ⟨rfl, eV_11, w_14⟩ | ⟨rfl, eV_11, w_15⟩
          · skip
            exact m_iret S hr hlk hW dX10_comeEater_39 (by rw [eV_11]; exact ⟨by simp only [aEater, if_pos w_3, hcx, if_pos w_8, if_pos w_14], by simp only [nEater, if_pos w_3, hcx, if_pos w_8, if_pos w_14]; exact hX, XF.rfl V⟩)
          · skip
            exact m_iret S hr hlk hW dX10_comeEater_39 (by rw [eV_11]; exact ⟨by simp only [aEater, if_pos w_3, hcx, if_pos w_8, if_neg (show ¬ gNe q = 5 by omega)], by simp only [nEater, if_pos w_3, hcx, if_pos w_8, if_neg (show ¬ gNe q = 5 by omega)]; exact hX.addE _ _ _ w_15, fun c hc => by rw [mU_no _ _ (by omega), mU_no _ _ (by omega), mU_no _ _ (by omega), mU_no _ _ (by omega), mU_no _ _ (by omega), mU_no _ _ (by omega)]⟩)
        · exact absurd c_10 (by decide)
      · skip
        refine m_if_ne (tgt := 23) hx hb dX10_comeEater_17 (by decide) (fun c_16 => ?_) (fun c_16 => ?_)
        · exact absurd c_16 (by decide)
        · skip
          refine lv_bipush (v := -2) hx hb dX10_comeEater_20 (by decide) ?_
          exact m_iret S hr hlk hW dX10_comeEater_22 (by exact ⟨by simp only [aEater, if_pos w_3, hcx, if_neg w_9]; try rfl, by simp only [nEater, if_pos w_3, hcx, if_neg w_9]; exact hX, XF.rfl V⟩)
  · skip
    refine m_if_eq (tgt := 20) hx hb dX10_comeEater_7 (by decide) (fun c_17 => ?_) (fun c_17 => ?_)
    · skip
      refine lv_bipush (v := -2) hx hb dX10_comeEater_20 (by decide) ?_
      exact m_iret S hr hlk hW dX10_comeEater_22 (by exact ⟨by simp only [aEater, if_neg w_4]; try rfl, by simp only [nEater, if_neg w_4]; exact hX, XF.rfl V⟩)
    · exact absurd c_17 (by decide)
set_option maxHeartbeats 4000000 in
set_option maxRecDepth 100000 in
theorem c_X10_eater (l : Launch) (G : mG) (ad : Nat → Nat) (sh : Nat → Option mSh) (V : mV) (q : Sg) (x y : Int32) (hX : XI sh V q) : mM l yX10_eater wsX10_eater ({ frames := 3, cells := 0, slots := 0, locals := 68 } : Room) G ad sh V [.ref (ad 0), .int x, .int y] 0 0 (mPi ad sh (fun r V' => (aEater q x y) = r ∧ (XI sh V' (nEater q x y)) ∧ (XF V V'))) := by
  refine mM.of (cc := cX10_eater) (maxL := 3) (ret := (some .int)) (by decide) rfl (Nat.le_of_ble_eq_true rfl) ?_
  intro p e s m below meth c S hr hlk hnm hW ls hl
  obtain ⟨hx, hb, hml, hown, hts⟩ := id S
  have hl : lv_has ls 3 [(0, .ref (ad 0)), (1, .int x), (2, .int y)] := hl
  have hS0 : True := trivial
  have hne5 := hX.ne5
  have hng6 := hX.ng6
  have htn := hX.tn
  refine lv_aload_n hx hb dX10_eater_0 rfl (lv_at hl 0 rfl) ?_
  refine lv_iload_n hx hb dX10_eater_1 rfl (lv_at hl 1 rfl) ?_
  refine lv_iload_n hx hb dX10_eater_2 rfl (lv_at hl 2 rfl) ?_
  refine m_ci (m_rV S hW (c_X10_comeEater l G ad sh V q x y hX) (cwV 2 hts (gCall [.methodLink RX10 149 yX10_comeEater, .instanceMethod yX10_comeEater, .selects RX10 yX10_comeEater yX10_comeEater, .initialized RX10] (List.forall_mem_cons.mpr ⟨(wa_22 _ (List.mem_of_getElem? (i := 13) (by decide +kernel))), (List.forall_mem_cons.mpr ⟨(wa_22 _ (List.mem_of_getElem? (i := 10) (by decide +kernel))), (List.forall_mem_cons.mpr ⟨(wa_22 _ (List.mem_of_getElem? (i := 11) (by decide +kernel))), (List.forall_mem_cons.mpr ⟨(wa_22 _ (List.mem_of_getElem? (i := 12) (by decide +kernel))), (List.forall_mem_cons.mpr ⟨(wa_1 _ (List.mem_of_getElem? (i := 2) (by decide +kernel))), (fun _ h => absurd h List.not_mem_nil)⟩)⟩)⟩)⟩)⟩)) rfl rfl rfl (by decide +kernel) ⟨Nat.le_of_ble_eq_true rfl, Nat.le_of_ble_eq_true rfl⟩) hX.sp.1 kX10 rfl hl.1 rfl (Nat.le_of_ble_eq_true rfl) dX10_eater_3 ⟨Nat.le_of_ble_eq_true rfl, Nat.le_of_ble_eq_true rfl⟩) hW (fun r_3 V_1 H locs hp_2 hW => ?_)
  obtain ⟨rfl, hX_4, hF_5⟩ := hp_2
  exact m_iret S hr hlk hW dX10_eater_6 (by exact ⟨rfl, hX_4, hF_5⟩)
set_option maxHeartbeats 4000000 in
set_option maxRecDepth 100000 in
theorem c_X10_lend (l : Launch) (G : mG) (ad : Nat → Nat) (sh : Nat → Option mSh) (V : mV) (q : Sg) (x w v : Int32) (hX : XI sh V q) : mM l yX10_lend wsX10_lend ({ frames := 2, cells := 0, slots := 0, locals := 43 } : Room) G ad sh V [.ref (ad 0), .int x, .int w, .int v] 0 0 (mPi ad sh (fun r V' => (aLend q x w v) = r ∧ (XI sh V' (nLend q x w v)) ∧ (XF V V'))) := by
  refine mM.of (cc := cX10_lend) (maxL := 6) (ret := (some .int)) (by decide) rfl (Nat.le_of_ble_eq_true rfl) ?_
  intro p e s m below meth c S hr hlk hnm hW ls hl
  obtain ⟨hx, hb, hml, hown, hts⟩ := id S
  have hl : lv_has ls 6 [(0, .ref (ad 0)), (1, .int x), (2, .int w), (3, .int v)] := hl
  have hS0 : True := trivial
  have hne5 := hX.ne5
  have hng6 := hX.ng6
  have htn := hX.tn
  refine lv_aload_n hx hb dX10_lend_0 rfl (lv_at hl 0 rfl) ?_
  refine m_getr S hW hX.sp.1 3 rfl (j := 20) rfl kX10 (iW10 _) (by decide) (List.mem_cons_of_mem _ (wa_2 _ (List.mem_of_getElem? (i := 8) (by decide +kernel)))) dX10_lend_1 ?_
  refine lv_iload_n hx hb dX10_lend_4 rfl (lv_at hl 1 rfl) ?_
  refine m_crp (m_rV S hW (c_X4_eaterAt l G ad sh V 20 (110 + 3 * gRl q) ((gT q (gRl q)).2.1) ((gT q (gRl q)).2.2) ((gT q (gRl q)).1.length) (gNe q) (gNg q) x hX.sz.1 hX.sz.2.1) (cwV 1 hts (gCall [.methodLink RX10 120 yX4_eaterAt, .instanceMethod yX4_eaterAt, .selects RX4 yX4_eaterAt yX4_eaterAt, .initialized RX4] (List.forall_mem_cons.mpr ⟨(wa_17 _ (List.mem_of_getElem? (i := 8) (by decide +kernel))), (List.forall_mem_cons.mpr ⟨(wa_17 _ (List.mem_of_getElem? (i := 5) (by decide +kernel))), (List.forall_mem_cons.mpr ⟨(wa_17 _ (List.mem_of_getElem? (i := 6) (by decide +kernel))), (List.forall_mem_cons.mpr ⟨(wa_17 _ (List.mem_of_getElem? (i := 7) (by decide +kernel))), (List.forall_mem_cons.mpr ⟨(wa_2 _ (List.mem_of_getElem? (i := 7) (by decide +kernel))), (fun _ h => absurd h List.not_mem_nil)⟩)⟩)⟩)⟩)⟩)) rfl rfl rfl (by decide +kernel) ⟨Nat.le_of_ble_eq_true rfl, Nat.le_of_ble_eq_true rfl⟩) hX.sz.1.1 kX4 rfl hl.1 rfl (Nat.le_of_ble_eq_true rfl) dX10_lend_5 ⟨Nat.le_of_ble_eq_true rfl, Nat.le_of_ble_eq_true rfl⟩) hW (fun r_2 H locs hp_1 hW => ?_)
  rcases hp_1 with ⟨n_3, rfl, hxn_4, hn_5⟩ | ⟨rfl, hx0_6⟩
  · skip
    refine W.eq (g2 := F0 m 8 ls [.ref (ad (20 + 4 + n_3))]) rfl ?_
    have hpx : mIn x 0 (gNe q) := by rw [hxn_4]; exact (mIn_nI (by have := hX.ne5; have := hX.ng6; omega)).mpr ⟨Nat.zero_le _, hn_5⟩
    have hcx : x.toNatClampNeg = n_3 := by rw [hxn_4]; exact nI_clamp (by have := hX.ne5; have := hX.ng6; omega)
    refine lv_astore (lv' := [(4, .ref (ad (20 + 4 + n_3))), (0, .ref (ad 0)), (1, .int x), (2, .int w), (3, .int v)]) hx hb dX10_lend_8 hl (by decide) rfl (fun ls hl => ?_)
    refine lv_aload hx hb dX10_lend_10 (lv_at hl 0 rfl) ?_
    refine lv_ifnonnull (tgt := 18) hx hb dX10_lend_12 (by decide) ?_
    refine lv_iload_n hx hb dX10_lend_18 rfl (lv_at hl 3 rfl) ?_
    refine m_if_ne (tgt := 48) hx hb dX10_lend_19 (by decide) (fun c_7 => ?_) (fun c_7 => ?_)
    · skip
      refine lv_iload_n hx hb dX10_lend_48 rfl (lv_at hl 3 rfl) ?_
      refine lv_iconst (v := nI 1) hx hb dX10_lend_49 (by decide) ?_
      refine lv_icmp_ne (tgt := 80) hx hb dX10_lend_50 (by decide) (fun c_8 => ?_) (fun c_8 => ?_)
      · skip
        refine lv_bipush (v := -7) hx hb dX10_lend_80 (by decide) ?_
        exact m_iret S hr hlk hW dX10_lend_82 (by exact ⟨by simp only [aLend, if_pos hpx, hcx, if_neg c_7, if_neg c_8]; try rfl, by simp only [nLend, if_pos hpx, hcx, if_neg c_7, if_neg c_8]; exact hX, XF.rfl V⟩)
      · skip
        refine lv_iload_n hx hb dX10_lend_53 rfl (lv_at hl 4 rfl) ?_
        refine lv_iconst (v := nI 0) hx hb dX10_lend_54 (by decide) ?_
        refine lv_sipush (v := nI 9999) hx hb dX10_lend_55 (by decide) ?_
        refine m_cip (m_rS S hW (c_X10_within l G ad sh V v 0 9999 (by first | assumption | omega) (by first | assumption | omega)) (va_cwS 3 hts (gCall [.methodLink RX10 102 yX10_within, .static yX10_within, .initialized RX10] (List.forall_mem_cons.mpr ⟨(wa_8 _ (List.mem_of_getElem? (i := 17) (by decide +kernel))), (List.forall_mem_cons.mpr ⟨(wa_15 _ (List.mem_of_getElem? (i := 8) (by decide +kernel))), (List.forall_mem_cons.mpr ⟨(wa_8 _ (List.mem_of_getElem? (i := 16) (by decide +kernel))), (List.forall_mem_cons.mpr ⟨(wa_1 _ (List.mem_of_getElem? (i := 2) (by decide +kernel))), (fun _ h => absurd h List.not_mem_nil)⟩)⟩)⟩)⟩)) rfl rfl rfl (by decide +kernel) ⟨Nat.le_of_ble_eq_true rfl, Nat.le_of_ble_eq_true rfl⟩) rfl hl.1 rfl (Nat.le_of_ble_eq_true rfl) dX10_lend_58 ⟨Nat.le_of_ble_eq_true rfl, Nat.le_of_ble_eq_true rfl⟩) hW (fun r_10 H locs hp_9 hW => ?_)
        rcases hp_9 with ⟨rfl, w_11⟩ | ⟨rfl, w_12⟩
        · skip
          refine m_if_eq (tgt := 80) hx hb dX10_lend_61 (by decide) (fun c_13 => ?_) (fun c_13 => ?_)
          · exact absurd c_13 (by decide)
          · skip
            refine lv_aload hx hb dX10_lend_64 (lv_at hl 0 rfl) ?_
            refine m_geti S hW (hX.sz.1.2.2.2.2.1 n_3 (Nat.lt_of_lt_of_le hn_5 hX.sz.2.1.2.2.1)) 3 rfl kX1 (iW1 _) (by decide) (List.mem_cons_of_mem _ (wa_23 _ (List.mem_of_getElem? (i := 14) (by decide +kernel)))) dX10_lend_66 ?_
            refine lv_istore (lv' := [(5, .int (V (20 + 4 + n_3) 3)), (4, .ref (ad (20 + 4 + n_3))), (0, .ref (ad 0)), (1, .int x), (2, .int w), (3, .int v)]) hx hb dX10_lend_69 hl (by decide) rfl (fun ls hl => ?_)
            refine lv_aload hx hb dX10_lend_71 (lv_at hl 1 rfl) ?_
            refine lv_iload_n hx hb dX10_lend_73 rfl (lv_at hl 5 rfl) ?_
            refine m_puti S hW (hX.sz.1.2.2.2.2.1 n_3 (Nat.lt_of_lt_of_le hn_5 hX.sz.2.1.2.2.1)) 3 rfl kX1 (iW1 _) tyX1 tyX1_ok nmX1 (by decide) (List.mem_cons_of_mem _ (wa_23 _ (List.mem_of_getElem? (i := 14) (by decide +kernel)))) (Or.inl rfl) rfl rfl dX10_lend_74 (fun H locs hW => ?_)
            obtain ⟨V_14, eV_14⟩ : ∃ z : mV, z = mU V (20 + 4 + n_3) 3 (v) := ⟨_, rfl⟩
            rw [← eV_14] at hW
            refine lv_iload hx hb dX10_lend_77 (lv_at hl 0 rfl) ?_
            exact m_iret S hr hlk hW dX10_lend_79 (by exact ⟨by simp only [aLend, if_pos hpx, hcx, if_neg c_7, if_pos c_8, if_pos w_11]; exact hX.zE 3 hn_5 (by omega), by simp only [nLend, if_pos hpx, hcx, if_neg c_7, if_pos c_8, if_pos w_11]; rw [eV_14, show 20 + 4 + n_3 = 20 + (4 + n_3) by omega]; exact hX.put _ (Or.inr (Or.inl (by omega))), by rw [eV_14]; exact (XF.rfl V).u _ _ (by omega)⟩)
        · skip
          refine m_if_eq (tgt := 80) hx hb dX10_lend_61 (by decide) (fun c_15 => ?_) (fun c_15 => ?_)
          · skip
            refine lv_bipush (v := -7) hx hb dX10_lend_80 (by decide) ?_
            exact m_iret S hr hlk hW dX10_lend_82 (by exact ⟨by simp only [aLend, if_pos hpx, hcx, if_neg c_7, if_pos c_8, if_neg w_12]; try rfl, by simp only [nLend, if_pos hpx, hcx, if_neg c_7, if_pos c_8, if_neg w_12]; exact hX, XF.rfl V⟩)
          · exact absurd c_15 (by decide)
    · skip
      refine lv_iload_n hx hb dX10_lend_22 rfl (lv_at hl 4 rfl) ?_
      refine lv_iconst (v := nI 1) hx hb dX10_lend_23 (by decide) ?_
      refine lv_bipush (v := nI 63) hx hb dX10_lend_24 (by decide) ?_
      refine m_cip (m_rS S hW (c_X10_within l G ad sh V v 1 63 (by first | assumption | omega) (by first | assumption | omega)) (va_cwS 3 hts (gCall [.methodLink RX10 102 yX10_within, .static yX10_within, .initialized RX10] (List.forall_mem_cons.mpr ⟨(wa_8 _ (List.mem_of_getElem? (i := 17) (by decide +kernel))), (List.forall_mem_cons.mpr ⟨(wa_15 _ (List.mem_of_getElem? (i := 8) (by decide +kernel))), (List.forall_mem_cons.mpr ⟨(wa_8 _ (List.mem_of_getElem? (i := 16) (by decide +kernel))), (List.forall_mem_cons.mpr ⟨(wa_1 _ (List.mem_of_getElem? (i := 2) (by decide +kernel))), (fun _ h => absurd h List.not_mem_nil)⟩)⟩)⟩)⟩)) rfl rfl rfl (by decide +kernel) ⟨Nat.le_of_ble_eq_true rfl, Nat.le_of_ble_eq_true rfl⟩) rfl hl.1 rfl (Nat.le_of_ble_eq_true rfl) dX10_lend_26 ⟨Nat.le_of_ble_eq_true rfl, Nat.le_of_ble_eq_true rfl⟩) hW (fun r_17 H locs hp_16 hW => ?_)
      rcases hp_16 with ⟨rfl, w_18⟩ | ⟨rfl, w_19⟩
      · skip
        refine m_if_eq (tgt := 48) hx hb dX10_lend_29 (by decide) (fun c_20 => ?_) (fun c_20 => ?_)
        · exact absurd c_20 (by decide)
        · skip
          refine lv_aload hx hb dX10_lend_32 (lv_at hl 0 rfl) ?_
          refine m_geti S hW (hX.sz.1.2.2.2.2.1 n_3 (Nat.lt_of_lt_of_le hn_5 hX.sz.2.1.2.2.1)) 2 rfl kX1 (iW1 _) (by decide) (List.mem_cons_of_mem _ (wa_23 _ (List.mem_of_getElem? (i := 13) (by decide +kernel)))) dX10_lend_34 ?_
          refine lv_istore (lv' := [(5, .int (V (20 + 4 + n_3) 2)), (4, .ref (ad (20 + 4 + n_3))), (0, .ref (ad 0)), (1, .int x), (2, .int w), (3, .int v)]) hx hb dX10_lend_37 hl (by decide) rfl (fun ls hl => ?_)
          refine lv_aload hx hb dX10_lend_39 (lv_at hl 1 rfl) ?_
          refine lv_iload_n hx hb dX10_lend_41 rfl (lv_at hl 5 rfl) ?_
          refine m_puti S hW (hX.sz.1.2.2.2.2.1 n_3 (Nat.lt_of_lt_of_le hn_5 hX.sz.2.1.2.2.1)) 2 rfl kX1 (iW1 _) tyX1 tyX1_ok nmX1 (by decide) (List.mem_cons_of_mem _ (wa_23 _ (List.mem_of_getElem? (i := 13) (by decide +kernel)))) (Or.inl rfl) rfl rfl dX10_lend_42 (fun H locs hW => ?_)
          obtain ⟨V_21, eV_21⟩ : ∃ z : mV, z = mU V (20 + 4 + n_3) 2 (v) := ⟨_, rfl⟩
          rw [← eV_21] at hW
          refine lv_iload hx hb dX10_lend_45 (lv_at hl 0 rfl) ?_
          exact m_iret S hr hlk hW dX10_lend_47 (by exact ⟨by simp only [aLend, if_pos hpx, hcx, if_pos c_7, if_pos w_18]; exact hX.zE 2 hn_5 (by omega), by simp only [nLend, if_pos hpx, hcx, if_pos c_7, if_pos w_18]; rw [eV_21, show 20 + 4 + n_3 = 20 + (4 + n_3) by omega]; exact hX.put _ (Or.inr (Or.inl (by omega))), by rw [eV_21]; exact (XF.rfl V).u _ _ (by omega)⟩)
      · skip
        refine m_if_eq (tgt := 48) hx hb dX10_lend_29 (by decide) (fun c_22 => ?_) (fun c_22 => ?_)
        · skip
          refine lv_iload_n hx hb dX10_lend_48 rfl (lv_at hl 3 rfl) ?_
          refine lv_iconst (v := nI 1) hx hb dX10_lend_49 (by decide) ?_
          refine lv_icmp_ne (tgt := 80) hx hb dX10_lend_50 (by decide) (fun c_23 => ?_) (fun c_23 => ?_)
          · skip
            refine lv_bipush (v := -7) hx hb dX10_lend_80 (by decide) ?_
            exact m_iret S hr hlk hW dX10_lend_82 (by exact ⟨by simp only [aLend, if_pos hpx, hcx, if_pos c_7, if_neg w_19]; try rfl, by simp only [nLend, if_pos hpx, hcx, if_pos c_7, if_neg w_19]; exact hX, XF.rfl V⟩)
          · skip
            exact absurd (c_7.symm.trans c_23) (by decide)
        · exact absurd c_22 (by decide)
  · skip
    refine W.eq (g2 := F0 m 8 ls [.null]) rfl ?_
    refine lv_astoreN (lv' := [(4, .null), (0, .ref (ad 0)), (1, .int x), (2, .int w), (3, .int v)]) hx hb dX10_lend_8 hl (by decide) rfl (fun ls hl => ?_)
    refine lv_aloadN hx hb dX10_lend_10 (lv_at hl 0 rfl) ?_
    refine lv_ifnonnullN hx hb dX10_lend_12 ?_
    refine lv_bipush (v := -5) hx hb dX10_lend_15 (by decide) ?_
    exact m_iret S hr hlk hW dX10_lend_17 (by exact ⟨by simp only [aLend, if_neg hx0_6]; try rfl, by simp only [nLend, if_neg hx0_6]; exact hX, XF.rfl V⟩)
set_option maxHeartbeats 4000000 in
set_option maxRecDepth 100000 in
theorem c_X10_bite (l : Launch) (G : mG) (ad : Nat → Nat) (sh : Nat → Option mSh) (V : mV) (q : Sg) (x y pl : Int32) (hX : XI sh V q) : mM l yX10_bite wsX10_bite ({ frames := 5, cells := 0, slots := 0, locals := 166 } : Room) G ad sh V [.ref (ad 0), .int x, .int y, .int pl] 0 0 (mPi ad sh (fun r V' => (aBite q x y pl) = r ∧ (XI sh V' (nBite q x y pl)) ∧ (XF V V'))) := by
  refine mM.of (cc := cX10_bite) (maxL := 8) (ret := (some .int)) (by decide) rfl (Nat.le_of_ble_eq_true rfl) ?_
  intro p e s m below meth c S hr hlk hnm hW ls hl
  obtain ⟨hx, hb, hml, hown, hts⟩ := id S
  have hl : lv_has ls 8 [(0, .ref (ad 0)), (1, .int x), (2, .int y), (3, .int pl)] := hl
  have hS0 : True := trivial
  have hne5 := hX.ne5
  have hng6 := hX.ng6
  have htn := hX.tn
  refine lv_aload_n hx hb dX10_bite_0 rfl (lv_at hl 0 rfl) ?_
  refine m_getr S hW hX.sp.1 3 rfl (j := 20) rfl kX10 (iW10 _) (by decide) (List.mem_cons_of_mem _ (wa_2 _ (List.mem_of_getElem? (i := 8) (by decide +kernel)))) dX10_bite_1 ?_
  refine lv_iload_n hx hb dX10_bite_4 rfl (lv_at hl 1 rfl) ?_
  refine m_crp (m_rV S hW (c_X4_eaterAt l G ad sh V 20 (110 + 3 * gRl q) ((gT q (gRl q)).2.1) ((gT q (gRl q)).2.2) ((gT q (gRl q)).1.length) (gNe q) (gNg q) x hX.sz.1 hX.sz.2.1) (cwV 1 hts (gCall [.methodLink RX10 120 yX4_eaterAt, .instanceMethod yX4_eaterAt, .selects RX4 yX4_eaterAt yX4_eaterAt, .initialized RX4] (List.forall_mem_cons.mpr ⟨(wa_17 _ (List.mem_of_getElem? (i := 8) (by decide +kernel))), (List.forall_mem_cons.mpr ⟨(wa_17 _ (List.mem_of_getElem? (i := 5) (by decide +kernel))), (List.forall_mem_cons.mpr ⟨(wa_17 _ (List.mem_of_getElem? (i := 6) (by decide +kernel))), (List.forall_mem_cons.mpr ⟨(wa_17 _ (List.mem_of_getElem? (i := 7) (by decide +kernel))), (List.forall_mem_cons.mpr ⟨(wa_2 _ (List.mem_of_getElem? (i := 7) (by decide +kernel))), (fun _ h => absurd h List.not_mem_nil)⟩)⟩)⟩)⟩)⟩)) rfl rfl rfl (by decide +kernel) ⟨Nat.le_of_ble_eq_true rfl, Nat.le_of_ble_eq_true rfl⟩) hX.sz.1.1 kX4 rfl hl.1 rfl (Nat.le_of_ble_eq_true rfl) dX10_bite_5 ⟨Nat.le_of_ble_eq_true rfl, Nat.le_of_ble_eq_true rfl⟩) hW (fun r_2 H locs hp_1 hW => ?_)
  rcases hp_1 with ⟨n_3, rfl, hxn_4, hn_5⟩ | ⟨rfl, hx0_6⟩
  · skip
    refine W.eq (g2 := F0 m 8 ls [.ref (ad (20 + 4 + n_3))]) rfl ?_
    have hpx : mIn x 0 (gNe q) := by rw [hxn_4]; exact (mIn_nI (by have := hX.ne5; have := hX.ng6; omega)).mpr ⟨Nat.zero_le _, hn_5⟩
    have hcx : x.toNatClampNeg = n_3 := by rw [hxn_4]; exact nI_clamp (by have := hX.ne5; have := hX.ng6; omega)
    refine lv_astore (lv' := [(4, .ref (ad (20 + 4 + n_3))), (0, .ref (ad 0)), (1, .int x), (2, .int y), (3, .int pl)]) hx hb dX10_bite_8 hl (by decide) rfl (fun ls hl => ?_)
    refine lv_aload_n hx hb dX10_bite_10 rfl (lv_at hl 1 rfl) ?_
    refine m_getr S hW hX.sp.1 3 rfl (j := 20) rfl kX10 (iW10 _) (by decide) (List.mem_cons_of_mem _ (wa_2 _ (List.mem_of_getElem? (i := 8) (by decide +kernel)))) dX10_bite_11 ?_
    refine lv_iload_n hx hb dX10_bite_14 rfl (lv_at hl 3 rfl) ?_
    refine m_crp (m_rV S hW (c_X4_goodAt l G ad sh V 20 (110 + 3 * gRl q) ((gT q (gRl q)).2.1) ((gT q (gRl q)).2.2) ((gT q (gRl q)).1.length) (gNe q) (gNg q) y hX.sz.1 hX.sz.2.1) (cwV 1 hts (gCall [.methodLink RX10 124 yX4_goodAt, .instanceMethod yX4_goodAt, .selects RX4 yX4_goodAt yX4_goodAt, .initialized RX4] (List.forall_mem_cons.mpr ⟨(wa_17 _ (List.mem_of_getElem? (i := 13) (by decide +kernel))), (List.forall_mem_cons.mpr ⟨(wa_17 _ (List.mem_of_getElem? (i := 10) (by decide +kernel))), (List.forall_mem_cons.mpr ⟨(wa_17 _ (List.mem_of_getElem? (i := 11) (by decide +kernel))), (List.forall_mem_cons.mpr ⟨(wa_17 _ (List.mem_of_getElem? (i := 12) (by decide +kernel))), (List.forall_mem_cons.mpr ⟨(wa_2 _ (List.mem_of_getElem? (i := 7) (by decide +kernel))), (fun _ h => absurd h List.not_mem_nil)⟩)⟩)⟩)⟩)⟩)) rfl rfl rfl (by decide +kernel) ⟨Nat.le_of_ble_eq_true rfl, Nat.le_of_ble_eq_true rfl⟩) hX.sz.1.1 kX4 rfl hl.1 rfl (Nat.le_of_ble_eq_true rfl) dX10_bite_15 ⟨Nat.le_of_ble_eq_true rfl, Nat.le_of_ble_eq_true rfl⟩) hW (fun r_8 H locs hp_7 hW => ?_)
    rcases hp_7 with ⟨n_9, rfl, hxn_10, hn_11⟩ | ⟨rfl, hx0_12⟩
    · skip
      refine W.eq (g2 := F0 m 18 ls [.ref (ad (20 + 10 + 2 * n_9))]) rfl ?_
      have hpy : mIn y 0 (gNg q) := by rw [hxn_10]; exact (mIn_nI (by have := hX.ne5; have := hX.ng6; omega)).mpr ⟨Nat.zero_le _, hn_11⟩
      have hcy : y.toNatClampNeg = n_9 := by rw [hxn_10]; exact nI_clamp (by have := hX.ne5; have := hX.ng6; omega)
      refine lv_astore (lv' := [(5, .ref (ad (20 + 10 + 2 * n_9))), (4, .ref (ad (20 + 4 + n_3))), (0, .ref (ad 0)), (1, .int x), (2, .int y), (3, .int pl)]) hx hb dX10_bite_18 hl (by decide) rfl (fun ls hl => ?_)
      refine lv_aload hx hb dX10_bite_20 (lv_at hl 1 rfl) ?_
      refine lv_ifnull hx hb dX10_bite_22 ?_
      refine lv_aload hx hb dX10_bite_25 (lv_at hl 0 rfl) ?_
      refine lv_ifnonnull (tgt := 33) hx hb dX10_bite_27 (by decide) ?_
      refine lv_iload_n hx hb dX10_bite_33 rfl (lv_at hl 5 rfl) ?_
      refine m_cip (m_rS S hW (c_X10_isPlace l G ad sh V pl) (va_cwS 1 hts (gCall [.methodLink RX10 173 yX10_isPlace, .static yX10_isPlace, .initialized RX10] (List.forall_mem_cons.mpr ⟨(wa_25 _ (List.mem_of_getElem? (i := 3) (by decide +kernel))), (List.forall_mem_cons.mpr ⟨(wa_25 _ (List.mem_of_getElem? (i := 1) (by decide +kernel))), (List.forall_mem_cons.mpr ⟨(wa_25 _ (List.mem_of_getElem? (i := 2) (by decide +kernel))), (List.forall_mem_cons.mpr ⟨(wa_1 _ (List.mem_of_getElem? (i := 2) (by decide +kernel))), (fun _ h => absurd h List.not_mem_nil)⟩)⟩)⟩)⟩)) rfl rfl rfl (by decide +kernel) ⟨Nat.le_of_ble_eq_true rfl, Nat.le_of_ble_eq_true rfl⟩) rfl hl.1 rfl (Nat.le_of_ble_eq_true rfl) dX10_bite_34 ⟨Nat.le_of_ble_eq_true rfl, Nat.le_of_ble_eq_true rfl⟩) hW (fun r_14 H locs hp_13 hW => ?_)
      rcases hp_13 with ⟨rfl, w_15⟩ | ⟨rfl, w_16⟩
      · skip
        obtain ⟨npl, hnpl, hwnpl, hlnpl⟩ := w_15.ex
        have hcpl : pl.toNatClampNeg = npl := by rw [hnpl]; exact nI_clamp (by omega)
        refine m_if_ne (tgt := 43) hx hb dX10_bite_37 (by decide) (fun c_17 => ?_) (fun c_17 => ?_)
        · skip
          refine lv_aload hx hb dX10_bite_43 (lv_at hl 1 rfl) ?_
          refine lv_aload hx hb dX10_bite_45 (lv_at hl 0 rfl) ?_
          refine lv_iload_n hx hb dX10_bite_47 rfl (lv_at hl 5 rfl) ?_
          refine m_top (y := nI npl) hnpl ?_
          refine m_cie (m_rV S hW (c_X1_markOf l G ad sh V (20 + 4 + n_3) (20 + 10 + 2 * n_9) (nI npl) (hX.sz.sE hn_5) (hX.sz.sG hn_11) (hX.sz.sW hn_11)) (cwV 2 hts (gCall [.methodLink RX10 176 yX1_markOf, .instanceMethod yX1_markOf, .selects RX1 yX1_markOf yX1_markOf, .initialized RX1] (List.forall_mem_cons.mpr ⟨(wa_25 _ (List.mem_of_getElem? (i := 7) (by decide +kernel))), (List.forall_mem_cons.mpr ⟨(wa_25 _ (List.mem_of_getElem? (i := 4) (by decide +kernel))), (List.forall_mem_cons.mpr ⟨(wa_25 _ (List.mem_of_getElem? (i := 5) (by decide +kernel))), (List.forall_mem_cons.mpr ⟨(wa_25 _ (List.mem_of_getElem? (i := 6) (by decide +kernel))), (List.forall_mem_cons.mpr ⟨(wa_3 _ (List.mem_of_getElem? (i := 3) (by decide +kernel))), (fun _ h => absurd h List.not_mem_nil)⟩)⟩)⟩)⟩)⟩)) rfl rfl rfl (by decide +kernel) ⟨Nat.le_of_ble_eq_true rfl, Nat.le_of_ble_eq_true rfl⟩) (hX.sz.1.2.2.2.2.1 n_3 (Nat.lt_of_lt_of_le hn_5 hX.sz.2.1.2.2.1)) kX1 rfl hl.1 rfl (Nat.le_of_ble_eq_true rfl) dX10_bite_48 ⟨Nat.le_of_ble_eq_true rfl, Nat.le_of_ble_eq_true rfl⟩) hW (fun H locs hW => ?_)
          refine m_top (y := (zMk (gZ q) n_3 n_9 npl)) (hX.vMk hn_5 hn_11 npl) ?_
          refine lv_istore (lv' := [(6, .int (zMk (gZ q) n_3 n_9 npl)), (5, .ref (ad (20 + 10 + 2 * n_9))), (4, .ref (ad (20 + 4 + n_3))), (0, .ref (ad 0)), (1, .int x), (2, .int y), (3, .int pl)]) hx hb dX10_bite_51 hl (by decide) rfl (fun ls hl => ?_)
          refine lv_iload hx hb dX10_bite_53 (lv_at hl 0 rfl) ?_
          refine m_if_ne (tgt := 61) hx hb dX10_bite_55 (by decide) (fun c_18 => ?_) (fun c_18 => ?_)
          · skip
            refine lv_aload_n hx hb dX10_bite_61 rfl (lv_at hl 3 rfl) ?_
            refine m_getr S hW hX.sp.1 3 rfl (j := 20) rfl kX10 (iW10 _) (by decide) (List.mem_cons_of_mem _ (wa_2 _ (List.mem_of_getElem? (i := 8) (by decide +kernel)))) dX10_bite_62 ?_
            refine lv_aload hx hb dX10_bite_65 (lv_at hl 2 rfl) ?_
            refine lv_aload hx hb dX10_bite_67 (lv_at hl 1 rfl) ?_
            refine lv_iload hx hb dX10_bite_69 (lv_at hl 0 rfl) ?_
            refine m_cie (m_rV S hW (c_X4_costOf l G ad sh V 20 (110 + 3 * gRl q) ((gT q (gRl q)).2.1) ((gT q (gRl q)).2.2) ((gT q (gRl q)).1.length) (gNe q) (gNg q) (20 + 4 + n_3) (20 + 10 + 2 * n_9) (zMk (gZ q) n_3 n_9 npl) hX.sz.1 hX.sz.2.1 hX.sz.2.2.1 (hX.sz.sE hn_5) (hX.sz.sG hn_11) (hX.sz.sW hn_11)) (cwV 3 hts (gCall [.methodLink RX10 180 yX4_costOf, .instanceMethod yX4_costOf, .selects RX4 yX4_costOf yX4_costOf, .initialized RX4] (List.forall_mem_cons.mpr ⟨(wa_25 _ (List.mem_of_getElem? (i := 13) (by decide +kernel))), (List.forall_mem_cons.mpr ⟨(wa_25 _ (List.mem_of_getElem? (i := 10) (by decide +kernel))), (List.forall_mem_cons.mpr ⟨(wa_25 _ (List.mem_of_getElem? (i := 11) (by decide +kernel))), (List.forall_mem_cons.mpr ⟨(wa_25 _ (List.mem_of_getElem? (i := 12) (by decide +kernel))), (List.forall_mem_cons.mpr ⟨(wa_2 _ (List.mem_of_getElem? (i := 7) (by decide +kernel))), (fun _ h => absurd h List.not_mem_nil)⟩)⟩)⟩)⟩)⟩)) rfl rfl rfl (by decide +kernel) ⟨Nat.le_of_ble_eq_true rfl, Nat.le_of_ble_eq_true rfl⟩) hX.sz.1.1 kX4 rfl hl.1 rfl (Nat.le_of_ble_eq_true rfl) dX10_bite_71 ⟨Nat.le_of_ble_eq_true rfl, Nat.le_of_ble_eq_true rfl⟩) hW (fun H locs hW => ?_)
            refine m_top (y := (zCo (gAsk q) (gZ q) n_3 n_9 (zMk (gZ q) n_3 n_9 npl))) (hX.vCo hn_5 hn_11 _) ?_
            refine lv_istore (lv' := [(7, .int (zCo (gAsk q) (gZ q) n_3 n_9 (zMk (gZ q) n_3 n_9 npl))), (6, .int (zMk (gZ q) n_3 n_9 npl)), (5, .ref (ad (20 + 10 + 2 * n_9))), (4, .ref (ad (20 + 4 + n_3))), (0, .ref (ad 0)), (1, .int x), (2, .int y), (3, .int pl)]) hx hb dX10_bite_74 hl (by decide) rfl (fun ls hl => ?_)
            refine lv_iload hx hb dX10_bite_76 (lv_at hl 0 rfl) ?_
            refine lv_aload hx hb dX10_bite_78 (lv_at hl 3 rfl) ?_
            refine m_geti S hW (hX.sz.1.2.2.2.2.1 n_3 (Nat.lt_of_lt_of_le hn_5 hX.sz.2.1.2.2.1)) 3 rfl kX1 (iW1 _) (by decide) (List.mem_cons_of_mem _ (wa_23 _ (List.mem_of_getElem? (i := 14) (by decide +kernel)))) dX10_bite_80 ?_
            refine lv_icmp_le (tgt := 89) hx hb dX10_bite_83 (by decide) (fun c_19 => ?_) (fun c_19 => ?_)
            · skip
              have hpu := Int32.not_lt.mpr c_19
              rw [← hX.zE 3 hn_5 (by omega)] at hpu
              refine lv_aload_n hx hb dX10_bite_89 rfl (lv_at hl 4 rfl) ?_
              refine m_getr S hW hX.sp.1 3 rfl (j := 20) rfl kX10 (iW10 _) (by decide) (List.mem_cons_of_mem _ (wa_2 _ (List.mem_of_getElem? (i := 8) (by decide +kernel)))) dX10_bite_90 ?_
              refine lv_aload hx hb dX10_bite_93 (lv_at hl 3 rfl) ?_
              refine lv_aload hx hb dX10_bite_95 (lv_at hl 2 rfl) ?_
              refine lv_iload_n hx hb dX10_bite_97 rfl (lv_at hl 7 rfl) ?_
              refine m_top (y := nI npl) hnpl ?_
              refine m_ci (m_rV S hW (c_X4_tryBite_z l G ad sh V 20 (110 + 3 * gRl q) ((gT q (gRl q)).2.1) ((gT q (gRl q)).2.2) ((gT q (gRl q)).1.length) (gNe q) (gNg q) (gAsk q) (gZ q) n_3 n_9 npl hX.sz hn_5 hn_11) (cwV 3 hts (gCall [.methodLink RX10 187 yX4_tryBite, .instanceMethod yX4_tryBite, .selects RX4 yX4_tryBite yX4_tryBite, .initialized RX4] (List.forall_mem_cons.mpr ⟨(wa_27 _ (List.mem_of_getElem? (i := 17) (by decide +kernel))), (List.forall_mem_cons.mpr ⟨(wa_27 _ (List.mem_of_getElem? (i := 14) (by decide +kernel))), (List.forall_mem_cons.mpr ⟨(wa_27 _ (List.mem_of_getElem? (i := 15) (by decide +kernel))), (List.forall_mem_cons.mpr ⟨(wa_27 _ (List.mem_of_getElem? (i := 16) (by decide +kernel))), (List.forall_mem_cons.mpr ⟨(wa_2 _ (List.mem_of_getElem? (i := 7) (by decide +kernel))), (fun _ h => absurd h List.not_mem_nil)⟩)⟩)⟩)⟩)⟩)) rfl rfl rfl (by decide +kernel) ⟨Nat.le_of_ble_eq_true rfl, Nat.le_of_ble_eq_true rfl⟩) hX.sz.1.1 kX4 rfl hl.1 rfl (Nat.le_of_ble_eq_true rfl) dX10_bite_98 ⟨Nat.le_of_ble_eq_true rfl, Nat.le_of_ble_eq_true rfl⟩) hW (fun r_22 V_20 H locs hp_21 hW => ?_)
              rcases hp_21 with ⟨rfl, eV_20, nc_23⟩ | ⟨rfl, yc_24, hv_25⟩
              · skip
                exact absurd ⟨c_18, by rw [hX.zE 3 hn_5 (by omega)]; exact Int32.not_lt.mpr c_19⟩ nc_23
              · skip
                refine lv_pop hx hb dX10_bite_101 rfl ?_
                refine lv_iload hx hb dX10_bite_102 (lv_at hl 0 rfl) ?_
                exact m_iret S hr hlk hW dX10_bite_104 (by exact ⟨by simp only [aBite, if_pos hpx, hcx, if_pos hpy, hcy, if_pos w_15, hcpl, if_neg c_18, if_neg hpu], by simp only [nBite, if_pos hpx, hcx, if_pos hpy, hcy, if_pos w_15, hcpl, if_neg c_18, if_neg hpu]; rw [hv_25]; exact hX.bited hn_5 hn_11, fun c hc => by rw [hv_25, fBite, mU_no _ _ (by omega), mU_no _ _ (by omega), mU_no _ _ (by omega), mU_no _ _ (by omega)]⟩)
            · skip
              have hpu := Int32.not_le.mp c_19
              rw [← hX.zE 3 hn_5 (by omega)] at hpu
              refine lv_bipush (v := -4) hx hb dX10_bite_86 (by decide) ?_
              exact m_iret S hr hlk hW dX10_bite_88 (by exact ⟨by simp only [aBite, if_pos hpx, hcx, if_pos hpy, hcy, if_pos w_15, hcpl, if_neg c_18, if_pos hpu]; try rfl, by simp only [nBite, if_pos hpx, hcx, if_pos hpy, hcy, if_pos w_15, hcpl, if_neg c_18, if_pos hpu]; exact hX, XF.rfl V⟩)
          · skip
            refine lv_bipush (v := -3) hx hb dX10_bite_58 (by decide) ?_
            exact m_iret S hr hlk hW dX10_bite_60 (by exact ⟨by simp only [aBite, if_pos hpx, hcx, if_pos hpy, hcy, if_pos w_15, hcpl, if_pos c_18]; try rfl, by simp only [nBite, if_pos hpx, hcx, if_pos hpy, hcy, if_pos w_15, hcpl, if_pos c_18]; exact hX, XF.rfl V⟩)
        · exact absurd c_17 (by decide)
      · skip
        refine m_if_ne (tgt := 43) hx hb dX10_bite_37 (by decide) (fun c_26 => ?_) (fun c_26 => ?_)
        · exact absurd c_26 (by decide)
        · skip
          refine lv_bipush (v := -7) hx hb dX10_bite_40 (by decide) ?_
          exact m_iret S hr hlk hW dX10_bite_42 (by exact ⟨by simp only [aBite, if_pos hpx, hcx, if_pos hpy, hcy, if_neg w_16]; try rfl, by simp only [nBite, if_pos hpx, hcx, if_pos hpy, hcy, if_neg w_16]; exact hX, XF.rfl V⟩)
    · skip
      refine W.eq (g2 := F0 m 18 ls [.null]) rfl ?_
      refine lv_astoreN (lv' := [(5, .null), (4, .ref (ad (20 + 4 + n_3))), (0, .ref (ad 0)), (1, .int x), (2, .int y), (3, .int pl)]) hx hb dX10_bite_18 hl (by decide) rfl (fun ls hl => ?_)
      refine lv_aload hx hb dX10_bite_20 (lv_at hl 1 rfl) ?_
      refine lv_ifnull hx hb dX10_bite_22 ?_
      refine lv_aloadN hx hb dX10_bite_25 (lv_at hl 0 rfl) ?_
      refine lv_ifnonnullN hx hb dX10_bite_27 ?_
      refine lv_bipush (v := -5) hx hb dX10_bite_30 (by decide) ?_
      exact m_iret S hr hlk hW dX10_bite_32 (by exact ⟨by simp only [aBite, if_pos hpx, hcx, if_neg hx0_12]; try rfl, by simp only [nBite, if_pos hpx, hcx, if_neg hx0_12]; exact hX, XF.rfl V⟩)
  · skip
    refine W.eq (g2 := F0 m 8 ls [.null]) rfl ?_
    refine lv_astoreN (lv' := [(4, .null), (0, .ref (ad 0)), (1, .int x), (2, .int y), (3, .int pl)]) hx hb dX10_bite_8 hl (by decide) rfl (fun ls hl => ?_)
    refine lv_aload_n hx hb dX10_bite_10 rfl (lv_at hl 1 rfl) ?_
    refine m_getr S hW hX.sp.1 3 rfl (j := 20) rfl kX10 (iW10 _) (by decide) (List.mem_cons_of_mem _ (wa_2 _ (List.mem_of_getElem? (i := 8) (by decide +kernel)))) dX10_bite_11 ?_
    refine lv_iload_n hx hb dX10_bite_14 rfl (lv_at hl 3 rfl) ?_
    refine m_crp (m_rV S hW (c_X4_goodAt l G ad sh V 20 (110 + 3 * gRl q) ((gT q (gRl q)).2.1) ((gT q (gRl q)).2.2) ((gT q (gRl q)).1.length) (gNe q) (gNg q) y hX.sz.1 hX.sz.2.1) (cwV 1 hts (gCall [.methodLink RX10 124 yX4_goodAt, .instanceMethod yX4_goodAt, .selects RX4 yX4_goodAt yX4_goodAt, .initialized RX4] (List.forall_mem_cons.mpr ⟨(wa_17 _ (List.mem_of_getElem? (i := 13) (by decide +kernel))), (List.forall_mem_cons.mpr ⟨(wa_17 _ (List.mem_of_getElem? (i := 10) (by decide +kernel))), (List.forall_mem_cons.mpr ⟨(wa_17 _ (List.mem_of_getElem? (i := 11) (by decide +kernel))), (List.forall_mem_cons.mpr ⟨(wa_17 _ (List.mem_of_getElem? (i := 12) (by decide +kernel))), (List.forall_mem_cons.mpr ⟨(wa_2 _ (List.mem_of_getElem? (i := 7) (by decide +kernel))), (fun _ h => absurd h List.not_mem_nil)⟩)⟩)⟩)⟩)⟩)) rfl rfl rfl (by decide +kernel) ⟨Nat.le_of_ble_eq_true rfl, Nat.le_of_ble_eq_true rfl⟩) hX.sz.1.1 kX4 rfl hl.1 rfl (Nat.le_of_ble_eq_true rfl) dX10_bite_15 ⟨Nat.le_of_ble_eq_true rfl, Nat.le_of_ble_eq_true rfl⟩) hW (fun r_28 H locs hp_27 hW => ?_)
    rcases hp_27 with ⟨n_29, rfl, hxn_30, hn_31⟩ | ⟨rfl, hx0_32⟩
    · skip
      refine W.eq (g2 := F0 m 18 ls [.ref (ad (20 + 10 + 2 * n_29))]) rfl ?_
      have hpy : mIn y 0 (gNg q) := by rw [hxn_30]; exact (mIn_nI (by have := hX.ne5; have := hX.ng6; omega)).mpr ⟨Nat.zero_le _, hn_31⟩
      have hcy : y.toNatClampNeg = n_29 := by rw [hxn_30]; exact nI_clamp (by have := hX.ne5; have := hX.ng6; omega)
      refine lv_astore (lv' := [(5, .ref (ad (20 + 10 + 2 * n_29))), (4, .null), (0, .ref (ad 0)), (1, .int x), (2, .int y), (3, .int pl)]) hx hb dX10_bite_18 hl (by decide) rfl (fun ls hl => ?_)
      refine lv_aloadN hx hb dX10_bite_20 (lv_at hl 1 rfl) ?_
      refine lv_ifnullN (tgt := 30) hx hb dX10_bite_22 (by decide) ?_
      refine lv_bipush (v := -5) hx hb dX10_bite_30 (by decide) ?_
      exact m_iret S hr hlk hW dX10_bite_32 (by exact ⟨by simp only [aBite, if_neg hx0_6, if_pos hpy, hcy]; try rfl, by simp only [nBite, if_neg hx0_6, if_pos hpy, hcy]; exact hX, XF.rfl V⟩)
    · skip
      refine W.eq (g2 := F0 m 18 ls [.null]) rfl ?_
      refine lv_astoreN (lv' := [(5, .null), (4, .null), (0, .ref (ad 0)), (1, .int x), (2, .int y), (3, .int pl)]) hx hb dX10_bite_18 hl (by decide) rfl (fun ls hl => ?_)
      refine lv_aloadN hx hb dX10_bite_20 (lv_at hl 1 rfl) ?_
      refine lv_ifnullN (tgt := 30) hx hb dX10_bite_22 (by decide) ?_
      refine lv_bipush (v := -5) hx hb dX10_bite_30 (by decide) ?_
      exact m_iret S hr hlk hW dX10_bite_32 (by exact ⟨by simp only [aBite, if_neg hx0_6, if_neg hx0_32]; try rfl, by simp only [nBite, if_neg hx0_6, if_neg hx0_32]; exact hX, XF.rfl V⟩)
set_option maxHeartbeats 4000000 in
set_option maxRecDepth 100000 in
theorem c_X10_image (l : Launch) (G : mG) (ad : Nat → Nat) (sh : Nat → Option mSh) (V : mV) (q : Sg)  (hX : XI sh V q) : mM l yX10_image wsX10_image ({ frames := 3, cells := 0, slots := 0, locals := 104 } : Room) G ad sh V [.ref (ad 0)] 0 0 (mPi ad sh (fun r V' => (nI (gNe q)) = r ∧ (XI sh V' (nImage q)) ∧ (XF V V'))) := by
  refine mM.of (cc := cX10_image) (maxL := 1) (ret := (some .int)) (by decide) rfl (Nat.le_of_ble_eq_true rfl) ?_
  intro p e s m below meth c S hr hlk hnm hW ls hl
  obtain ⟨hx, hb, hml, hown, hts⟩ := id S
  have hl : lv_has ls 1 [(0, .ref (ad 0))] := hl
  have hS0 : True := trivial
  have hne5 := hX.ne5
  have hng6 := hX.ng6
  have htn := hX.tn
  refine lv_aload_n hx hb dX10_image_0 rfl (lv_at hl 0 rfl) ?_
  refine m_getr S hW hX.sp.1 4 rfl (j := 50) rfl kX10 (iW10 _) (by decide) (List.mem_cons_of_mem _ (wa_2 _ (List.mem_of_getElem? (i := 9) (by decide +kernel)))) dX10_image_1 ?_
  refine lv_aload_n hx hb dX10_image_4 rfl (lv_at hl 0 rfl) ?_
  refine m_getr S hW hX.sp.1 3 rfl (j := 20) rfl kX10 (iW10 _) (by decide) (List.mem_cons_of_mem _ (wa_2 _ (List.mem_of_getElem? (i := 8) (by decide +kernel)))) dX10_image_5 ?_
  refine m_cv (m_rV S hW (c_X4_become l G ad sh V 50 20 (gNe q) (gNg q) hX.sp.2.2.2.2.2.2.2.1.2.1 hX.sz.1 hX.now.1 hX.now.2.1 (by first | assumption | omega) (by first | assumption | omega) (Or.inr (by omega)) hX.tx20) (cwV 1 hts (gCall [.methodLink RX10 287 yX4_become, .instanceMethod yX4_become, .selects RX4 yX4_become yX4_become, .initialized RX4] (List.forall_mem_cons.mpr ⟨(wa_30 _ (List.mem_of_getElem? (i := 11) (by decide +kernel))), (List.forall_mem_cons.mpr ⟨(wa_43 _ (List.mem_of_getElem? (i := 22) (by decide +kernel))), (List.forall_mem_cons.mpr ⟨(wa_30 _ (List.mem_of_getElem? (i := 9) (by decide +kernel))), (List.forall_mem_cons.mpr ⟨(wa_30 _ (List.mem_of_getElem? (i := 10) (by decide +kernel))), (List.forall_mem_cons.mpr ⟨(wa_2 _ (List.mem_of_getElem? (i := 7) (by decide +kernel))), (fun _ h => absurd h List.not_mem_nil)⟩)⟩)⟩)⟩)⟩)) rfl rfl rfl (by decide +kernel) ⟨Nat.le_of_ble_eq_true rfl, Nat.le_of_ble_eq_true rfl⟩) hX.sp.2.2.2.2.2.2.2.1.2.1.1 kX4 rfl hl.1 rfl (Nat.le_of_ble_eq_true rfl) dX10_image_8 ⟨Nat.le_of_ble_eq_true rfl, Nat.le_of_ble_eq_true rfl⟩) hW (fun V_1 H locs hp_2 hW => ?_)
  have eV_1 : V_1 = fBec V 50 20 (gNe q) (gNg q) := hp_2
  refine lv_aload_n hx hb dX10_image_11 rfl (lv_at hl 0 rfl) ?_
  refine lv_iconst (v := nI 1) hx hb dX10_image_12 (by decide) ?_
  refine m_puti S hW hX.sp.1 5 rfl kX10 (iW10 _) tyX10 tyX10_ok nmX10 (by decide) (List.mem_cons_of_mem _ (wa_43 _ (List.mem_of_getElem? (i := 21) (by decide +kernel)))) (Or.inl rfl) rfl rfl dX10_image_13 (fun H locs hW => ?_)
  obtain ⟨V_4, eV_4⟩ : ∃ z : mV, z = mU V_1 0 5 (nI 1) := ⟨_, rfl⟩
  rw [← eV_4] at hW
  refine lv_aload_n hx hb dX10_image_16 rfl (lv_at hl 0 rfl) ?_
  refine m_getr S hW hX.sp.1 3 rfl (j := 20) rfl kX10 (iW10 _) (by decide) (List.mem_cons_of_mem _ (wa_2 _ (List.mem_of_getElem? (i := 8) (by decide +kernel)))) dX10_image_17 ?_
  refine m_geti S hW hX.sz.1.1 2 rfl kX4 (iW4 _) (by decide) (List.mem_cons_of_mem _ (wa_14 _ (List.mem_of_getElem? (i := 11) (by decide +kernel)))) dX10_image_20 ?_
  refine m_top (y := nI (gNe q)) (by rw [eV_4, mU_no _ _ (by omega), eV_1, fBec_no V hne5 hng6 (by omega)]; exact hX.now.1) ?_
  exact m_iret S hr hlk hW dX10_image_23 (by exact ⟨rfl, by rw [eV_4, eV_1]; exact hX.image, fun c hc => by rw [eV_4, eV_1, mU_no _ _ (by omega), fBec_no V hne5 hng6 (by omega)]⟩)
set_option maxHeartbeats 4000000 in
set_option maxRecDepth 100000 in
theorem c_X10_back (l : Launch) (G : mG) (ad : Nat → Nat) (sh : Nat → Option mSh) (V : mV) (q : Sg)  (hX : XI sh V q) : mM l yX10_back wsX10_back ({ frames := 3, cells := 0, slots := 0, locals := 104 } : Room) G ad sh V [.ref (ad 0)] 0 0 (mPi ad sh (fun r V' => (aBack q) = r ∧ (XI sh V' (nBack q)) ∧ (XF V V'))) := by
  refine mM.of (cc := cX10_back) (maxL := 1) (ret := (some .int)) (by decide) rfl (Nat.le_of_ble_eq_true rfl) ?_
  intro p e s m below meth c S hr hlk hnm hW ls hl
  obtain ⟨hx, hb, hml, hown, hts⟩ := id S
  have hl : lv_has ls 1 [(0, .ref (ad 0))] := hl
  have hS0 : True := trivial
  have hne5 := hX.ne5
  have hng6 := hX.ng6
  have htn := hX.tn
  refine lv_aload_n hx hb dX10_back_0 rfl (lv_at hl 0 rfl) ?_
  refine m_geti S hW hX.sp.1 5 rfl kX10 (iW10 _) (by decide) (List.mem_cons_of_mem _ (wa_43 _ (List.mem_of_getElem? (i := 21) (by decide +kernel)))) dX10_back_1 ?_
  refine m_if_ne (tgt := 10) hx hb dX10_back_4 (by decide) (fun c_1 => ?_) (fun c_1 => ?_)
  · skip
    refine lv_aload_n hx hb dX10_back_10 rfl (lv_at hl 0 rfl) ?_
    refine m_getr S hW hX.sp.1 3 rfl (j := 20) rfl kX10 (iW10 _) (by decide) (List.mem_cons_of_mem _ (wa_2 _ (List.mem_of_getElem? (i := 8) (by decide +kernel)))) dX10_back_11 ?_
    refine lv_aload_n hx hb dX10_back_14 rfl (lv_at hl 0 rfl) ?_
    refine m_getr S hW hX.sp.1 4 rfl (j := 50) rfl kX10 (iW10 _) (by decide) (List.mem_cons_of_mem _ (wa_2 _ (List.mem_of_getElem? (i := 9) (by decide +kernel)))) dX10_back_15 ?_
    refine m_cv (m_rV S hW (c_X4_become l G ad sh V 20 50 ((gIm q).2.1) ((gIm q).2.2.1) hX.sz.1 hX.sp.2.2.2.2.2.2.2.1.2.1 hX.im.1 hX.im.2.1 hX.im.2.2.1 hX.im.2.2.2.1 (Or.inl (by omega)) hX.tx50) (cwV 1 hts (gCall [.methodLink RX10 287 yX4_become, .instanceMethod yX4_become, .selects RX4 yX4_become yX4_become, .initialized RX4] (List.forall_mem_cons.mpr ⟨(wa_30 _ (List.mem_of_getElem? (i := 11) (by decide +kernel))), (List.forall_mem_cons.mpr ⟨(wa_43 _ (List.mem_of_getElem? (i := 22) (by decide +kernel))), (List.forall_mem_cons.mpr ⟨(wa_30 _ (List.mem_of_getElem? (i := 9) (by decide +kernel))), (List.forall_mem_cons.mpr ⟨(wa_30 _ (List.mem_of_getElem? (i := 10) (by decide +kernel))), (List.forall_mem_cons.mpr ⟨(wa_2 _ (List.mem_of_getElem? (i := 7) (by decide +kernel))), (fun _ h => absurd h List.not_mem_nil)⟩)⟩)⟩)⟩)⟩)) rfl rfl rfl (by decide +kernel) ⟨Nat.le_of_ble_eq_true rfl, Nat.le_of_ble_eq_true rfl⟩) hX.sz.1.1 kX4 rfl hl.1 rfl (Nat.le_of_ble_eq_true rfl) dX10_back_18 ⟨Nat.le_of_ble_eq_true rfl, Nat.le_of_ble_eq_true rfl⟩) hW (fun V_2 H locs hp_3 hW => ?_)
    have eV_2 : V_2 = fBec V 20 50 ((gIm q).2.1) ((gIm q).2.2.1) := hp_3
    refine lv_aload_n hx hb dX10_back_21 rfl (lv_at hl 0 rfl) ?_
    refine m_getr S hW hX.sp.1 3 rfl (j := 20) rfl kX10 (iW10 _) (by decide) (List.mem_cons_of_mem _ (wa_2 _ (List.mem_of_getElem? (i := 8) (by decide +kernel)))) dX10_back_22 ?_
    refine m_geti S hW hX.sz.1.1 2 rfl kX4 (iW4 _) (by decide) (List.mem_cons_of_mem _ (wa_14 _ (List.mem_of_getElem? (i := 11) (by decide +kernel)))) dX10_back_25 ?_
    refine m_top (y := nI ((gIm q).2.1)) (by rw [eV_2, fBec_d _ _ _ _ _ _ (by omega) (by omega)]; exact hX.im.1) ?_
    exact m_iret S hr hlk hW dX10_back_28 (by have hh : gHas q = true := Decidable.byContradiction (fun z => by rw [hX.has, if_neg z] at c_1; exact c_1 rfl); exact ⟨by rw [aBack, if_pos hh], by rw [nBack, if_pos hh, eV_2]; exact hX.back, fun c hc => by rw [eV_2, fBec_no V hX.im.2.2.1 hX.im.2.2.2.1 (by omega)]⟩)
  · skip
    refine lv_bipush (v := -3) hx hb dX10_back_7 (by decide) ?_
    exact m_iret S hr hlk hW dX10_back_9 (by have hh : ¬ gHas q = true := (fun z => by rw [hX.has, if_pos z] at c_1; exact absurd c_1 (by decide)); exact ⟨by rw [aBack, if_neg hh], by rw [nBack, if_neg hh]; exact hX, XF.rfl V⟩)
