/-! the reference's view: its rows, its scene, its texts -/
def MSh (sh : Nat → Option mSh) : Prop := sh 200 = some sM ∧ sh 201 = some (mI 72) ∧ sh 202 = some (mI 5) ∧ sh 203 = some (mI 5) ∧ sh 204 = some (mI 15) ∧ sh 205 = some (mI 160) ∧ sh 206 = some (mI 1200) ∧ sh 207 = some (mI 24) ∧ sh 208 = some (mI 72) ∧ sh 209 = some (mI 15) ∧ sh 210 = some (mI 4) ∧ sh 211 = some (mI 4) ∧ sh 212 = some (mI 4) ∧ sh 213 = some (mI 160) ∧ sh 214 = some (mI 40) ∧ sh 215 = some (mI 96) ∧ sh 216 = some (mI 200) ∧ sh 217 = some (mS 200) ∧ sh 218 = some (mS 6) ∧ sh 219 = some (mI 21) ∧ sh 220 = some (mI 5) ∧ sh 221 = some (mS 1024)
/-- the scene, as the reference has it -/
def mv (V : mV) (ne ng : Nat) : fZ := fun a k => if zM ne ng a k then (if a = 0 then V 200 6 else if a < 10 then (if k = 0 then V 202 (a - 4) else if k = 1 then V 203 (a - 4) else V 204 (3 * (a - 4) + (k - 2))) else if a % 2 = 0 then V 201 (12 * ((a - 10) / 2) + (9 + k)) else V 201 (12 * ((a - 11) / 2) + k)) else 0
section MVV
variable (V : mV) {ne ng e g : Nat}
theorem mv_day : mv V ne ng 0 4 = V 200 6 := by rw [mv, if_pos (Or.inl ⟨rfl, rfl⟩), if_pos rfl]
theorem mv_ki (he : e < ne) (h5 : ne ≤ 5) : mv V ne ng (4 + e) 0 = V 202 e := by rw [mv, if_pos (Or.inr (Or.inl (by omega))), if_neg (by omega), if_pos (by omega), if_pos rfl, show 4 + e - 4 = e by omega]
theorem mv_mo (he : e < ne) (h5 : ne ≤ 5) : mv V ne ng (4 + e) 1 = V 203 e := by rw [mv, if_pos (Or.inr (Or.inl (by omega))), if_neg (by omega), if_pos (by omega), if_neg (by omega), if_pos rfl, show 4 + e - 4 = e by omega]
theorem mv_ja (he : e < ne) (h5 : ne ≤ 5) : mv V ne ng (4 + e) 2 = V 204 (3 * e) := by rw [mv, if_pos (Or.inr (Or.inl (by omega))), if_neg (by omega), if_pos (by omega), if_neg (by omega), if_neg (by omega), show 3 * (4 + e - 4) + (2 - 2) = 3 * e by omega]
theorem mv_pu (he : e < ne) (h5 : ne ≤ 5) : mv V ne ng (4 + e) 3 = V 204 (3 * e + 1) := by rw [mv, if_pos (Or.inr (Or.inl (by omega))), if_neg (by omega), if_pos (by omega), if_neg (by omega), if_neg (by omega), show 3 * (4 + e - 4) + (3 - 2) = 3 * e + 1 by omega]
theorem mv_ha (he : e < ne) (h5 : ne ≤ 5) : mv V ne ng (4 + e) 4 = V 204 (3 * e + 2) := by rw [mv, if_pos (Or.inr (Or.inl (by omega))), if_neg (by omega), if_pos (by omega), if_neg (by omega), if_neg (by omega), show 3 * (4 + e - 4) + (4 - 2) = 3 * e + 2 by omega]
theorem mv_so (hg : g < ng) : mv V ne ng (10 + 2 * g) 1 = V 201 (12 * g + 10) := by rw [mv, if_pos (Or.inr (Or.inr (by omega))), if_neg (by omega), if_neg (by omega), if_pos (by omega), show 12 * ((10 + 2 * g - 10) / 2) + (9 + 1) = 12 * g + 10 by omega]
theorem mv_le (hg : g < ng) : mv V ne ng (10 + 2 * g) 2 = V 201 (12 * g + 11) := by rw [mv, if_pos (Or.inr (Or.inr (by omega))), if_neg (by omega), if_neg (by omega), if_pos (by omega), show 12 * ((10 + 2 * g - 10) / 2) + (9 + 2) = 12 * g + 11 by omega]
theorem mv_wo (hg : g < ng) {c : Nat} (hc : c < 10) : mv V ne ng (11 + 2 * g) c = V 201 (12 * g + c) := by rw [mv, if_pos (Or.inr (Or.inr (by omega))), if_neg (by omega), if_neg (by omega), if_neg (by omega), show 12 * ((11 + 2 * g - 11) / 2) + c = 12 * g + c by omega]
theorem mv_congr {V' : mV} (h5 : ne ≤ 5) (hd : V' 200 6 = V 200 6) (hk : ∀ e, e < ne → V' 202 e = V 202 e ∧ V' 203 e = V 203 e) (hr : ∀ k, k < 3 * ne → V' 204 k = V 204 k) (hp : ∀ k, k < 12 * ng → V' 201 k = V 201 k) : mv V' ne ng = mv V ne ng := by
  funext a k
  by_cases h : zM ne ng a k
  · rw [mv, mv, if_pos h, if_pos h]
    by_cases h0 : a = 0
    · rw [if_pos h0, if_pos h0, hd]
    · rw [if_neg h0, if_neg h0]
      by_cases h1 : a < 10
      · rw [if_pos h1, if_pos h1]
        have ha : a - 4 < ne ∧ k < 5 := by rcases h with ⟨h, -⟩ | ⟨h2, h3, h4⟩ | ⟨h2, -⟩ <;> omega
        by_cases k0 : k = 0
        · rw [if_pos k0, if_pos k0, (hk _ ha.1).1]
        · rw [if_neg k0, if_neg k0]
          by_cases k1 : k = 1
          · rw [if_pos k1, if_pos k1, (hk _ ha.1).2]
          · rw [if_neg k1, if_neg k1, hr _ (by omega)]
      · rw [if_neg h1, if_neg h1]
        have h3 : 10 ≤ a ∧ a < 10 + 2 * ng ∧ ((a % 2 = 0 ∧ (k = 1 ∨ k = 2)) ∨ (a % 2 = 1 ∧ k < 10)) := by
          rcases h with ⟨h, -⟩ | h | h
          · omega
          · omega
          · exact h
        by_cases hev : a % 2 = 0
        · rw [if_pos hev, if_pos hev, hp _ (by omega)]
        · rw [if_neg hev, if_neg hev, hp _ (by omega)]
  · rw [mv, mv, if_neg h, if_neg h]
end MVV
/-! numbers of a scene within its bounds -/
def zn (z : fZ) (a k : Nat) : Nat := (z a k).toNatClampNeg
theorem zn_of {z : fZ} {a k b : Nat} (h : ∃ d, d < b ∧ z a k = nI d) (hb : b ≤ 2 ^ 31 := by decide) : z a k = nI (zn z a k) ∧ zn z a k < b := by
  obtain ⟨d, h1, h2⟩ := h
  rw [zn, h2, nI_clamp (by omega)]
  exact ⟨rfl, h1⟩
section ZOKS
variable {z : fZ} {ne ng e g : Nat}
theorem ZOk.day (h : ZOk z ne ng) : z 0 4 = nI (zn z 0 4) ∧ zn z 0 4 < 100 := zn_of h.1
theorem ZOk.ki (h : ZOk z ne ng) (he : e < ne) : z (4 + e) 0 = nI (zn z (4 + e) 0) ∧ zn z (4 + e) 0 < 6 := zn_of (h.2.1 e he).1
theorem ZOk.mo (h : ZOk z ne ng) (he : e < ne) : z (4 + e) 1 = nI (zn z (4 + e) 1) ∧ zn z (4 + e) 1 < 10 := zn_of (h.2.1 e he).2.1
theorem ZOk.ja (h : ZOk z ne ng) (he : e < ne) : z (4 + e) 2 = nI (zn z (4 + e) 2) ∧ 1 ≤ zn z (4 + e) 2 ∧ zn z (4 + e) 2 < 64 := by
  obtain ⟨d, h1, h2, h3⟩ := (h.2.1 e he).2.2.1
  rw [zn, h3, nI_clamp (by omega)]
  exact ⟨rfl, h1, h2⟩
theorem ZOk.pu (h : ZOk z ne ng) (he : e < ne) : z (4 + e) 3 = nI (zn z (4 + e) 3) ∧ zn z (4 + e) 3 < 10000 := zn_of (h.2.1 e he).2.2.2.1
theorem ZOk.ha (h : ZOk z ne ng) (he : e < ne) : z (4 + e) 4 = nI (zn z (4 + e) 4) ∧ zn z (4 + e) 4 < 10000 := zn_of (h.2.1 e he).2.2.2.2
theorem ZOk.so (h : ZOk z ne ng) (hg : g < ng) : z (10 + 2 * g) 1 = nI (zn z (10 + 2 * g) 1) ∧ zn z (10 + 2 * g) 1 < 10 := zn_of (h.2.2 g hg).1
theorem ZOk.le (h : ZOk z ne ng) (hg : g < ng) : z (10 + 2 * g) 2 = nI (zn z (10 + 2 * g) 2) ∧ zn z (10 + 2 * g) 2 < 1024 := zn_of (h.2.2 g hg).2.1
theorem ZOk.wo (h : ZOk z ne ng) (hg : g < ng) {c : Nat} (hc : c < 10) : z (11 + 2 * g) c = nI (zn z (11 + 2 * g) c) ∧ zn z (11 + 2 * g) c < 100 := zn_of ((h.2.2 g hg).2.2 c hc)
end ZOKS
/-! marks -/
def shN (sp p : Nat) : Nat := if 6 ≤ p then sp * 2 ^ (p - 6) else sp / 2 ^ (6 - p)
def mkN (sp le p : Nat) : Nat := shN sp p &&& le
theorem mk_pl : ∀ p, p < 16 → (6 ≤ p → nI 0 ≤ nI p - nI 6 ∧ nI p - nI 6 = nI (p - 6)) ∧ (¬ 6 ≤ p → ¬ nI 0 ≤ nI p - nI 6 ∧ -(nI p - nI 6) = nI (6 - p)) := by decide +kernel
theorem mkN_lt {sp le p : Nat} (h : le < 1024) : mkN sp le p < 1024 := Nat.lt_of_le_of_lt Nat.and_le_right h
theorem fMark_nI {sp le p : Nat} (hsp : sp < 128) (hp : p < 16) : fMark (nI sp) (nI le) (nI p) = nI (mkN sp le p) := by
  rw [fMark, mkN, shN]
  by_cases h : 6 ≤ p
  · obtain ⟨h1, h2⟩ := (mk_pl p hp).1 h
    have h3 : 2 ^ (p - 6) ≤ 2 ^ 9 := Nat.pow_le_pow_right (by decide) (by omega)
    have h4 : sp * 2 ^ (p - 6) ≤ 127 * 2 ^ 9 := Nat.mul_le_mul (by omega) h3
    rw [if_pos h1, if_pos h, h2, m_shl (by omega) (by omega), m_and]
  · obtain ⟨h1, h2⟩ := (mk_pl p hp).2 h
    rw [if_neg h1, if_neg h, h2, m_shr (by omega) (by omega), m_and]
theorem shN_bit (sp p c : Nat) : (shN sp p).testBit c = (decide (p ≤ c + 6) && sp.testBit (c + 6 - p)) := by
  rw [shN]
  by_cases h : 6 ≤ p
  · rw [if_pos h, Nat.testBit_mul_two_pow]
    by_cases h2 : p ≤ c + 6
    · rw [show c - (p - 6) = c + 6 - p by omega]
      simp [h2, show p - 6 ≤ c by omega]
    · simp [h2, show ¬ (p - 6 ≤ c) by omega]
  · rw [if_neg h, Nat.testBit_div_two_pow, show c + (6 - p) = c + 6 - p by omega]
    simp [show p ≤ c + 6 by omega]
def mkP (sp le p c : Nat) : Nat := mkN sp le p % 2 ^ c
theorem mod_step (n c : Nat) : n % 2 ^ (c + 1) = n % 2 ^ c ||| (if n.testBit c = true then 2 ^ c else 0) := by
  apply Nat.eq_of_testBit_eq
  intro i
  rw [Nat.testBit_or, Nat.testBit_mod_two_pow, Nat.testBit_mod_two_pow]
  by_cases hi : i = c
  · subst hi
    by_cases hn : n.testBit i = true
    · simp [hn, Nat.testBit_two_pow_self]
    · simp [hn]
  · by_cases hn : n.testBit c = true
    · rw [if_pos hn, Nat.testBit_two_pow_of_ne (Ne.symm hi)]
      by_cases h1 : i < c
      · simp [h1, show i < c + 1 by omega]
      · simp [h1, show ¬ i < c + 1 by omega]
    · rw [if_neg hn, Nat.zero_testBit]
      by_cases h1 : i < c
      · simp [h1, show i < c + 1 by omega]
      · simp [h1, show ¬ i < c + 1 by omega]
theorem and_pow (n c : Nat) : n &&& 2 ^ c = if n.testBit c = true then 2 ^ c else 0 := by
  apply Nat.eq_of_testBit_eq
  intro i
  rw [Nat.testBit_and]
  by_cases hi : i = c
  · subst hi
    by_cases hn : n.testBit i = true
    · simp [hn, Nat.testBit_two_pow_self]
    · simp [hn]
  · rw [Nat.testBit_two_pow_of_ne (Ne.symm hi)]
    by_cases hn : n.testBit c = true
    · rw [if_pos hn, Nat.testBit_two_pow_of_ne (Ne.symm hi)]
      simp
    · rw [if_neg hn]
      simp
theorem tb_mod (n k : Nat) : n.testBit k = true ↔ n / 2 ^ k % 2 = 1 := by rw [Nat.testBit_eq_decide_div_mod_eq, decide_eq_true_eq]
theorem mkP_0 (sp le p : Nat) : mkP sp le p 0 = 0 := by rw [mkP, Nat.pow_zero, Nat.mod_one]
theorem mkP_t {sp le p c : Nat} (h : p ≤ c + 6) (hb : sp / 2 ^ (c + 6 - p) % 2 = 1) : mkP sp le p (c + 1) = mkP sp le p c ||| (le &&& 2 ^ c) := by
  rw [mkP, mod_step, ← mkP, and_pow]
  congr 1
  have : (mkN sp le p).testBit c = le.testBit c := by
    rw [mkN, Nat.testBit_and, shN_bit, (tb_mod _ _).mpr hb]
    simp [h]
  rw [this]
theorem mkP_f {sp le p c : Nat} (h : p ≤ c + 6 → ¬ sp / 2 ^ (c + 6 - p) % 2 = 1) : mkP sp le p (c + 1) = mkP sp le p c := by
  rw [mkP, mod_step, ← mkP]
  have : ¬ (mkN sp le p).testBit c = true := by
    rw [mkN, Nat.testBit_and, shN_bit]
    by_cases h2 : p ≤ c + 6
    · have := mt (tb_mod sp (c + 6 - p)).mp (h h2)
      simp [this]
    · simp [h2]
  rw [if_neg this]
  exact Nat.or_zero _
theorem mkP_10 {sp le p : Nat} (h : le < 1024) : mkP sp le p 10 = mkN sp le p := Nat.mod_eq_of_lt (mkN_lt h)
theorem mkP_lt (sp le p c : Nat) (h : le < 1024) : mkP sp le p c < 1024 := Nat.lt_of_le_of_lt (Nat.mod_le _ _) (mkN_lt h)
/-! counts of bits, clamps -/
def fOn (n : Nat) : Nat → Nat
  | 0 => 0
  | k + 1 => fOn n k + n / 2 ^ k % 2
theorem fOn_10 (n : Nat) : fOn n 10 = fOnes n := by simp [fOn, fOnes]
theorem fOn_le (n : Nat) : ∀ k, fOn n k ≤ k
  | 0 => Nat.le_refl _
  | k + 1 => by
    rw [fOn]
    have := fOn_le n k
    omega
theorem fOnes_le (n : Nat) : fOnes n ≤ 10 := by rw [← fOn_10]; exact fOn_le n 10
def fCl (lo hi : Nat) (x : Int32) : Int32 := if x < nI lo then nI lo else if x ≤ nI hi then x else nI hi
def fTwo (c a b : Int32) : Int32 :=
  if c = nI 11 then (if a = nI 0 then (if b = nI 0 then nI 0 else nI 1) else nI 1)
  else if c = nI 12 then (if a = nI 0 then nI 0 else (if b = nI 0 then nI 0 else nI 1))
  else if c = nI 14 then (if b ≤ a then nI 0 else nI 1)
  else if c = nI 15 then (if a = b then nI 1 else nI 0)
  else if c = nI 16 then a + b
  else if c = nI 17 then a - b
  else a * b
/-! a text's steps, as the reference writes them -/
def cdN (x : Int32) : Nat := if nI 0 ≤ x then 100000 + x.toNatClampNeg else if x = -13 then 13 else if x = -14 then 19 else if x = -11 then 11 else if x = -12 then 12 else if x = -60 then 14 else if x = -61 then 15 else if x = -43 then 16 else if x = -45 then 17 else if x = -42 then 18 else (-x - nI 2).toNatClampNeg
/-- a step that can be done on a stack of so many -/
def StOk (x : Int32) (n : Nat) : Prop := (∃ v, v < 10000 ∧ x = nI v ∧ n < 32) ∨ (∃ j, j < 6 ∧ x = -(nI (j + 2)) ∧ n < 32) ∨ (x = -13 ∧ 0 < n) ∨ (x = -14 ∧ 0 < n) ∨ (1 < n ∧ (x = -11 ∨ x = -12 ∨ x = -42 ∨ x = -43 ∨ x = -45 ∨ x = -60 ∨ x = -61))
def WfP (st : Nat → Int32) (a b : Nat) : Prop := (∀ k, k < b - a → StOk (st (a + k)) (evX (fun _ => nI 0) st a k).1) ∧ (evX (fun _ => nI 0) st a (b - a)).1 = 1
def WfT (x : sT) : Prop := WfP (fun k => x.1.getD k 0) 0 x.2.1 ∧ WfP (fun k => x.1.getD k 0) x.2.1 x.2.2 ∧ WfP (fun k => x.1.getD k 0) x.2.2 x.1.length
theorem cdN_num {v : Nat} (h : v < 10000) : cdN (nI v) = 100000 + v := by rw [cdN, if_pos (show nI 0 ≤ nI v from nI_pos' (by omega)), nI_clamp (by omega)]
theorem cdN_nm : ∀ j, j < 6 → cdN (-(nI (j + 2))) = j ∧ mIn (-(-(nI (j + 2))) - nI 2) 0 6 ∧ ¬ nI 0 ≤ -(nI (j + 2)) ∧ (-(-(nI (j + 2))) - nI 2).toNatClampNeg = j := by decide +kernel
/-- what is done with a step, by its code -/
theorem StOk.do_ {x : Int32} {q : Nat × (Nat → Int32)} (nm : Nat → Int32) (h : StOk x q.1) :
    (∃ v, v < 10000 ∧ cdN x = 100000 + v ∧ q.1 < 32 ∧ stX nm x q = (q.1 + 1, upd q.2 q.1 (nI v))) ∨
    (∃ j, j < 6 ∧ cdN x = j ∧ q.1 < 32 ∧ stX nm x q = (q.1 + 1, upd q.2 q.1 (nm j))) ∨
    (cdN x = 13 ∧ 0 < q.1 ∧ stX nm x q = (q.1, upd q.2 (q.1 - 1) (if q.2 (q.1 - 1) = nI 0 then nI 1 else nI 0))) ∨
    (cdN x = 19 ∧ 0 < q.1 ∧ stX nm x q = (q.1, upd q.2 (q.1 - 1) (-(q.2 (q.1 - 1))))) ∨
    (1 < q.1 ∧ (cdN x = 11 ∨ cdN x = 12 ∨ (14 ≤ cdN x ∧ cdN x ≤ 18)) ∧ stX nm x q = (q.1 - 1, upd q.2 (q.1 - 1 - 1) (fTwo (nI (cdN x)) (q.2 (q.1 - 1 - 1)) (q.2 (q.1 - 1))))) := by
  rcases h with ⟨v, h1, rfl, h3⟩ | ⟨j, h1, rfl, h3⟩ | ⟨rfl, h3⟩ | ⟨rfl, h3⟩ | ⟨h3, h4⟩
  · exact Or.inl ⟨v, h1, cdN_num h1, h3, by rw [stX, if_pos ⟨nI_pos' (by omega), h3⟩]⟩
  · obtain ⟨a1, a2, a3, a4⟩ := cdN_nm j h1
    exact Or.inr (Or.inl ⟨j, h1, a1, h3, by rw [stX, if_neg (fun z => a3 z.1), if_pos ⟨a2, h3⟩, a4]⟩)
  · exact Or.inr (Or.inr (Or.inl ⟨by decide, h3, by rw [stX, if_neg (fun z => absurd z.1 (by decide)), if_neg (fun z => absurd z.1 (by decide)), if_pos ⟨rfl, h3⟩]⟩))
  · exact Or.inr (Or.inr (Or.inr (Or.inl ⟨by decide, h3, by rw [stX, if_neg (fun z => absurd z.1 (by decide)), if_neg (fun z => absurd z.1 (by decide)), if_neg (fun z => absurd z.1 (by decide)), if_pos ⟨rfl, h3⟩]⟩)))
  · refine Or.inr (Or.inr (Or.inr (Or.inr ⟨h3, ?_⟩)))
    rcases h4 with rfl | rfl | rfl | rfl | rfl | rfl | rfl
    all_goals refine ⟨by decide, ?_⟩
    all_goals rw [stX, if_neg (fun z => absurd z.1 (by decide)), if_neg (fun z => absurd z.1 (by decide)), if_neg (fun z => absurd z.1 (by decide)), if_neg (fun z => absurd z.1 (by decide)), if_pos h3]
    all_goals congr 2
theorem stX_n {nm nm' : Nat → Int32} (x : Int32) (q : Nat × (Nat → Int32)) {q' : Nat × (Nat → Int32)} (h : q.1 = q'.1) : (stX nm x q).1 = (stX nm' x q').1 := by
  unfold stX
  rw [← h]
  repeat' split
  all_goals first | rfl | exact h
theorem evX_n (nm nm' : Nat → Int32) (st : Nat → Int32) (a : Nat) : ∀ k, (evX nm st a k).1 = (evX nm' st a k).1
  | 0 => rfl
  | k + 1 => by rw [evX, evX]; exact stX_n _ _ (evX_n nm nm' st a k)
/-- text t, as the reference has it -/
def MTx (V : mV) (t : Nat) (x : sT) : Prop := V 207 (4 * t + 0) = nI 0 ∧ V 207 (4 * t + 1) = nI x.2.1 ∧ V 207 (4 * t + 2) = nI x.2.2 ∧ V 207 (4 * t + 3) = nI x.1.length ∧ (∀ k, k < x.1.length → V 206 (200 * t + k) = nI (cdN (x.1.getD k 0))) ∧ x.2.1 ≤ x.2.2 ∧ x.2.2 ≤ x.1.length ∧ x.1.length ≤ 160
/-- the reference at a scene z, under text rl, which is x -/
def MZ (sh : Nat → Option mSh) (V : mV) (z : fZ) (ne ng rl : Nat) (x : sT) : Prop := MSh sh ∧ (V 200 2 = nI ne ∧ V 200 0 = nI ng ∧ ne ≤ 5 ∧ ng ≤ 6) ∧ z = mv V ne ng ∧ ZOk z ne ng ∧ (V 200 12 = nI rl ∧ rl < 6) ∧ MTx V rl x ∧ WfT x
section MZS
variable {sh : Nat → Option mSh} {V : mV} {z : fZ} {ne ng rl : Nat} {x : sT} {e g : Nat}
theorem MZ.sp (h : MZ sh V z ne ng rl x) : MSh sh := h.1
theorem MZ.ne_ (h : MZ sh V z ne ng rl x) : V 200 2 = nI ne := h.2.1.1
theorem MZ.ng_ (h : MZ sh V z ne ng rl x) : V 200 0 = nI ng := h.2.1.2.1
theorem MZ.ne5 (h : MZ sh V z ne ng rl x) : ne ≤ 5 := h.2.1.2.2.1
theorem MZ.ng6 (h : MZ sh V z ne ng rl x) : ng ≤ 6 := h.2.1.2.2.2
theorem MZ.zv_ (h : MZ sh V z ne ng rl x) : z = mv V ne ng := h.2.2.1
theorem MZ.ok (h : MZ sh V z ne ng rl x) : ZOk z ne ng := h.2.2.2.1
theorem MZ.rl_ (h : MZ sh V z ne ng rl x) : V 200 12 = nI rl := h.2.2.2.2.1.1
theorem MZ.rl6 (h : MZ sh V z ne ng rl x) : rl < 6 := h.2.2.2.2.1.2
theorem MZ.tx (h : MZ sh V z ne ng rl x) : MTx V rl x := h.2.2.2.2.2.1
theorem MZ.wf (h : MZ sh V z ne ng rl x) : WfT x := h.2.2.2.2.2.2
theorem MZ.rDay (h : MZ sh V z ne ng rl x) : V 200 6 = z 0 4 := by rw [h.zv_, mv_day]
theorem MZ.rKi (h : MZ sh V z ne ng rl x) (he : e < ne) : V 202 e = nI (zn z (4 + e) 0) := by rw [← (h.ok.ki he).1, h.zv_, mv_ki V he h.ne5]
theorem MZ.rMo (h : MZ sh V z ne ng rl x) (he : e < ne) : V 203 e = nI (zn z (4 + e) 1) := by rw [← (h.ok.mo he).1, h.zv_, mv_mo V he h.ne5]
theorem MZ.rJa (h : MZ sh V z ne ng rl x) (he : e < ne) : V 204 (3 * e) = nI (zn z (4 + e) 2) := by rw [← (h.ok.ja he).1, h.zv_, mv_ja V he h.ne5]
theorem MZ.rPu (h : MZ sh V z ne ng rl x) (he : e < ne) : V 204 (3 * e + 1) = z (4 + e) 3 := by rw [h.zv_, mv_pu V he h.ne5]
theorem MZ.rHa (h : MZ sh V z ne ng rl x) (he : e < ne) : V 204 (3 * e + 2) = z (4 + e) 4 := by rw [h.zv_, mv_ha V he h.ne5]
theorem MZ.rSo (h : MZ sh V z ne ng rl x) (hg : g < ng) : V 201 (12 * g + 10) = nI (zn z (10 + 2 * g) 1) := by rw [← (h.ok.so hg).1, h.zv_, mv_so V hg]
theorem MZ.rLe (h : MZ sh V z ne ng rl x) (hg : g < ng) : V 201 (12 * g + 11) = nI (zn z (10 + 2 * g) 2) := by rw [← (h.ok.le hg).1, h.zv_, mv_le V hg]
theorem MZ.rWo (h : MZ sh V z ne ng rl x) (hg : g < ng) {c : Nat} (hc : c < 10) : V 201 (12 * g + c) = z (11 + 2 * g) c := by rw [h.zv_, mv_wo V hg hc]
end MZS
