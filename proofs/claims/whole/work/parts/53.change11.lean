/-! the reference: more that changes, days, sheets -/
theorem m_or0 (x : Int32) : x ||| nI 0 = x := Int32.or_zero
theorem zM_ng {ne ng a k : Nat} (h1 : ¬ (a = 10 + 2 * ng ∧ (k = 1 ∨ k = 2))) (h2 : ¬ (a = 11 + 2 * ng ∧ k < 10)) : zM ne (ng + 1) a k ↔ zM ne ng a k := by
  constructor
  · rintro (h | h | ⟨h, h3, h4⟩)
    · exact Or.inl h
    · exact Or.inr (Or.inl h)
    · exact Or.inr (Or.inr ⟨h, by omega, h4⟩)
  · rintro (h | h | ⟨h, h3, h4⟩)
    · exact Or.inl h
    · exact Or.inr (Or.inl h)
    · exact Or.inr (Or.inr ⟨h, by omega, h4⟩)
theorem zM_ne {ne ng a k : Nat} (h1 : ¬ (a = 4 + ne ∧ k < 5)) : zM (ne + 1) ng a k ↔ zM ne ng a k := by
  constructor
  · rintro (h | ⟨h, h3, h4⟩ | h)
    · exact Or.inl h
    · exact Or.inr (Or.inl ⟨h, by omega, h4⟩)
    · exact Or.inr (Or.inr h)
  · rintro (h | ⟨h, h3, h4⟩ | h)
    · exact Or.inl h
    · exact Or.inr (Or.inl ⟨h, by omega, h4⟩)
    · exact Or.inr (Or.inr h)
section ADD11
variable {sh : Nat → Option mSh} {V V' : mV} {z : fZ} {ne ng rl : Nat} {x : sT}
theorem MZ.addG (h : MZ sh V z ne ng rl x) (hg : ng < 6) {y w : Int32} (hy : ∃ d, d < 10 ∧ y = nI d) (hw : ∃ d, d < 100 ∧ w = nI d) (f : ∀ a, a ≠ 200 → a ≠ 201 → V' a = V a) (f0 : V' 200 0 = nI (ng + 1)) (f2 : ∀ k, k ≠ 0 → V' 200 k = V 200 k) (p1 : ∀ c, c < 10 → V' 201 (12 * ng + c) = w) (p2 : V' 201 (12 * ng + 10) = y) (p3 : V' 201 (12 * ng + 11) = nI 1023) (p4 : ∀ k, k < 12 * ng → V' 201 k = V 201 k) : MZ sh V' (zAddG z ng y w) ne (ng + 1) rl x := by
  have hne := h.ne5
  obtain ⟨a1, ⟨a2, a3, a4⟩, a5, a6, ⟨a7, a8⟩, a9, a10⟩ := h
  refine ⟨a1, ⟨by rw [f2 2 (by decide)]; exact a2, f0, hne, by omega⟩, ?_, ?_, ⟨by rw [f2 12 (by decide)]; exact a7, a8⟩, a9.eq (f 206 (by decide) (by decide)) (f 207 (by decide) (by decide)), a10⟩
  · funext a k
    rw [mv_L, a5]
    simp only [zAddG]
    by_cases c1 : a = 10 + 2 * ng ∧ k = 1
    · obtain ⟨rfl, rfl⟩ := c1
      rw [if_pos ⟨rfl, rfl⟩, if_pos (Or.inr (Or.inr (by omega))), mvL_g]
      exact p2.symm
    · by_cases c2 : a = 10 + 2 * ng ∧ k = 2
      · obtain ⟨rfl, rfl⟩ := c2
        rw [if_neg c1, if_pos ⟨rfl, rfl⟩, if_pos (Or.inr (Or.inr (by omega))), mvL_g]
        exact p3.symm
      · by_cases c3 : a = 11 + 2 * ng ∧ k < 10
        · obtain ⟨rfl, hk⟩ := c3
          rw [if_neg c1, if_neg c2, if_pos ⟨rfl, hk⟩, if_pos (Or.inr (Or.inr (by omega))), mvL_w]
          exact (p1 k hk).symm
        · rw [if_neg c1, if_neg c2, if_neg c3, mv_L]
          have hz := zM_ng (ne := ne) (fun q => q.2.elim (fun r => c1 ⟨q.1, r⟩) (fun r => c2 ⟨q.1, r⟩)) c3
          by_cases hm : zM ne ng a k
          · rw [if_pos hm, if_pos (hz.mpr hm)]
            have hc := mvL_cases hne hm
            rcases hc with ⟨d1, d2, d3, d4⟩ | ⟨d1, d2, d3, d4, d5⟩ | ⟨d1, d2, d3, d4, d5⟩ | ⟨d1, d2, d3, d4, d5, d6⟩ | ⟨g, j, d1, d2, d3⟩
            · rw [d3, d4, f2 6 (by decide)]
            · rw [d4, f 202 (by decide) (by decide)]
            · rw [d4, f 203 (by decide) (by decide)]
            · rw [d5, f 204 (by decide) (by decide)]
            · rw [d1, p4 _ (by rcases hm with hm | hm | hm <;> omega)]
          · rw [if_neg hm, if_neg (fun q => hm (hz.mp q))]
  · refine zok_of hne (fun a k hm => ?_)
    simp only [zAddG]
    by_cases c1 : a = 10 + 2 * ng ∧ k = 1
    · rw [if_pos c1, zB, if_neg (by omega), if_neg (by omega), if_pos (by omega), if_pos c1.2]
      exact hy
    · by_cases c2 : a = 10 + 2 * ng ∧ k = 2
      · rw [if_neg c1, if_pos c2, zB, if_neg (by omega), if_neg (by omega), if_pos (by omega), if_neg (by omega)]
        exact ⟨1023, by decide, rfl⟩
      · by_cases c3 : a = 11 + 2 * ng ∧ k < 10
        · rw [if_neg c1, if_neg c2, if_pos c3, zB, if_neg (by omega), if_neg (by omega), if_neg (by omega)]
          exact hw
        · rw [if_neg c1, if_neg c2, if_neg c3]
          exact zok_to a6 hne ((zM_ng (fun q => q.2.elim (fun r => c1 ⟨q.1, r⟩) (fun r => c2 ⟨q.1, r⟩)) c3).mp hm)
theorem MZ.addE (h : MZ sh V z ne ng rl x) (he : ne < 5) {y m w : Int32} (hy : ∃ d, d < 6 ∧ y = nI d) (hm0 : ∃ d, d < 10 ∧ m = nI d) (hw : ∃ d, 1 ≤ d ∧ d < 64 ∧ w = nI d) (hv : V' = mU (mU (mU (mU (mU (mU V 202 ne y) 203 ne m) 204 (3 * ne) w) 204 (3 * ne + 1) (nI 100)) 204 (3 * ne + 2) (nI 0)) 200 2 (nI (ne + 1))) : MZ sh V' (zAddE z ne y m w) (ne + 1) ng rl x := by
  have f : ∀ a, a ≠ 200 → a ≠ 202 → a ≠ 203 → a ≠ 204 → V' a = V a := fun a h0 h2 h3 h4 => by rw [hv, mU_no _ _ h0, mU_no _ _ h4, mU_no _ _ h4, mU_no _ _ h4, mU_no _ _ h3, mU_no _ _ h2]
  have f0 : ∀ k, k ≠ 2 → V' 200 k = V 200 k := fun k hk => by rw [hv, mU_ne _ _ (by omega), mU_no _ _ (by decide), mU_no _ _ (by decide), mU_no _ _ (by decide), mU_no _ _ (by decide), mU_no _ _ (by decide)]
  have g2 : ∀ k, k ≠ ne → V' 202 k = V 202 k := fun k hk => by rw [hv, mU_no _ _ (by decide), mU_no _ _ (by decide), mU_no _ _ (by decide), mU_no _ _ (by decide), mU_no _ _ (by decide), mU_ne _ _ (by omega)]
  have g3 : ∀ k, k ≠ ne → V' 203 k = V 203 k := fun k hk => by rw [hv, mU_no _ _ (by decide), mU_no _ _ (by decide), mU_no _ _ (by decide), mU_no _ _ (by decide), mU_ne _ _ (by omega), mU_no _ _ (by decide)]
  have g4 : ∀ k, k < 3 * ne → V' 204 k = V 204 k := fun k hk => by rw [hv, mU_no _ _ (by decide), mU_ne _ _ (by omega), mU_ne _ _ (by omega), mU_ne _ _ (by omega), mU_no _ _ (by decide), mU_no _ _ (by decide)]
  have hne := h.ne5
  obtain ⟨a1, ⟨a2, a3, a4⟩, a5, a6, ⟨a7, a8⟩, a9, a10⟩ := h
  refine ⟨a1, ⟨by rw [hv, mU_eq], by rw [f0 0 (by decide)]; exact a3, by omega, a4.2⟩, ?_, ?_, ⟨by rw [f0 12 (by decide)]; exact a7, a8⟩, a9.eq (f 206 (by decide) (by decide) (by decide) (by decide)) (f 207 (by decide) (by decide) (by decide) (by decide)), a10⟩
  · funext a k
    by_cases c1 : a = 4 + ne ∧ k < 5
    · obtain ⟨rfl, hk⟩ := c1
      rw [mv_L, if_pos (Or.inr (Or.inl (by omega))), mvL_e he, zAddE, hv]
      match k, hk with
      | 0, _ => simp [mU]
      | 1, _ => simp [mU]
      | 2, _ => simp [mU]
      | 3, _ => simp [mU]
      | 4, _ => simp [mU]
    · rw [zAddE, mU_ne _ _ (by omega), mU_ne _ _ (by omega), mU_ne _ _ (by omega), mU_ne _ _ (by omega), mU_ne _ _ (by omega), a5, mv_L, mv_L]
      have hz := zM_ne (ng := ng) c1
      by_cases hm : zM ne ng a k
      · rw [if_pos hm, if_pos (hz.mpr hm)]
        have hc := mvL_cases hne hm
        have ha : a ≠ 4 + ne ∨ 5 ≤ k := by omega
        rcases hc with ⟨d1, d2, d3, d4⟩ | ⟨d1, d2, d3, d4, d5⟩ | ⟨d1, d2, d3, d4, d5⟩ | ⟨d1, d2, d3, d4, d5, d6⟩ | ⟨g, j, d1, d2, d3⟩
        · rw [d3, d4, f0 6 (by decide)]
        · rw [d4, g2 _ (by omega)]
        · rw [d4, g3 _ (by omega)]
        · rw [d5, g4 _ (by rcases hm with hm | hm | hm <;> omega)]
        · rw [d1, f 201 (by decide) (by decide) (by decide) (by decide)]
      · rw [if_neg hm, if_neg (fun q => hm (hz.mp q))]
  · refine zok_of (by omega) (fun a k hm => ?_)
    by_cases c1 : a = 4 + ne ∧ k < 5
    · obtain ⟨rfl, hk⟩ := c1
      rw [zB, if_neg (by omega), if_pos (by omega), zAddE]
      match k, hk with
      | 0, _ => simpa [mU] using hy
      | 1, _ => simpa [mU] using hm0
      | 2, _ => simpa [mU] using hw
      | 3, _ => exact ⟨100, by decide, by simp [mU]⟩
      | 4, _ => exact ⟨0, by decide, by simp [mU]⟩
    · rw [zAddE, mU_ne _ _ (by omega), mU_ne _ _ (by omega), mU_ne _ _ (by omega), mU_ne _ _ (by omega), mU_ne _ _ (by omega)]
      exact zok_to a6 hne ((zM_ne c1).mp hm)
end ADD11
section MIA
variable {sh : Nat → Option mSh} {V V' : mV} {q : Sg}
/-- a byte comes -/
theorem MI.add1 (h : MI sh V q) (x : Int32) (hl : (gTp q).length < 160) : MI sh (mU (mU V 205 (gTp q).length x) 200 8 (nI ((gTp q).length + 1))) (gTape q (gTp q ++ [x])) := by
  have hz := h.z
  have hk : ∀ a, a ≠ 200 → a ≠ 205 → mU (mU V 205 (gTp q).length x) 200 8 (nI ((gTp q).length + 1)) a = V a := fun a h1 h2 => by rw [mU_no _ _ h1, mU_no _ _ h2]
  have h0 : ∀ k, k ≠ 8 → mU (mU V 205 (gTp q).length x) 200 8 (nI ((gTp q).length + 1)) 200 k = V 200 k := fun k hk => by rw [mU_ne _ _ (by omega), mU_no _ _ (by decide)]
  obtain ⟨t1, t2, t3⟩ := h.tp
  refine ⟨hz.eq (h0 0 (by decide)) (h0 2 (by decide)) (h0 6 (by decide)) (h0 12 (by decide)) (fun e _ => ⟨by rw [hk 202 (by decide) (by decide)], by rw [hk 203 (by decide) (by decide)]⟩) (fun k _ => by rw [hk 204 (by decide) (by decide)]) (fun k _ => by rw [hk 201 (by decide) (by decide)]) (hk 206 (by decide) (by decide)) (hk 207 (by decide) (by decide)), ⟨by rw [h0 11 (by decide)]; exact h.tn.1, h.tn.2⟩, fun t ht => ⟨(h.tx t ht).1.eq (hk 206 (by decide) (by decide)) (hk 207 (by decide) (by decide)), (h.tx t ht).2⟩, ⟨?_, ?_, fun k y hy => ?_⟩, ⟨by rw [h0 13 (by decide)]; exact h.has, fun hh => (h.im hh).eq rfl (Nat.le_refl _) (h.im hh).2.2.1 hz.ne5 (hk 208 (by decide) (by decide)) (hk 209 (by decide) (by decide)) (hk 210 (by decide) (by decide)) (fun e _ => ⟨by rw [hk 202 (by decide) (by decide)], by rw [hk 203 (by decide) (by decide)]⟩)⟩, fun i hi => by rw [hk 211 (by decide) (by decide), hk 212 (by decide) (by decide), hk 213 (by decide) (by decide)]; exact h.shs i hi, by rw [hk 215 (by decide) (by decide)]; exact h.wd⟩
  · rw [mU_eq]
    show _ = nI (gTp q ++ [x]).length
    simp
  · show (gTp q ++ [x]).length ≤ 160
    simp
    omega
  · have hy' : (gTp q ++ [x])[k]? = some y := hy
    by_cases hkl : k = (gTp q).length
    · subst hkl
      rw [mU_no _ _ (by decide), mU_eq]
      simp at hy'
      exact hy'
    · rw [mU_no _ _ (by decide), mU_ne _ _ (by omega)]
      refine t3 k y ?_
      have := (List.getElem?_eq_some_iff.mp hy').1
      simp at this
      rw [List.getElem?_append_left (by omega)] at hy'
      exact hy'
/-- a sheet has become otherwise -/
theorem MI.setS (h : MI sh V q) {k : Nat} (hk : k < 4) {so : Int32} {n : Nat} {c : Nat → Int32} (hK : MK V V' ∨ True) (hf : ∀ a, a ≠ 200 → a ≠ 201 → a ≠ 204 → a ≠ 211 → a ≠ 212 → a ≠ 213 → a ≠ 219 → a ≠ 220 → V' a = V a) (h01 : ∀ j, j < 72 → V' 201 j = V 201 j) (h04 : ∀ j, j < 15 → V' 204 j = V 204 j) (h00 : ∀ j, j ≠ 32 → j ≠ 36 → j ≠ 37 → V' 200 j = V 200 j) (g1 : V' 211 k = so) (g2 : V' 212 k = nI n) (hn4 : n ≤ 40) (g3 : ∀ j, j < 40 → V' 213 (40 * k + j) = c j) (o1 : ∀ i, i < 4 → i ≠ k → V' 211 i = V 211 i ∧ V' 212 i = V 212 i ∧ ∀ j, j < 40 → V' 213 (40 * i + j) = V 213 (40 * i + j)) : MI sh V' (gSetS q k (so, n, c)) := by
  have hz := h.z
  have e := fun a b1 b2 b3 b4 b5 b6 b7 b8 => hf a b1 b2 b3 b4 b5 b6 b7 b8
  refine ⟨hz.eq (h00 0 (by decide) (by decide) (by decide)) (h00 2 (by decide) (by decide) (by decide)) (h00 6 (by decide) (by decide) (by decide)) (h00 12 (by decide) (by decide) (by decide)) (fun u _ => ⟨by rw [e 202] <;> decide, by rw [e 203] <;> decide⟩) h04 h01 (by rw [e 206] <;> decide) (by rw [e 207] <;> decide), ⟨by rw [h00 11 (by decide) (by decide) (by decide)]; exact h.tn.1, h.tn.2⟩, fun t ht => ⟨(h.tx t ht).1.eq (by rw [e 206] <;> decide) (by rw [e 207] <;> decide), (h.tx t ht).2⟩, ⟨by rw [h00 8 (by decide) (by decide) (by decide)]; exact h.tp.1, h.tp.2.1, by rw [e 205 (by decide) (by decide) (by decide) (by decide) (by decide) (by decide) (by decide) (by decide)]; exact h.tp.2.2⟩, ⟨by rw [h00 13 (by decide) (by decide) (by decide)]; exact h.has, fun hh => (h.im hh).eq rfl (Nat.le_refl _) (h.im hh).2.2.1 hz.ne5 (by rw [e 208] <;> decide) (by rw [e 209] <;> decide) (by rw [e 210] <;> decide) (fun u _ => ⟨by rw [e 202] <;> decide, by rw [e 203] <;> decide⟩)⟩, fun i hi => ?_, by rw [e 215 (by decide) (by decide) (by decide) (by decide) (by decide) (by decide) (by decide) (by decide)]; exact h.wd⟩
  by_cases hik : i = k
  · subst hik
    have e1 : gSh (gSetS q i (so, n, c)) i = (so, n, c) := if_pos rfl
    rw [show gSo (gSetS q i (so, n, c)) i = so by rw [gSo, e1], show gSz (gSetS q i (so, n, c)) i = n by rw [gSz, e1], show gCl (gSetS q i (so, n, c)) i = c by rw [gCl, e1]]
    exact ⟨g1, g2, hn4, g3⟩
  · have e1 : gSh (gSetS q k (so, n, c)) i = gSh q i := if_neg hik
    obtain ⟨b1, b2, b3, b4⟩ := h.shs i hi
    obtain ⟨d1, d2, d3⟩ := o1 i hi hik
    rw [show gSo (gSetS q k (so, n, c)) i = gSo q i by rw [gSo, e1]; rfl, show gSz (gSetS q k (so, n, c)) i = gSz q i by rw [gSz, e1]; rfl, show gCl (gSetS q k (so, n, c)) i = gCl q i by rw [gCl, e1]; rfl, d1, d2]
    exact ⟨b1, b2, b3, fun j hj => by rw [d3 j hj]; exact b4 j hj⟩
end MIA
theorem aRef_ok {q : Sg} {x : Int32} (h : aRef q x = nI 0) : ∃ n, n < 4 ∧ x = nI n ∧ x.toNatClampNeg = n ∧ ¬ gSo q n = -1 ∧ gSz q n % 3 = 0 ∧ fDayB (gCl q n) (gNe q) (gNg q) (gSz q n / 3) = true := by
  unfold aRef at h
  by_cases h1 : mIn x 0 4
  · obtain ⟨n, e1, -, e2⟩ := h1.ex
    have e3 : x.toNatClampNeg = n := by rw [e1, nI_clamp (by omega)]
    rw [if_pos h1, e3] at h
    by_cases h2 : gSo q n = -1
    · rw [if_pos h2] at h
      exact absurd h (by decide)
    · rw [if_neg h2] at h
      by_cases h3 : gSz q n % 3 = 0
      · rw [if_pos h3] at h
        by_cases h4 : fDayB (gCl q n) (gNe q) (gNg q) (gSz q n / 3) = true
        · exact ⟨n, e2, e1, e3, h2, h3, h4⟩
        · rw [if_neg h4] at h
          exact absurd h (by decide)
      · rw [if_neg h3] at h
        exact absurd h (by decide)
  · rw [if_neg h1] at h
    exact absurd h (by decide)
theorem zBest_nn {x : sT} (hx : WfT x) (z : fZ) (e : Nat) : ∀ n, nI 0 ≤ (zBest (askT x) z e n).2
  | 0 => show nI 0 ≤ nI 0 by decide
  | n + 1 => by
    rw [zBest]
    split
    · rename_i h
      obtain ⟨w, h1, -, h2⟩ := askT_b hx (pt := 2) (by decide) (fNm (fBits (zMk z e (n / 16) (n % 16))) (fWorth (z (11 + 2 * (n / 16))) (zMk z e (n / 16) (n % 16)) 10) (z (10 + 2 * (n / 16)) 1) (z (4 + e) 1) (z (10 + 2 * (n / 16)) 2) (z 0 4))
      have h3 := h.2.2
      rw [zWa, fWait, h2] at h3
      exact Int32.le_trans ((nI_leI (by decide) (by omega)).mpr (Nat.zero_le _)) h3
    · exact zBest_nn hx z e n
theorem MK.r12 {A B : mV} (h : MK A B) (x : Int32) : MK (mU A 200 12 x) (mU B 200 12 x) := ⟨fun a a1 a2 a3 a4 a5 => by rw [mU_no _ _ a1, mU_no _ _ a1]; exact h.1 a a1 a2 a3 a4 a5, fun k hk => by rw [mU_no _ _ (by decide), mU_no _ _ (by decide)]; exact h.2.1 k hk, fun k hk => by rw [mU_no _ _ (by decide), mU_no _ _ (by decide)]; exact h.2.2.1 k hk, fun k a1 a2 a3 => by
  by_cases hk : k = 12
  · rw [hk, mU_eq, mU_eq]
  · rw [mU_ne _ _ (by omega), mU_ne _ _ (by omega)]
    exact h.2.2.2 k a1 a2 a3⟩
