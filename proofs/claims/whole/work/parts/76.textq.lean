/-! a text, over the shared state -/
def nTextN (q : Sg) : Sg := (q.1, q.2.1, [], q.2.2.2)
def nTextY (q : Sg) (x : sT) : Sg := (q.1, q.2.1 ++ [x], [], q.2.2.2)
section TXM
variable {sh : Nat → Option mSh} {V V' : mV} {q : Sg}
theorem MTx.keep {t tn : Nat} {x : sT} (h : MTx V t x) (hX : XF8 tn V V') (ht : t < tn) : MTx V' t x := by
  obtain ⟨h1, h2, h3, h4, h5, h6, h7, h8⟩ := h
  refine ⟨by rw [hX.2.2.2 _ (by omega)]; exact h1, by rw [hX.2.2.2 _ (by omega)]; exact h2, by rw [hX.2.2.2 _ (by omega)]; exact h3, by rw [hX.2.2.2 _ (by omega)]; exact h4, fun k hk => ?_, h6, h7, h8⟩
  rw [hX.2.2.1 _ (by omega)]
  exact h5 k hk
theorem MTx.new {tn s1 s2 : Nat} {c : List Int32} (h : TxY V' tn (c.map cdN) [0, s1, s2]) (h1 : s1 ≤ s2) (h2 : s2 ≤ c.length) (h3 : c.length ≤ 160) : MTx V' tn (c, s1, s2) := by
  obtain ⟨g1, g2, g3, -⟩ := h
  refine ⟨g3 0 0 rfl, g3 1 s1 rfl, g3 2 s2 rfl, ?_, fun k hk => ?_, h1, h2, h3⟩
  · have := g3 3 _ rfl
    rw [List.length_map] at this
    exact this
  · have hk' : k < c.length := hk
    refine g2 k _ ?_
    rw [List.getElem?_map]
    show Option.map cdN c[k]? = some (cdN (c.getD k 0))
    rw [List.getD, List.getElem?_eq_getElem hk']
    rfl
theorem gT_app {q : Sg} {x : sT} {t : Nat} (h : t < (gTxs q).length) : gT (nTextY q x) t = gT q t := by
  show ((gTxs q) ++ [x]).getD t _ = (gTxs q).getD t _
  rw [List.getD, List.getD, List.getElem?_append_left h]
theorem gT_new {q : Sg} {x : sT} : gT (nTextY q x) (gTxs q).length = x := by
  show ((gTxs q) ++ [x]).getD (gTxs q).length _ = x
  rw [List.getD, List.getElem?_append_right (Nat.le_refl _), Nat.sub_self]
  rfl
theorem MZ.x8 {z : fZ} {ne ng rl tn : Nat} {x : sT} (h : MZ sh V z ne ng rl x) (hX : XF8 tn V V') (ht : rl < tn) : MZ sh V' z ne ng rl x := by
  obtain ⟨h1, ⟨h2, h3, h4, h5⟩, h6, h7, ⟨h8, h9⟩, h10, h11⟩ := h
  have hf : ∀ k, k ≠ 8 → k ≠ 11 → k < 21 → V' 200 k = V 200 k := fun k a b c => hX.2.1 k a b (Or.inl c)
  have hg : ∀ a, a < 200 ∨ (200 < a ∧ a < 206) → V' a = V a := fun a ha => hX.1 a (by omega) (by omega) (by omega) (by omega)
  refine ⟨h1, ⟨by rw [hf 2 (by decide) (by decide) (by decide)]; exact h2, by rw [hf 0 (by decide) (by decide) (by decide)]; exact h3, h4, h5⟩, ?_, h7, ⟨by rw [hf 12 (by decide) (by decide) (by decide)]; exact h8, h9⟩, h10.keep hX ht, h11⟩
  rw [h6]
  exact (mv_congr V (V' := V') h4 (hf 6 (by decide) (by decide) (by decide)) (fun e _ => ⟨by rw [hg 202 (by decide)], by rw [hg 203 (by decide)]⟩) (fun k _ => by rw [hg 204 (by decide)]) (fun k _ => by rw [hg 201 (by decide)])).symm
theorem MI.x8 (h : MI sh V q) (hX : XF8 (gTxs q).length V V') (h8 : V' 200 8 = nI 0) {q' : Sg} (e1 : q'.1 = q.1) (e2 : gTp q' = []) (e3 : q'.2.2.2 = q.2.2.2) (hl : (gTxs q).length ≤ (gTxs q').length ∧ (gTxs q').length ≤ 6) (h11 : V' 200 11 = nI (gTxs q').length) (ht : ∀ t, t < (gTxs q).length → gT q' t = gT q t) (hn : ∀ t, (gTxs q).length ≤ t → t < (gTxs q').length → MTx V' t (gT q' t) ∧ WfT (gT q' t)) : MI sh V' q' := by
  have z1 : gZ q' = gZ q := congrArg (fun z => z.1) e1
  have z2 : gNe q' = gNe q := congrArg (fun z => z.2.1) e1
  have z3 : gNg q' = gNg q := congrArg (fun z => z.2.2.1) e1
  have z4 : gRl q' = gRl q := congrArg (fun z => z.2.2.2) e1
  have z5 : gHas q' = gHas q := congrArg (fun z => z.1.1) e3
  have z6 : gIm q' = gIm q := congrArg (fun z => z.1.2) e3
  have z7 : gSh q' = gSh q := congrArg (fun z => z.2) e3
  have hr := h.tn.2.2.2
  have h5 : gNe q ≤ 5 := h.z.2.1.2.2.1
  have hg : ∀ a, 200 < a → a < 206 ∨ (207 < a ∧ a ≠ 216) → V' a = V a := fun a h0 ha => hX.1 a (by omega) (by omega) (by omega) (by omega)
  refine ⟨?_, ⟨h11, by have := h.tn.2.1; omega, hl.2, by rw [z4]; omega⟩, fun t h1 => ?_, ⟨by rw [e2]; exact h8, by rw [e2]; exact Nat.zero_le _, fun k x hk => by rw [e2] at hk; exact absurd hk (by simp)⟩, ⟨by rw [z5, hX.2.1 13 (by decide) (by decide) (by decide)]; exact h.has, fun hh => ?_⟩, fun i hi => ?_, fun k hk => by rw [hg 215 (by decide) (by decide)]; exact h.wd k hk⟩
  · rw [z1, z2, z3, z4, ht _ hr]
    exact h.z.x8 hX hr
  · by_cases hlt : t < (gTxs q).length
    · rw [ht t hlt]
      exact ⟨(h.tx t hlt).1.keep hX hlt, (h.tx t hlt).2⟩
    · exact hn t (by omega) h1
  · rw [z5] at hh
    have hi := h.im hh
    exact hi.eq z6 hl.1 (by rw [z2]; exact hi.2.2.1) h5 (hg 208 (by decide) (by decide)) (hg 209 (by decide) (by decide)) (hg 210 (by decide) (by decide)) (fun e _ => ⟨by rw [hg 202 (by decide) (by decide)], by rw [hg 203 (by decide) (by decide)]⟩)
  · rw [hg 211 (by decide) (by decide), hg 212 (by decide) (by decide), hg 213 (by decide) (by decide)]
    have := h.shs i hi
    unfold gSo gSz gCl at *
    rw [z7]
    exact this
theorem MI.textN (h : MI sh V q) (hX : XF8 (gTxs q).length V V') (h8 : V' 200 8 = nI 0) (h11 : V' 200 11 = nI (gTxs q).length) : MI sh V' (nTextN q) :=
  h.x8 hX h8 (q' := nTextN q) rfl rfl rfl ⟨Nat.le_refl _, h.tn.2.2.1⟩ h11 (fun _ _ => rfl) (fun t h1 h2 => absurd h2 (Nat.not_lt.mpr h1))
theorem MI.textY (h : MI sh V q) (hX : XF8 (gTxs q).length V V') (h8 : V' 200 8 = nI 0) {c : List Int32} {s1 s2 : Nat} (h6 : (gTxs q).length < 6) (hY : TxY V' (gTxs q).length (c.map cdN) [0, s1, s2]) (hw : WfT (c, s1, s2) ∧ s1 ≤ s2 ∧ s2 ≤ c.length ∧ c.length ≤ 160) : MI sh V' (nTextY q (c, s1, s2)) := by
  have hl : (gTxs (nTextY q (c, s1, s2))).length = (gTxs q).length + 1 := by
    show ((gTxs q) ++ [_]).length = _
    rw [List.length_append]
    rfl
  refine h.x8 hX h8 (q' := nTextY q (c, s1, s2)) rfl rfl rfl ⟨by omega, by omega⟩ (by rw [hl]; exact hY.1) (fun t ht => gT_app ht) (fun t h1 h2 => ?_)
  have : t = (gTxs q).length := by omega
  subst this
  rw [gT_new]
  exact ⟨MTx.new hY hw.2.1 hw.2.2.1 hw.2.2.2, hw.1⟩
end TXM
