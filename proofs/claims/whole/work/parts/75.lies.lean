/-! the two readings: what lies there then -/
theorem okl_ev {st : Nat → Int32} {a m : Nat} : ∀ (e : List Int32) (k0 : Nat), (∀ i, i < e.length → st (a + k0 + i) = e.getD i 0) → Okl e (evX (fun _ => nI 0) st a k0).1 m → (∀ i, i < e.length → StOk (st (a + (k0 + i))) (evX (fun _ => nI 0) st a (k0 + i)).1) ∧ (evX (fun _ => nI 0) st a (k0 + e.length)).1 = m
  | [], k0, _, h => ⟨fun i hi => absurd hi (by simp), h⟩
  | x :: e, k0, hs1, h => by
    have h0 : st (a + k0) = x := hs1 0 (by simp)
    have hk : (evX (fun _ => nI 0) st a (k0 + 1)).1 = hs x (evX (fun _ => nI 0) st a k0).1 := by
      rw [evX, h0]
      exact stX_n _ _ rfl
    have ih := okl_ev (st := st) (a := a) (m := m) e (k0 + 1) (fun i hi => by
      rw [show a + (k0 + 1) + i = a + k0 + (i + 1) by omega, hs1 (i + 1) (by simp; omega)]
      rfl) (by rw [hk]; exact h.2)
    refine ⟨fun i hi => ?_, by rw [List.length_cons, show k0 + (e.length + 1) = k0 + 1 + e.length by omega]; exact ih.2⟩
    cases i with
    | zero =>
      rw [Nat.add_zero, h0]
      exact h.1
    | succ i =>
      have := ih.1 i (by simp at hi; omega)
      rw [show k0 + (i + 1) = k0 + 1 + i by omega]
      exact this
theorem okl_wf {st : Nat → Int32} {a b : Nat} {e : List Int32} (hb : b = a + e.length) (hs1 : ∀ i, i < e.length → st (a + i) = e.getD i 0) (h : Okl e 0 1) : WfP st a b := by
  have g := okl_ev (st := st) (a := a) (m := 1) e 0 (fun i hi => by rw [Nat.add_zero]; exact hs1 i hi) h
  refine ⟨fun k hk => ?_, ?_⟩
  · have := g.1 k (by omega)
    rw [Nat.zero_add] at this
    exact this
  · have := g.2
    rw [Nat.zero_add] at this
    rw [show b - a = e.length by omega]
    exact this
theorem TxG.wf {B : Nat → Int32} {sz : Nat} {qs q : pS} {s1 s2 : Nat} (h : TxG B sz qs q s1 s2) : WfT (cdl q, s1, s2) ∧ s1 ≤ s2 ∧ s2 ≤ (cdl q).length ∧ (cdl q).length ≤ sz := by
  obtain ⟨A, e1, e2, e3, h1, h2, h3, h4, h5, h6, h7, h8, h9⟩ := h
  have hl : (cdl q).length = e1.length + e2.length + e3.length := by rw [h3]; simp only [List.length_append]
  rw [List.length_append] at h5
  refine ⟨⟨okl_wf (e := e1) (by rw [Nat.zero_add]; exact h4) (fun i hi => ?_) h6, okl_wf (e := e2) (by show s2 = s1 + _; omega) (fun i hi => ?_) h7, okl_wf (e := e3) (by show (cdl q).length = s2 + _; omega) (fun i hi => ?_) h8⟩, by omega, by omega, h9⟩
  · show (cdl q).getD (0 + i) 0 = _
    rw [h3, Nat.zero_add, List.append_assoc]
    simp only [List.getD, List.getElem?_append_left hi]
  · show (cdl q).getD (s1 + i) 0 = _
    rw [h3, h4, List.append_assoc]
    simp only [List.getD, List.getElem?_append_right (Nat.le_add_right _ _), Nat.add_sub_cancel_left, List.getElem?_append_left hi]
  · show (cdl q).getD (s2 + i) 0 = _
    rw [h3, h5]
    simp only [List.getD]
    rw [List.getElem?_append_right (by simp only [List.length_append]; omega)]
    congr 2
    simp only [List.length_append]
    omega
section BEQ
variable {B B' : Nat → Int32} {sz : Nat}
theorem fSk_B (P : Int32 → Bool) : ∀ f i, (∀ k, i ≤ k → k < i + f → B k = B' k) → fSk P B f i = fSk P B' f i
  | 0, i, _ => rfl
  | f + 1, i, h => by rw [fSk, fSk, h i (Nat.le_refl _) (by omega), fSk_B P f (i + 1) (fun k h1 h2 => h k (by omega) (by omega))]
theorem fSpan_B (h : ∀ k, k < sz → B k = B' k) (P : Int32 → Bool) (i : Nat) : fSpan P B sz i = fSpan P B' sz i := by
  rw [fSpan, fSpan]
  exact fSk_B P _ i (fun k h1 h2 => h k (by omega))
theorem fDgs_B : ∀ f i v, (∀ k, i ≤ k → k < i + f → B k = B' k) → fDgs B f i v = fDgs B' f i v
  | 0, i, v, _ => rfl
  | f + 1, i, v, h => by rw [fDgs, fDgs, h i (Nat.le_refl _) (by omega), fDgs_B f (i + 1) _ (fun k h1 h2 => h k (by omega) (by omega))]
theorem fNum_B (h : ∀ k, k < sz → B k = B' k) (i : Nat) (v : Int32) : fNum B sz i v = fNum B' sz i v := by
  rw [fNum, fNum]
  exact fDgs_B _ i v (fun k h1 h2 => h k (by omega))
theorem fIsW_B {a b : Nat} (h : ∀ k, k < b → B k = B' k) (hab : a ≤ b) (i : Nat) : fIsW i B a b = fIsW i B' a b := by
  rw [fIsW, fIsW]
  apply decide_eq_decide.mpr
  constructor
  · rintro ⟨h1, h2⟩
    exact ⟨h1, fun c hc => by rw [← h (a + c) (by omega)]; exact h2 c hc⟩
  · rintro ⟨h1, h2⟩
    exact ⟨h1, fun c hc => by rw [h (a + c) (by omega)]; exact h2 c hc⟩
theorem wordT_B {a b : Nat} (h : ∀ k, k < b → B k = B' k) (hab : a ≤ b) : fWordT B a b = fWordT B' a b := by
  by_cases hx : ∃ i, i < 13 ∧ 1 ≤ i ∧ fIsW i B a b = true
  · obtain ⟨i, h1, h2, h3⟩ := hx
    rw [wordT_1 h1 h2 h3, wordT_1 h1 h2 (by rw [← fIsW_B h hab]; exact h3)]
  · rw [wordT_0 (fun i h1 h2 h3 => hx ⟨i, h1, h2, h3⟩), wordT_0 (fun i h1 h2 h3 => hx ⟨i, h1, h2, by rw [fIsW_B h hab]; exact h3⟩)]
theorem pAdv_B (h : ∀ k, k < sz → B k = B' k) : pAdv B sz = pAdv B' sz := by
  funext q
  have ha := fSpan_B h fWhite q.1
  by_cases hs : sz ≤ fSpan fWhite B' sz q.1
  · rw [pAdv_e ha hs, pAdv_e rfl hs]
  · have hn := h (fSpan fWhite B' sz q.1) (by omega)
    by_cases hl : mIn (B' (fSpan fWhite B' sz q.1)) 97 123
    · have hle := fSpan_le fLet B' (i := fSpan fWhite B' sz q.1) (sz := sz) (by omega)
      rw [pAdv_w ha hs (by rw [hn]; exact hl) (fSpan_B h fLet _), pAdv_w rfl hs hl rfl, wordT_B (fun k hk => h k (by omega)) hle.1]
    · by_cases hd : mIn (B' (fSpan fWhite B' sz q.1)) 48 58
      · rw [pAdv_d ha hs (by rw [hn]; exact hl) (by rw [hn]; exact hd), pAdv_d rfl hs hl hd, pNum, pNum, fSpan_B h fDig, fNum_B h]
      · rw [pAdv_s ha hs (by rw [hn]; exact hl) (by rw [hn]; exact hd), pAdv_s rfl hs hl hd, hn]
theorem mEs_B (h : pAdv B sz = pAdv B' sz) : mEs B sz = mEs B' sz := by
  funext A
  unfold mEs
  rw [h]
theorem mEr_B (h : pAdv B sz = pAdv B' sz) : ∀ f A, mEr B sz f A = mEr B' sz f A
  | 0, _ => rfl
  | f + 1, A => by
    rw [mEr, mEr, mEs_B h]
    cases mEs B' sz A with
    | inl A' => exact mEr_B h f A'
    | inr r => rfl
theorem Er_B (h : pAdv B sz = pAdv B' sz) : Er B sz = Er B' sz := by
  funext A r
  unfold Er
  simp only [mEr_B h]
theorem TxP_B {qs : pS} (h : pAdv B sz = pAdv B' sz) : ∀ p, TxP B sz qs p = TxP B' sz qs p
  | 0 => rfl
  | p + 1 => by
    funext q cs ss
    rw [TxP, TxP, TxP_B h p, h, Er_B h]
theorem TxF_B {qs : pS} (h : pAdv B sz = pAdv B' sz) : TxF B sz qs = TxF B' sz qs := by
  funext b
  unfold TxF
  simp only [TxP_B h, h, Er_B h]
end BEQ
