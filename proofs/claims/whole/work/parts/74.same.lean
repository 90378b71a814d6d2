/-! the two readings: a text -/
section TXT
variable {B : Nat → Int32} {sz : Nat} {qs : pS}
theorem Fl.on {q : pS} {b : Nat} (h : Fl q b) (m o : pS → pS) : Fl (pOn B sz m o q) b := by
  rw [pOn_5 (by rw [h.1]; decide) (by rw [h.1]; decide) (by rw [h.1]; decide) (by rw [h.1]; decide)]
  exact h.fail
theorem Fl.rk {b : Nat} {one nt : pS → pS} (h1 : ∀ q, Fl q b → Fl (one q) b) : ∀ j, j ≤ 5 → ∀ q, Fl q b → Fl (pRk B sz one nt j q) b
  | 0, _, q, h => h1 q h
  | j + 1, hj, q, h => by
    rw [pRk, if_neg (fun z => absurd (h.1.symm.trans z.2) (by decide))]
    exact (Fl.rk h1 j (by omega) q h).loop (by omega) _
theorem Fl.one_ {b : Nat} : ∀ (d : Nat) (q : pS), Fl q b → Fl ((pD B sz d).1 q) b
  | 0, q, h => h.on pFail pFail
  | d + 1, q, h => h.on (fun q => pEmit (-14) ((pD B sz d).1 (pAdv B sz q))) (fun q => pExp (nI 41) B sz ((pD B sz d).2 5 (pAdv B sz q)))
theorem Fl.two_ {b : Nat} (d : Nat) (q : pS) (h : Fl q b) : Fl ((pD B sz d).2 5 q) b := by
  rw [pD_2]
  exact Fl.rk (one := (pD B sz d).1) (nt := pNt B sz d) (Fl.one_ d) 5 (Nat.le_refl _) q h
theorem Fl.deep {q : pS} {b : Nat} (h : Fl q b) : Fl ((pD B sz 5).2 5 q) b := Fl.two_ 5 q h
/-- both readings stand behind p parts -/
def TxZ (B : Nat → Int32) (sz : Nat) (qs : pS) (p : Nat) (q A : pS) (ss : List Nat) : Prop := TxP B sz qs p A ((cdl q).map cdN) ss ∧ Lk B sz A q ∧ flt q = -1 ∧ (cdl q).length ≤ A.1 ∧ A.1 ≤ sz
def TxF1 (B : Nat → Int32) (sz : Nat) (qs : pS) (p b : Nat) : Prop := ∃ q cs ss, TxP B sz qs p q cs ss ∧ ((¬ (pAdv B sz q).2.1 = nI (8 + p) ∧ b = (pAdv B sz q).2.2.1) ∨ ((pAdv B sz q).2.1 = nI (8 + p) ∧ ∃ q' cs', Er B sz (1, 1, pAdv B sz q, [], cs) (0, q', cs') ∧ b = q'.2.2.1))
theorem part_ok {rd : pS → pS} (hrd : LJ B sz 5 5 rd) (hfl9 : ∀ q b, Fl q b → Fl (rd q) b) (h160 : sz ≤ 160) {p : Nat} (hp : p < 3) {q A : pS} {ss : List Nat} (h : TxZ B sz qs p q A ss) : (∃ b, Fl (gPart rd B sz (nI (8 + p)) q) b ∧ TxF1 B sz qs p b) ∨ ∃ A' em, TxZ B sz qs (p + 1) (gPart rd B sz (nI (8 + p)) q) A' (ss ++ [(cdl q).length]) ∧ cdl (gPart rd B sz (nI (8 + p)) q) = cdl q ++ em ∧ Okl em 0 1 := by
  obtain ⟨h1, h2, h3, h4, h5⟩ := h
  have h59 : nI 59 ≠ -1 := by decide
  rw [gPart]
  by_cases hw : q.2.1 = nI (8 + p)
  · have e : pExp (nI (8 + p)) B sz q = pAdv B sz q := by rw [pExp, if_pos hw]
    rw [e]
    obtain ⟨n1, n2⟩ := h2.lt h5 (by rw [hw]; exact fun z => m_ne08 hp z.symm)
    have hc : cdl (pAdv B sz q) = cdl q := by
      show (pAdv B sz q).2.2.2.2.2 = _
      rw [pAdv_5]
    have hSt : Sta B sz 5 (pAdv B sz q) (pAdv B sz A) [] ((cdl q).map cdN) := ⟨h2.next, by
      show (pAdv B sz q).2.2.2.2.1 = -1
      rw [pAdv_5]
      exact h3, by rw [hc], by rw [List.length_map]; simp; omega, n2, rfl⟩
    have htA : (pAdv B sz A).2.1 = nI (8 + p) := by rw [h2.tk]; exact hw
    rcases hrd _ _ 1 _ _ hSt (by decide) (fun _ => rfl) (fun z => absurd z (by decide)) (Tp.nil _) with ⟨b, g1, qf, cf, g2, g3⟩ | ⟨P, ⟨em, A3, mn3, cs3, k1, k2, k3, k4, k5, k6, k7, k8, k9⟩, k10, k11⟩
    · exact Or.inl ⟨b, g1.exp h59 B sz, A, _, ss, h1, Or.inr ⟨htA, qf, cf, g2, g3.symm⟩⟩
    · by_cases c59 : (rd (pAdv B sz q)).2.1 = nI 59
      · have e2 : pExp (nI 59) B sz (rd (pAdv B sz q)) = pAdv B sz (rd (pAdv B sz q)) := by rw [pExp, if_pos c59]
        rw [e2]
        obtain ⟨m1, m2⟩ := k2.lt k7 (by rw [c59]; decide)
        have hcc : cdl (pAdv B sz (rd (pAdv B sz q))) = cdl (rd (pAdv B sz q)) := by
          show (pAdv B sz (rd (pAdv B sz q))).2.2.2.2.2 = _
          rw [pAdv_5]
        have hu : unw 1 (P ++ []) cs3 = ([], cs3 ++ P) := unw_all (Tp.nil _) P cs3 k10
        have hEr : Er B sz (1, 1, pAdv B sz A, [], (cdl q).map cdN) (1, pAdv B sz A3, cs3 ++ P) := k1.er (Er.one (es_b rfl rfl (by rw [eb_59 (by rw [k2.tk]; exact (tk_m59 _ k2.tl).mpr c59), hu, if_pos (show ([] : List Nat).length = 0 from rfl)])))
        have hlen : cs3.length + P.length = (cdl (rd (pAdv B sz q))).length := by rw [← List.length_append, k5, List.length_map]
        rw [List.append_nil] at k6
        refine Or.inr ⟨pAdv B sz A3, em, ⟨⟨A, _, ss, h1, htA, by rw [List.length_map], by rw [hcc, ← k5]; exact hEr⟩, k2.next, ?_, by rw [hcc]; omega, m2⟩, by rw [hcc, k4, hc], k9 0 (by decide)⟩
        show (pAdv B sz (rd (pAdv B sz q))).2.2.2.2.1 = -1
        rw [pAdv_5]
        exact k3
      · have e2 : pExp (nI 59) B sz (rd (pAdv B sz q)) = pFail (rd (pAdv B sz q)) := by rw [pExp, if_neg c59]
        rw [e2]
        obtain ⟨cf, hcf⟩ := end_bad (mn := mn3) (cs := cs3) k2 k10 (Tp.nil 1) k11 (fun _ => rfl) (fun z => absurd z c59)
        have hb := pAdv_b (B := B) k7
        rw [k2.bg] at hb
        exact Or.inl ⟨_, Fl.of k3 (by omega), A, _, ss, h1, Or.inr ⟨htA, _, cf, k1.er hcf, k2.bg.symm⟩⟩
  · have e : pExp (nI (8 + p)) B sz q = pFail q := by rw [pExp, if_neg hw]
    rw [e]
    have hb := pAdv_b (B := B) h5
    rw [h2.bg] at hb
    have hfl : Fl (pFail q) q.2.2.1 := Fl.of h3 (by omega)
    exact Or.inl ⟨_, (hfl9 _ _ hfl).exp h59 B sz, A, _, ss, h1, Or.inl ⟨by rw [h2.tk]; exact hw, h2.bg.symm⟩⟩
theorem Fl.part {rd : pS → pS} (hfl9 : ∀ q b, Fl q b → Fl (rd q) b) {q : pS} {b : Nat} (h : Fl q b) {w : Int32} (hw : w ≠ -1) : Fl (gPart rd B sz w q) b := by
  rw [gPart]
  exact (hfl9 _ _ (h.exp hw B sz)).exp (by decide) B sz
/-- a read text: what both have -/
def TxG (B : Nat → Int32) (sz : Nat) (qs : pS) (q : pS) (s1 s2 : Nat) : Prop := ∃ A e1 e2 e3, TxP B sz qs 3 A ((cdl q).map cdN) [0, s1, s2] ∧ (pAdv B sz A).2.1 = nI 0 ∧ cdl q = e1 ++ e2 ++ e3 ∧ s1 = e1.length ∧ s2 = (e1 ++ e2).length ∧ Okl e1 0 1 ∧ Okl e2 0 1 ∧ Okl e3 0 1 ∧ (cdl q).length ≤ sz
theorem tx_all {rd : pS → pS} (hrd : LJ B sz 5 5 rd) (hfl9 : ∀ q b, Fl q b → Fl (rd q) b) (h160 : sz ≤ 160) (h0 : qs.1 = 0) (hf : flt qs = -1) (hc : cdl qs = []) : (∃ b, Fl (gTx rd B sz qs) b ∧ TxF B sz qs b) ∨ (flt (gTx rd B sz qs) = -1 ∧ TxG B sz qs (gTx rd B sz qs) (cdl (gT1 rd B sz qs)).length (cdl (gT2 rd B sz qs)).length) := by
  have hc0 : cdl (pAdv B sz qs) = [] := by
    show (pAdv B sz qs).2.2.2.2.2 = _
    rw [pAdv_5]
    exact hc
  have hS0 : TxZ B sz qs 0 (pAdv B sz qs) qs [] := ⟨⟨rfl, by rw [hc0]; rfl, rfl⟩, rfl, by
    show (pAdv B sz qs).2.2.2.2.1 = -1
    rw [pAdv_5]
    exact hf, by rw [hc0]; exact Nat.zero_le _, by omega⟩
  have keep : ∀ {b}, Fl (gT3 rd B sz qs) b → Fl (gTx rd B sz qs) b := fun {b} h => by
    rw [gTx, if_neg (by rw [h.1]; decide)]
    exact h.fail
  have f1 : ∀ {p b}, p < 3 → TxF1 B sz qs p b → TxF B sz qs b := fun {p b} hp h => by
    obtain ⟨q, cs, ss, g1, g2⟩ := h
    exact Or.inl ⟨p, q, cs, ss, hp, g1, g2⟩
  rcases part_ok hrd hfl9 h160 (p := 0) (by decide) hS0 with ⟨b, g1, g2⟩ | ⟨A1, e1, k1, k2, k3⟩
  · exact Or.inl ⟨b, keep (Fl.part hfl9 (Fl.part hfl9 g1 (w := nI 9) (by decide)) (w := nI 10) (by decide)), f1 (by decide) g2⟩
  · rcases part_ok hrd hfl9 h160 (p := 1) (by decide) k1 with ⟨b, g1, g2⟩ | ⟨A2, e2, l1, l2, l3⟩
    · exact Or.inl ⟨b, keep (Fl.part hfl9 g1 (w := nI 10) (by decide)), f1 (by decide) g2⟩
    · rcases part_ok hrd hfl9 h160 (p := 2) (by decide) l1 with ⟨b, g1, g2⟩ | ⟨A3, e3, m1, m2, m3⟩
      · exact Or.inl ⟨b, keep g1, f1 (by decide) g2⟩
      · have k2' : cdl (gT1 rd B sz qs) = e1 := k2.trans (by rw [hc0]; rfl)
        have l2' : cdl (gT2 rd B sz qs) = e1 ++ e2 := l2.trans (by rw [show cdl (gPart rd B sz (nI (8 + 0)) (pAdv B sz qs)) = e1 from k2'])
        have m2' : cdl (gT3 rd B sz qs) = e1 ++ e2 ++ e3 := m2.trans (by rw [show cdl (gPart rd B sz (nI (8 + 1)) (gPart rd B sz (nI (8 + 0)) (pAdv B sz qs))) = e1 ++ e2 from l2'])
        obtain ⟨n1, n2, n3, n4, n5⟩ := m1
        have n1' : TxP B sz qs 3 A3 ((cdl (gT3 rd B sz qs)).map cdN) [0, e1.length, (e1 ++ e2).length] := by
          have e : [] ++ [(cdl (pAdv B sz qs)).length] ++ [(cdl (gT1 rd B sz qs)).length] ++ [(cdl (gT2 rd B sz qs)).length] = [0, e1.length, (e1 ++ e2).length] := by rw [hc0, k2', l2']; rfl
          rw [← e]
          exact n1
        have n2' : Lk B sz A3 (gT3 rd B sz qs) := n2
        have n3' : flt (gT3 rd B sz qs) = -1 := n3
        by_cases hz : (gT3 rd B sz qs).2.1 = nI 0
        · have e : gTx rd B sz qs = gT3 rd B sz qs := by rw [gTx, if_pos hz]
          rw [e, k2', l2']
          exact Or.inr ⟨n3', A3, e1, e2, e3, n1', by rw [n2'.tk]; exact hz, m2', rfl, rfl, k3, l3, m3, Nat.le_trans n4 n5⟩
        · have hb := pAdv_b (B := B) n5
          rw [n2'.bg] at hb
          refine Or.inl ⟨(gT3 rd B sz qs).2.2.1, by rw [gTx, if_neg hz]; exact Fl.of n3' (by omega), Or.inr ⟨A3, _, _, n1', by rw [n2'.tk]; exact hz, n2'.bg.symm⟩⟩
/-- what the reference reads is one -/
theorem TxP.one : ∀ {p : Nat} {q q' : pS} {cs cs' ss ss' : List Nat}, TxP B sz qs p q cs ss → TxP B sz qs p q' cs' ss' → q = q' ∧ cs = cs' ∧ ss = ss'
  | 0, _, _, _, _, _, _, ⟨h1, h2, h3⟩, ⟨g1, g2, g3⟩ => ⟨h1.trans g1.symm, h2.trans g2.symm, h3.trans g3.symm⟩
  | p + 1, _, _, _, _, _, _, ⟨q0, cs0, ss0, h1, h2, h3, h4⟩, ⟨q1, cs1, ss1, g1, g2, g3, g4⟩ => by
    obtain ⟨e1, e2, e3⟩ := TxP.one h1 g1
    subst e1 e2 e3
    have e := h4.uniq g4
    injection e with _ e
    injection e with e4 e5
    exact ⟨e4, e5, h3.trans g3.symm⟩
theorem TxP.no {p b : Nat} {q : pS} {cs ss : List Nat} (h : TxP B sz qs (p + 1) q cs ss) (hf : TxF1 B sz qs p b) : False := by
  obtain ⟨q0, cs0, ss0, h1, h2, h3, h4⟩ := h
  obtain ⟨q1, cs1, ss1, g1, g2⟩ := hf
  obtain ⟨e1, e2, e3⟩ := TxP.one h1 g1
  subst e1 e2 e3
  rcases g2 with g2 | ⟨-, q', cs', g2, -⟩
  · exact g2.1 h2
  · have e := h4.uniq g2
    injection e with e _
    exact absurd e (by decide)
theorem TxP.le {p : Nat} : ∀ {k : Nat} {q : pS} {cs ss : List Nat}, TxP B sz qs (p + k) q cs ss → ∃ q' cs' ss', TxP B sz qs p q' cs' ss'
  | 0, _, _, _, h => ⟨_, _, _, h⟩
  | k + 1, _, _, _, ⟨q0, cs0, ss0, h1, _⟩ => TxP.le h1
theorem TxF1.lt {p p' b : Nat} {q : pS} {cs ss : List Nat} (hf : TxF1 B sz qs p b) (h : TxP B sz qs p' q cs ss) (hlt : p < p') : False := by
  obtain ⟨k, rfl⟩ : ∃ k, p' = p + 1 + k := ⟨p' - (p + 1), by omega⟩
  obtain ⟨q', cs', ss', h'⟩ := TxP.le h
  exact h'.no hf
theorem TxF1.one {p b b' : Nat} (h : TxF1 B sz qs p b) (h' : TxF1 B sz qs p b') : b = b' := by
  obtain ⟨q0, cs0, ss0, h1, h2⟩ := h
  obtain ⟨q1, cs1, ss1, g1, g2⟩ := h'
  obtain ⟨e1, e2, e3⟩ := TxP.one h1 g1
  subst e1 e2 e3
  rcases h2 with h2 | ⟨h2, qa, ca, h3, h4⟩
  · rcases g2 with g2 | ⟨g2, -⟩
    · rw [h2.2, g2.2]
    · exact absurd g2 h2.1
  · rcases g2 with g2 | ⟨g2, qb, cb, g3, g4⟩
    · exact absurd h2 g2.1
    · have e := h3.uniq g3
      injection e with _ e
      injection e with e _
      rw [h4, g4, e]
theorem TxF.or {b : Nat} (h : TxF B sz qs b) : (∃ p, p < 3 ∧ TxF1 B sz qs p b) ∨ ∃ q cs ss, TxP B sz qs 3 q cs ss ∧ ¬ (pAdv B sz q).2.1 = nI 0 ∧ b = (pAdv B sz q).2.2.1 := by
  rcases h with ⟨p, q, cs, ss, hp, h1, h2⟩ | h
  · exact Or.inl ⟨p, hp, q, cs, ss, h1, h2⟩
  · exact Or.inr h
theorem TxF.one {b b' : Nat} (h : TxF B sz qs b) (h' : TxF B sz qs b') : b = b' := by
  rcases h.or with ⟨p, hp, h1⟩ | ⟨q, cs, ss, h1, h2, h3⟩
  · rcases h'.or with ⟨p', hp', g1⟩ | ⟨q', cs', ss', g1, g2, g3⟩
    · rcases Nat.lt_trichotomy p p' with hl | rfl | hl
      · obtain ⟨_, _, _, g, _⟩ := g1
        exact (h1.lt g hl).elim
      · exact h1.one g1
      · obtain ⟨_, _, _, g, _⟩ := h1
        exact (g1.lt g hl).elim
    · exact (h1.lt g1 hp).elim
  · rcases h'.or with ⟨p', hp', g1⟩ | ⟨q', cs', ss', g1, g2, g3⟩
    · exact (g1.lt h1 hp').elim
    · obtain ⟨rfl, -, -⟩ := TxP.one h1 g1
      rw [h3, g3]
theorem TxF.no {b : Nat} (h : TxF B sz qs b) {q : pS} {cs ss : List Nat} (hp : TxP B sz qs 3 q cs ss) (h0 : (pAdv B sz q).2.1 = nI 0) : False := by
  rcases h.or with ⟨p, hp', h1⟩ | ⟨q', cs', ss', h1, h2, h3⟩
  · exact h1.lt hp hp'
  · obtain ⟨rfl, -, -⟩ := TxP.one hp h1
    exact h2 h0
end TXT
