/-! a text, over the shared state: the answers -/
def tpB (q : Sg) : Nat → Int32 := fun k => (gTp q).getD k 0
def rdT (q : Sg) : pS → pS := (pD (tpB q) (gTp q).length 5).2 5
def gTq (q : Sg) (qs : pS) : pS := gTx (rdT q) (tpB q) (gTp q).length qs
def nwT (q : Sg) (qs : pS) : sT := (cdl (gTq q qs), (cdl (gT1 (rdT q) (tpB q) (gTp q).length qs)).length, (cdl (gT2 (rdT q) (tpB q) (gTp q).length qs)).length)
def aText (q : Sg) (qs : pS) : Int32 := if (gTxs q).length = 6 then -4 else if flt (gTq q qs) = -1 then nI (gTxs q).length else -100 - flt (gTq q qs)
def nText (q : Sg) (qs : pS) : Sg := if (gTxs q).length = 6 then q else if flt (gTq q qs) = -1 then nTextY q (nwT q qs) else nTextN q
def QsOk (qs : pS) : Prop := qs.1 = 0 ∧ flt qs = -1 ∧ cdl qs = []
theorem rdT_lj {q : Sg} (h160 : (gTp q).length ≤ 160) : LJ (tpB q) (gTp q).length 5 5 (rdT q) := by
  unfold rdT
  exact (deep_ok (B := tpB q) (sz := (gTp q).length) h160 5).2.2
theorem rdT_fl (q : Sg) (p : pS) (b : Nat) (h : Fl p b) : Fl (rdT q p) b := by
  unfold rdT
  exact Fl.two_ (B := tpB q) (sz := (gTp q).length) 5 p h
theorem tq_all {q : Sg} {qs : pS} (h160 : (gTp q).length ≤ 160) (h : QsOk qs) : (∃ b, Fl (gTq q qs) b ∧ TxF (tpB q) (gTp q).length qs b) ∨ (flt (gTq q qs) = -1 ∧ TxG (tpB q) (gTp q).length qs (gTq q qs) (nwT q qs).2.1 (nwT q qs).2.2) := by
  have h1 := rdT_lj h160
  have h2 := rdT_fl q
  unfold gTq nwT
  generalize rdT q = rd at h1 h2 ⊢
  exact tx_all h1 h2 h160 h.1 h.2.1 h.2.2
theorem nwT_e (q : Sg) (qs : pS) : nwT q qs = (cdl (gTq q qs), (nwT q qs).2.1, (nwT q qs).2.2) := by
  unfold nwT gTq
  generalize rdT q = rd
  rfl
theorem Fl.n1 {q : pS} {b : Nat} (h : Fl q b) : ¬ flt q = -1 := by
  rw [h.2.1]
  exact m_nneg h.2.2
theorem MI.tpB {sh : Nat → Option mSh} {V : mV} {q : Sg} (h : MI sh V q) : ∀ k, k < (gTp q).length → V 205 k = tpB q k := fun k hk => by
  rw [h.tp.2.2 k _ (List.getElem?_eq_getElem hk)]
  show _ = (gTp q).getD k 0
  rw [List.getD, List.getElem?_eq_getElem hk]
  rfl
theorem XF8.lo {tn : Nat} {V V' : mV} (h : XF8 tn V V') : ∀ a, a < 200 → V' a = V a := fun a ha => h.1 a (by omega) (by omega) (by omega) (by omega)
theorem MI.textG {sh : Nat → Option mSh} {V V' : mV} {q : Sg} (hI : MI sh V q) {qs A : pS} {c : List Int32} {s1 s2 : Nat} {cs ss : List Nat} {B : Nat → Int32} {sz : Nat} (h160 : c.length ≤ 160) (hw : WfT (c, s1, s2) ∧ s1 ≤ s2 ∧ s2 ≤ c.length) {q2 : pS} (h1 : TxP B sz qs 3 q2 cs ss) (g3 : TxP B sz qs 3 A (c.map cdN) [0, s1, s2]) (h3 : TxY V' (gTxs q).length cs ss) (h4 : XF8 (gTxs q).length V V') (h5 : V' 200 8 = nI 0) (h6 : ¬ (gTxs q).length = 6) : MI sh V' (nTextY q (c, s1, s2)) := by
  obtain ⟨k1, k2, k3⟩ := TxP.one h1 g3
  rw [k2, k3] at h3
  exact hI.textY h4 h5 (by have := hI.tn.2.2.1; omega) h3 ⟨hw.1, hw.2.1, hw.2.2, h160⟩
theorem c_X11_text_q (l : Launch) (G : mG) (ad : Nat → Nat) (sh : Nat → Option mSh) (V : mV) (q : Sg) (qs : pS) (hI : MI sh V q) (hq : QsOk qs) : mM l yX11_text wsX11_text ({ frames := 4, cells := 0, slots := 0, locals := 87 } : Room) G ad sh V [.ref (ad 200)] 0 0 (mPi ad sh (fun r V' => aText q qs = r ∧ MI sh V' (nText q qs) ∧ ∀ a, a < 200 → V' a = V a)) := by
  refine (c_X11_text l G ad sh V (gTp q).length (V 205) qs (gTxs q).length hI.z.1 rfl hI.tp.1 hI.tp.2.1 hI.wd hI.tn.1 hI.tn.2.2.1 hq.1).weak ?_
  rintro v ad' sh' V' ⟨e1, e2, r, e3, hp⟩
  refine ⟨e1, e2, r, e3, ?_⟩
  have hA := pAdv_B hI.tpB
  rw [TxF_B hA, TxP_B hA, hA] at hp
  rcases hp with ⟨rfl, rfl, h6⟩ | ⟨b, rfl, h1, h2, h3, h4, h5, h6⟩ | ⟨q2, cs, ss, rfl, h1, h2, h3, h4, h5, h6⟩
  · rw [aText, nText, if_pos h6, if_pos h6]
    exact ⟨rfl, hI, fun _ _ => rfl⟩
  · rw [aText, nText, if_neg h6, if_neg h6]
    rcases tq_all hI.tp.2.1 hq with ⟨b', g1, g2⟩ | ⟨g1, A, f1, f2, f3, g2, g3, -⟩
    · rw [if_neg g1.n1, if_neg g1.n1, g1.2.1, g2.one h1]
      exact ⟨rfl, hI.textN h4 h3 h5, h4.lo⟩
    · exact (h1.no g2 g3).elim
  · rw [aText, nText, if_neg h6, if_neg h6]
    rcases tq_all hI.tp.2.1 hq with ⟨b', g1, g2⟩ | ⟨g1, g2⟩
    · exact (g2.no h1 h2).elim
    · rw [if_pos g1, if_pos g1]
      have hw := g2.wf
      obtain ⟨A, f1, f2, f3, g3, -⟩ := g2
      rw [nwT_e]
      exact ⟨rfl, hI.textG (Nat.le_trans hw.2.2.2 hI.tp.2.1) ⟨hw.1, hw.2.1, hw.2.2.1⟩ h1 g3 h3 h4 h5 h6, h4.lo⟩
