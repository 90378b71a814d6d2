/-! the two readings: operands -/
def DD (j d : Nat) : Nat := 1 + 5 * d + j
theorem pAdv_b {B : Nat → Int32} {sz : Nat} {q : pS} (hq : q.1 ≤ sz) : (pAdv B sz q).2.2.1 ≤ sz := by
  have ha := fSpan_le fWhite B hq
  unfold pAdv
  split
  · exact ha.2
  · split
    · exact ha.2
    · split
      · exact ha.2
      · exact ha.2
section SIM
variable (B : Nat → Int32) (sz : Nat)
def Lk (A q : pS) : Prop := p4 (pAdv B sz A) = p4 q
/-- both stand before an expression's part -/
def Sta (d : Nat) (q A : pS) (th cs : List Nat) : Prop := Lk B sz A q ∧ flt q = -1 ∧ cs = (cdl q).map cdN ∧ th.length + cs.length ≤ A.1 ∧ A.1 ≤ sz ∧ cntO th + d = 5
def Fai (X : rS) (q : pS) : Prop := ∃ b, Fl q b ∧ ∃ qf cf, Er B sz X (0, qf, cf) ∧ qf.2.2.1 = b
def Ok0 (d : Nat) (X : rS) (a0 : Nat) (C0 : List Int32) (q : pS) (th : List Nat) : Prop := ∃ em A mn, Go B sz X (0, mn, A, (unw 7 th ((cdl q).map cdN)).1, (unw 7 th ((cdl q).map cdN)).2) ∧ Lk B sz A q ∧ flt q = -1 ∧ cdl q = C0 ++ em ∧ th.length + (cdl q).length ≤ A.1 ∧ A.1 ≤ sz ∧ a0 < A.1 ∧ ∀ n, n + DD 0 d ≤ 32 → Okl em n (n + 1)
def Ext (j : Nat) (P : List Nat) (t : Int32) : Prop := mSg t = 0 ∨ rkN (mSg t) < RR j ∨ (3 ≤ j ∧ rkN (mSg t) = 4 ∧ Blk P)
/-- both stand behind it, so much held more -/
def OkP (P : List Nat) (h : Nat) (X : rS) (a0 : Nat) (C0 : List Int32) (q : pS) (th : List Nat) : Prop := ∃ em A mn cs, Go B sz X (0, mn, A, P ++ th, cs) ∧ Lk B sz A q ∧ flt q = -1 ∧ cdl q = C0 ++ em ∧ cs ++ P = (cdl q).map cdN ∧ (P ++ th).length + cs.length ≤ A.1 ∧ A.1 ≤ sz ∧ a0 < A.1 ∧ ∀ n, n + h ≤ 32 → Okl em n (n + 1)
/-- its ranks (k), what may come (j) -/
def OkX (k j h : Nat) (X : rS) (a0 : Nat) (C0 : List Int32) (q : pS) (th : List Nat) : Prop := ∃ P, OkP B sz P h X a0 C0 q th ∧ (∀ x ∈ P, RP k ≤ rkN x) ∧ Ext j P q.2.1
def L0 (d : Nat) (F : pS → pS) : Prop := ∀ q A mn th cs, Sta B sz d q A th cs → mn ≤ 1 → (mn = 1 → ¬ q.2.1 = nI 13) → Fai B sz (1, mn, A, th, cs) (F q) ∨ Ok0 B sz d (1, mn, A, th, cs) A.1 (cdl q) (F q) th
def LJ (d j : Nat) (F : pS → pS) : Prop := ∀ q A mn th cs, Sta B sz d q A th cs → mn ≤ 1 → (3 ≤ j → mn = 1) → (j < 3 → mn = 1 → ¬ q.2.1 = nI 13) → Tp (RR j) th → Fai B sz (1, mn, A, th, cs) (F q) ∨ OkX B sz j j (DD j d) (1, mn, A, th, cs) A.1 (cdl q) (F q) th
end SIM
section SIMT
variable {B : Nat → Int32} {sz : Nat}
theorem Lk.tk {A q : pS} (h : Lk B sz A q) : (pAdv B sz A).2.1 = q.2.1 := congrArg (fun z => z.2.1) h
theorem Lk.bg {A q : pS} (h : Lk B sz A q) : (pAdv B sz A).2.2.1 = q.2.2.1 := congrArg (fun z => z.2.2.1) h
theorem Lk.vl {A q : pS} (h : Lk B sz A q) : (pAdv B sz A).2.2.2.1 = q.2.2.2.1 := congrArg (fun z => z.2.2.2) h
theorem Lk.tl {A q : pS} (h : Lk B sz A q) : q.2.1 ∈ tkL := by
  rw [← h.tk]
  exact pAdv_tk B sz A
theorem Lk.next {A q : pS} (h : Lk B sz A q) : Lk B sz (pAdv B sz A) (pAdv B sz q) := pAdv_p4 h
theorem Fai.go {X Y : rS} {q : pS} (h : Fai B sz Y q) (hg : Go B sz X Y) : Fai B sz X q := by
  obtain ⟨b, h1, qf, cf, h2, h3⟩ := h
  exact ⟨b, h1, qf, cf, hg.er h2, h3⟩
theorem Fai.f {X : rS} {q q' : pS} (h : Fai B sz X q) (hf : ∀ b, Fl q b → Fl q' b) : Fai B sz X q' := by
  obtain ⟨b, h1, h2⟩ := h
  exact ⟨b, hf b h1, h2⟩
/-- a token that can't stand -/
theorem Fai.at_ {X : rS} {A q : pS} {cf : List Nat} (hl : Lk B sz A q) (hs : A.1 ≤ sz) (h160 : sz ≤ 160) (hf : flt q = -1) (h : Er B sz X (0, pAdv B sz A, cf)) : Fai B sz X (pFail q) := by
  have hb := pAdv_b (B := B) hs
  rw [hl.bg] at hb
  exact ⟨_, Fl.of hf (by omega), _, _, h, hl.bg⟩
theorem Lk.lt {A q : pS} (hl : Lk B sz A q) (hs : A.1 ≤ sz) (h0 : ¬ q.2.1 = nI 0) : A.1 < (pAdv B sz A).1 ∧ (pAdv B sz A).1 ≤ sz := pAdv_lt hs (by rw [hl.tk]; exact fun z => h0 ((tk_00 _ hl.tl).mp z))
/-- an operand of one token -/
theorem on_leaf {d : Nat} {A q : pS} {mn : Nat} {th cs : List Nat} {x : Int32} {c : Nat} (h160 : sz ≤ 160) (h : Sta B sz d q A th cs) (h0 : ¬ q.2.1 = nI 0) (hx : cdN x = c) (hk : ∀ n, n < 32 → Okl [x] n (n + 1)) (hs : mEs B sz (1, mn, A, th, cs) = .inl (0, mn, pAdv B sz A, (unw 7 th (cs ++ [c])).1, (unw 7 th (cs ++ [c])).2)) : Ok0 B sz d (1, mn, A, th, cs) A.1 (cdl q) (pAdv B sz (pEmit x q)) th := by
  obtain ⟨h1, h2, h3, h4, h5, h6⟩ := h
  obtain ⟨h7, h8⟩ := h1.lt h5 h0
  have hlen : cs.length = (cdl q).length := by rw [h3, List.length_map]
  have hc : cdl (pAdv B sz (pEmit x q)) = cdl q ++ [x] := by
    show (pAdv B sz (pEmit x q)).2.2.2.2.2 = _
    rw [pAdv_5]
    exact pEmit_c (by omega)
  have hm : (cdl (pAdv B sz (pEmit x q))).map cdN = cs ++ [c] := by rw [hc, List.map_append, ← h3, List.map_cons, hx]; rfl
  refine ⟨[x], pAdv B sz A, mn, by rw [hm]; exact Go.one hs, ?_, ?_, hc, ?_, h8, h7, fun n hn => hk n (by unfold DD at hn; omega)⟩
  · exact pAdv_p4 (h1.trans (pEmit_1 x q).1.symm)
  · show (pAdv B sz (pEmit x q)).2.2.2.2.1 = -1
    rw [pAdv_5]
    exact h2
  · rw [hc, List.length_append, ← hlen]
    simp
    omega
theorem on_ok {d : Nat} (h160 : sz ≤ 160) {mnF opF : pS → pS}
    (hm : ∀ q A mn th cs, Sta B sz d q A th cs → mn ≤ 1 → q.2.1 = nI 45 → Fai B sz (1, mn, A, th, cs) (mnF q) ∨ Ok0 B sz d (1, mn, A, th, cs) A.1 (cdl q) (mnF q) th)
    (ho : ∀ q A mn th cs, Sta B sz d q A th cs → mn ≤ 1 → q.2.1 = nI 40 → Fai B sz (1, mn, A, th, cs) (opF q) ∨ Ok0 B sz d (1, mn, A, th, cs) A.1 (cdl q) (opF q) th) : L0 B sz d (pOn B sz mnF opF) := by
  intro q A mn th cs h hmn h13
  have htl := h.1.tl
  have htk := h.1.tk
  by_cases c1 : q.2.1 = nI 1
  · rw [pOn_1 c1]
    obtain ⟨v, hv, he⟩ := pAdv_val (B := B) (sz := sz) (q := A) (by rw [htk]; exact c1)
    have hev : q.2.2.2.1 = nI v := by rw [← h.1.vl]; exact he
    rw [hev]
    refine Or.inr (on_leaf h160 h (by rw [c1]; decide) (cdN_num hv) (fun n hn => ok_num hv hn) (es_w (Nat.le_refl _) (by decide) rfl ?_))
    rw [ew_1 (by rw [htk]; exact (tk_m1 _ htl).mpr c1), he, tkn_nI (by omega)]
  · by_cases c2 : mIn q.2.1 2 8
    · rw [pOn_2 c1 c2]
      obtain ⟨j, hj, h2, h3, h4⟩ := tk_nm _ htl c2
      refine Or.inr (on_leaf h160 h (fun z => by rw [z] at c2; exact absurd c2 (by decide)) h4 (fun n hn => by rw [h2]; exact ok_nm hj hn) (es_w (Nat.le_refl _) (by decide) rfl ?_))
      rw [ew_2 (by rw [htk]; exact (tk_m2 _ htl).mpr c2), htk, h3]
    · by_cases c3 : q.2.1 = nI 45
      · rw [pOn_3 c1 c2 c3]
        exact hm q A mn th cs h hmn c3
      · by_cases c4 : q.2.1 = nI 40
        · rw [pOn_4 c1 c2 c3 c4]
          exact ho q A mn th cs h hmn c4
        · rw [pOn_5 c1 c2 c3 c4]
          refine Or.inl (Fai.at_ h.1 h.2.2.2.2.1 h160 h.2.1 (cf := []) (Er.one (es_w (Nat.le_refl _) (by decide) rfl ?_)))
          by_cases c6 : q.2.1 = nI 13
          · exact ew_6n (by rw [htk]; exact (tk_m6 _ htl).mpr c6) (by
              apply Decidable.byContradiction
              intro hne
              exact h13 (by omega) c6)
          · exact ew_no (by rw [htk]; exact fun z => c1 ((tk_m1 _ htl).mp z)) (by rw [htk]; exact fun z => c2 ((tk_m2 _ htl).mp z)) (by rw [htk]; exact fun z => c6 ((tk_m6 _ htl).mp z)) (by rw [htk]; exact fun z => c3 ((tk_m45 _ htl).mp z)) (by rw [htk]; exact fun z => c4 ((tk_m40 _ htl).mp z))
/-- what opens, when no more may be opened -/
theorem op_full {A q : pS} {mn : Nat} {th cs : List Nat} (h160 : sz ≤ 160) (h : Sta B sz 0 q A th cs) {x m9 : Nat} (he : mEw mn (pAdv B sz A) th cs = if cntO th = 5 then .inr (0, pAdv B sz A, []) else .inl (1, m9, pAdv B sz A, x :: th, cs)) : Fai B sz (1, mn, A, th, cs) (pFail q) := by
  refine Fai.at_ h.1 h.2.2.2.2.1 h160 h.2.1 (cf := []) (Er.one (es_w (Nat.le_refl _) (by decide) rfl ?_))
  rw [he, if_pos (by have := h.2.2.2.2.2; omega)]
/-- what opens, when more may be opened -/
theorem op_more {d : Nat} {A q : pS} {mn : Nat} {th cs : List Nat} (h : Sta B sz (d + 1) q A th cs) {x m9 : Nat} (hx : x = 0 ∨ x = 13 ∨ x = 19) (h0 : ¬ q.2.1 = nI 0) (he : mEw mn (pAdv B sz A) th cs = if cntO th = 5 then .inr (0, pAdv B sz A, []) else .inl (1, m9, pAdv B sz A, x :: th, cs)) : Go B sz (1, mn, A, th, cs) (1, m9, pAdv B sz A, x :: th, cs) ∧ Sta B sz d (pAdv B sz q) (pAdv B sz A) (x :: th) cs ∧ cdl (pAdv B sz q) = cdl q ∧ A.1 < (pAdv B sz A).1 := by
  obtain ⟨h1, h2, h3, h4, h5, h6⟩ := h
  obtain ⟨h7, h8⟩ := h1.lt h5 h0
  have hc : cdl (pAdv B sz q) = cdl q := by
    show (pAdv B sz q).2.2.2.2.2 = _
    rw [pAdv_5]
  refine ⟨Go.one (es_w (Nat.le_refl _) (by decide) rfl (by rw [he, if_neg (by omega)])), ⟨h1.next, ?_, by rw [hc]; exact h3, by rw [List.length_cons]; omega, h8, by rw [cntO, if_pos hx]; omega⟩, hc, h7⟩
  show (pAdv B sz q).2.2.2.2.1 = -1
  rw [pAdv_5]
  exact h2
end SIMT
