/-! the two readings: the levels -/
section LEV
variable {B : Nat → Int32} {sz : Nat}
theorem pJoin_x (F : pS → pS) (q : pS) : pJoin B sz F q = pEmit (-q.2.1) (F (pAdv B sz q)) := rfl
/-- a sign between two operands, read by the machine -/
theorem sg_go {A q : pS} {mn : Nat} {P th cs : List Nat} {l : Nat} (hl : Lk B sz A q) (h0 : ¬ mSg q.2.1 = 0) (hb : btw (mSg q.2.1) = l) (hP : ∀ x ∈ P, l ≤ rkN x) (ht : Tp l th) (hn : rkN (mSg q.2.1) = 4 → Tp 4 th) : Go B sz (0, mn, A, P ++ th, cs) (1, if 12 < mSg q.2.1 then 0 else 1, pAdv B sz A, mSg q.2.1 :: th, cs ++ P) := by
  obtain ⟨s1, s2, -⟩ := sg_t _ hl.tl h0
  have hu : unw (btw (mSg q.2.1)) (P ++ th) cs = (th, cs ++ P) := by rw [hb]; exact unw_all ht P cs hP
  refine Go.one (es_b rfl rfl (eb_s (by rw [hl.tk]; exact s1) (by rw [hl.tk]; exact s2) ?_))
  rw [hl.tk, if_neg h0, hu, if_neg]
  intro h
  by_cases h4 : rkN (mSg q.2.1) = 4
  · have h5 := hn h4
    cases th with
    | nil => rw [btNo_n] at h; cases h
    | cons x t =>
      have h6 := h5 x t rfl
      rw [btNo_f (by omega)] at h
      cases h
  · rw [btNo_0 h4] at h
    cases h
/-- one more operand behind a sign -/
theorem join_ok {d j hh a0 l : Nat} {X : rS} {C0 : List Int32} {q : pS} {P th : List Nat} {F : pS → pS} (h160 : sz ≤ 160) (hj : j < 5) (hF : LJ B sz d j F) (hcd : cntO th + d = 5) (h0 : ¬ mSg q.2.1 = 0) (hr : rkN (mSg q.2.1) = RR (j + 1)) (hb : btw (mSg q.2.1) = l) (hP : ∀ x ∈ P, l ≤ rkN x) (htp : Tp l th) (ht4 : rkN (mSg q.2.1) = 4 → Tp 4 th) (hh1 : DD j d + 1 ≤ hh)
    (h : OkP B sz P hh X a0 C0 q th) : Fai B sz X (pJoin B sz F q) ∨ ∃ P3, OkP B sz (P3 ++ [mSg q.2.1]) hh X (a0 + 1) C0 (pJoin B sz F q) th ∧ (∀ x ∈ P3, RP j ≤ rkN x) ∧ Ext j P3 (pJoin B sz F q).2.1 := by
  obtain ⟨em, A, mn, cs, h1, h2, h3, h4, h5, h6, h7, h8, h9⟩ := h
  have hgo := h1.trans (sg_go (mn := mn) (cs := cs) h2 h0 hb hP htp ht4)
  obtain ⟨s1, s2, s3, s4, s5, s6, s7, s8, s9, s10⟩ := sg_t _ h2.tl h0
  obtain ⟨n1, n2⟩ := h2.lt h7 (fun z => by rw [z] at h0; exact h0 (by decide))
  have hc : cdl (pAdv B sz q) = cdl q := by
    show (pAdv B sz q).2.2.2.2.2 = _
    rw [pAdv_5]
  have hf : flt (pAdv B sz q) = -1 := by
    show (pAdv B sz q).2.2.2.2.1 = -1
    rw [pAdv_5]
    exact h3
  rw [List.length_append] at h6
  have hSt : Sta B sz d (pAdv B sz q) (pAdv B sz A) (mSg q.2.1 :: th) (cs ++ P) := ⟨h2.next, hf, by rw [hc]; exact h5, by rw [List.length_cons, List.length_append]; omega, n2, by rw [cntO, if_neg (by omega)]; omega⟩
  have hjr : (3 ≤ j → rkN (mSg q.2.1) ≤ 2) ∧ (j < 3 → ¬ rkN (mSg q.2.1) ≤ 2) ∧ RR (j + 1) < RR j := by
    rw [hr]
    exact (by decide +kernel : ∀ j, j < 5 → (3 ≤ j → RR (j + 1) ≤ 2) ∧ (j < 3 → ¬ RR (j + 1) ≤ 2) ∧ RR (j + 1) < RR j) j hj
  rcases hF (pAdv B sz q) (pAdv B sz A) (if 12 < mSg q.2.1 then 0 else 1) (mSg q.2.1 :: th) (cs ++ P) hSt (by split <;> omega) (fun h => if_neg (s6.mp (hjr.1 h))) (fun h z => by
      have := mt s6.mpr
      by_cases h12 : 12 < mSg q.2.1
      · rw [if_pos h12] at z
        exact absurd z (by decide)
      · exact absurd (s6.mpr h12) (hjr.2.1 h)) (Tp.cons (by rw [hr]; exact hjr.2.2) _) with hx | ⟨P3, ⟨em3, A3, mn3, cs3, g1, g2, g3, g4, g5, g6, g7, g8, g9⟩, g10, g11⟩
  · exact Or.inl ((hx.go hgo).f (fun b hb => hb.emit _))
  · refine Or.inr ⟨P3, ⟨em ++ em3 ++ [-q.2.1], A3, mn3, cs3, ?_, g2, g3, ?_, ?_, ?_, g7, by omega, fun n hn => ?_⟩, g10, g11⟩
    · rw [List.append_assoc]
      exact hgo.trans g1
    all_goals have hlen : cs3.length + P3.length = (cdl (F (pAdv B sz q))).length := by rw [← List.length_append, g5, List.length_map]
    all_goals rw [List.length_append, List.length_cons] at g6
    all_goals have hcc : cdl (pJoin B sz F q) = cdl (F (pAdv B sz q)) ++ [-q.2.1] := pEmit_c (by omega)
    · rw [hcc, g4, hc, h4]
      simp
    · rw [hcc, List.map_append, ← g5, List.append_assoc, List.map_cons, s3]
      rfl
    · rw [List.length_append, List.length_append]
      simp
      omega
    · refine ((h9 n hn).app (g9 (n + 1) (by omega))).app (ok_two s4 n)
/-- signs of one rank, one behind the other -/
theorem loop_ok {d j : Nat} {X : rS} {C0 : List Int32} {th : List Nat} {F : pS → pS} (h160 : sz ≤ 160) (hj : j < 5) (hj2 : j ≠ 2) (hF : LJ B sz d j F) (hcd : cntO th + d = 5) (htp : Tp (RR (j + 1)) th) : ∀ (n a0 : Nat) (q : pS), sz ≤ n + a0 → OkX B sz (j + 1) j (DD (j + 1) d) X a0 C0 q th → Fai B sz X (pLoop (pJoin B sz F) (nI (4 - j)) n q) ∨ ∃ a1, a0 ≤ a1 ∧ OkX B sz (j + 1) (j + 1) (DD (j + 1) d) X a1 C0 (pLoop (pJoin B sz F) (nI (4 - j)) n q) th
  | 0, a0, q, hn, h => by
    obtain ⟨P, ⟨em, A, mn, cs, h1, h2, h3, h4, h5, h6, h7, h8, h9⟩, -⟩ := h
    omega
  | n + 1, a0, q, hn, h => by
    obtain ⟨P, hp, h1, h2⟩ := h
    have htl : q.2.1 ∈ tkL := by
      obtain ⟨em, A, mn, cs, h1, h2, -⟩ := hp
      exact h2.tl
    by_cases hf : fRank q.2.1 = nI (4 - j)
    · rw [pLoop, if_pos hf]
      obtain ⟨h0, hr⟩ := (fr_is _ htl j hj).mp hf
      have h4 : rkN (mSg q.2.1) ≠ 4 := by
        rw [hr]
        exact (by decide +kernel : ∀ j, j < 5 → j ≠ 2 → RR (j + 1) ≠ 4) j hj hj2
      have hrp : RP (j + 1) = RR (j + 1) := by rw [RP, if_neg (by omega)]
      rcases join_ok h160 hj hF hcd h0 hr (l := RR (j + 1)) (by rw [btw, if_neg h4, hr]) (fun x hx => by rw [← hrp]; exact h1 x hx) htp (fun z => absurd z h4) (by unfold DD; omega) hp with hx | ⟨P3, g1, g2, g3⟩
      · exact Or.inl (hx.f (fun b hb => hb.loop (by omega) _))
      · have hrr : RP (j + 1) ≤ RP j := (by decide +kernel : ∀ j, j < 5 → RP (j + 1) ≤ RP j) j hj
        have e3 : Ext j (P3 ++ [mSg q.2.1]) (pJoin B sz F q).2.1 := g3.imp id (fun z => z.imp id (fun z => ⟨z.1, z.2.1, z.2.2.app _⟩))
        rcases loop_ok h160 hj hj2 hF hcd htp n (a0 + 1) (pJoin B sz F q) (by omega) ⟨_, g1, fun x hx => by
          rcases List.mem_append.mp hx with hx | hx
          · exact Nat.le_trans hrr (g2 x hx)
          · rw [List.mem_singleton.mp hx, hr, hrp]
            exact Nat.le_refl _, e3⟩ with hx | ⟨a1, g4, g5⟩
        · exact Or.inl hx
        · exact Or.inr ⟨a1, by omega, g5⟩
    · rw [pLoop_n hf]
      refine Or.inr ⟨a0, Nat.le_refl _, P, hp, h1, ?_⟩
      by_cases h0 : mSg q.2.1 = 0
      · exact Or.inl h0
      · have hr : rkN (mSg q.2.1) ≠ RR (j + 1) := fun z => hf ((fr_is _ htl j hj).mpr ⟨h0, z⟩)
        have h3 := (sg_t _ htl h0).2.2.2.2.2.2.1
        rcases h2 with h2 | h2 | h2
        · exact absurd h2 h0
        · exact Or.inr (Or.inl ((by decide +kernel : ∀ j, j < 5 → ∀ r, r < 8 → (j ≠ 2 ∧ r < RR j ∧ r ≠ RR (j + 1) ∧ r ≠ 3) → r < RR (j + 1)) j hj _ (by have := rkN_le (mSg q.2.1); omega) ⟨hj2, h2, hr, h3⟩))
        · exact Or.inr (Or.inr ⟨by omega, h2.2⟩)
theorem OkP.mono {P : List Nat} {h h' a a' : Nat} {X : rS} {C0 : List Int32} {q : pS} {th : List Nat} (hp : OkP B sz P h X a C0 q th) (hh : h ≤ h') (ha : a' ≤ a) : OkP B sz P h' X a' C0 q th := by
  obtain ⟨em, A, mn, cs, h1, h2, h3, h4, h5, h6, h7, h8, h9⟩ := hp
  exact ⟨em, A, mn, cs, h1, h2, h3, h4, h5, h6, h7, by omega, fun n hn => h9 n (by omega)⟩
theorem LJ.up {d j : Nat} {one nt : pS → pS} (h160 : sz ≤ 160) (hj : j < 5) (hj2 : j ≠ 2) (hF : LJ B sz d j (pRk B sz one nt j)) : LJ B sz d (j + 1) (pRk B sz one nt (j + 1)) := by
  intro q A mn th cs h hmn h3 h13 htp
  rw [pRk_s hj2]
  have hRR : RR (j + 1) ≤ RR j := (by decide +kernel : ∀ j, j < 5 → RR (j + 1) ≤ RR j) j hj
  have hrr : RP (j + 1) ≤ RP j := (by decide +kernel : ∀ j, j < 5 → RP (j + 1) ≤ RP j) j hj
  by_cases hm3 : 3 ≤ j ∨ j < 2
  · rcases hF q A mn th cs h hmn (fun z => h3 (by omega)) (fun z => h13 (by omega)) (htp.mono hRR) with hx | ⟨P, h1, h2, h4⟩
    · exact Or.inl (hx.f (fun b hb => hb.loop (by omega) _))
    · rcases loop_ok h160 hj hj2 hF h.2.2.2.2.2 htp 160 A.1 _ (by omega) ⟨P, h1.mono (by unfold DD; omega) (Nat.le_refl _), fun x hx => Nat.le_trans hrr (h2 x hx), h4⟩ with hx | ⟨a1, g1, P2, g2, g3⟩
      · exact Or.inl hx
      · exact Or.inr ⟨P2, g2.mono (Nat.le_refl _) g1, g3⟩
  · omega
/-- one comparison at most, or a word before -/
theorem LJ.up2 {d : Nat} {one nt : pS → pS} (h160 : sz ≤ 160) (hF : LJ B sz d 2 (pRk B sz one nt 2))
    (hnt : ∀ q A th cs, Sta B sz d q A th cs → q.2.1 = nI 13 → Fai B sz (1, 1, A, th, cs) (nt q) ∨ OkX B sz 3 3 (DD 3 d) (1, 1, A, th, cs) A.1 (cdl q) (nt q) th) : LJ B sz d 3 (pRk B sz one nt 3) := by
  intro q A mn th cs h hmn h3 h13 htp
  rw [pRk_2]
  have hm1 := h3 (Nat.le_refl _)
  subst hm1
  by_cases hc : q.2.1 = nI 13
  · rw [if_pos hc]
    exact hnt q A th cs h hc
  · rw [if_neg hc]
    rcases hF q A 1 th cs h hmn (fun z => rfl) (fun _ _ => hc) (htp.mono (by decide)) with hx | ⟨P, h1, h2, h4⟩
    · exact Or.inl (hx.f (fun b hb => hb.loop (r := 2) (by decide) _))
    · have htl : (pRk B sz one nt 2 q).2.1 ∈ tkL := by
        obtain ⟨em, A, mn, cs, h1, h2, -⟩ := h1
        exact h2.tl
      rw [pLoop]
      by_cases hf : fRank (pRk B sz one nt 2 q).2.1 = nI 2
      · rw [if_pos hf, pLoop]
        obtain ⟨h0, hr⟩ := (fr_is _ htl 2 (by decide)).mp hf
        have hr4 : rkN (mSg (pRk B sz one nt 2 q).2.1) = 4 := hr
        rcases join_ok h160 (by decide) hF h.2.2.2.2.2 h0 hr (l := 5) (by rw [btw, if_pos hr4]) (fun x hx => h2 x hx) (htp.mono (by decide)) (fun _ => htp) (by unfold DD; omega) (h1.mono (h' := DD 3 d) (by unfold DD; omega) (Nat.le_refl _)) with hx | ⟨P3, g1, g2, g3⟩
        · exact Or.inl hx
        · refine Or.inr ⟨_, g1.mono (Nat.le_refl _) (by omega), fun x hx => ?_, ?_⟩
          · rcases List.mem_append.mp hx with hx | hx
            · exact Nat.le_trans (by decide) (g2 x hx)
            · rw [List.mem_singleton.mp hx, hr4]
              decide
          · rcases g3 with g3 | g3 | g3
            · exact Or.inl g3
            · by_cases h44 : rkN (mSg (pJoin B sz (pRk B sz one nt 2) (pRk B sz one nt 2 q)).2.1) = 4
              · exact Or.inr (Or.inr ⟨Nat.le_refl _, h44, P3, _, [], rfl, g2, hr4⟩)
              · exact Or.inr (Or.inl (by
                  have g4 : rkN (mSg (pJoin B sz (pRk B sz one nt 2) (pRk B sz one nt 2 q)).2.1) < 5 := g3
                  show _ < 4
                  omega))
            · exact absurd g3.1 (by decide)
      · rw [if_neg hf]
        refine Or.inr ⟨P, h1.mono (by unfold DD; omega) (Nat.le_refl _), fun x hx => Nat.le_trans (by decide) (h2 x hx), ?_⟩
        rcases h4 with h4 | h4 | h4
        · exact Or.inl h4
        · by_cases h0 : mSg (pRk B sz one nt 2 q).2.1 = 0
          · exact Or.inl h0
          · have hr : rkN (mSg (pRk B sz one nt 2 q).2.1) ≠ RR 3 := fun z => hf ((fr_is _ htl 2 (by decide)).mpr ⟨h0, z⟩)
            refine Or.inr (Or.inl ?_)
            have h4' : rkN (mSg (pRk B sz one nt 2 q).2.1) < 5 := h4
            have hr' : rkN (mSg (pRk B sz one nt 2 q).2.1) ≠ 4 := hr
            show _ < 4
            omega
        · exact absurd h4.1 (by decide)
/-- an operand alone -/
theorem L0.lj {d : Nat} {F : pS → pS} (h160 : sz ≤ 160) (h : L0 B sz d F) : LJ B sz d 0 F := by
  intro q A mn th cs hs hmn h3 h13 htp
  rcases h q A mn th cs hs hmn (h13 (by decide)) with hx | ⟨em, A2, mn2, g1, g2, g3, g4, g5, g6, g7, g8⟩
  · exact Or.inl hx
  · rw [unw_tp (show Tp 7 th from htp)] at g1
    refine Or.inr ⟨[], ⟨em, A2, mn2, _, g1, g2, g3, g4, by simp, by simpa using g5, g6, g7, g8⟩, fun x hx => (by cases hx), ?_⟩
    by_cases h0 : mSg (F q).2.1 = 0
    · exact Or.inl h0
    · exact Or.inr (Or.inl (by have := (sg_t _ g2.tl h0).2.2.2.2.1; show _ < 7; omega))
/-- all levels, from the first -/
theorem LJ.all {d : Nat} {one nt : pS → pS} (h160 : sz ≤ 160) (h : L0 B sz d one)
    (hnt : ∀ q A th cs, Sta B sz d q A th cs → q.2.1 = nI 13 → Fai B sz (1, 1, A, th, cs) (nt q) ∨ OkX B sz 3 3 (DD 3 d) (1, 1, A, th, cs) A.1 (cdl q) (nt q) th) : LJ B sz d 3 (pRk B sz one nt 3) ∧ LJ B sz d 5 (pRk B sz one nt 5) := by
  have h0 : LJ B sz d 0 (pRk B sz one nt 0) := h.lj h160
  have h1 := LJ.up h160 (by decide) (by decide) h0
  have h2 := LJ.up h160 (by decide) (by decide) h1
  have h3 := LJ.up2 h160 h2 hnt
  have h4 := LJ.up h160 (by decide) (by decide) h3
  exact ⟨h3, LJ.up h160 (by decide) (by decide) h4⟩
end LEV
