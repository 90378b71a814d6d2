/-! the two readings: how deep -/
section DEEP
variable {B : Nat → Int32} {sz : Nat}
theorem sg_r1 {t : Int32} (h0 : ¬ mSg t = 0) : 1 ≤ rkN (mSg t) := by
  apply Decidable.byContradiction
  intro h
  exact h0 (rkN_z h)
/-- what can't come behind an expression -/
theorem end_bad {A q : pS} {mn : Nat} {P th cs : List Nat} (hl : Lk B sz A q) (hP : ∀ x ∈ P, RP 5 ≤ rkN x) (ht : Tp 1 th) (he : Ext 5 P q.2.1) (h41 : q.2.1 = nI 41 → th = []) (h59 : q.2.1 = nI 59 → th ≠ []) : ∃ cf, Er B sz (0, mn, A, P ++ th, cs) (0, pAdv B sz A, cf) := by
  have hu : unw 1 (P ++ th) cs = (th, cs ++ P) := unw_all ht P cs hP
  by_cases c59 : q.2.1 = nI 59
  · refine ⟨cs ++ P, Er.one (es_b rfl rfl ?_)⟩
    rw [eb_59 (by rw [hl.tk]; exact (tk_m59 _ hl.tl).mpr c59), hu, if_neg (show ¬ th.length = 0 from fun z => h59 c59 (List.length_eq_zero_iff.mp z))]
  · by_cases c41 : q.2.1 = nI 41
    · exact ⟨_, Er.one (es_b rfl rfl (eb_41n (by rw [hl.tk]; exact (tk_m41 _ hl.tl).mpr c41) (by rw [hu]; exact h41 c41)))⟩
    · refine ⟨[], Er.one (es_b rfl rfl (eb_s (by rw [hl.tk]; exact fun z => c59 ((tk_m59 _ hl.tl).mp z)) (by rw [hl.tk]; exact fun z => c41 ((tk_m41 _ hl.tl).mp z)) ?_))⟩
      rw [hl.tk]
      by_cases h0 : mSg q.2.1 = 0
      · rw [if_pos h0]
      · rw [if_neg h0]
        rcases he with he | he | he
        · exact absurd he h0
        · have := sg_r1 h0
          have he' : rkN (mSg q.2.1) < 1 := he
          omega
        · rw [if_pos ((he.2.2.app th).no he.2.1 cs)]
theorem neg_ok {d : Nat} {one : pS → pS} (h160 : sz ≤ 160) (h1 : L0 B sz d one) (q A : pS) (mn : Nat) (th cs : List Nat) (h : Sta B sz (d + 1) q A th cs) (hc : q.2.1 = nI 45) : Fai B sz (1, mn, A, th, cs) (pEmit (-14) (one (pAdv B sz q))) ∨ Ok0 B sz (d + 1) (1, mn, A, th, cs) A.1 (cdl q) (pEmit (-14) (one (pAdv B sz q))) th := by
  obtain ⟨g1, g2, g3, g4⟩ := op_more (mn := mn) h (Or.inr (Or.inr rfl)) (by rw [hc]; decide) (ew_45 (by rw [h.1.tk]; exact (tk_m45 _ h.1.tl).mpr hc))
  rcases h1 _ _ 0 _ _ g2 (by decide) (fun z => absurd z (by decide)) with hx | ⟨em, A3, mn3, k1, k2, k3, k4, k5, k6, k7, k8⟩
  · exact Or.inl ((hx.go g1).f (fun b hb => hb.emit _))
  · rw [List.length_cons] at k5
    have hcc : cdl (pEmit (-14) (one (pAdv B sz q))) = cdl (one (pAdv B sz q)) ++ [-14] := pEmit_c (by omega)
    rw [unw_c (show 7 ≤ rkN 19 by decide)] at k1
    refine Or.inr ⟨em ++ [-14], A3, mn3, ?_, k2, k3, ?_, ?_, k6, by omega, fun n hn => (k8 n (by unfold DD at *; omega)).app (ok_neg n)⟩
    · rw [hcc, List.map_append]
      exact g1.trans k1
    · rw [hcc, k4, g3, List.append_assoc]
    · rw [hcc]
      simp
      omega
theorem par_ok {d : Nat} {E5 : pS → pS} (h160 : sz ≤ 160) (h5 : LJ B sz d 5 E5) (q A : pS) (mn : Nat) (th cs : List Nat) (h : Sta B sz (d + 1) q A th cs) (hc : q.2.1 = nI 40) : Fai B sz (1, mn, A, th, cs) (pExp (nI 41) B sz (E5 (pAdv B sz q))) ∨ Ok0 B sz (d + 1) (1, mn, A, th, cs) A.1 (cdl q) (pExp (nI 41) B sz (E5 (pAdv B sz q))) th := by
  obtain ⟨g1, g2, g3, g4⟩ := op_more (mn := mn) h (Or.inl rfl) (by rw [hc]; decide) (ew_40 (by rw [h.1.tk]; exact (tk_m40 _ h.1.tl).mpr hc))
  have ht0 : Tp 1 (0 :: th) := Tp.cons (by decide) th
  rcases h5 _ _ 1 _ _ g2 (by decide) (fun _ => rfl) (fun z => absurd z (by decide)) ht0 with hx | ⟨P, ⟨em, A3, mn3, cs3, k1, k2, k3, k4, k5, k6, k7, k8, k9⟩, k10, k11⟩
  · exact Or.inl ((hx.go g1).f (fun b hb => hb.exp (by decide) B sz))
  · by_cases c41 : (E5 (pAdv B sz q)).2.1 = nI 41
    · rw [pExp, if_pos c41]
      obtain ⟨n1, n2⟩ := k2.lt k7 (by rw [c41]; decide)
      have hcc : cdl (pAdv B sz (E5 (pAdv B sz q))) = cdl (E5 (pAdv B sz q)) := by
        show (pAdv B sz (E5 (pAdv B sz q))).2.2.2.2.2 = _
        rw [pAdv_5]
      have hu : unw 1 (P ++ 0 :: th) cs3 = (0 :: th, cs3 ++ P) := unw_all ht0 P cs3 k10
      have hlen : cs3.length + P.length = (cdl (E5 (pAdv B sz q))).length := by rw [← List.length_append, k5, List.length_map]
      rw [List.length_append, List.length_cons] at k6
      refine Or.inr ⟨em, pAdv B sz A3, mn3, ?_, k2.next, ?_, ?_, ?_, n2, by omega, fun n hn => k9 n (by unfold DD at *; omega)⟩
      · rw [hcc, ← k5]
        refine (g1.trans k1).trans (Go.one (es_b rfl rfl ?_))
        rw [eb_41 (by rw [k2.tk]; exact (tk_m41 _ k2.tl).mpr c41) (by rw [hu]), hu]
      · show (pAdv B sz (E5 (pAdv B sz q))).2.2.2.2.1 = -1
        rw [pAdv_5]
        exact k3
      · rw [hcc, k4, g3]
      · rw [hcc]
        omega
    · rw [pExp, if_neg c41]
      obtain ⟨cf, hcf⟩ := end_bad (mn := mn3) (cs := cs3) k2 k10 ht0 k11 (fun z => absurd z c41) (fun _ => List.cons_ne_nil _ _)
      exact Or.inl ((Fai.at_ k2 k7 h160 k3 hcf).go (g1.trans k1))
theorem not_ok {d : Nat} {E3 : pS → pS} (h160 : sz ≤ 160) (h3 : LJ B sz d 3 E3) (q A : pS) (th cs : List Nat) (h : Sta B sz (d + 1) q A th cs) (hc : q.2.1 = nI 13) : Fai B sz (1, 1, A, th, cs) (pEmit (-13) (E3 (pAdv B sz q))) ∨ OkX B sz 3 3 (DD 3 (d + 1)) (1, 1, A, th, cs) A.1 (cdl q) (pEmit (-13) (E3 (pAdv B sz q))) th := by
  obtain ⟨g1, g2, g3, g4⟩ := op_more (mn := 1) h (Or.inr (Or.inl rfl)) (by rw [hc]; decide) (ew_6 (by rw [h.1.tk]; exact (tk_m6 _ h.1.tl).mpr hc) rfl)
  rcases h3 _ _ 1 _ _ g2 (by decide) (fun _ => rfl) (fun z => absurd z (by decide)) (Tp.cons (by decide) th) with hx | ⟨P, ⟨em, A3, mn3, cs3, k1, k2, k3, k4, k5, k6, k7, k8, k9⟩, k10, k11⟩
  · exact Or.inl ((hx.go g1).f (fun b hb => hb.emit _))
  · have hlen : cs3.length + P.length = (cdl (E3 (pAdv B sz q))).length := by rw [← List.length_append, k5, List.length_map]
    rw [List.length_append, List.length_cons] at k6
    have hcc : cdl (pEmit (-13) (E3 (pAdv B sz q))) = cdl (E3 (pAdv B sz q)) ++ [-13] := pEmit_c (by omega)
    refine Or.inr ⟨P ++ [13], ⟨em ++ [-13], A3, mn3, cs3, ?_, k2, k3, ?_, ?_, ?_, k7, by omega, fun n hn => (k9 n (by unfold DD at *; omega)).app (ok_not n)⟩, fun x hx => ?_, ?_⟩
    · rw [List.append_assoc]
      exact g1.trans k1
    · rw [hcc, k4, g3, List.append_assoc]
    · rw [hcc, List.map_append, ← k5, List.append_assoc]
      rfl
    · rw [List.length_append, List.length_append]
      simp
      omega
    · rcases List.mem_append.mp hx with hx | hx
      · exact k10 x hx
      · rw [List.mem_singleton.mp hx]
        decide
    · exact k11.imp id (fun z => z.imp id (fun z => ⟨z.1, z.2.1, z.2.2.app _⟩))
/-- every depth -/
theorem deep_ok (h160 : sz ≤ 160) : ∀ d, L0 B sz d (pD B sz d).1 ∧ LJ B sz d 3 ((pD B sz d).2 3) ∧ LJ B sz d 5 ((pD B sz d).2 5)
  | 0 => by
    have h0 : L0 B sz 0 (pD B sz 0).1 := on_ok (mnF := pFail) (opF := pFail) h160
      (fun q A mn th cs h _ hc => Or.inl (op_full h160 h (ew_45 (by rw [h.1.tk]; exact (tk_m45 _ h.1.tl).mpr hc))))
      (fun q A mn th cs h _ hc => Or.inl (op_full h160 h (ew_40 (by rw [h.1.tk]; exact (tk_m40 _ h.1.tl).mpr hc))))
    have hn : ∀ q A th cs, Sta B sz 0 q A th cs → q.2.1 = nI 13 → Fai B sz (1, 1, A, th, cs) (pNt B sz 0 q) ∨ OkX B sz 3 3 (DD 3 0) (1, 1, A, th, cs) A.1 (cdl q) (pNt B sz 0 q) th := fun q A th cs h hc => Or.inl (op_full h160 h (ew_6 (by rw [h.1.tk]; exact (tk_m6 _ h.1.tl).mpr hc) rfl))
    rw [pD_2]
    exact ⟨h0, LJ.all h160 h0 hn⟩
  | d + 1 => by
    obtain ⟨i1, i3, i5⟩ := deep_ok h160 d
    have h0 : L0 B sz (d + 1) (pD B sz (d + 1)).1 := on_ok (mnF := fun q => pEmit (-14) ((pD B sz d).1 (pAdv B sz q))) (opF := fun q => pExp (nI 41) B sz ((pD B sz d).2 5 (pAdv B sz q))) h160 (fun q A mn th cs h _ hc => neg_ok h160 i1 q A mn th cs h hc) (fun q A mn th cs h _ hc => par_ok h160 i5 q A mn th cs h hc)
    have hn : ∀ q A th cs, Sta B sz (d + 1) q A th cs → q.2.1 = nI 13 → Fai B sz (1, 1, A, th, cs) (pNt B sz (d + 1) q) ∨ OkX B sz 3 3 (DD 3 (d + 1)) (1, 1, A, th, cs) A.1 (cdl q) (pNt B sz (d + 1) q) th := fun q A th cs h hc => not_ok h160 i3 q A th cs h hc
    rw [pD_2]
    exact ⟨h0, LJ.all h160 h0 hn⟩
end DEEP
