/-! the reference's reading: the next token -/
def TkOk (V : mV) (sz : Nat) (q : pS) : Prop := (V 200 21 = nI q.1 ∧ q.1 ≤ sz) ∧ (V 200 22 = nI q.2.2.1 ∧ q.2.2.1 ≤ sz) ∧ V 200 23 = mTk q.2.1 ∧ (q.2.1 = nI 1 → V 200 24 = q.2.2.2.1) ∧ (mIn q.2.1 2 11 → V 200 24 = mVl q.2.1)
def TkF (V V' : mV) : Prop := (∀ a, a ≠ 200 → V' a = V a) ∧ (∀ k, k < 21 ∨ 24 < k → V' 200 k = V 200 k)
theorem TkF.rfl (V : mV) : TkF V V := ⟨fun _ _ => Eq.refl _, fun _ _ => Eq.refl _⟩
theorem TkF.trans {V V1 V2 : mV} (h : TkF V V1) (h' : TkF V1 V2) : TkF V V2 := ⟨fun a ha => (h'.1 a ha).trans (h.1 a ha), fun k hk => (h'.2 k hk).trans (h.2 k hk)⟩
theorem TkF.p {V V' : mV} (h : TkF V V') {k : Nat} (x : Int32) (hk : 21 ≤ k ∧ k ≤ 24) : TkF V (mU V' 200 k x) := ⟨fun a ha => by rw [mU_no _ _ ha]; exact h.1 a ha, fun j hj => by rw [mU_ne _ _ (by omega)]; exact h.2 j hj⟩
theorem tkW_1 : ∀ k, k < 3 → mTk (tkW k) = nI 3 ∧ mVl (tkW k) = nI k ∧ ¬ tkW k = nI 1 := by decide +kernel
theorem tkW_2 : ∀ k, k < 9 → 3 ≤ k → mTk (tkW k) = nI 2 ∧ mVl (tkW k) = nI (k - 3) ∧ ¬ tkW k = nI 1 := by decide +kernel
theorem tkW_3 : ∀ k, k < 12 → 9 ≤ k → mTk (tkW k) = nI (4 + k - 9) ∧ ¬ mIn (tkW k) 2 11 ∧ ¬ tkW k = nI 1 := by decide +kernel
theorem tkW_4 : mTk (tkW 12) = -1 ∧ ¬ mIn (tkW 12) 2 11 ∧ ¬ tkW 12 = nI 1 := by decide +kernel
theorem mTk_m1 : mTk (-1) = -1 := by decide
theorem mTk_0 : mTk (nI 0) = nI 0 := by decide
theorem mTk_1 : mTk (nI 1) = nI 1 := by decide
def sgnL : List Int32 := [nI 40, nI 41, nI 59, nI 43, nI 45, nI 42, nI 60, nI 61]
theorem sgn_y : ∀ x ∈ sgnL, fSign x = true ∧ mTk x = x ∧ ¬ x = nI 1 ∧ ¬ mIn x 2 11 := by decide +kernel
theorem sgn_n {x : Int32} (h1 : ¬ x = nI 40) (h2 : ¬ x = nI 41) (h3 : ¬ x = nI 59) (h4 : ¬ x = nI 43) (h5 : ¬ x = nI 45) (h6 : ¬ x = nI 42) (h7 : ¬ x = nI 60) (h8 : ¬ x = nI 61) : ¬ fSign x = true := by
  intro h
  rcases of_decide_eq_true h with h | h | h | h
  · exact h1 h
  · exact h2 h
  · exact h3 h
  · rw [fRank] at h
    by_cases a : x = nI 11
    · rw [if_pos a] at h
      exact absurd h (by decide)
    · rw [if_neg a] at h
      by_cases b : x = nI 12
      · rw [if_pos b] at h
        exact absurd h (by decide)
      · rw [if_neg b, if_neg h6, if_neg h4, if_neg h5, if_neg h7, if_neg h8] at h
        exact absurd h (by decide)
section TKS
variable {V : mV} {sz : Nat} {B : Nat → Int32} {q : pS} {n1 n2 : Nat}
theorem tk_end (h21 : V 200 21 = nI n1) (h22 : V 200 22 = nI n1) (h23 : V 200 23 = nI 0) (hn : n1 ≤ sz) (h : pAdv B sz q = (n1, nI 0, n1, q.2.2.2)) : TkOk V sz (pAdv B sz q) := by
  rw [h]
  exact ⟨⟨h21, hn⟩, ⟨h22, hn⟩, by rw [h23]; exact mTk_0.symm, fun z => absurd (show nI 0 = nI 1 from z) (by decide), fun z => absurd (show mIn (nI 0) 2 11 from z) (by decide)⟩
theorem tk_word {kw : Nat} {tk vl : Int32} (h21 : V 200 21 = nI n2) (h22 : V 200 22 = nI n1) (h23 : V 200 23 = tk) (h24 : V 200 24 = vl) (hn : n1 ≤ n2 ∧ n2 ≤ sz) (hw : tkW kw = fWordT B n1 n2) (h : pAdv B sz q = (n2, fWordT B n1 n2, n1, q.2.2.2)) (ht : mTk (tkW kw) = tk) (hv : mIn (tkW kw) 2 11 → mVl (tkW kw) = vl) (h1 : ¬ tkW kw = nI 1) : TkOk V sz (pAdv B sz q) := by
  rw [h, ← hw]
  exact ⟨⟨h21, hn.2⟩, ⟨h22, by show n1 ≤ sz; omega⟩, h23.trans ht.symm, fun z => absurd z h1, fun z => h24.trans (hv z).symm⟩
theorem tk_num {tk vx : Int32} (h21 : V 200 21 = nI n2) (h22 : V 200 22 = nI n1) (h23 : V 200 23 = tk) (h24 : V 200 24 = vx) (hn : n1 ≤ n2 ∧ n2 ≤ sz) (hd : fSpan fDig B sz n1 = n2) (h : pAdv B sz q = pNum B sz (n1, q.2.1, n1, q.2.2.2)) (ht : tk = if 4 < n2 - n1 then -1 else nI 1) (hv : n2 - n1 ≤ 4 → vx = fNum B sz n1 (nI 0)) : TkOk V sz (pAdv B sz q) := by
  rw [h, pNum, hd]
  refine ⟨⟨h21, hn.2⟩, ⟨h22, by show n1 ≤ sz; omega⟩, ?_, fun z => ?_, fun z => ?_⟩
  · rw [h23, ht]
    show _ = mTk (if 4 < n2 - n1 then -1 else nI 1)
    by_cases h4 : 4 < n2 - n1
    · rw [if_pos h4]
      exact mTk_m1.symm
    · rw [if_neg h4]
      exact mTk_1.symm
  · rw [h24]
    refine hv ?_
    apply Decidable.byContradiction
    intro h4
    have z' : (if 4 < n2 - n1 then (-1 : Int32) else nI 1) = nI 1 := z
    rw [if_pos (by omega)] at z'
    exact absurd z' (by decide)
  · have z' : mIn (if 4 < n2 - n1 then (-1 : Int32) else nI 1) 2 11 := z
    by_cases h4 : 4 < n2 - n1
    · rw [if_pos h4] at z'
      exact absurd z' (by decide)
    · rw [if_neg h4] at z'
      exact absurd z' (by decide)
theorem tk_sign {x tk : Int32} (h21 : V 200 21 = nI (n1 + 1)) (h22 : V 200 22 = nI n1) (h23 : V 200 23 = tk) (hn : n1 < sz) (h : pAdv B sz q = (n1 + 1, if fSign x = true then x else -1, n1, q.2.2.2)) (ht : (x ∈ sgnL ∧ tk = x) ∨ (¬ fSign x = true ∧ tk = -1)) : TkOk V sz (pAdv B sz q) := by
  rw [h]
  rcases ht with ⟨g1, rfl⟩ | ⟨g1, rfl⟩
  · obtain ⟨a1, a2, a3, a4⟩ := sgn_y _ g1
    rw [if_pos a1]
    exact ⟨⟨h21, hn⟩, ⟨h22, by show n1 ≤ sz; omega⟩, h23.trans a2.symm, fun z => absurd z a3, fun z => absurd z a4⟩
  · rw [if_neg g1]
    exact ⟨⟨h21, hn⟩, ⟨h22, by show n1 ≤ sz; omega⟩, h23.trans mTk_m1.symm, fun z => absurd (show (-1 : Int32) = nI 1 from z) (by decide), fun z => absurd (show mIn (-1) 2 11 from z) (by decide)⟩
end TKS
set_option maxHeartbeats 4000000 in
set_option maxRecDepth 100000 in
theorem c_X11_next (l : Launch) (G : mG) (ad : Nat → Nat) (sh : Nat → Option mSh) (V : mV) (sz : Nat) (B : Nat → Int32) (q : pS) (hM : MSh sh) (hB : V 205 = B) (hsz : V 200 8 = nI sz) (hs160 : sz ≤ 160) (hwd : ∀ k, k < 96 → V 215 k = wdT.getD k 0) (hat : V 200 21 = nI q.1) (hql : q.1 ≤ sz) : mM l yX11_next wsX11_next ({ frames := 1, cells := 0, slots := 0, locals := 25 } : Room) G ad sh V [.ref (ad 200)] 0 0 (mPv ad sh (fun V' => (TkOk V' sz (pAdv B sz q)) ∧ (TkF V V'))) := by
  refine mM.of (cc := cX11_next) (maxL := 3) (ret := none) (by decide) rfl (Nat.le_of_ble_eq_true rfl) ?_
  intro p e s m below meth c S hr hlk hnm hW ls hl
  obtain ⟨hx, hb, hml, hown, hts⟩ := id S
  have hl : lv_has ls 3 [(0, .ref (ad 200))] := hl
  have hS0 : True := trivial
  have loop_0 : ∀ (n_0 : Nat) (n1 : Nat) (V1 : mV) (H : Heap) (locs : List Loc) (ls : Array Slot), (n1 ≤ sz) → (V1 200 21 = nI n1) → (TkF V V1) → (fSpan fWhite B sz n1 = fSpan fWhite B sz q.1) → (sz - n1) < n_0 → mC (mA ad sh s.heap.size) s.heap s G ad sh V1 H locs → lv_has ls 3 [(0, .ref (ad 200))] → W p l e ({ frames := 1, cells := 0, slots := 0, locals := 25 } : Room) s m ([.ref (ad 200)] : List Value).toArray below meth c H locs 0 0 (MQ below (mPost G ad sh s.heap.size (mPv ad sh (fun V' => (TkOk V' sz (pAdv B sz q)) ∧ (TkF V V')))) ([.ref (ad 200)] : List Value).toArray s 0 0 (mA ad sh s.heap.size)) (F0 m 0 ls []) := by
    intro n_0
    induction n_0 with
    | zero => intro n1 V1 H locs ls hk ha1 hF1 hsp hM_ hW hl; omega
    | succ n_0 ih_0 =>
      intro n1 V1 H locs ls hk ha1 hF1 hsp hM_ hW hl
      refine lv_aload_n hx hb dX11_next_0 rfl (lv_at hl 0 rfl) ?_
      refine m_geti S hW hM.1 21 rfl kX11 (iW11 _) (by decide) (List.mem_cons_of_mem _ (wa_12 _ (List.mem_of_getElem? (i := 5) (by decide +kernel)))) dX11_next_1 ?_
      refine m_top (y := nI n1) ha1 ?_
      refine lv_aload_n hx hb dX11_next_4 rfl (lv_at hl 0 rfl) ?_
      refine m_geti S hW hM.1 8 rfl kX11 (iW11 _) (by decide) (List.mem_cons_of_mem _ (wa_11 _ (List.mem_of_getElem? (i := 23) (by decide +kernel)))) dX11_next_5 ?_
      refine m_top (y := nI sz) ((hF1.2 8 (by decide)).trans hsz) ?_
      refine lv_icmp_ge (tgt := 52) hx hb dX11_next_8 (by decide) (fun c_1 => ?_) (fun c_1 => ?_)
      · skip
        have c_1 : sz ≤ n1 := (nI_leI (by omega) (by omega)).mp c_1
        have ha : fSpan fWhite B sz q.1 = n1 := hsp.symm.trans (fSpan_e (by omega))
        refine lv_aload_n hx hb dX11_next_52 rfl (lv_at hl 0 rfl) ?_
        refine lv_aload_n hx hb dX11_next_53 rfl (lv_at hl 0 rfl) ?_
        refine m_geti S hW hM.1 21 rfl kX11 (iW11 _) (by decide) (List.mem_cons_of_mem _ (wa_12 _ (List.mem_of_getElem? (i := 5) (by decide +kernel)))) dX11_next_54 ?_
        refine m_top (y := nI n1) ha1 ?_
        refine m_puti S hW hM.1 22 rfl kX11 (iW11 _) tyX11 tyX11_ok nmX11 (by decide) (List.mem_cons_of_mem _ (wa_12 _ (List.mem_of_getElem? (i := 9) (by decide +kernel)))) (Or.inl rfl) rfl rfl dX11_next_57 (fun H locs hW => ?_)
        obtain ⟨V_2, eV_2⟩ : ∃ vv_ : mV, vv_ = mU V1 200 22 (nI n1) := ⟨_, rfl⟩
        rw [← eV_2] at hW
        refine lv_aload_n hx hb dX11_next_60 rfl (lv_at hl 0 rfl) ?_
        refine lv_iconst (v := nI 0) hx hb dX11_next_61 (by decide) ?_
        refine m_puti S hW hM.1 23 rfl kX11 (iW11 _) tyX11 tyX11_ok nmX11 (by decide) (List.mem_cons_of_mem _ (wa_12 _ (List.mem_of_getElem? (i := 7) (by decide +kernel)))) (Or.inl rfl) rfl rfl dX11_next_62 (fun H locs hW => ?_)
        obtain ⟨V_3, eV_3⟩ : ∃ vv_ : mV, vv_ = mU V_2 200 23 (nI 0) := ⟨_, rfl⟩
        rw [← eV_3] at hW
        refine lv_aload_n hx hb dX11_next_65 rfl (lv_at hl 0 rfl) ?_
        refine lv_iconst (v := nI 0) hx hb dX11_next_66 (by decide) ?_
        refine m_puti S hW hM.1 24 rfl kX11 (iW11 _) tyX11 tyX11_ok nmX11 (by decide) (List.mem_cons_of_mem _ (wa_12 _ (List.mem_of_getElem? (i := 8) (by decide +kernel)))) (Or.inl rfl) rfl rfl dX11_next_67 (fun H locs hW => ?_)
        obtain ⟨V_4, eV_4⟩ : ∃ vv_ : mV, vv_ = mU V_3 200 24 (nI 0) := ⟨_, rfl⟩
        rw [← eV_4] at hW
        have hFa : TkF V V_4 := by rw [eV_4, eV_3, eV_2]; exact ((hF1.p _ (by decide)).p _ (by decide)).p _ (by decide)
        have ha21 : V_4 200 21 = nI n1 := by rw [eV_4, mU_ne _ _ (by decide), eV_3, mU_ne _ _ (by decide), eV_2, mU_ne _ _ (by decide)]; exact ha1
        have ha22 : V_4 200 22 = nI n1 := by rw [eV_4, mU_ne _ _ (by decide), eV_3, mU_ne _ _ (by decide), eV_2, mU_eq]
        have ha23 : V_4 200 23 = nI 0 := by rw [eV_4, mU_ne _ _ (by decide), eV_3, mU_eq]
        have ha24 : V_4 200 24 = nI 0 := by rw [eV_4, mU_eq]
        refine lv_aload_n hx hb dX11_next_70 rfl (lv_at hl 0 rfl) ?_
        refine m_geti S hW hM.1 21 rfl kX11 (iW11 _) (by decide) (List.mem_cons_of_mem _ (wa_12 _ (List.mem_of_getElem? (i := 5) (by decide +kernel)))) dX11_next_71 ?_
        refine m_top (y := nI n1) ha21 ?_
        refine lv_aload_n hx hb dX11_next_74 rfl (lv_at hl 0 rfl) ?_
        refine m_geti S hW hM.1 8 rfl kX11 (iW11 _) (by decide) (List.mem_cons_of_mem _ (wa_11 _ (List.mem_of_getElem? (i := 23) (by decide +kernel)))) dX11_next_75 ?_
        refine m_top (y := nI sz) ((hFa.2 8 (by decide)).trans hsz) ?_
        refine lv_icmp_ne (tgt := 82) hx hb dX11_next_78 (by decide) (fun c_5 => ?_) (fun c_5 => ?_)
        · skip
          have c_5 : ¬ n1 = sz := mt (nI_eq (by omega) (by omega)).mpr c_5
          exfalso; omega
        · skip
          have c_5 : n1 = sz := (nI_eq (by omega) (by omega)).mp c_5
          exact m_vret S hr hlk hW dX11_next_81 (by exact ⟨tk_end ha21 ha22 ha23 (by omega) (pAdv_e ha (by omega)), hFa⟩)
      · skip
        have c_1 : ¬ sz ≤ n1 := mt (nI_leI (by omega) (by omega)).mpr c_1
        refine lv_aload_n hx hb dX11_next_11 rfl (lv_at hl 0 rfl) ?_
        refine m_getr S hW hM.1 7 rfl (j := 205) rfl kX11 (iW11 _) (by decide) (List.mem_cons_of_mem _ (wa_11 _ (List.mem_of_getElem? (i := 6) (by decide +kernel)))) dX11_next_12 ?_
        refine lv_aload_n hx hb dX11_next_15 rfl (lv_at hl 0 rfl) ?_
        refine m_geti S hW hM.1 21 rfl kX11 (iW11 _) (by decide) (List.mem_cons_of_mem _ (wa_12 _ (List.mem_of_getElem? (i := 5) (by decide +kernel)))) dX11_next_16 ?_
        refine m_top (y := nI n1) ha1 ?_
        refine m_iald S hW hM.2.2.2.2.2.1 n1 rfl (by omega) (by decide) dX11_next_19 ?_
        refine m_top (y := (B n1)) (by rw [hF1.1 205 (by decide), hB]) ?_
        refine lv_bipush (v := nI 32) hx hb dX11_next_20 (by decide) ?_
        refine lv_icmp_eq (tgt := 39) hx hb dX11_next_22 (by decide) (fun c_6 => ?_) (fun c_6 => ?_)
        · skip
          refine lv_aload_n hx hb dX11_next_39 rfl (lv_at hl 0 rfl) ?_
          refine lv_dup hx hb dX11_next_40 rfl ?_
          refine m_geti S hW hM.1 21 rfl kX11 (iW11 _) (by decide) (List.mem_cons_of_mem _ (wa_12 _ (List.mem_of_getElem? (i := 5) (by decide +kernel)))) dX11_next_41 ?_
          refine m_top (y := nI n1) ha1 ?_
          refine lv_iconst (v := nI 1) hx hb dX11_next_44 (by decide) ?_
          refine lv_iadd hx hb dX11_next_45 ?_
          refine m_top (y := nI (n1 + 1)) (nI_add n1 1) ?_
          refine m_puti S hW hM.1 21 rfl kX11 (iW11 _) tyX11 tyX11_ok nmX11 (by decide) (List.mem_cons_of_mem _ (wa_12 _ (List.mem_of_getElem? (i := 5) (by decide +kernel)))) (Or.inl rfl) rfl rfl dX11_next_46 (fun H locs hW => ?_)
          obtain ⟨V_7, eV_7⟩ : ∃ vv_ : mV, vv_ = mU V1 200 21 (nI (n1 + 1)) := ⟨_, rfl⟩
          rw [← eV_7] at hW
          refine lv_goto (tgt := 0) hx hb dX11_next_49 (by decide) ?_
          exact ih_0  (n1 + 1) V_7 _ _ _ (by omega) (by rw [eV_7, mU_eq]) (by rw [eV_7]; exact hF1.p _ (by decide)) (by exact (fSpan_s (by omega) (decide_eq_true (Or.inl c_6))).symm.trans hsp) (by omega) hW (lv_sub hl [0] rfl)
        · skip
          refine lv_aload_n hx hb dX11_next_25 rfl (lv_at hl 0 rfl) ?_
          refine m_getr S hW hM.1 7 rfl (j := 205) rfl kX11 (iW11 _) (by decide) (List.mem_cons_of_mem _ (wa_11 _ (List.mem_of_getElem? (i := 6) (by decide +kernel)))) dX11_next_26 ?_
          refine lv_aload_n hx hb dX11_next_29 rfl (lv_at hl 0 rfl) ?_
          refine m_geti S hW hM.1 21 rfl kX11 (iW11 _) (by decide) (List.mem_cons_of_mem _ (wa_12 _ (List.mem_of_getElem? (i := 5) (by decide +kernel)))) dX11_next_30 ?_
          refine m_top (y := nI n1) ha1 ?_
          refine m_iald S hW hM.2.2.2.2.2.1 n1 rfl (by omega) (by decide) dX11_next_33 ?_
          refine m_top (y := (B n1)) (by rw [hF1.1 205 (by decide), hB]) ?_
          refine lv_bipush (v := nI 10) hx hb dX11_next_34 (by decide) ?_
          refine lv_icmp_ne (tgt := 52) hx hb dX11_next_36 (by decide) (fun c_8 => ?_) (fun c_8 => ?_)
          · skip
            have ha : fSpan fWhite B sz q.1 = n1 := hsp.symm.trans (fSpan_n (fun z => (of_decide_eq_true z).elim c_6 c_8))
            refine lv_aload_n hx hb dX11_next_52 rfl (lv_at hl 0 rfl) ?_
            refine lv_aload_n hx hb dX11_next_53 rfl (lv_at hl 0 rfl) ?_
            refine m_geti S hW hM.1 21 rfl kX11 (iW11 _) (by decide) (List.mem_cons_of_mem _ (wa_12 _ (List.mem_of_getElem? (i := 5) (by decide +kernel)))) dX11_next_54 ?_
            refine m_top (y := nI n1) ha1 ?_
            refine m_puti S hW hM.1 22 rfl kX11 (iW11 _) tyX11 tyX11_ok nmX11 (by decide) (List.mem_cons_of_mem _ (wa_12 _ (List.mem_of_getElem? (i := 9) (by decide +kernel)))) (Or.inl rfl) rfl rfl dX11_next_57 (fun H locs hW => ?_)
            obtain ⟨V_9, eV_9⟩ : ∃ vv_ : mV, vv_ = mU V1 200 22 (nI n1) := ⟨_, rfl⟩
            rw [← eV_9] at hW
            refine lv_aload_n hx hb dX11_next_60 rfl (lv_at hl 0 rfl) ?_
            refine lv_iconst (v := nI 0) hx hb dX11_next_61 (by decide) ?_
            refine m_puti S hW hM.1 23 rfl kX11 (iW11 _) tyX11 tyX11_ok nmX11 (by decide) (List.mem_cons_of_mem _ (wa_12 _ (List.mem_of_getElem? (i := 7) (by decide +kernel)))) (Or.inl rfl) rfl rfl dX11_next_62 (fun H locs hW => ?_)
            obtain ⟨V_10, eV_10⟩ : ∃ vv_ : mV, vv_ = mU V_9 200 23 (nI 0) := ⟨_, rfl⟩
            rw [← eV_10] at hW
            refine lv_aload_n hx hb dX11_next_65 rfl (lv_at hl 0 rfl) ?_
            refine lv_iconst (v := nI 0) hx hb dX11_next_66 (by decide) ?_
            refine m_puti S hW hM.1 24 rfl kX11 (iW11 _) tyX11 tyX11_ok nmX11 (by decide) (List.mem_cons_of_mem _ (wa_12 _ (List.mem_of_getElem? (i := 8) (by decide +kernel)))) (Or.inl rfl) rfl rfl dX11_next_67 (fun H locs hW => ?_)
            obtain ⟨V_11, eV_11⟩ : ∃ vv_ : mV, vv_ = mU V_10 200 24 (nI 0) := ⟨_, rfl⟩
            rw [← eV_11] at hW
            have hFa : TkF V V_11 := by rw [eV_11, eV_10, eV_9]; exact ((hF1.p _ (by decide)).p _ (by decide)).p _ (by decide)
            have ha21 : V_11 200 21 = nI n1 := by rw [eV_11, mU_ne _ _ (by decide), eV_10, mU_ne _ _ (by decide), eV_9, mU_ne _ _ (by decide)]; exact ha1
            have ha22 : V_11 200 22 = nI n1 := by rw [eV_11, mU_ne _ _ (by decide), eV_10, mU_ne _ _ (by decide), eV_9, mU_eq]
            have ha23 : V_11 200 23 = nI 0 := by rw [eV_11, mU_ne _ _ (by decide), eV_10, mU_eq]
            have ha24 : V_11 200 24 = nI 0 := by rw [eV_11, mU_eq]
            refine lv_aload_n hx hb dX11_next_70 rfl (lv_at hl 0 rfl) ?_
            refine m_geti S hW hM.1 21 rfl kX11 (iW11 _) (by decide) (List.mem_cons_of_mem _ (wa_12 _ (List.mem_of_getElem? (i := 5) (by decide +kernel)))) dX11_next_71 ?_
            refine m_top (y := nI n1) ha21 ?_
            refine lv_aload_n hx hb dX11_next_74 rfl (lv_at hl 0 rfl) ?_
            refine m_geti S hW hM.1 8 rfl kX11 (iW11 _) (by decide) (List.mem_cons_of_mem _ (wa_11 _ (List.mem_of_getElem? (i := 23) (by decide +kernel)))) dX11_next_75 ?_
            refine m_top (y := nI sz) ((hFa.2 8 (by decide)).trans hsz) ?_
            refine lv_icmp_ne (tgt := 82) hx hb dX11_next_78 (by decide) (fun c_12 => ?_) (fun c_12 => ?_)
            · skip
              have c_12 : ¬ n1 = sz := mt (nI_eq (by omega) (by omega)).mpr c_12
              refine lv_aload_n hx hb dX11_next_82 rfl (lv_at hl 0 rfl) ?_
              refine m_getr S hW hM.1 7 rfl (j := 205) rfl kX11 (iW11 _) (by decide) (List.mem_cons_of_mem _ (wa_11 _ (List.mem_of_getElem? (i := 6) (by decide +kernel)))) dX11_next_83 ?_
              refine lv_aload_n hx hb dX11_next_86 rfl (lv_at hl 0 rfl) ?_
              refine m_geti S hW hM.1 21 rfl kX11 (iW11 _) (by decide) (List.mem_cons_of_mem _ (wa_12 _ (List.mem_of_getElem? (i := 5) (by decide +kernel)))) dX11_next_87 ?_
              refine m_top (y := nI n1) ha21 ?_
              refine m_iald S hW hM.2.2.2.2.2.1 n1 rfl (by omega) (by decide) dX11_next_90 ?_
              refine m_top (y := (B n1)) (by rw [hFa.1 205 (by decide), hB]) ?_
              refine lv_istore_n (lv' := [(1, .int (B n1)), (0, .ref (ad 200))]) hx hb dX11_next_91 rfl hl (by decide) rfl (fun ls hl => ?_)
              refine lv_iload_n hx hb dX11_next_92 rfl (lv_at hl 0 rfl) ?_
              refine lv_bipush (v := nI 97) hx hb dX11_next_93 (by decide) ?_
              refine lv_bipush (v := nI 122) hx hb dX11_next_95 (by decide) ?_
              refine m_cip (m_rS S hW (c_X11_in l G ad sh V_11 (B n1) 97 122 (by first | assumption | omega) (by first | assumption | omega)) (va_cwS 3 hts (gCall [.methodLink RX11 84 yX11_in, .static yX11_in, .initialized RX11] (List.forall_mem_cons.mpr ⟨(wa_12 _ (List.mem_of_getElem? (i := 16) (by decide +kernel))), (List.forall_mem_cons.mpr ⟨(wa_12 _ (List.mem_of_getElem? (i := 14) (by decide +kernel))), (List.forall_mem_cons.mpr ⟨(wa_12 _ (List.mem_of_getElem? (i := 15) (by decide +kernel))), (List.forall_mem_cons.mpr ⟨(wa_1 _ (List.mem_of_getElem? (i := 5) (by decide +kernel))), (fun _ h => absurd h List.not_mem_nil)⟩)⟩)⟩)⟩)) rfl rfl rfl (by decide +kernel) ⟨Nat.le_of_ble_eq_true rfl, Nat.le_of_ble_eq_true rfl⟩) rfl hl.1 rfl (Nat.le_of_ble_eq_true rfl) dX11_next_97 ⟨Nat.le_of_ble_eq_true rfl, Nat.le_of_ble_eq_true rfl⟩) hW (fun r_14 H locs hp_13 hW => ?_)
              rcases hp_13 with ⟨rfl, w_15⟩ | ⟨rfl, w_16⟩
              · skip
                refine m_if_eq (tgt := 217) hx hb dX11_next_100 (by decide) (fun c_17 => ?_) (fun c_17 => ?_)
                · exact absurd c_17 (by decide)
                · skip
                  have loop_103 : ∀ (n_103 : Nat) (n2 : Nat) (V2 : mV) (H : Heap) (locs : List Loc) (ls : Array Slot), (n1 ≤ n2 ∧ n2 ≤ sz) → (V2 200 21 = nI n2) → (V2 200 22 = nI n1) → (TkF V V2) → (fSpan fLet B sz n2 = fSpan fLet B sz n1) → (∀ j, n1 ≤ j → j < n2 → mIn (B j) 97 123) → (sz - n2) < n_103 → mC (mA ad sh s.heap.size) s.heap s G ad sh V2 H locs → lv_has ls 3 [(0, .ref (ad 200))] → W p l e ({ frames := 1, cells := 0, slots := 0, locals := 25 } : Room) s m ([.ref (ad 200)] : List Value).toArray below meth c H locs 0 0 (MQ below (mPost G ad sh s.heap.size (mPv ad sh (fun V' => (TkOk V' sz (pAdv B sz q)) ∧ (TkF V V')))) ([.ref (ad 200)] : List Value).toArray s 0 0 (mA ad sh s.heap.size)) (F0 m 103 ls []) := by
                    intro n_103
                    induction n_103 with
                    | zero => intro n2 V2 H locs ls hk2 ha2 hb2 hF2 hsp2 hlt2 hM_ hW hl; omega
                    | succ n_103 ih_103 =>
                      intro n2 V2 H locs ls hk2 ha2 hb2 hF2 hsp2 hlt2 hM_ hW hl
                      refine lv_aload_n hx hb dX11_next_103 rfl (lv_at hl 0 rfl) ?_
                      refine m_geti S hW hM.1 21 rfl kX11 (iW11 _) (by decide) (List.mem_cons_of_mem _ (wa_12 _ (List.mem_of_getElem? (i := 5) (by decide +kernel)))) dX11_next_104 ?_
                      refine m_top (y := nI n2) ha2 ?_
                      refine lv_aload_n hx hb dX11_next_107 rfl (lv_at hl 0 rfl) ?_
                      refine m_geti S hW hM.1 8 rfl kX11 (iW11 _) (by decide) (List.mem_cons_of_mem _ (wa_11 _ (List.mem_of_getElem? (i := 23) (by decide +kernel)))) dX11_next_108 ?_
                      refine m_top (y := nI sz) ((hF2.2 8 (by decide)).trans hsz) ?_
                      refine lv_icmp_ge (tgt := 146) hx hb dX11_next_111 (by decide) (fun c_18 => ?_) (fun c_18 => ?_)
                      · skip
                        have c_18 : sz ≤ n2 := (nI_leI (by omega) (by omega)).mp c_18
                        have hn2 : fSpan fLet B sz n1 = n2 := hsp2.symm.trans (fSpan_e (by omega))
                        refine lv_aload_n hx hb dX11_next_146 rfl (lv_at hl 0 rfl) ?_
                        refine lv_aload_n hx hb dX11_next_147 rfl (lv_at hl 0 rfl) ?_
                        refine m_geti S hW hM.1 22 rfl kX11 (iW11 _) (by decide) (List.mem_cons_of_mem _ (wa_12 _ (List.mem_of_getElem? (i := 9) (by decide +kernel)))) dX11_next_148 ?_
                        refine m_top (y := nI n1) hb2 ?_
                        refine lv_aload_n hx hb dX11_next_151 rfl (lv_at hl 0 rfl) ?_
                        refine m_geti S hW hM.1 21 rfl kX11 (iW11 _) (by decide) (List.mem_cons_of_mem _ (wa_12 _ (List.mem_of_getElem? (i := 5) (by decide +kernel)))) dX11_next_152 ?_
                        refine m_top (y := nI n2) ha2 ?_
                        refine m_cip (m_rV S hW (c_X11_wordFrom l G ad sh V2 B n1 n2 hM ((hF2.1 205 (by decide)).trans hB) (by rw [hF2.1 215 (by decide)]; exact hwd) hk2.1 (by omega) hlt2) (cwV 2 hts (gCall [.methodLink RX11 116 yX11_wordFrom, .instanceMethod yX11_wordFrom, .selects RX11 yX11_wordFrom yX11_wordFrom, .initialized RX11] (List.forall_mem_cons.mpr ⟨(wa_12 _ (List.mem_of_getElem? (i := 20) (by decide +kernel))), (List.forall_mem_cons.mpr ⟨(wa_12 _ (List.mem_of_getElem? (i := 17) (by decide +kernel))), (List.forall_mem_cons.mpr ⟨(wa_12 _ (List.mem_of_getElem? (i := 18) (by decide +kernel))), (List.forall_mem_cons.mpr ⟨(wa_12 _ (List.mem_of_getElem? (i := 19) (by decide +kernel))), (List.forall_mem_cons.mpr ⟨(wa_1 _ (List.mem_of_getElem? (i := 5) (by decide +kernel))), (fun _ h => absurd h List.not_mem_nil)⟩)⟩)⟩)⟩)⟩)) rfl rfl rfl (by decide +kernel) ⟨Nat.le_of_ble_eq_true rfl, Nat.le_of_ble_eq_true rfl⟩) hM.1 kX11 rfl hl.1 rfl (Nat.le_of_ble_eq_true rfl) dX11_next_155 ⟨Nat.le_of_ble_eq_true rfl, Nat.le_of_ble_eq_true rfl⟩) hW (fun r_20 H locs hp_19 hW => ?_)
                        obtain ⟨kw_21, rfl, hkw_22, hw_23⟩ := hp_19
                        refine lv_istore_n (lv' := [(2, .int (nI kw_21)), (0, .ref (ad 200))]) hx hb dX11_next_158 rfl hl (by decide) rfl (fun ls hl => ?_)
                        refine lv_aload_n hx hb dX11_next_159 rfl (lv_at hl 1 rfl) ?_
                        refine lv_iload_n hx hb dX11_next_160 rfl (lv_at hl 0 rfl) ?_
                        refine lv_iconst (v := nI 3) hx hb dX11_next_161 (by decide) ?_
                        refine lv_icmp_ge (tgt := 169) hx hb dX11_next_162 (by decide) (fun c_24 => ?_) (fun c_24 => ?_)
                        · skip
                          have c_24 : 3 ≤ kw_21 := (nI_leI (by omega) (by omega)).mp c_24
                          refine lv_iload_n hx hb dX11_next_169 rfl (lv_at hl 0 rfl) ?_
                          refine lv_bipush (v := nI 9) hx hb dX11_next_170 (by decide) ?_
                          refine lv_icmp_ge (tgt := 179) hx hb dX11_next_172 (by decide) (fun c_25 => ?_) (fun c_25 => ?_)
                          · skip
                            have c_25 : 9 ≤ kw_21 := (nI_leI (by omega) (by omega)).mp c_25
                            refine lv_iload_n hx hb dX11_next_179 rfl (lv_at hl 0 rfl) ?_
                            refine lv_bipush (v := nI 12) hx hb dX11_next_180 (by decide) ?_
                            refine lv_icmp_ne (tgt := 189) hx hb dX11_next_182 (by decide) (fun c_26 => ?_) (fun c_26 => ?_)
                            · skip
                              have c_26 : ¬ kw_21 = 12 := mt (nI_eq (by omega) (by omega)).mpr c_26
                              refine lv_iconst (v := nI 4) hx hb dX11_next_189 (by decide) ?_
                              refine lv_iload_n hx hb dX11_next_190 rfl (lv_at hl 0 rfl) ?_
                              refine lv_iadd hx hb dX11_next_191 ?_
                              refine m_top (y := nI (4 + kw_21)) (nI_add 4 kw_21) ?_
                              refine lv_bipush (v := nI 9) hx hb dX11_next_192 (by decide) ?_
                              refine lv_isub hx hb dX11_next_194 ?_
                              refine m_top (y := nI ((4 + kw_21) - 9)) (pk_sub (by omega)) ?_
                              refine m_puti S hW hM.1 23 rfl kX11 (iW11 _) tyX11 tyX11_ok nmX11 (by decide) (List.mem_cons_of_mem _ (wa_12 _ (List.mem_of_getElem? (i := 7) (by decide +kernel)))) (Or.inl rfl) rfl rfl dX11_next_195 (fun H locs hW => ?_)
                              obtain ⟨V_27, eV_27⟩ : ∃ vv_ : mV, vv_ = mU V2 200 23 (nI ((4 + kw_21) - 9)) := ⟨_, rfl⟩
                              rw [← eV_27] at hW
                              refine lv_aload_n hx hb dX11_next_198 rfl (lv_at hl 1 rfl) ?_
                              refine lv_iload_n hx hb dX11_next_199 rfl (lv_at hl 0 rfl) ?_
                              refine lv_iconst (v := nI 3) hx hb dX11_next_200 (by decide) ?_
                              refine lv_icmp_ge (tgt := 208) hx hb dX11_next_201 (by decide) (fun c_28 => ?_) (fun c_28 => ?_)
                              · skip
                                have c_28 : 3 ≤ kw_21 := (nI_leI (by omega) (by omega)).mp c_28
                                refine lv_iload_n hx hb dX11_next_208 rfl (lv_at hl 0 rfl) ?_
                                refine lv_iconst (v := nI 3) hx hb dX11_next_209 (by decide) ?_
                                refine lv_isub hx hb dX11_next_210 ?_
                                refine m_top (y := nI (kw_21 - 3)) (pk_sub (by omega)) ?_
                                refine m_puti S hW hM.1 24 rfl kX11 (iW11 _) tyX11 tyX11_ok nmX11 (by decide) (List.mem_cons_of_mem _ (wa_12 _ (List.mem_of_getElem? (i := 8) (by decide +kernel)))) (Or.inl rfl) rfl rfl dX11_next_211 (fun H locs hW => ?_)
                                obtain ⟨V_29, eV_29⟩ : ∃ vv_ : mV, vv_ = mU V_27 200 24 (nI (kw_21 - 3)) := ⟨_, rfl⟩
                                rw [← eV_29] at hW
                                refine lv_goto (tgt := 403) hx hb dX11_next_214 (by decide) ?_
                                exact m_vret S hr hlk hW dX11_next_403 (by have hw9 := hw_23; exact ⟨tk_word (by rw [eV_29, mU_ne _ _ (by decide), eV_27, mU_ne _ _ (by decide)]; exact ha2) (by rw [eV_29, mU_ne _ _ (by decide), eV_27, mU_ne _ _ (by decide)]; exact hb2) (by rw [eV_29, mU_ne _ _ (by decide), eV_27, mU_eq]) (by rw [eV_29, mU_eq]) (by omega) hw9 (pAdv_w ha (by omega) w_15 hn2) (tkW_3 _ (by omega) (by omega)).1 (fun z => absurd z (tkW_3 _ (by omega) (by omega)).2.1) (tkW_3 _ (by omega) (by omega)).2.2, by rw [eV_29, eV_27]; exact (hF2.p _ (by decide)).p _ (by decide)⟩)
                              · skip
                                have c_28 : ¬ 3 ≤ kw_21 := mt (nI_leI (by omega) (by omega)).mpr c_28
                                exfalso; omega
                            · skip
                              have c_26 : kw_21 = 12 := (nI_eq (by omega) (by omega)).mp c_26
                              refine lv_iconst (v := -1) hx hb dX11_next_185 (by decide) ?_
                              refine lv_goto (tgt := 195) hx hb dX11_next_186 (by decide) ?_
                              refine m_puti S hW hM.1 23 rfl kX11 (iW11 _) tyX11 tyX11_ok nmX11 (by decide) (List.mem_cons_of_mem _ (wa_12 _ (List.mem_of_getElem? (i := 7) (by decide +kernel)))) (Or.inl rfl) rfl rfl dX11_next_195 (fun H locs hW => ?_)
                              obtain ⟨V_30, eV_30⟩ : ∃ vv_ : mV, vv_ = mU V2 200 23 (-1) := ⟨_, rfl⟩
                              rw [← eV_30] at hW
                              refine lv_aload_n hx hb dX11_next_198 rfl (lv_at hl 1 rfl) ?_
                              refine lv_iload_n hx hb dX11_next_199 rfl (lv_at hl 0 rfl) ?_
                              refine lv_iconst (v := nI 3) hx hb dX11_next_200 (by decide) ?_
                              refine lv_icmp_ge (tgt := 208) hx hb dX11_next_201 (by decide) (fun c_31 => ?_) (fun c_31 => ?_)
                              · skip
                                have c_31 : 3 ≤ kw_21 := (nI_leI (by omega) (by omega)).mp c_31
                                refine lv_iload_n hx hb dX11_next_208 rfl (lv_at hl 0 rfl) ?_
                                refine lv_iconst (v := nI 3) hx hb dX11_next_209 (by decide) ?_
                                refine lv_isub hx hb dX11_next_210 ?_
                                refine m_top (y := nI (kw_21 - 3)) (pk_sub (by omega)) ?_
                                refine m_puti S hW hM.1 24 rfl kX11 (iW11 _) tyX11 tyX11_ok nmX11 (by decide) (List.mem_cons_of_mem _ (wa_12 _ (List.mem_of_getElem? (i := 8) (by decide +kernel)))) (Or.inl rfl) rfl rfl dX11_next_211 (fun H locs hW => ?_)
                                obtain ⟨V_32, eV_32⟩ : ∃ vv_ : mV, vv_ = mU V_30 200 24 (nI (kw_21 - 3)) := ⟨_, rfl⟩
                                rw [← eV_32] at hW
                                refine lv_goto (tgt := 403) hx hb dX11_next_214 (by decide) ?_
                                exact m_vret S hr hlk hW dX11_next_403 (by have hw9 := hw_23; have hk12 : kw_21 = 12 := (by omega); rw [hk12] at hw9; exact ⟨tk_word (by rw [eV_32, mU_ne _ _ (by decide), eV_30, mU_ne _ _ (by decide)]; exact ha2) (by rw [eV_32, mU_ne _ _ (by decide), eV_30, mU_ne _ _ (by decide)]; exact hb2) (by rw [eV_32, mU_ne _ _ (by decide), eV_30, mU_eq]) (by rw [eV_32, mU_eq]) (by omega) hw9 (pAdv_w ha (by omega) w_15 hn2) (tkW_4).1 (fun z => absurd z (tkW_4).2.1) (tkW_4).2.2, by rw [eV_32, eV_30]; exact (hF2.p _ (by decide)).p _ (by decide)⟩)
                              · skip
                                have c_31 : ¬ 3 ≤ kw_21 := mt (nI_leI (by omega) (by omega)).mpr c_31
                                exfalso; omega
                          · skip
                            have c_25 : ¬ 9 ≤ kw_21 := mt (nI_leI (by omega) (by omega)).mpr c_25
                            refine lv_iconst (v := nI 2) hx hb dX11_next_175 (by decide) ?_
                            refine lv_goto (tgt := 195) hx hb dX11_next_176 (by decide) ?_
                            refine m_puti S hW hM.1 23 rfl kX11 (iW11 _) tyX11 tyX11_ok nmX11 (by decide) (List.mem_cons_of_mem _ (wa_12 _ (List.mem_of_getElem? (i := 7) (by decide +kernel)))) (Or.inl rfl) rfl rfl dX11_next_195 (fun H locs hW => ?_)
                            obtain ⟨V_33, eV_33⟩ : ∃ vv_ : mV, vv_ = mU V2 200 23 (nI 2) := ⟨_, rfl⟩
                            rw [← eV_33] at hW
                            refine lv_aload_n hx hb dX11_next_198 rfl (lv_at hl 1 rfl) ?_
                            refine lv_iload_n hx hb dX11_next_199 rfl (lv_at hl 0 rfl) ?_
                            refine lv_iconst (v := nI 3) hx hb dX11_next_200 (by decide) ?_
                            refine lv_icmp_ge (tgt := 208) hx hb dX11_next_201 (by decide) (fun c_34 => ?_) (fun c_34 => ?_)
                            · skip
                              have c_34 : 3 ≤ kw_21 := (nI_leI (by omega) (by omega)).mp c_34
                              refine lv_iload_n hx hb dX11_next_208 rfl (lv_at hl 0 rfl) ?_
                              refine lv_iconst (v := nI 3) hx hb dX11_next_209 (by decide) ?_
                              refine lv_isub hx hb dX11_next_210 ?_
                              refine m_top (y := nI (kw_21 - 3)) (pk_sub (by omega)) ?_
                              refine m_puti S hW hM.1 24 rfl kX11 (iW11 _) tyX11 tyX11_ok nmX11 (by decide) (List.mem_cons_of_mem _ (wa_12 _ (List.mem_of_getElem? (i := 8) (by decide +kernel)))) (Or.inl rfl) rfl rfl dX11_next_211 (fun H locs hW => ?_)
                              obtain ⟨V_35, eV_35⟩ : ∃ vv_ : mV, vv_ = mU V_33 200 24 (nI (kw_21 - 3)) := ⟨_, rfl⟩
                              rw [← eV_35] at hW
                              refine lv_goto (tgt := 403) hx hb dX11_next_214 (by decide) ?_
                              exact m_vret S hr hlk hW dX11_next_403 (by have hw9 := hw_23; exact ⟨tk_word (by rw [eV_35, mU_ne _ _ (by decide), eV_33, mU_ne _ _ (by decide)]; exact ha2) (by rw [eV_35, mU_ne _ _ (by decide), eV_33, mU_ne _ _ (by decide)]; exact hb2) (by rw [eV_35, mU_ne _ _ (by decide), eV_33, mU_eq]) (by rw [eV_35, mU_eq]) (by omega) hw9 (pAdv_w ha (by omega) w_15 hn2) (tkW_2 _ (by omega) (by omega)).1 (fun _ => (tkW_2 _ (by omega) (by omega)).2.1) (tkW_2 _ (by omega) (by omega)).2.2, by rw [eV_35, eV_33]; exact (hF2.p _ (by decide)).p _ (by decide)⟩)
                            · skip
                              have c_34 : ¬ 3 ≤ kw_21 := mt (nI_leI (by omega) (by omega)).mpr c_34
                              exfalso; omega
                        · skip
                          have c_24 : ¬ 3 ≤ kw_21 := mt (nI_leI (by omega) (by omega)).mpr c_24
                          refine lv_iconst (v := nI 3) hx hb dX11_next_165 (by decide) ?_
                          refine lv_goto (tgt := 195) hx hb dX11_next_166 (by decide) ?_
                          refine m_puti S hW hM.1 23 rfl kX11 (iW11 _) tyX11 tyX11_ok nmX11 (by decide) (List.mem_cons_of_mem _ (wa_12 _ (List.mem_of_getElem? (i := 7) (by decide +kernel)))) (Or.inl rfl) rfl rfl dX11_next_195 (fun H locs hW => ?_)
                          obtain ⟨V_36, eV_36⟩ : ∃ vv_ : mV, vv_ = mU V2 200 23 (nI 3) := ⟨_, rfl⟩
                          rw [← eV_36] at hW
                          refine lv_aload_n hx hb dX11_next_198 rfl (lv_at hl 1 rfl) ?_
                          refine lv_iload_n hx hb dX11_next_199 rfl (lv_at hl 0 rfl) ?_
                          refine lv_iconst (v := nI 3) hx hb dX11_next_200 (by decide) ?_
                          refine lv_icmp_ge (tgt := 208) hx hb dX11_next_201 (by decide) (fun c_37 => ?_) (fun c_37 => ?_)
                          · skip
                            have c_37 : 3 ≤ kw_21 := (nI_leI (by omega) (by omega)).mp c_37
                            exfalso; omega
                          · skip
                            have c_37 : ¬ 3 ≤ kw_21 := mt (nI_leI (by omega) (by omega)).mpr c_37
                            refine lv_iload_n hx hb dX11_next_204 rfl (lv_at hl 0 rfl) ?_
                            refine lv_goto (tgt := 211) hx hb dX11_next_205 (by decide) ?_
                            refine m_puti S hW hM.1 24 rfl kX11 (iW11 _) tyX11 tyX11_ok nmX11 (by decide) (List.mem_cons_of_mem _ (wa_12 _ (List.mem_of_getElem? (i := 8) (by decide +kernel)))) (Or.inl rfl) rfl rfl dX11_next_211 (fun H locs hW => ?_)
                            obtain ⟨V_38, eV_38⟩ : ∃ vv_ : mV, vv_ = mU V_36 200 24 (nI kw_21) := ⟨_, rfl⟩
                            rw [← eV_38] at hW
                            refine lv_goto (tgt := 403) hx hb dX11_next_214 (by decide) ?_
                            exact m_vret S hr hlk hW dX11_next_403 (by have hw9 := hw_23; exact ⟨tk_word (by rw [eV_38, mU_ne _ _ (by decide), eV_36, mU_ne _ _ (by decide)]; exact ha2) (by rw [eV_38, mU_ne _ _ (by decide), eV_36, mU_ne _ _ (by decide)]; exact hb2) (by rw [eV_38, mU_ne _ _ (by decide), eV_36, mU_eq]) (by rw [eV_38, mU_eq]) (by omega) hw9 (pAdv_w ha (by omega) w_15 hn2) (tkW_1 _ (by omega)).1 (fun _ => (tkW_1 _ (by omega)).2.1) (tkW_1 _ (by omega)).2.2, by rw [eV_38, eV_36]; exact (hF2.p _ (by decide)).p _ (by decide)⟩)
                      · skip
                        have c_18 : ¬ sz ≤ n2 := mt (nI_leI (by omega) (by omega)).mpr c_18
                        refine lv_aload_n hx hb dX11_next_114 rfl (lv_at hl 0 rfl) ?_
                        refine m_getr S hW hM.1 7 rfl (j := 205) rfl kX11 (iW11 _) (by decide) (List.mem_cons_of_mem _ (wa_11 _ (List.mem_of_getElem? (i := 6) (by decide +kernel)))) dX11_next_115 ?_
                        refine lv_aload_n hx hb dX11_next_118 rfl (lv_at hl 0 rfl) ?_
                        refine m_geti S hW hM.1 21 rfl kX11 (iW11 _) (by decide) (List.mem_cons_of_mem _ (wa_12 _ (List.mem_of_getElem? (i := 5) (by decide +kernel)))) dX11_next_119 ?_
                        refine m_top (y := nI n2) ha2 ?_
                        refine m_iald S hW hM.2.2.2.2.2.1 n2 rfl (by omega) (by decide) dX11_next_122 ?_
                        refine m_top (y := (B n2)) (by rw [hF2.1 205 (by decide), hB]) ?_
                        refine lv_bipush (v := nI 97) hx hb dX11_next_123 (by decide) ?_
                        refine lv_bipush (v := nI 122) hx hb dX11_next_125 (by decide) ?_
                        refine m_cip (m_rS S hW (c_X11_in l G ad sh V2 (B n2) 97 122 (by first | assumption | omega) (by first | assumption | omega)) (va_cwS 3 hts (gCall [.methodLink RX11 84 yX11_in, .static yX11_in, .initialized RX11] (List.forall_mem_cons.mpr ⟨(wa_12 _ (List.mem_of_getElem? (i := 16) (by decide +kernel))), (List.forall_mem_cons.mpr ⟨(wa_12 _ (List.mem_of_getElem? (i := 14) (by decide +kernel))), (List.forall_mem_cons.mpr ⟨(wa_12 _ (List.mem_of_getElem? (i := 15) (by decide +kernel))), (List.forall_mem_cons.mpr ⟨(wa_1 _ (List.mem_of_getElem? (i := 5) (by decide +kernel))), (fun _ h => absurd h List.not_mem_nil)⟩)⟩)⟩)⟩)) rfl rfl rfl (by decide +kernel) ⟨Nat.le_of_ble_eq_true rfl, Nat.le_of_ble_eq_true rfl⟩) rfl hl.1 rfl (Nat.le_of_ble_eq_true rfl) dX11_next_127 ⟨Nat.le_of_ble_eq_true rfl, Nat.le_of_ble_eq_true rfl⟩) hW (fun r_40 H locs hp_39 hW => ?_)
                        rcases hp_39 with ⟨rfl, w_41⟩ | ⟨rfl, w_42⟩
                        · skip
                          refine m_if_eq (tgt := 146) hx hb dX11_next_130 (by decide) (fun c_43 => ?_) (fun c_43 => ?_)
                          · exact absurd c_43 (by decide)
                          · skip
                            refine lv_aload_n hx hb dX11_next_133 rfl (lv_at hl 0 rfl) ?_
                            refine lv_dup hx hb dX11_next_134 rfl ?_
                            refine m_geti S hW hM.1 21 rfl kX11 (iW11 _) (by decide) (List.mem_cons_of_mem _ (wa_12 _ (List.mem_of_getElem? (i := 5) (by decide +kernel)))) dX11_next_135 ?_
                            refine m_top (y := nI n2) ha2 ?_
                            refine lv_iconst (v := nI 1) hx hb dX11_next_138 (by decide) ?_
                            refine lv_iadd hx hb dX11_next_139 ?_
                            refine m_top (y := nI (n2 + 1)) (nI_add n2 1) ?_
                            refine m_puti S hW hM.1 21 rfl kX11 (iW11 _) tyX11 tyX11_ok nmX11 (by decide) (List.mem_cons_of_mem _ (wa_12 _ (List.mem_of_getElem? (i := 5) (by decide +kernel)))) (Or.inl rfl) rfl rfl dX11_next_140 (fun H locs hW => ?_)
                            obtain ⟨V_44, eV_44⟩ : ∃ vv_ : mV, vv_ = mU V2 200 21 (nI (n2 + 1)) := ⟨_, rfl⟩
                            rw [← eV_44] at hW
                            refine lv_goto (tgt := 103) hx hb dX11_next_143 (by decide) ?_
                            exact ih_103  (n2 + 1) V_44 _ _ _ (by omega) (by rw [eV_44, mU_eq]) (by rw [eV_44, mU_ne _ _ (by decide)]; exact hb2) (by rw [eV_44]; exact hF2.p _ (by decide)) (by exact (fSpan_s (by omega) (decide_eq_true w_41)).symm.trans hsp2) (by intro j h1 h2; exact (Nat.lt_succ_iff_lt_or_eq.mp h2).elim (fun h => hlt2 j h1 h) (fun h => by rw [h]; exact w_41)) (by omega) hW (lv_sub hl [0] rfl)
                        · skip
                          refine m_if_eq (tgt := 146) hx hb dX11_next_130 (by decide) (fun c_45 => ?_) (fun c_45 => ?_)
                          · skip
                            have hn2 : fSpan fLet B sz n1 = n2 := hsp2.symm.trans (fSpan_n (fun z => w_42 (of_decide_eq_true z)))
                            refine lv_aload_n hx hb dX11_next_146 rfl (lv_at hl 0 rfl) ?_
                            refine lv_aload_n hx hb dX11_next_147 rfl (lv_at hl 0 rfl) ?_
                            refine m_geti S hW hM.1 22 rfl kX11 (iW11 _) (by decide) (List.mem_cons_of_mem _ (wa_12 _ (List.mem_of_getElem? (i := 9) (by decide +kernel)))) dX11_next_148 ?_
                            refine m_top (y := nI n1) hb2 ?_
                            refine lv_aload_n hx hb dX11_next_151 rfl (lv_at hl 0 rfl) ?_
                            refine m_geti S hW hM.1 21 rfl kX11 (iW11 _) (by decide) (List.mem_cons_of_mem _ (wa_12 _ (List.mem_of_getElem? (i := 5) (by decide +kernel)))) dX11_next_152 ?_
                            refine m_top (y := nI n2) ha2 ?_
                            refine m_cip (m_rV S hW (c_X11_wordFrom l G ad sh V2 B n1 n2 hM ((hF2.1 205 (by decide)).trans hB) (by rw [hF2.1 215 (by decide)]; exact hwd) hk2.1 (by omega) hlt2) (cwV 2 hts (gCall [.methodLink RX11 116 yX11_wordFrom, .instanceMethod yX11_wordFrom, .selects RX11 yX11_wordFrom yX11_wordFrom, .initialized RX11] (List.forall_mem_cons.mpr ⟨(wa_12 _ (List.mem_of_getElem? (i := 20) (by decide +kernel))), (List.forall_mem_cons.mpr ⟨(wa_12 _ (List.mem_of_getElem? (i := 17) (by decide +kernel))), (List.forall_mem_cons.mpr ⟨(wa_12 _ (List.mem_of_getElem? (i := 18) (by decide +kernel))), (List.forall_mem_cons.mpr ⟨(wa_12 _ (List.mem_of_getElem? (i := 19) (by decide +kernel))), (List.forall_mem_cons.mpr ⟨(wa_1 _ (List.mem_of_getElem? (i := 5) (by decide +kernel))), (fun _ h => absurd h List.not_mem_nil)⟩)⟩)⟩)⟩)⟩)) rfl rfl rfl (by decide +kernel) ⟨Nat.le_of_ble_eq_true rfl, Nat.le_of_ble_eq_true rfl⟩) hM.1 kX11 rfl hl.1 rfl (Nat.le_of_ble_eq_true rfl) dX11_next_155 ⟨Nat.le_of_ble_eq_true rfl, Nat.le_of_ble_eq_true rfl⟩) hW (fun r_47 H locs hp_46 hW => ?_)
                            obtain ⟨kw_48, rfl, hkw_49, hw_50⟩ := hp_46
                            refine lv_istore_n (lv' := [(2, .int (nI kw_48)), (0, .ref (ad 200))]) hx hb dX11_next_158 rfl hl (by decide) rfl (fun ls hl => ?_)
                            refine lv_aload_n hx hb dX11_next_159 rfl (lv_at hl 1 rfl) ?_
                            refine lv_iload_n hx hb dX11_next_160 rfl (lv_at hl 0 rfl) ?_
                            refine lv_iconst (v := nI 3) hx hb dX11_next_161 (by decide) ?_
                            refine lv_icmp_ge (tgt := 169) hx hb dX11_next_162 (by decide) (fun c_51 => ?_) (fun c_51 => ?_)
                            · skip
                              have c_51 : 3 ≤ kw_48 := (nI_leI (by omega) (by omega)).mp c_51
                              refine lv_iload_n hx hb dX11_next_169 rfl (lv_at hl 0 rfl) ?_
                              refine lv_bipush (v := nI 9) hx hb dX11_next_170 (by decide) ?_
                              refine lv_icmp_ge (tgt := 179) hx hb dX11_next_172 (by decide) (fun c_52 => ?_) (fun c_52 => ?_)
                              · skip
                                have c_52 : 9 ≤ kw_48 := (nI_leI (by omega) (by omega)).mp c_52
                                refine lv_iload_n hx hb dX11_next_179 rfl (lv_at hl 0 rfl) ?_
                                refine lv_bipush (v := nI 12) hx hb dX11_next_180 (by decide) ?_
                                refine lv_icmp_ne (tgt := 189) hx hb dX11_next_182 (by decide) (fun c_53 => ?_) (fun c_53 => ?_)
                                · skip
                                  have c_53 : ¬ kw_48 = 12 := mt (nI_eq (by omega) (by omega)).mpr c_53
                                  refine lv_iconst (v := nI 4) hx hb dX11_next_189 (by decide) ?_
                                  refine lv_iload_n hx hb dX11_next_190 rfl (lv_at hl 0 rfl) ?_
                                  refine lv_iadd hx hb dX11_next_191 ?_
                                  refine m_top (y := nI (4 + kw_48)) (nI_add 4 kw_48) ?_
                                  refine lv_bipush (v := nI 9) hx hb dX11_next_192 (by decide) ?_
                                  refine lv_isub hx hb dX11_next_194 ?_
                                  refine m_top (y := nI ((4 + kw_48) - 9)) (pk_sub (by omega)) ?_
                                  refine m_puti S hW hM.1 23 rfl kX11 (iW11 _) tyX11 tyX11_ok nmX11 (by decide) (List.mem_cons_of_mem _ (wa_12 _ (List.mem_of_getElem? (i := 7) (by decide +kernel)))) (Or.inl rfl) rfl rfl dX11_next_195 (fun H locs hW => ?_)
                                  obtain ⟨V_54, eV_54⟩ : ∃ vv_ : mV, vv_ = mU V2 200 23 (nI ((4 + kw_48) - 9)) := ⟨_, rfl⟩
                                  rw [← eV_54] at hW
                                  refine lv_aload_n hx hb dX11_next_198 rfl (lv_at hl 1 rfl) ?_
                                  refine lv_iload_n hx hb dX11_next_199 rfl (lv_at hl 0 rfl) ?_
                                  refine lv_iconst (v := nI 3) hx hb dX11_next_200 (by decide) ?_
                                  refine lv_icmp_ge (tgt := 208) hx hb dX11_next_201 (by decide) (fun c_55 => ?_) (fun c_55 => ?_)
                                  · skip
                                    have c_55 : 3 ≤ kw_48 := (nI_leI (by omega) (by omega)).mp c_55
                                    refine lv_iload_n hx hb dX11_next_208 rfl (lv_at hl 0 rfl) ?_
                                    refine lv_iconst (v := nI 3) hx hb dX11_next_209 (by decide) ?_
                                    refine lv_isub hx hb dX11_next_210 ?_
                                    refine m_top (y := nI (kw_48 - 3)) (pk_sub (by omega)) ?_
                                    refine m_puti S hW hM.1 24 rfl kX11 (iW11 _) tyX11 tyX11_ok nmX11 (by decide) (List.mem_cons_of_mem _ (wa_12 _ (List.mem_of_getElem? (i := 8) (by decide +kernel)))) (Or.inl rfl) rfl rfl dX11_next_211 (fun H locs hW => ?_)
                                    obtain ⟨V_56, eV_56⟩ : ∃ vv_ : mV, vv_ = mU V_54 200 24 (nI (kw_48 - 3)) := ⟨_, rfl⟩
                                    rw [← eV_56] at hW
                                    refine lv_goto (tgt := 403) hx hb dX11_next_214 (by decide) ?_
                                    exact m_vret S hr hlk hW dX11_next_403 (by have hw9 := hw_50; exact ⟨tk_word (by rw [eV_56, mU_ne _ _ (by decide), eV_54, mU_ne _ _ (by decide)]; exact ha2) (by rw [eV_56, mU_ne _ _ (by decide), eV_54, mU_ne _ _ (by decide)]; exact hb2) (by rw [eV_56, mU_ne _ _ (by decide), eV_54, mU_eq]) (by rw [eV_56, mU_eq]) (by omega) hw9 (pAdv_w ha (by omega) w_15 hn2) (tkW_3 _ (by omega) (by omega)).1 (fun z => absurd z (tkW_3 _ (by omega) (by omega)).2.1) (tkW_3 _ (by omega) (by omega)).2.2, by rw [eV_56, eV_54]; exact (hF2.p _ (by decide)).p _ (by decide)⟩)
                                  · skip
                                    have c_55 : ¬ 3 ≤ kw_48 := mt (nI_leI (by omega) (by omega)).mpr c_55
                                    exfalso; omega
                                · skip
                                  have c_53 : kw_48 = 12 := (nI_eq (by omega) (by omega)).mp c_53
                                  refine lv_iconst (v := -1) hx hb dX11_next_185 (by decide) ?_
                                  refine lv_goto (tgt := 195) hx hb dX11_next_186 (by decide) ?_
                                  refine m_puti S hW hM.1 23 rfl kX11 (iW11 _) tyX11 tyX11_ok nmX11 (by decide) (List.mem_cons_of_mem _ (wa_12 _ (List.mem_of_getElem? (i := 7) (by decide +kernel)))) (Or.inl rfl) rfl rfl dX11_next_195 (fun H locs hW => ?_)
                                  obtain ⟨V_57, eV_57⟩ : ∃ vv_ : mV, vv_ = mU V2 200 23 (-1) := ⟨_, rfl⟩
                                  rw [← eV_57] at hW
                                  refine lv_aload_n hx hb dX11_next_198 rfl (lv_at hl 1 rfl) ?_
                                  refine lv_iload_n hx hb dX11_next_199 rfl (lv_at hl 0 rfl) ?_
                                  refine lv_iconst (v := nI 3) hx hb dX11_next_200 (by decide) ?_
                                  refine lv_icmp_ge (tgt := 208) hx hb dX11_next_201 (by decide) (fun c_58 => ?_) (fun c_58 => ?_)
                                  · skip
                                    have c_58 : 3 ≤ kw_48 := (nI_leI (by omega) (by omega)).mp c_58
                                    refine lv_iload_n hx hb dX11_next_208 rfl (lv_at hl 0 rfl) ?_
                                    refine lv_iconst (v := nI 3) hx hb dX11_next_209 (by decide) ?_
                                    refine lv_isub hx hb dX11_next_210 ?_
                                    refine m_top (y := nI (kw_48 - 3)) (pk_sub (by omega)) ?_
                                    refine m_puti S hW hM.1 24 rfl kX11 (iW11 _) tyX11 tyX11_ok nmX11 (by decide) (List.mem_cons_of_mem _ (wa_12 _ (List.mem_of_getElem? (i := 8) (by decide +kernel)))) (Or.inl rfl) rfl rfl dX11_next_211 (fun H locs hW => ?_)
                                    obtain ⟨V_59, eV_59⟩ : ∃ vv_ : mV, vv_ = mU V_57 200 24 (nI (kw_48 - 3)) := ⟨_, rfl⟩
                                    rw [← eV_59] at hW
                                    refine lv_goto (tgt := 403) hx hb dX11_next_214 (by decide) ?_
                                    exact m_vret S hr hlk hW dX11_next_403 (by have hw9 := hw_50; have hk12 : kw_48 = 12 := (by omega); rw [hk12] at hw9; exact ⟨tk_word (by rw [eV_59, mU_ne _ _ (by decide), eV_57, mU_ne _ _ (by decide)]; exact ha2) (by rw [eV_59, mU_ne _ _ (by decide), eV_57, mU_ne _ _ (by decide)]; exact hb2) (by rw [eV_59, mU_ne _ _ (by decide), eV_57, mU_eq]) (by rw [eV_59, mU_eq]) (by omega) hw9 (pAdv_w ha (by omega) w_15 hn2) (tkW_4).1 (fun z => absurd z (tkW_4).2.1) (tkW_4).2.2, by rw [eV_59, eV_57]; exact (hF2.p _ (by decide)).p _ (by decide)⟩)
                                  · skip
                                    have c_58 : ¬ 3 ≤ kw_48 := mt (nI_leI (by omega) (by omega)).mpr c_58
                                    exfalso; omega
                              · skip
                                have c_52 : ¬ 9 ≤ kw_48 := mt (nI_leI (by omega) (by omega)).mpr c_52
                                refine lv_iconst (v := nI 2) hx hb dX11_next_175 (by decide) ?_
                                refine lv_goto (tgt := 195) hx hb dX11_next_176 (by decide) ?_
                                refine m_puti S hW hM.1 23 rfl kX11 (iW11 _) tyX11 tyX11_ok nmX11 (by decide) (List.mem_cons_of_mem _ (wa_12 _ (List.mem_of_getElem? (i := 7) (by decide +kernel)))) (Or.inl rfl) rfl rfl dX11_next_195 (fun H locs hW => ?_)
                                obtain ⟨V_60, eV_60⟩ : ∃ vv_ : mV, vv_ = mU V2 200 23 (nI 2) := ⟨_, rfl⟩
                                rw [← eV_60] at hW
                                refine lv_aload_n hx hb dX11_next_198 rfl (lv_at hl 1 rfl) ?_
                                refine lv_iload_n hx hb dX11_next_199 rfl (lv_at hl 0 rfl) ?_
                                refine lv_iconst (v := nI 3) hx hb dX11_next_200 (by decide) ?_
                                refine lv_icmp_ge (tgt := 208) hx hb dX11_next_201 (by decide) (fun c_61 => ?_) (fun c_61 => ?_)
                                · skip
                                  have c_61 : 3 ≤ kw_48 := (nI_leI (by omega) (by omega)).mp c_61
                                  refine lv_iload_n hx hb dX11_next_208 rfl (lv_at hl 0 rfl) ?_
                                  refine lv_iconst (v := nI 3) hx hb dX11_next_209 (by decide) ?_
                                  refine lv_isub hx hb dX11_next_210 ?_
                                  refine m_top (y := nI (kw_48 - 3)) (pk_sub (by omega)) ?_
                                  refine m_puti S hW hM.1 24 rfl kX11 (iW11 _) tyX11 tyX11_ok nmX11 (by decide) (List.mem_cons_of_mem _ (wa_12 _ (List.mem_of_getElem? (i := 8) (by decide +kernel)))) (Or.inl rfl) rfl rfl dX11_next_211 (fun H locs hW => ?_)
                                  obtain ⟨V_62, eV_62⟩ : ∃ vv_ : mV, vv_ = mU V_60 200 24 (nI (kw_48 - 3)) := ⟨_, rfl⟩
                                  rw [← eV_62] at hW
                                  refine lv_goto (tgt := 403) hx hb dX11_next_214 (by decide) ?_
                                  exact m_vret S hr hlk hW dX11_next_403 (by have hw9 := hw_50; exact ⟨tk_word (by rw [eV_62, mU_ne _ _ (by decide), eV_60, mU_ne _ _ (by decide)]; exact ha2) (by rw [eV_62, mU_ne _ _ (by decide), eV_60, mU_ne _ _ (by decide)]; exact hb2) (by rw [eV_62, mU_ne _ _ (by decide), eV_60, mU_eq]) (by rw [eV_62, mU_eq]) (by omega) hw9 (pAdv_w ha (by omega) w_15 hn2) (tkW_2 _ (by omega) (by omega)).1 (fun _ => (tkW_2 _ (by omega) (by omega)).2.1) (tkW_2 _ (by omega) (by omega)).2.2, by rw [eV_62, eV_60]; exact (hF2.p _ (by decide)).p _ (by decide)⟩)
                                · skip
                                  have c_61 : ¬ 3 ≤ kw_48 := mt (nI_leI (by omega) (by omega)).mpr c_61
                                  exfalso; omega
                            · skip
                              have c_51 : ¬ 3 ≤ kw_48 := mt (nI_leI (by omega) (by omega)).mpr c_51
                              refine lv_iconst (v := nI 3) hx hb dX11_next_165 (by decide) ?_
                              refine lv_goto (tgt := 195) hx hb dX11_next_166 (by decide) ?_
                              refine m_puti S hW hM.1 23 rfl kX11 (iW11 _) tyX11 tyX11_ok nmX11 (by decide) (List.mem_cons_of_mem _ (wa_12 _ (List.mem_of_getElem? (i := 7) (by decide +kernel)))) (Or.inl rfl) rfl rfl dX11_next_195 (fun H locs hW => ?_)
                              obtain ⟨V_63, eV_63⟩ : ∃ vv_ : mV, vv_ = mU V2 200 23 (nI 3) := ⟨_, rfl⟩
                              rw [← eV_63] at hW
                              refine lv_aload_n hx hb dX11_next_198 rfl (lv_at hl 1 rfl) ?_
                              refine lv_iload_n hx hb dX11_next_199 rfl (lv_at hl 0 rfl) ?_
                              refine lv_iconst (v := nI 3) hx hb dX11_next_200 (by decide) ?_
                              refine lv_icmp_ge (tgt := 208) hx hb dX11_next_201 (by decide) (fun c_64 => ?_) (fun c_64 => ?_)
                              · skip
                                have c_64 : 3 ≤ kw_48 := (nI_leI (by omega) (by omega)).mp c_64
                                exfalso; omega
                              · skip
                                have c_64 : ¬ 3 ≤ kw_48 := mt (nI_leI (by omega) (by omega)).mpr c_64
                                refine lv_iload_n hx hb dX11_next_204 rfl (lv_at hl 0 rfl) ?_
                                refine lv_goto (tgt := 211) hx hb dX11_next_205 (by decide) ?_
                                refine m_puti S hW hM.1 24 rfl kX11 (iW11 _) tyX11 tyX11_ok nmX11 (by decide) (List.mem_cons_of_mem _ (wa_12 _ (List.mem_of_getElem? (i := 8) (by decide +kernel)))) (Or.inl rfl) rfl rfl dX11_next_211 (fun H locs hW => ?_)
                                obtain ⟨V_65, eV_65⟩ : ∃ vv_ : mV, vv_ = mU V_63 200 24 (nI kw_48) := ⟨_, rfl⟩
                                rw [← eV_65] at hW
                                refine lv_goto (tgt := 403) hx hb dX11_next_214 (by decide) ?_
                                exact m_vret S hr hlk hW dX11_next_403 (by have hw9 := hw_50; exact ⟨tk_word (by rw [eV_65, mU_ne _ _ (by decide), eV_63, mU_ne _ _ (by decide)]; exact ha2) (by rw [eV_65, mU_ne _ _ (by decide), eV_63, mU_ne _ _ (by decide)]; exact hb2) (by rw [eV_65, mU_ne _ _ (by decide), eV_63, mU_eq]) (by rw [eV_65, mU_eq]) (by omega) hw9 (pAdv_w ha (by omega) w_15 hn2) (tkW_1 _ (by omega)).1 (fun _ => (tkW_1 _ (by omega)).2.1) (tkW_1 _ (by omega)).2.2, by rw [eV_65, eV_63]; exact (hF2.p _ (by decide)).p _ (by decide)⟩)
                          · exact absurd c_45 (by decide)
                  exact loop_103 (sz - n1 + 1) n1 V_11 _ _ _ (by omega) (by exact ha21) (by exact ha22) (by exact hFa) (by rfl) (by intro j h1 h2; omega) (by omega) hW (lv_sub hl [1] rfl)
              · skip
                refine m_if_eq (tgt := 217) hx hb dX11_next_100 (by decide) (fun c_66 => ?_) (fun c_66 => ?_)
                · skip
                  refine lv_iload_n hx hb dX11_next_217 rfl (lv_at hl 0 rfl) ?_
                  refine lv_bipush (v := nI 48) hx hb dX11_next_218 (by decide) ?_
                  refine lv_bipush (v := nI 57) hx hb dX11_next_220 (by decide) ?_
                  refine m_cip (m_rS S hW (c_X11_in l G ad sh V_11 (B n1) 48 57 (by first | assumption | omega) (by first | assumption | omega)) (va_cwS 3 hts (gCall [.methodLink RX11 84 yX11_in, .static yX11_in, .initialized RX11] (List.forall_mem_cons.mpr ⟨(wa_12 _ (List.mem_of_getElem? (i := 16) (by decide +kernel))), (List.forall_mem_cons.mpr ⟨(wa_12 _ (List.mem_of_getElem? (i := 14) (by decide +kernel))), (List.forall_mem_cons.mpr ⟨(wa_12 _ (List.mem_of_getElem? (i := 15) (by decide +kernel))), (List.forall_mem_cons.mpr ⟨(wa_1 _ (List.mem_of_getElem? (i := 5) (by decide +kernel))), (fun _ h => absurd h List.not_mem_nil)⟩)⟩)⟩)⟩)) rfl rfl rfl (by decide +kernel) ⟨Nat.le_of_ble_eq_true rfl, Nat.le_of_ble_eq_true rfl⟩) rfl hl.1 rfl (Nat.le_of_ble_eq_true rfl) dX11_next_222 ⟨Nat.le_of_ble_eq_true rfl, Nat.le_of_ble_eq_true rfl⟩) hW (fun r_68 H locs hp_67 hW => ?_)
                  rcases hp_67 with ⟨rfl, w_69⟩ | ⟨rfl, w_70⟩
                  · skip
                    refine m_if_eq (tgt := 326) hx hb dX11_next_225 (by decide) (fun c_71 => ?_) (fun c_71 => ?_)
                    · exact absurd c_71 (by decide)
                    · skip
                      refine lv_iconst (v := nI 0) hx hb dX11_next_228 (by decide) ?_
                      refine lv_istore_n (lv' := [(2, .int (nI 0)), (1, .int (B n1)), (0, .ref (ad 200))]) hx hb dX11_next_229 rfl hl (by decide) rfl (fun ls hl => ?_)
                      have loop_230 : ∀ (n_230 : Nat) (cn n3 : Nat) (vx : Int32) (V3 : mV) (H : Heap) (locs : List Loc) (ls : Array Slot), (n1 ≤ n3 ∧ n3 ≤ sz ∧ cn = n3 - n1) → (V3 200 21 = nI n3) → (V3 200 22 = nI n1) → (V3 200 24 = vx) → (TkF V V3) → (fSpan fDig B sz n3 = fSpan fDig B sz n1) → (cn ≤ 4 → fNum B sz n3 vx = fNum B sz n1 (nI 0)) → (sz - n3) < n_230 → mC (mA ad sh s.heap.size) s.heap s G ad sh V3 H locs → lv_has ls 3 [(0, .ref (ad 200)), (2, .int (nI cn))] → W p l e ({ frames := 1, cells := 0, slots := 0, locals := 25 } : Room) s m ([.ref (ad 200)] : List Value).toArray below meth c H locs 0 0 (MQ below (mPost G ad sh s.heap.size (mPv ad sh (fun V' => (TkOk V' sz (pAdv B sz q)) ∧ (TkF V V')))) ([.ref (ad 200)] : List Value).toArray s 0 0 (mA ad sh s.heap.size)) (F0 m 230 ls []) := by
                        intro n_230
                        induction n_230 with
                        | zero => intro cn n3 vx V3 H locs ls hk3 ha3 hb3 hvx hF3 hsp3 hnum hM_ hW hl; omega
                        | succ n_230 ih_230 =>
                          intro cn n3 vx V3 H locs ls hk3 ha3 hb3 hvx hF3 hsp3 hnum hM_ hW hl
                          refine lv_aload_n hx hb dX11_next_230 rfl (lv_at hl 0 rfl) ?_
                          refine m_geti S hW hM.1 21 rfl kX11 (iW11 _) (by decide) (List.mem_cons_of_mem _ (wa_12 _ (List.mem_of_getElem? (i := 5) (by decide +kernel)))) dX11_next_231 ?_
                          refine m_top (y := nI n3) ha3 ?_
                          refine lv_aload_n hx hb dX11_next_234 rfl (lv_at hl 0 rfl) ?_
                          refine m_geti S hW hM.1 8 rfl kX11 (iW11 _) (by decide) (List.mem_cons_of_mem _ (wa_11 _ (List.mem_of_getElem? (i := 23) (by decide +kernel)))) dX11_next_235 ?_
                          refine m_top (y := nI sz) ((hF3.2 8 (by decide)).trans hsz) ?_
                          refine lv_icmp_ge (tgt := 309) hx hb dX11_next_238 (by decide) (fun c_72 => ?_) (fun c_72 => ?_)
                          · skip
                            have c_72 : sz ≤ n3 := (nI_leI (by omega) (by omega)).mp c_72
                            have hn3 : fSpan fDig B sz n1 = n3 := hsp3.symm.trans (fSpan_e (by omega))
                            have hnv : n3 - n1 ≤ 4 → vx = fNum B sz n1 (nI 0) := fun h4 => (fNum_e vx (by omega)).symm.trans (hnum (by omega))
                            refine lv_aload_n hx hb dX11_next_309 rfl (lv_at hl 0 rfl) ?_
                            refine lv_iload_n hx hb dX11_next_310 rfl (lv_at hl 1 rfl) ?_
                            refine lv_iconst (v := nI 4) hx hb dX11_next_311 (by decide) ?_
                            refine lv_icmp_le (tgt := 319) hx hb dX11_next_312 (by decide) (fun c_73 => ?_) (fun c_73 => ?_)
                            · skip
                              have c_73 : cn ≤ 4 := (nI_leI (by omega) (by omega)).mp c_73
                              refine lv_iconst (v := nI 1) hx hb dX11_next_319 (by decide) ?_
                              refine m_puti S hW hM.1 23 rfl kX11 (iW11 _) tyX11 tyX11_ok nmX11 (by decide) (List.mem_cons_of_mem _ (wa_12 _ (List.mem_of_getElem? (i := 7) (by decide +kernel)))) (Or.inl rfl) rfl rfl dX11_next_320 (fun H locs hW => ?_)
                              obtain ⟨V_74, eV_74⟩ : ∃ vv_ : mV, vv_ = mU V3 200 23 (nI 1) := ⟨_, rfl⟩
                              rw [← eV_74] at hW
                              refine lv_goto (tgt := 403) hx hb dX11_next_323 (by decide) ?_
                              exact m_vret S hr hlk hW dX11_next_403 (by exact ⟨tk_num (by rw [eV_74, mU_ne _ _ (by decide)]; exact ha3) (by rw [eV_74, mU_ne _ _ (by decide)]; exact hb3) (by rw [eV_74, mU_eq]) (by rw [eV_74, mU_ne _ _ (by decide)]; exact hvx) (by omega) hn3 (pAdv_d ha (by omega) w_16 w_69) (by first | rw [if_pos (by omega)] | rw [if_neg (by omega)]) hnv, by rw [eV_74]; exact hF3.p _ (by decide)⟩)
                            · skip
                              have c_73 : ¬ cn ≤ 4 := mt (nI_leI (by omega) (by omega)).mpr c_73
                              refine lv_iconst (v := -1) hx hb dX11_next_315 (by decide) ?_
                              refine lv_goto (tgt := 320) hx hb dX11_next_316 (by decide) ?_
                              refine m_puti S hW hM.1 23 rfl kX11 (iW11 _) tyX11 tyX11_ok nmX11 (by decide) (List.mem_cons_of_mem _ (wa_12 _ (List.mem_of_getElem? (i := 7) (by decide +kernel)))) (Or.inl rfl) rfl rfl dX11_next_320 (fun H locs hW => ?_)
                              obtain ⟨V_75, eV_75⟩ : ∃ vv_ : mV, vv_ = mU V3 200 23 (-1) := ⟨_, rfl⟩
                              rw [← eV_75] at hW
                              refine lv_goto (tgt := 403) hx hb dX11_next_323 (by decide) ?_
                              exact m_vret S hr hlk hW dX11_next_403 (by exact ⟨tk_num (by rw [eV_75, mU_ne _ _ (by decide)]; exact ha3) (by rw [eV_75, mU_ne _ _ (by decide)]; exact hb3) (by rw [eV_75, mU_eq]) (by rw [eV_75, mU_ne _ _ (by decide)]; exact hvx) (by omega) hn3 (pAdv_d ha (by omega) w_16 w_69) (by first | rw [if_pos (by omega)] | rw [if_neg (by omega)]) hnv, by rw [eV_75]; exact hF3.p _ (by decide)⟩)
                          · skip
                            have c_72 : ¬ sz ≤ n3 := mt (nI_leI (by omega) (by omega)).mpr c_72
                            refine lv_aload_n hx hb dX11_next_241 rfl (lv_at hl 0 rfl) ?_
                            refine m_getr S hW hM.1 7 rfl (j := 205) rfl kX11 (iW11 _) (by decide) (List.mem_cons_of_mem _ (wa_11 _ (List.mem_of_getElem? (i := 6) (by decide +kernel)))) dX11_next_242 ?_
                            refine lv_aload_n hx hb dX11_next_245 rfl (lv_at hl 0 rfl) ?_
                            refine m_geti S hW hM.1 21 rfl kX11 (iW11 _) (by decide) (List.mem_cons_of_mem _ (wa_12 _ (List.mem_of_getElem? (i := 5) (by decide +kernel)))) dX11_next_246 ?_
                            refine m_top (y := nI n3) ha3 ?_
                            refine m_iald S hW hM.2.2.2.2.2.1 n3 rfl (by omega) (by decide) dX11_next_249 ?_
                            refine m_top (y := (B n3)) (by rw [hF3.1 205 (by decide), hB]) ?_
                            refine lv_bipush (v := nI 48) hx hb dX11_next_250 (by decide) ?_
                            refine lv_bipush (v := nI 57) hx hb dX11_next_252 (by decide) ?_
                            refine m_cip (m_rS S hW (c_X11_in l G ad sh V3 (B n3) 48 57 (by first | assumption | omega) (by first | assumption | omega)) (va_cwS 3 hts (gCall [.methodLink RX11 84 yX11_in, .static yX11_in, .initialized RX11] (List.forall_mem_cons.mpr ⟨(wa_12 _ (List.mem_of_getElem? (i := 16) (by decide +kernel))), (List.forall_mem_cons.mpr ⟨(wa_12 _ (List.mem_of_getElem? (i := 14) (by decide +kernel))), (List.forall_mem_cons.mpr ⟨(wa_12 _ (List.mem_of_getElem? (i := 15) (by decide +kernel))), (List.forall_mem_cons.mpr ⟨(wa_1 _ (List.mem_of_getElem? (i := 5) (by decide +kernel))), (fun _ h => absurd h List.not_mem_nil)⟩)⟩)⟩)⟩)) rfl rfl rfl (by decide +kernel) ⟨Nat.le_of_ble_eq_true rfl, Nat.le_of_ble_eq_true rfl⟩) rfl hl.1 rfl (Nat.le_of_ble_eq_true rfl) dX11_next_254 ⟨Nat.le_of_ble_eq_true rfl, Nat.le_of_ble_eq_true rfl⟩) hW (fun r_77 H locs hp_76 hW => ?_)
                            rcases hp_76 with ⟨rfl, w_78⟩ | ⟨rfl, w_79⟩
                            · skip
                              refine m_if_eq (tgt := 309) hx hb dX11_next_257 (by decide) (fun c_80 => ?_) (fun c_80 => ?_)
                              · exact absurd c_80 (by decide)
                              · skip
                                refine lv_aload_n hx hb dX11_next_260 rfl (lv_at hl 0 rfl) ?_
                                refine lv_iload_n hx hb dX11_next_261 rfl (lv_at hl 1 rfl) ?_
                                refine lv_iconst (v := nI 4) hx hb dX11_next_262 (by decide) ?_
                                refine lv_icmp_ge (tgt := 289) hx hb dX11_next_263 (by decide) (fun c_81 => ?_) (fun c_81 => ?_)
                                · skip
                                  have c_81 : 4 ≤ cn := (nI_leI (by omega) (by omega)).mp c_81
                                  refine lv_iconst (v := nI 0) hx hb dX11_next_289 (by decide) ?_
                                  refine m_puti S hW hM.1 24 rfl kX11 (iW11 _) tyX11 tyX11_ok nmX11 (by decide) (List.mem_cons_of_mem _ (wa_12 _ (List.mem_of_getElem? (i := 8) (by decide +kernel)))) (Or.inl rfl) rfl rfl dX11_next_290 (fun H locs hW => ?_)
                                  obtain ⟨V_82, eV_82⟩ : ∃ vv_ : mV, vv_ = mU V3 200 24 (nI 0) := ⟨_, rfl⟩
                                  rw [← eV_82] at hW
                                  refine lv_iinc (v := nI (cn + 1)) (lv' := [(2, .int (nI (cn + 1))), (0, .ref (ad 200))]) hx hb dX11_next_293 hl (k := 1) rfl (m_inc cn 1) (by decide) rfl (fun ls hl => ?_)
                                  refine lv_aload_n hx hb dX11_next_296 rfl (lv_at hl 1 rfl) ?_
                                  refine lv_dup hx hb dX11_next_297 rfl ?_
                                  refine m_geti S hW hM.1 21 rfl kX11 (iW11 _) (by decide) (List.mem_cons_of_mem _ (wa_12 _ (List.mem_of_getElem? (i := 5) (by decide +kernel)))) dX11_next_298 ?_
                                  refine m_top (y := nI n3) (by rw [eV_82, mU_ne _ _ (by omega)]; exact ha3) ?_
                                  refine lv_iconst (v := nI 1) hx hb dX11_next_301 (by decide) ?_
                                  refine lv_iadd hx hb dX11_next_302 ?_
                                  refine m_top (y := nI (n3 + 1)) (nI_add n3 1) ?_
                                  refine m_puti S hW hM.1 21 rfl kX11 (iW11 _) tyX11 tyX11_ok nmX11 (by decide) (List.mem_cons_of_mem _ (wa_12 _ (List.mem_of_getElem? (i := 5) (by decide +kernel)))) (Or.inl rfl) rfl rfl dX11_next_303 (fun H locs hW => ?_)
                                  obtain ⟨V_83, eV_83⟩ : ∃ vv_ : mV, vv_ = mU V_82 200 21 (nI (n3 + 1)) := ⟨_, rfl⟩
                                  rw [← eV_83] at hW
                                  refine lv_goto (tgt := 230) hx hb dX11_next_306 (by decide) ?_
                                  exact ih_230  (cn + 1) (n3 + 1) (nI 0) V_83 _ _ _ (by omega) (by rw [eV_83, mU_eq]) (by rw [eV_83, mU_ne _ _ (by decide), eV_82, mU_ne _ _ (by decide)]; exact hb3) (by rw [eV_83, mU_ne _ _ (by decide), eV_82, mU_eq]) (by rw [eV_83, eV_82]; exact (hF3.p _ (by decide)).p _ (by decide)) (by exact (fSpan_s (by omega) (decide_eq_true w_78)).symm.trans hsp3) (by intro h4; first | (exfalso; omega) | (rw [← fNum_s _ (by omega) (decide_eq_true w_78)]; exact hnum (by omega))) (by omega) hW (lv_sub hl [1, 0] rfl)
                                · skip
                                  have c_81 : ¬ 4 ≤ cn := mt (nI_leI (by omega) (by omega)).mpr c_81
                                  refine lv_bipush (v := nI 10) hx hb dX11_next_266 (by decide) ?_
                                  refine lv_aload_n hx hb dX11_next_268 rfl (lv_at hl 0 rfl) ?_
                                  refine m_geti S hW hM.1 24 rfl kX11 (iW11 _) (by decide) (List.mem_cons_of_mem _ (wa_12 _ (List.mem_of_getElem? (i := 8) (by decide +kernel)))) dX11_next_269 ?_
                                  refine m_top (y := vx) hvx ?_
                                  refine lv_imul hx hb dX11_next_272 ?_
                                  refine lv_aload_n hx hb dX11_next_273 rfl (lv_at hl 0 rfl) ?_
                                  refine m_getr S hW hM.1 7 rfl (j := 205) rfl kX11 (iW11 _) (by decide) (List.mem_cons_of_mem _ (wa_11 _ (List.mem_of_getElem? (i := 6) (by decide +kernel)))) dX11_next_274 ?_
                                  refine lv_aload_n hx hb dX11_next_277 rfl (lv_at hl 0 rfl) ?_
                                  refine m_geti S hW hM.1 21 rfl kX11 (iW11 _) (by decide) (List.mem_cons_of_mem _ (wa_12 _ (List.mem_of_getElem? (i := 5) (by decide +kernel)))) dX11_next_278 ?_
                                  refine m_top (y := nI n3) ha3 ?_
                                  refine m_iald S hW hM.2.2.2.2.2.1 n3 rfl (by omega) (by decide) dX11_next_281 ?_
                                  refine m_top (y := (B n3)) (by rw [hF3.1 205 (by decide), hB]) ?_
                                  refine lv_iadd hx hb dX11_next_282 ?_
                                  refine lv_bipush (v := nI 48) hx hb dX11_next_283 (by decide) ?_
                                  refine lv_isub hx hb dX11_next_285 ?_
                                  refine lv_goto (tgt := 290) hx hb dX11_next_286 (by decide) ?_
                                  refine m_puti S hW hM.1 24 rfl kX11 (iW11 _) tyX11 tyX11_ok nmX11 (by decide) (List.mem_cons_of_mem _ (wa_12 _ (List.mem_of_getElem? (i := 8) (by decide +kernel)))) (Or.inl rfl) rfl rfl dX11_next_290 (fun H locs hW => ?_)
                                  obtain ⟨V_84, eV_84⟩ : ∃ vv_ : mV, vv_ = mU V3 200 24 (((((nI 10) * vx) + (B n3)) - (nI 48))) := ⟨_, rfl⟩
                                  rw [← eV_84] at hW
                                  refine lv_iinc (v := nI (cn + 1)) (lv' := [(2, .int (nI (cn + 1))), (0, .ref (ad 200))]) hx hb dX11_next_293 hl (k := 1) rfl (m_inc cn 1) (by decide) rfl (fun ls hl => ?_)
                                  refine lv_aload_n hx hb dX11_next_296 rfl (lv_at hl 1 rfl) ?_
                                  refine lv_dup hx hb dX11_next_297 rfl ?_
                                  refine m_geti S hW hM.1 21 rfl kX11 (iW11 _) (by decide) (List.mem_cons_of_mem _ (wa_12 _ (List.mem_of_getElem? (i := 5) (by decide +kernel)))) dX11_next_298 ?_
                                  refine m_top (y := nI n3) (by rw [eV_84, mU_ne _ _ (by omega)]; exact ha3) ?_
                                  refine lv_iconst (v := nI 1) hx hb dX11_next_301 (by decide) ?_
                                  refine lv_iadd hx hb dX11_next_302 ?_
                                  refine m_top (y := nI (n3 + 1)) (nI_add n3 1) ?_
                                  refine m_puti S hW hM.1 21 rfl kX11 (iW11 _) tyX11 tyX11_ok nmX11 (by decide) (List.mem_cons_of_mem _ (wa_12 _ (List.mem_of_getElem? (i := 5) (by decide +kernel)))) (Or.inl rfl) rfl rfl dX11_next_303 (fun H locs hW => ?_)
                                  obtain ⟨V_85, eV_85⟩ : ∃ vv_ : mV, vv_ = mU V_84 200 21 (nI (n3 + 1)) := ⟨_, rfl⟩
                                  rw [← eV_85] at hW
                                  refine lv_goto (tgt := 230) hx hb dX11_next_306 (by decide) ?_
                                  exact ih_230  (cn + 1) (n3 + 1) ((((nI 10) * vx) + (B n3)) - (nI 48)) V_85 _ _ _ (by omega) (by rw [eV_85, mU_eq]) (by rw [eV_85, mU_ne _ _ (by decide), eV_84, mU_ne _ _ (by decide)]; exact hb3) (by rw [eV_85, mU_ne _ _ (by decide), eV_84, mU_eq]) (by rw [eV_85, eV_84]; exact (hF3.p _ (by decide)).p _ (by decide)) (by exact (fSpan_s (by omega) (decide_eq_true w_78)).symm.trans hsp3) (by intro h4; first | (exfalso; omega) | (rw [← fNum_s _ (by omega) (decide_eq_true w_78)]; exact hnum (by omega))) (by omega) hW (lv_sub hl [1, 0] rfl)
                            · skip
                              refine m_if_eq (tgt := 309) hx hb dX11_next_257 (by decide) (fun c_86 => ?_) (fun c_86 => ?_)
                              · skip
                                have hn3 : fSpan fDig B sz n1 = n3 := hsp3.symm.trans (fSpan_n (fun z => w_79 (of_decide_eq_true z)))
                                have hnv : n3 - n1 ≤ 4 → vx = fNum B sz n1 (nI 0) := fun h4 => (fNum_n vx (fun z => w_79 (of_decide_eq_true z))).symm.trans (hnum (by omega))
                                refine lv_aload_n hx hb dX11_next_309 rfl (lv_at hl 0 rfl) ?_
                                refine lv_iload_n hx hb dX11_next_310 rfl (lv_at hl 1 rfl) ?_
                                refine lv_iconst (v := nI 4) hx hb dX11_next_311 (by decide) ?_
                                refine lv_icmp_le (tgt := 319) hx hb dX11_next_312 (by decide) (fun c_87 => ?_) (fun c_87 => ?_)
                                · skip
                                  have c_87 : cn ≤ 4 := (nI_leI (by omega) (by omega)).mp c_87
                                  refine lv_iconst (v := nI 1) hx hb dX11_next_319 (by decide) ?_
                                  refine m_puti S hW hM.1 23 rfl kX11 (iW11 _) tyX11 tyX11_ok nmX11 (by decide) (List.mem_cons_of_mem _ (wa_12 _ (List.mem_of_getElem? (i := 7) (by decide +kernel)))) (Or.inl rfl) rfl rfl dX11_next_320 (fun H locs hW => ?_)
                                  obtain ⟨V_88, eV_88⟩ : ∃ vv_ : mV, vv_ = mU V3 200 23 (nI 1) := ⟨_, rfl⟩
                                  rw [← eV_88] at hW
                                  refine lv_goto (tgt := 403) hx hb dX11_next_323 (by decide) ?_
                                  exact m_vret S hr hlk hW dX11_next_403 (by exact ⟨tk_num (by rw [eV_88, mU_ne _ _ (by decide)]; exact ha3) (by rw [eV_88, mU_ne _ _ (by decide)]; exact hb3) (by rw [eV_88, mU_eq]) (by rw [eV_88, mU_ne _ _ (by decide)]; exact hvx) (by omega) hn3 (pAdv_d ha (by omega) w_16 w_69) (by first | rw [if_pos (by omega)] | rw [if_neg (by omega)]) hnv, by rw [eV_88]; exact hF3.p _ (by decide)⟩)
                                · skip
                                  have c_87 : ¬ cn ≤ 4 := mt (nI_leI (by omega) (by omega)).mpr c_87
                                  refine lv_iconst (v := -1) hx hb dX11_next_315 (by decide) ?_
                                  refine lv_goto (tgt := 320) hx hb dX11_next_316 (by decide) ?_
                                  refine m_puti S hW hM.1 23 rfl kX11 (iW11 _) tyX11 tyX11_ok nmX11 (by decide) (List.mem_cons_of_mem _ (wa_12 _ (List.mem_of_getElem? (i := 7) (by decide +kernel)))) (Or.inl rfl) rfl rfl dX11_next_320 (fun H locs hW => ?_)
                                  obtain ⟨V_89, eV_89⟩ : ∃ vv_ : mV, vv_ = mU V3 200 23 (-1) := ⟨_, rfl⟩
                                  rw [← eV_89] at hW
                                  refine lv_goto (tgt := 403) hx hb dX11_next_323 (by decide) ?_
                                  exact m_vret S hr hlk hW dX11_next_403 (by exact ⟨tk_num (by rw [eV_89, mU_ne _ _ (by decide)]; exact ha3) (by rw [eV_89, mU_ne _ _ (by decide)]; exact hb3) (by rw [eV_89, mU_eq]) (by rw [eV_89, mU_ne _ _ (by decide)]; exact hvx) (by omega) hn3 (pAdv_d ha (by omega) w_16 w_69) (by first | rw [if_pos (by omega)] | rw [if_neg (by omega)]) hnv, by rw [eV_89]; exact hF3.p _ (by decide)⟩)
                              · exact absurd c_86 (by decide)
                      exact loop_230 (sz - n1 + 1) 0 n1 (nI 0) V_11 _ _ _ (by omega) (by exact ha21) (by exact ha22) (by exact ha24) (by exact hFa) (by rfl) (by intro _; rfl) (by omega) hW (lv_sub hl [2, 0] rfl)
                  · skip
                    refine m_if_eq (tgt := 326) hx hb dX11_next_225 (by decide) (fun c_90 => ?_) (fun c_90 => ?_)
                    · skip
                      refine lv_iload_n hx hb dX11_next_326 rfl (lv_at hl 0 rfl) ?_
                      refine lv_bipush (v := nI 40) hx hb dX11_next_327 (by decide) ?_
                      refine lv_icmp_eq (tgt := 374) hx hb dX11_next_329 (by decide) (fun c_91 => ?_) (fun c_91 => ?_)
                      · skip
                        refine lv_iconst (v := nI 1) hx hb dX11_next_374 (by decide) ?_
                        refine lv_goto (tgt := 379) hx hb dX11_next_375 (by decide) ?_
                        refine lv_istore_n (lv' := [(2, .int (nI 1)), (1, .int (B n1)), (0, .ref (ad 200))]) hx hb dX11_next_379 rfl hl (by decide) rfl (fun ls hl => ?_)
                        refine lv_aload_n hx hb dX11_next_380 rfl (lv_at hl 2 rfl) ?_
                        refine lv_iload_n hx hb dX11_next_381 rfl (lv_at hl 0 rfl) ?_
                        refine m_if_eq (tgt := 389) hx hb dX11_next_382 (by decide) (fun c_92 => ?_) (fun c_92 => ?_)
                        · exact absurd c_92 (by decide)
                        · skip
                          refine lv_iload_n hx hb dX11_next_385 rfl (lv_at hl 1 rfl) ?_
                          refine lv_goto (tgt := 390) hx hb dX11_next_386 (by decide) ?_
                          refine m_puti S hW hM.1 23 rfl kX11 (iW11 _) tyX11 tyX11_ok nmX11 (by decide) (List.mem_cons_of_mem _ (wa_12 _ (List.mem_of_getElem? (i := 7) (by decide +kernel)))) (Or.inl rfl) rfl rfl dX11_next_390 (fun H locs hW => ?_)
                          obtain ⟨V_93, eV_93⟩ : ∃ vv_ : mV, vv_ = mU V_11 200 23 ((B n1)) := ⟨_, rfl⟩
                          rw [← eV_93] at hW
                          refine lv_aload_n hx hb dX11_next_393 rfl (lv_at hl 2 rfl) ?_
                          refine lv_dup hx hb dX11_next_394 rfl ?_
                          refine m_geti S hW hM.1 21 rfl kX11 (iW11 _) (by decide) (List.mem_cons_of_mem _ (wa_12 _ (List.mem_of_getElem? (i := 5) (by decide +kernel)))) dX11_next_395 ?_
                          refine m_top (y := nI n1) (by rw [eV_93, mU_ne _ _ (by omega)]; exact ha21) ?_
                          refine lv_iconst (v := nI 1) hx hb dX11_next_398 (by decide) ?_
                          refine lv_iadd hx hb dX11_next_399 ?_
                          refine m_top (y := nI (n1 + 1)) (nI_add n1 1) ?_
                          refine m_puti S hW hM.1 21 rfl kX11 (iW11 _) tyX11 tyX11_ok nmX11 (by decide) (List.mem_cons_of_mem _ (wa_12 _ (List.mem_of_getElem? (i := 5) (by decide +kernel)))) (Or.inl rfl) rfl rfl dX11_next_400 (fun H locs hW => ?_)
                          obtain ⟨V_94, eV_94⟩ : ∃ vv_ : mV, vv_ = mU V_93 200 21 (nI (n1 + 1)) := ⟨_, rfl⟩
                          rw [← eV_94] at hW
                          exact m_vret S hr hlk hW dX11_next_403 (by exact ⟨tk_sign (x := B n1) (by rw [eV_94, mU_eq]) (by rw [eV_94, mU_ne _ _ (by decide), eV_93, mU_ne _ _ (by decide)]; exact ha22) (by rw [eV_94, mU_ne _ _ (by decide), eV_93, mU_eq]) (by omega) (pAdv_s ha (by omega) w_16 w_70) (Or.inl ⟨by rw [c_91]; decide, rfl⟩), by rw [eV_94, eV_93]; exact (hFa.p _ (by decide)).p _ (by decide)⟩)
                      · skip
                        refine lv_iload_n hx hb dX11_next_332 rfl (lv_at hl 0 rfl) ?_
                        refine lv_bipush (v := nI 41) hx hb dX11_next_333 (by decide) ?_
                        refine lv_icmp_eq (tgt := 374) hx hb dX11_next_335 (by decide) (fun c_95 => ?_) (fun c_95 => ?_)
                        · skip
                          refine lv_iconst (v := nI 1) hx hb dX11_next_374 (by decide) ?_
                          refine lv_goto (tgt := 379) hx hb dX11_next_375 (by decide) ?_
                          refine lv_istore_n (lv' := [(2, .int (nI 1)), (1, .int (B n1)), (0, .ref (ad 200))]) hx hb dX11_next_379 rfl hl (by decide) rfl (fun ls hl => ?_)
                          refine lv_aload_n hx hb dX11_next_380 rfl (lv_at hl 2 rfl) ?_
                          refine lv_iload_n hx hb dX11_next_381 rfl (lv_at hl 0 rfl) ?_
                          refine m_if_eq (tgt := 389) hx hb dX11_next_382 (by decide) (fun c_96 => ?_) (fun c_96 => ?_)
                          · exact absurd c_96 (by decide)
                          · skip
                            refine lv_iload_n hx hb dX11_next_385 rfl (lv_at hl 1 rfl) ?_
                            refine lv_goto (tgt := 390) hx hb dX11_next_386 (by decide) ?_
                            refine m_puti S hW hM.1 23 rfl kX11 (iW11 _) tyX11 tyX11_ok nmX11 (by decide) (List.mem_cons_of_mem _ (wa_12 _ (List.mem_of_getElem? (i := 7) (by decide +kernel)))) (Or.inl rfl) rfl rfl dX11_next_390 (fun H locs hW => ?_)
                            obtain ⟨V_97, eV_97⟩ : ∃ vv_ : mV, vv_ = mU V_11 200 23 ((B n1)) := ⟨_, rfl⟩
                            rw [← eV_97] at hW
                            refine lv_aload_n hx hb dX11_next_393 rfl (lv_at hl 2 rfl) ?_
                            refine lv_dup hx hb dX11_next_394 rfl ?_
                            refine m_geti S hW hM.1 21 rfl kX11 (iW11 _) (by decide) (List.mem_cons_of_mem _ (wa_12 _ (List.mem_of_getElem? (i := 5) (by decide +kernel)))) dX11_next_395 ?_
                            refine m_top (y := nI n1) (by rw [eV_97, mU_ne _ _ (by omega)]; exact ha21) ?_
                            refine lv_iconst (v := nI 1) hx hb dX11_next_398 (by decide) ?_
                            refine lv_iadd hx hb dX11_next_399 ?_
                            refine m_top (y := nI (n1 + 1)) (nI_add n1 1) ?_
                            refine m_puti S hW hM.1 21 rfl kX11 (iW11 _) tyX11 tyX11_ok nmX11 (by decide) (List.mem_cons_of_mem _ (wa_12 _ (List.mem_of_getElem? (i := 5) (by decide +kernel)))) (Or.inl rfl) rfl rfl dX11_next_400 (fun H locs hW => ?_)
                            obtain ⟨V_98, eV_98⟩ : ∃ vv_ : mV, vv_ = mU V_97 200 21 (nI (n1 + 1)) := ⟨_, rfl⟩
                            rw [← eV_98] at hW
                            exact m_vret S hr hlk hW dX11_next_403 (by exact ⟨tk_sign (x := B n1) (by rw [eV_98, mU_eq]) (by rw [eV_98, mU_ne _ _ (by decide), eV_97, mU_ne _ _ (by decide)]; exact ha22) (by rw [eV_98, mU_ne _ _ (by decide), eV_97, mU_eq]) (by omega) (pAdv_s ha (by omega) w_16 w_70) (Or.inl ⟨by rw [c_95]; decide, rfl⟩), by rw [eV_98, eV_97]; exact (hFa.p _ (by decide)).p _ (by decide)⟩)
                        · skip
                          refine lv_iload_n hx hb dX11_next_338 rfl (lv_at hl 0 rfl) ?_
                          refine lv_bipush (v := nI 59) hx hb dX11_next_339 (by decide) ?_
                          refine lv_icmp_eq (tgt := 374) hx hb dX11_next_341 (by decide) (fun c_99 => ?_) (fun c_99 => ?_)
                          · skip
                            refine lv_iconst (v := nI 1) hx hb dX11_next_374 (by decide) ?_
                            refine lv_goto (tgt := 379) hx hb dX11_next_375 (by decide) ?_
                            refine lv_istore_n (lv' := [(2, .int (nI 1)), (1, .int (B n1)), (0, .ref (ad 200))]) hx hb dX11_next_379 rfl hl (by decide) rfl (fun ls hl => ?_)
                            refine lv_aload_n hx hb dX11_next_380 rfl (lv_at hl 2 rfl) ?_
                            refine lv_iload_n hx hb dX11_next_381 rfl (lv_at hl 0 rfl) ?_
                            refine m_if_eq (tgt := 389) hx hb dX11_next_382 (by decide) (fun c_100 => ?_) (fun c_100 => ?_)
                            · exact absurd c_100 (by decide)
                            · skip
                              refine lv_iload_n hx hb dX11_next_385 rfl (lv_at hl 1 rfl) ?_
                              refine lv_goto (tgt := 390) hx hb dX11_next_386 (by decide) ?_
                              refine m_puti S hW hM.1 23 rfl kX11 (iW11 _) tyX11 tyX11_ok nmX11 (by decide) (List.mem_cons_of_mem _ (wa_12 _ (List.mem_of_getElem? (i := 7) (by decide +kernel)))) (Or.inl rfl) rfl rfl dX11_next_390 (fun H locs hW => ?_)
                              obtain ⟨V_101, eV_101⟩ : ∃ vv_ : mV, vv_ = mU V_11 200 23 ((B n1)) := ⟨_, rfl⟩
                              rw [← eV_101] at hW
                              refine lv_aload_n hx hb dX11_next_393 rfl (lv_at hl 2 rfl) ?_
                              refine lv_dup hx hb dX11_next_394 rfl ?_
                              refine m_geti S hW hM.1 21 rfl kX11 (iW11 _) (by decide) (List.mem_cons_of_mem _ (wa_12 _ (List.mem_of_getElem? (i := 5) (by decide +kernel)))) dX11_next_395 ?_
                              refine m_top (y := nI n1) (by rw [eV_101, mU_ne _ _ (by omega)]; exact ha21) ?_
                              refine lv_iconst (v := nI 1) hx hb dX11_next_398 (by decide) ?_
                              refine lv_iadd hx hb dX11_next_399 ?_
                              refine m_top (y := nI (n1 + 1)) (nI_add n1 1) ?_
                              refine m_puti S hW hM.1 21 rfl kX11 (iW11 _) tyX11 tyX11_ok nmX11 (by decide) (List.mem_cons_of_mem _ (wa_12 _ (List.mem_of_getElem? (i := 5) (by decide +kernel)))) (Or.inl rfl) rfl rfl dX11_next_400 (fun H locs hW => ?_)
                              obtain ⟨V_102, eV_102⟩ : ∃ vv_ : mV, vv_ = mU V_101 200 21 (nI (n1 + 1)) := ⟨_, rfl⟩
                              rw [← eV_102] at hW
                              exact m_vret S hr hlk hW dX11_next_403 (by exact ⟨tk_sign (x := B n1) (by rw [eV_102, mU_eq]) (by rw [eV_102, mU_ne _ _ (by decide), eV_101, mU_ne _ _ (by decide)]; exact ha22) (by rw [eV_102, mU_ne _ _ (by decide), eV_101, mU_eq]) (by omega) (pAdv_s ha (by omega) w_16 w_70) (Or.inl ⟨by rw [c_99]; decide, rfl⟩), by rw [eV_102, eV_101]; exact (hFa.p _ (by decide)).p _ (by decide)⟩)
                          · skip
                            refine lv_iload_n hx hb dX11_next_344 rfl (lv_at hl 0 rfl) ?_
                            refine lv_bipush (v := nI 43) hx hb dX11_next_345 (by decide) ?_
                            refine lv_icmp_eq (tgt := 374) hx hb dX11_next_347 (by decide) (fun c_103 => ?_) (fun c_103 => ?_)
                            · skip
                              refine lv_iconst (v := nI 1) hx hb dX11_next_374 (by decide) ?_
                              refine lv_goto (tgt := 379) hx hb dX11_next_375 (by decide) ?_
                              refine lv_istore_n (lv' := [(2, .int (nI 1)), (1, .int (B n1)), (0, .ref (ad 200))]) hx hb dX11_next_379 rfl hl (by decide) rfl (fun ls hl => ?_)
                              refine lv_aload_n hx hb dX11_next_380 rfl (lv_at hl 2 rfl) ?_
                              refine lv_iload_n hx hb dX11_next_381 rfl (lv_at hl 0 rfl) ?_
                              refine m_if_eq (tgt := 389) hx hb dX11_next_382 (by decide) (fun c_104 => ?_) (fun c_104 => ?_)
                              · exact absurd c_104 (by decide)
                              · skip
                                refine lv_iload_n hx hb dX11_next_385 rfl (lv_at hl 1 rfl) ?_
                                refine lv_goto (tgt := 390) hx hb dX11_next_386 (by decide) ?_
                                refine m_puti S hW hM.1 23 rfl kX11 (iW11 _) tyX11 tyX11_ok nmX11 (by decide) (List.mem_cons_of_mem _ (wa_12 _ (List.mem_of_getElem? (i := 7) (by decide +kernel)))) (Or.inl rfl) rfl rfl dX11_next_390 (fun H locs hW => ?_)
                                obtain ⟨V_105, eV_105⟩ : ∃ vv_ : mV, vv_ = mU V_11 200 23 ((B n1)) := ⟨_, rfl⟩
                                rw [← eV_105] at hW
                                refine lv_aload_n hx hb dX11_next_393 rfl (lv_at hl 2 rfl) ?_
                                refine lv_dup hx hb dX11_next_394 rfl ?_
                                refine m_geti S hW hM.1 21 rfl kX11 (iW11 _) (by decide) (List.mem_cons_of_mem _ (wa_12 _ (List.mem_of_getElem? (i := 5) (by decide +kernel)))) dX11_next_395 ?_
                                refine m_top (y := nI n1) (by rw [eV_105, mU_ne _ _ (by omega)]; exact ha21) ?_
                                refine lv_iconst (v := nI 1) hx hb dX11_next_398 (by decide) ?_
                                refine lv_iadd hx hb dX11_next_399 ?_
                                refine m_top (y := nI (n1 + 1)) (nI_add n1 1) ?_
                                refine m_puti S hW hM.1 21 rfl kX11 (iW11 _) tyX11 tyX11_ok nmX11 (by decide) (List.mem_cons_of_mem _ (wa_12 _ (List.mem_of_getElem? (i := 5) (by decide +kernel)))) (Or.inl rfl) rfl rfl dX11_next_400 (fun H locs hW => ?_)
                                obtain ⟨V_106, eV_106⟩ : ∃ vv_ : mV, vv_ = mU V_105 200 21 (nI (n1 + 1)) := ⟨_, rfl⟩
                                rw [← eV_106] at hW
                                exact m_vret S hr hlk hW dX11_next_403 (by exact ⟨tk_sign (x := B n1) (by rw [eV_106, mU_eq]) (by rw [eV_106, mU_ne _ _ (by decide), eV_105, mU_ne _ _ (by decide)]; exact ha22) (by rw [eV_106, mU_ne _ _ (by decide), eV_105, mU_eq]) (by omega) (pAdv_s ha (by omega) w_16 w_70) (Or.inl ⟨by rw [c_103]; decide, rfl⟩), by rw [eV_106, eV_105]; exact (hFa.p _ (by decide)).p _ (by decide)⟩)
                            · skip
                              refine lv_iload_n hx hb dX11_next_350 rfl (lv_at hl 0 rfl) ?_
                              refine lv_bipush (v := nI 45) hx hb dX11_next_351 (by decide) ?_
                              refine lv_icmp_eq (tgt := 374) hx hb dX11_next_353 (by decide) (fun c_107 => ?_) (fun c_107 => ?_)
                              · skip
                                refine lv_iconst (v := nI 1) hx hb dX11_next_374 (by decide) ?_
                                refine lv_goto (tgt := 379) hx hb dX11_next_375 (by decide) ?_
                                refine lv_istore_n (lv' := [(2, .int (nI 1)), (1, .int (B n1)), (0, .ref (ad 200))]) hx hb dX11_next_379 rfl hl (by decide) rfl (fun ls hl => ?_)
                                refine lv_aload_n hx hb dX11_next_380 rfl (lv_at hl 2 rfl) ?_
                                refine lv_iload_n hx hb dX11_next_381 rfl (lv_at hl 0 rfl) ?_
                                refine m_if_eq (tgt := 389) hx hb dX11_next_382 (by decide) (fun c_108 => ?_) (fun c_108 => ?_)
                                · exact absurd c_108 (by decide)
                                · skip
                                  refine lv_iload_n hx hb dX11_next_385 rfl (lv_at hl 1 rfl) ?_
                                  refine lv_goto (tgt := 390) hx hb dX11_next_386 (by decide) ?_
                                  refine m_puti S hW hM.1 23 rfl kX11 (iW11 _) tyX11 tyX11_ok nmX11 (by decide) (List.mem_cons_of_mem _ (wa_12 _ (List.mem_of_getElem? (i := 7) (by decide +kernel)))) (Or.inl rfl) rfl rfl dX11_next_390 (fun H locs hW => ?_)
                                  obtain ⟨V_109, eV_109⟩ : ∃ vv_ : mV, vv_ = mU V_11 200 23 ((B n1)) := ⟨_, rfl⟩
                                  rw [← eV_109] at hW
                                  refine lv_aload_n hx hb dX11_next_393 rfl (lv_at hl 2 rfl) ?_
                                  refine lv_dup hx hb dX11_next_394 rfl ?_
                                  refine m_geti S hW hM.1 21 rfl kX11 (iW11 _) (by decide) (List.mem_cons_of_mem _ (wa_12 _ (List.mem_of_getElem? (i := 5) (by decide +kernel)))) dX11_next_395 ?_
                                  refine m_top (y := nI n1) (by rw [eV_109, mU_ne _ _ (by omega)]; exact ha21) ?_
                                  refine lv_iconst (v := nI 1) hx hb dX11_next_398 (by decide) ?_
                                  refine lv_iadd hx hb dX11_next_399 ?_
                                  refine m_top (y := nI (n1 + 1)) (nI_add n1 1) ?_
                                  refine m_puti S hW hM.1 21 rfl kX11 (iW11 _) tyX11 tyX11_ok nmX11 (by decide) (List.mem_cons_of_mem _ (wa_12 _ (List.mem_of_getElem? (i := 5) (by decide +kernel)))) (Or.inl rfl) rfl rfl dX11_next_400 (fun H locs hW => ?_)
                                  obtain ⟨V_110, eV_110⟩ : ∃ vv_ : mV, vv_ = mU V_109 200 21 (nI (n1 + 1)) := ⟨_, rfl⟩
                                  rw [← eV_110] at hW
                                  exact m_vret S hr hlk hW dX11_next_403 (by exact ⟨tk_sign (x := B n1) (by rw [eV_110, mU_eq]) (by rw [eV_110, mU_ne _ _ (by decide), eV_109, mU_ne _ _ (by decide)]; exact ha22) (by rw [eV_110, mU_ne _ _ (by decide), eV_109, mU_eq]) (by omega) (pAdv_s ha (by omega) w_16 w_70) (Or.inl ⟨by rw [c_107]; decide, rfl⟩), by rw [eV_110, eV_109]; exact (hFa.p _ (by decide)).p _ (by decide)⟩)
                              · skip
                                refine lv_iload_n hx hb dX11_next_356 rfl (lv_at hl 0 rfl) ?_
                                refine lv_bipush (v := nI 42) hx hb dX11_next_357 (by decide) ?_
                                refine lv_icmp_eq (tgt := 374) hx hb dX11_next_359 (by decide) (fun c_111 => ?_) (fun c_111 => ?_)
                                · skip
                                  refine lv_iconst (v := nI 1) hx hb dX11_next_374 (by decide) ?_
                                  refine lv_goto (tgt := 379) hx hb dX11_next_375 (by decide) ?_
                                  refine lv_istore_n (lv' := [(2, .int (nI 1)), (1, .int (B n1)), (0, .ref (ad 200))]) hx hb dX11_next_379 rfl hl (by decide) rfl (fun ls hl => ?_)
                                  refine lv_aload_n hx hb dX11_next_380 rfl (lv_at hl 2 rfl) ?_
                                  refine lv_iload_n hx hb dX11_next_381 rfl (lv_at hl 0 rfl) ?_
                                  refine m_if_eq (tgt := 389) hx hb dX11_next_382 (by decide) (fun c_112 => ?_) (fun c_112 => ?_)
                                  · exact absurd c_112 (by decide)
                                  · skip
                                    refine lv_iload_n hx hb dX11_next_385 rfl (lv_at hl 1 rfl) ?_
                                    refine lv_goto (tgt := 390) hx hb dX11_next_386 (by decide) ?_
                                    refine m_puti S hW hM.1 23 rfl kX11 (iW11 _) tyX11 tyX11_ok nmX11 (by decide) (List.mem_cons_of_mem _ (wa_12 _ (List.mem_of_getElem? (i := 7) (by decide +kernel)))) (Or.inl rfl) rfl rfl dX11_next_390 (fun H locs hW => ?_)
                                    obtain ⟨V_113, eV_113⟩ : ∃ vv_ : mV, vv_ = mU V_11 200 23 ((B n1)) := ⟨_, rfl⟩
                                    rw [← eV_113] at hW
                                    refine lv_aload_n hx hb dX11_next_393 rfl (lv_at hl 2 rfl) ?_
                                    refine lv_dup hx hb dX11_next_394 rfl ?_
                                    refine m_geti S hW hM.1 21 rfl kX11 (iW11 _) (by decide) (List.mem_cons_of_mem _ (wa_12 _ (List.mem_of_getElem? (i := 5) (by decide +kernel)))) dX11_next_395 ?_
                                    refine m_top (y := nI n1) (by rw [eV_113, mU_ne _ _ (by omega)]; exact ha21) ?_
                                    refine lv_iconst (v := nI 1) hx hb dX11_next_398 (by decide) ?_
                                    refine lv_iadd hx hb dX11_next_399 ?_
                                    refine m_top (y := nI (n1 + 1)) (nI_add n1 1) ?_
                                    refine m_puti S hW hM.1 21 rfl kX11 (iW11 _) tyX11 tyX11_ok nmX11 (by decide) (List.mem_cons_of_mem _ (wa_12 _ (List.mem_of_getElem? (i := 5) (by decide +kernel)))) (Or.inl rfl) rfl rfl dX11_next_400 (fun H locs hW => ?_)
                                    obtain ⟨V_114, eV_114⟩ : ∃ vv_ : mV, vv_ = mU V_113 200 21 (nI (n1 + 1)) := ⟨_, rfl⟩
                                    rw [← eV_114] at hW
                                    exact m_vret S hr hlk hW dX11_next_403 (by exact ⟨tk_sign (x := B n1) (by rw [eV_114, mU_eq]) (by rw [eV_114, mU_ne _ _ (by decide), eV_113, mU_ne _ _ (by decide)]; exact ha22) (by rw [eV_114, mU_ne _ _ (by decide), eV_113, mU_eq]) (by omega) (pAdv_s ha (by omega) w_16 w_70) (Or.inl ⟨by rw [c_111]; decide, rfl⟩), by rw [eV_114, eV_113]; exact (hFa.p _ (by decide)).p _ (by decide)⟩)
                                · skip
                                  refine lv_iload_n hx hb dX11_next_362 rfl (lv_at hl 0 rfl) ?_
                                  refine lv_bipush (v := nI 60) hx hb dX11_next_363 (by decide) ?_
                                  refine lv_icmp_eq (tgt := 374) hx hb dX11_next_365 (by decide) (fun c_115 => ?_) (fun c_115 => ?_)
                                  · skip
                                    refine lv_iconst (v := nI 1) hx hb dX11_next_374 (by decide) ?_
                                    refine lv_goto (tgt := 379) hx hb dX11_next_375 (by decide) ?_
                                    refine lv_istore_n (lv' := [(2, .int (nI 1)), (1, .int (B n1)), (0, .ref (ad 200))]) hx hb dX11_next_379 rfl hl (by decide) rfl (fun ls hl => ?_)
                                    refine lv_aload_n hx hb dX11_next_380 rfl (lv_at hl 2 rfl) ?_
                                    refine lv_iload_n hx hb dX11_next_381 rfl (lv_at hl 0 rfl) ?_
                                    refine m_if_eq (tgt := 389) hx hb dX11_next_382 (by decide) (fun c_116 => ?_) (fun c_116 => ?_)
                                    · exact absurd c_116 (by decide)
                                    · skip
                                      refine lv_iload_n hx hb dX11_next_385 rfl (lv_at hl 1 rfl) ?_
                                      refine lv_goto (tgt := 390) hx hb dX11_next_386 (by decide) ?_
                                      refine m_puti S hW hM.1 23 rfl kX11 (iW11 _) tyX11 tyX11_ok nmX11 (by decide) (List.mem_cons_of_mem _ (wa_12 _ (List.mem_of_getElem? (i := 7) (by decide +kernel)))) (Or.inl rfl) rfl rfl dX11_next_390 (fun H locs hW => ?_)
                                      obtain ⟨V_117, eV_117⟩ : ∃ vv_ : mV, vv_ = mU V_11 200 23 ((B n1)) := ⟨_, rfl⟩
                                      rw [← eV_117] at hW
                                      refine lv_aload_n hx hb dX11_next_393 rfl (lv_at hl 2 rfl) ?_
                                      refine lv_dup hx hb dX11_next_394 rfl ?_
                                      refine m_geti S hW hM.1 21 rfl kX11 (iW11 _) (by decide) (List.mem_cons_of_mem _ (wa_12 _ (List.mem_of_getElem? (i := 5) (by decide +kernel)))) dX11_next_395 ?_
                                      refine m_top (y := nI n1) (by rw [eV_117, mU_ne _ _ (by omega)]; exact ha21) ?_
                                      refine lv_iconst (v := nI 1) hx hb dX11_next_398 (by decide) ?_
                                      refine lv_iadd hx hb dX11_next_399 ?_
                                      refine m_top (y := nI (n1 + 1)) (nI_add n1 1) ?_
                                      refine m_puti S hW hM.1 21 rfl kX11 (iW11 _) tyX11 tyX11_ok nmX11 (by decide) (List.mem_cons_of_mem _ (wa_12 _ (List.mem_of_getElem? (i := 5) (by decide +kernel)))) (Or.inl rfl) rfl rfl dX11_next_400 (fun H locs hW => ?_)
                                      obtain ⟨V_118, eV_118⟩ : ∃ vv_ : mV, vv_ = mU V_117 200 21 (nI (n1 + 1)) := ⟨_, rfl⟩
                                      rw [← eV_118] at hW
                                      exact m_vret S hr hlk hW dX11_next_403 (by exact ⟨tk_sign (x := B n1) (by rw [eV_118, mU_eq]) (by rw [eV_118, mU_ne _ _ (by decide), eV_117, mU_ne _ _ (by decide)]; exact ha22) (by rw [eV_118, mU_ne _ _ (by decide), eV_117, mU_eq]) (by omega) (pAdv_s ha (by omega) w_16 w_70) (Or.inl ⟨by rw [c_115]; decide, rfl⟩), by rw [eV_118, eV_117]; exact (hFa.p _ (by decide)).p _ (by decide)⟩)
                                  · skip
                                    refine lv_iload_n hx hb dX11_next_368 rfl (lv_at hl 0 rfl) ?_
                                    refine lv_bipush (v := nI 61) hx hb dX11_next_369 (by decide) ?_
                                    refine lv_icmp_ne (tgt := 378) hx hb dX11_next_371 (by decide) (fun c_119 => ?_) (fun c_119 => ?_)
                                    · skip
                                      refine lv_iconst (v := nI 0) hx hb dX11_next_378 (by decide) ?_
                                      refine lv_istore_n (lv' := [(2, .int (nI 0)), (1, .int (B n1)), (0, .ref (ad 200))]) hx hb dX11_next_379 rfl hl (by decide) rfl (fun ls hl => ?_)
                                      refine lv_aload_n hx hb dX11_next_380 rfl (lv_at hl 2 rfl) ?_
                                      refine lv_iload_n hx hb dX11_next_381 rfl (lv_at hl 0 rfl) ?_
                                      refine m_if_eq (tgt := 389) hx hb dX11_next_382 (by decide) (fun c_120 => ?_) (fun c_120 => ?_)
                                      · skip
                                        refine lv_iconst (v := -1) hx hb dX11_next_389 (by decide) ?_
                                        refine m_puti S hW hM.1 23 rfl kX11 (iW11 _) tyX11 tyX11_ok nmX11 (by decide) (List.mem_cons_of_mem _ (wa_12 _ (List.mem_of_getElem? (i := 7) (by decide +kernel)))) (Or.inl rfl) rfl rfl dX11_next_390 (fun H locs hW => ?_)
                                        obtain ⟨V_121, eV_121⟩ : ∃ vv_ : mV, vv_ = mU V_11 200 23 (-1) := ⟨_, rfl⟩
                                        rw [← eV_121] at hW
                                        refine lv_aload_n hx hb dX11_next_393 rfl (lv_at hl 2 rfl) ?_
                                        refine lv_dup hx hb dX11_next_394 rfl ?_
                                        refine m_geti S hW hM.1 21 rfl kX11 (iW11 _) (by decide) (List.mem_cons_of_mem _ (wa_12 _ (List.mem_of_getElem? (i := 5) (by decide +kernel)))) dX11_next_395 ?_
                                        refine m_top (y := nI n1) (by rw [eV_121, mU_ne _ _ (by omega)]; exact ha21) ?_
                                        refine lv_iconst (v := nI 1) hx hb dX11_next_398 (by decide) ?_
                                        refine lv_iadd hx hb dX11_next_399 ?_
                                        refine m_top (y := nI (n1 + 1)) (nI_add n1 1) ?_
                                        refine m_puti S hW hM.1 21 rfl kX11 (iW11 _) tyX11 tyX11_ok nmX11 (by decide) (List.mem_cons_of_mem _ (wa_12 _ (List.mem_of_getElem? (i := 5) (by decide +kernel)))) (Or.inl rfl) rfl rfl dX11_next_400 (fun H locs hW => ?_)
                                        obtain ⟨V_122, eV_122⟩ : ∃ vv_ : mV, vv_ = mU V_121 200 21 (nI (n1 + 1)) := ⟨_, rfl⟩
                                        rw [← eV_122] at hW
                                        exact m_vret S hr hlk hW dX11_next_403 (by exact ⟨tk_sign (x := B n1) (by rw [eV_122, mU_eq]) (by rw [eV_122, mU_ne _ _ (by decide), eV_121, mU_ne _ _ (by decide)]; exact ha22) (by rw [eV_122, mU_ne _ _ (by decide), eV_121, mU_eq]) (by omega) (pAdv_s ha (by omega) w_16 w_70) (Or.inr ⟨sgn_n c_91 c_95 c_99 c_103 c_107 c_111 c_115 c_119, rfl⟩), by rw [eV_122, eV_121]; exact (hFa.p _ (by decide)).p _ (by decide)⟩)
                                      · exact absurd c_120 (by decide)
                                    · skip
                                      refine lv_iconst (v := nI 1) hx hb dX11_next_374 (by decide) ?_
                                      refine lv_goto (tgt := 379) hx hb dX11_next_375 (by decide) ?_
                                      refine lv_istore_n (lv' := [(2, .int (nI 1)), (1, .int (B n1)), (0, .ref (ad 200))]) hx hb dX11_next_379 rfl hl (by decide) rfl (fun ls hl => ?_)
                                      refine lv_aload_n hx hb dX11_next_380 rfl (lv_at hl 2 rfl) ?_
                                      refine lv_iload_n hx hb dX11_next_381 rfl (lv_at hl 0 rfl) ?_
                                      refine m_if_eq (tgt := 389) hx hb dX11_next_382 (by decide) (fun c_123 => ?_) (fun c_123 => ?_)
                                      · exact absurd c_123 (by decide)
                                      · skip
                                        refine lv_iload_n hx hb dX11_next_385 rfl (lv_at hl 1 rfl) ?_
                                        refine lv_goto (tgt := 390) hx hb dX11_next_386 (by decide) ?_
                                        refine m_puti S hW hM.1 23 rfl kX11 (iW11 _) tyX11 tyX11_ok nmX11 (by decide) (List.mem_cons_of_mem _ (wa_12 _ (List.mem_of_getElem? (i := 7) (by decide +kernel)))) (Or.inl rfl) rfl rfl dX11_next_390 (fun H locs hW => ?_)
                                        obtain ⟨V_124, eV_124⟩ : ∃ vv_ : mV, vv_ = mU V_11 200 23 ((B n1)) := ⟨_, rfl⟩
                                        rw [← eV_124] at hW
                                        refine lv_aload_n hx hb dX11_next_393 rfl (lv_at hl 2 rfl) ?_
                                        refine lv_dup hx hb dX11_next_394 rfl ?_
                                        refine m_geti S hW hM.1 21 rfl kX11 (iW11 _) (by decide) (List.mem_cons_of_mem _ (wa_12 _ (List.mem_of_getElem? (i := 5) (by decide +kernel)))) dX11_next_395 ?_
                                        refine m_top (y := nI n1) (by rw [eV_124, mU_ne _ _ (by omega)]; exact ha21) ?_
                                        refine lv_iconst (v := nI 1) hx hb dX11_next_398 (by decide) ?_
                                        refine lv_iadd hx hb dX11_next_399 ?_
                                        refine m_top (y := nI (n1 + 1)) (nI_add n1 1) ?_
                                        refine m_puti S hW hM.1 21 rfl kX11 (iW11 _) tyX11 tyX11_ok nmX11 (by decide) (List.mem_cons_of_mem _ (wa_12 _ (List.mem_of_getElem? (i := 5) (by decide +kernel)))) (Or.inl rfl) rfl rfl dX11_next_400 (fun H locs hW => ?_)
                                        obtain ⟨V_125, eV_125⟩ : ∃ vv_ : mV, vv_ = mU V_124 200 21 (nI (n1 + 1)) := ⟨_, rfl⟩
                                        rw [← eV_125] at hW
                                        exact m_vret S hr hlk hW dX11_next_403 (by exact ⟨tk_sign (x := B n1) (by rw [eV_125, mU_eq]) (by rw [eV_125, mU_ne _ _ (by decide), eV_124, mU_ne _ _ (by decide)]; exact ha22) (by rw [eV_125, mU_ne _ _ (by decide), eV_124, mU_eq]) (by omega) (pAdv_s ha (by omega) w_16 w_70) (Or.inl ⟨by rw [c_119]; decide, rfl⟩), by rw [eV_125, eV_124]; exact (hFa.p _ (by decide)).p _ (by decide)⟩)
                    · exact absurd c_90 (by decide)
                · exact absurd c_66 (by decide)
            · skip
              have c_12 : n1 = sz := (nI_eq (by omega) (by omega)).mp c_12
              exfalso; omega
          · skip
            refine lv_aload_n hx hb dX11_next_39 rfl (lv_at hl 0 rfl) ?_
            refine lv_dup hx hb dX11_next_40 rfl ?_
            refine m_geti S hW hM.1 21 rfl kX11 (iW11 _) (by decide) (List.mem_cons_of_mem _ (wa_12 _ (List.mem_of_getElem? (i := 5) (by decide +kernel)))) dX11_next_41 ?_
            refine m_top (y := nI n1) ha1 ?_
            refine lv_iconst (v := nI 1) hx hb dX11_next_44 (by decide) ?_
            refine lv_iadd hx hb dX11_next_45 ?_
            refine m_top (y := nI (n1 + 1)) (nI_add n1 1) ?_
            refine m_puti S hW hM.1 21 rfl kX11 (iW11 _) tyX11 tyX11_ok nmX11 (by decide) (List.mem_cons_of_mem _ (wa_12 _ (List.mem_of_getElem? (i := 5) (by decide +kernel)))) (Or.inl rfl) rfl rfl dX11_next_46 (fun H locs hW => ?_)
            obtain ⟨V_126, eV_126⟩ : ∃ vv_ : mV, vv_ = mU V1 200 21 (nI (n1 + 1)) := ⟨_, rfl⟩
            rw [← eV_126] at hW
            refine lv_goto (tgt := 0) hx hb dX11_next_49 (by decide) ?_
            exact ih_0  (n1 + 1) V_126 _ _ _ (by omega) (by rw [eV_126, mU_eq]) (by rw [eV_126]; exact hF1.p _ (by decide)) (by exact (fSpan_s (by omega) (decide_eq_true (Or.inr c_8))).symm.trans hsp) (by omega) hW (lv_sub hl [0] rfl)
  exact loop_0 (sz - q.1 + 1) q.1 V _ _ _ (by exact hql) (by exact hat) (by exact TkF.rfl V) (by rfl) (by omega) hW (lv_sub hl [0] rfl)
