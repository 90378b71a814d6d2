/-! faults -/
/-- one part of a text: its word, an E (as rd reads it), its ; -/
def gPart (rd : pS → pS) (B : Nat → Int32) (sz : Nat) (w : Int32) (q : pS) : pS := pExp (nI 59) B sz (rd (pExp w B sz q))
def gT1 (rd : pS → pS) (B : Nat → Int32) (sz : Nat) (q : pS) : pS := gPart rd B sz (nI 8) (pAdv B sz q)
def gT2 (rd : pS → pS) (B : Nat → Int32) (sz : Nat) (q : pS) : pS := gPart rd B sz (nI 9) (gT1 rd B sz q)
def gT3 (rd : pS → pS) (B : Nat → Int32) (sz : Nat) (q : pS) : pS := gPart rd B sz (nI 10) (gT2 rd B sz q)
def gTx (rd : pS → pS) (B : Nat → Int32) (sz : Nat) (q : pS) : pS := if (gT3 rd B sz q).2.1 = nI 0 then gT3 rd B sz q else pFail (gT3 rd B sz q)
set_option maxHeartbeats 4000000 in
set_option maxRecDepth 100000 in
theorem c_X6_findFault_g (l : Launch) (G : mG) (ad : Nat → Nat) (sh : Nat → Option mSh) (V : mV) (sz : Nat) (B : Nat → Int32) (tk nm : Int32) (ta : Nat) (rd : pS → pS) (h1 : sh 1 = some sTape) (h2 : sh 2 = some (mI 160)) (h3 : sh 3 = some (mI 160)) (hB : V 2 = B) (hsz : V 1 1 = nI sz) (hsz4 : sz ≤ 160) (htk : V 1 3 = tk) (hta : V 1 4 = nI ta) (hta4 : ta ≤ 160) (hnu : V 1 5 = nm) (IHr : ∀ (V : mV) (q : pS), (TpOk sh V sz B q) → mM l yX6_readRank wsX6_readRank ({ frames := 13 + 8 * 5 + 5, cells := 0, slots := 0, locals := 425 + 200 * 5 + 26 * 5 } : Room) G ad sh V [.ref (ad 1), .int (nI 0), .int (nI 0)] 0 0 (mPv ad sh (fun V' => (TpOk sh V' sz B (rd q)) ∧ (TpFr V V')))) : mM l yX6_findFault wsX6_findFault ({ frames := 60, cells := 0, slots := 0, locals := 1600 } : Room) G ad sh V [.ref (ad 1)] 0 0 (mPi ad sh (fun r V' => (gTx rd B sz (0, tk, ta, nm, -1, [])).2.2.2.2.1 = r ∧ (TpOk sh V' sz B (gTx rd B sz (0, tk, ta, nm, -1, []))) ∧ (V' 1 9 = nI (gT1 rd B sz (0, tk, ta, nm, -1, [])).2.2.2.2.2.length) ∧ (V' 1 10 = nI (gT2 rd B sz (0, tk, ta, nm, -1, [])).2.2.2.2.2.length) ∧ (∀ a, a ≠ 1 → a ≠ 3 → V' a = V a))) := by
  refine mM.of (cc := cX6_findFault) (maxL := 1) (ret := (some .int)) (by decide) rfl (Nat.le_of_ble_eq_true rfl) ?_
  intro p e s m below meth c S hr hlk hnm hW ls hl
  obtain ⟨hx, hb, hml, hown, hts⟩ := id S
  have hl : lv_has ls 1 [(0, .ref (ad 1))] := hl
  have hS0 : True := trivial
  refine lv_aload_n hx hb dX6_findFault_0 rfl (lv_at hl 0 rfl) ?_
  refine lv_iconst (v := nI 0) hx hb dX6_findFault_1 (by decide) ?_
  refine m_puti S hW h1 2 rfl kX6 (iW6 _) tyX6 tyX6_ok nmX6 (by decide) (List.mem_cons_of_mem _ (wa_6 _ (List.mem_of_getElem? (i := 2) (by decide +kernel)))) (Or.inl rfl) rfl rfl dX6_findFault_2 (fun H locs hW => ?_)
  obtain ⟨V_1, eV_1⟩ : ∃ z : mV, z = mU V 1 2 (nI 0) := ⟨_, rfl⟩
  rw [← eV_1] at hW
  refine lv_aload_n hx hb dX6_findFault_5 rfl (lv_at hl 0 rfl) ?_
  refine lv_iconst (v := -1) hx hb dX6_findFault_6 (by decide) ?_
  refine m_puti S hW h1 6 rfl kX6 (iW6 _) tyX6 tyX6_ok nmX6 (by decide) (List.mem_cons_of_mem _ (wa_6 _ (List.mem_of_getElem? (i := 3) (by decide +kernel)))) (Or.inl rfl) rfl rfl dX6_findFault_7 (fun H locs hW => ?_)
  obtain ⟨V_2, eV_2⟩ : ∃ z : mV, z = mU V_1 1 6 (-1) := ⟨_, rfl⟩
  rw [← eV_2] at hW
  refine lv_aload_n hx hb dX6_findFault_10 rfl (lv_at hl 0 rfl) ?_
  refine lv_iconst (v := nI 0) hx hb dX6_findFault_11 (by decide) ?_
  refine m_puti S hW h1 8 rfl kX6 (iW6 _) tyX6 tyX6_ok nmX6 (by decide) (List.mem_cons_of_mem _ (wa_6 _ (List.mem_of_getElem? (i := 4) (by decide +kernel)))) (Or.inl rfl) rfl rfl dX6_findFault_12 (fun H locs hW => ?_)
  obtain ⟨V_3, eV_3⟩ : ∃ z : mV, z = mU V_2 1 8 (nI 0) := ⟨_, rfl⟩
  rw [← eV_3] at hW
  have hT0 : TpOk sh V_3 sz B (0, tk, ta, nm, -1, []) := by
    rw [eV_3, eV_2, eV_1]
    exact ⟨⟨h1, h2, h3⟩, by rw [mU_no _ _ (by decide), mU_no _ _ (by decide), mU_no _ _ (by decide)]; exact hB, hsz4, by rw [mU_ne _ _ (by decide), mU_ne _ _ (by decide), mU_ne _ _ (by decide)]; exact hsz, ⟨by rw [mU_ne _ _ (by decide), mU_ne _ _ (by decide), mU_eq], Nat.zero_le _⟩, by rw [mU_ne _ _ (by decide), mU_ne _ _ (by decide), mU_ne _ _ (by decide)]; exact htk, ⟨by rw [mU_ne _ _ (by decide), mU_ne _ _ (by decide), mU_ne _ _ (by decide)]; exact hta, hta4⟩, by rw [mU_ne _ _ (by decide), mU_ne _ _ (by decide), mU_ne _ _ (by decide)]; exact hnu, by rw [mU_ne _ _ (by decide), mU_eq], by rw [mU_eq]; rfl, Nat.zero_le _, fun k x hx => by simp at hx⟩
  have hF0 : ∀ a, a ≠ 1 → a ≠ 3 → V_3 a = V a := fun a h1 h3 => by rw [eV_3, eV_2, eV_1, mU_no _ _ h1, mU_no _ _ h1, mU_no _ _ h1]
  have hFA := TpFr.rfl V_3
  refine lv_aload_n hx hb dX6_findFault_15 rfl (lv_at hl 0 rfl) ?_
  refine m_cv (m_rV S hW (c_X6_advance l G ad sh V_3 sz B (0, tk, ta, nm, -1, []) hT0) (cwV 0 hts (gCall [.methodLink RX6 45 yX6_advance, .instanceMethod yX6_advance, .selects RX6 yX6_advance yX6_advance, .initialized RX6] (List.forall_mem_cons.mpr ⟨(wa_6 _ (List.mem_of_getElem? (i := 11) (by decide +kernel))), (List.forall_mem_cons.mpr ⟨(wa_6 _ (List.mem_of_getElem? (i := 8) (by decide +kernel))), (List.forall_mem_cons.mpr ⟨(wa_6 _ (List.mem_of_getElem? (i := 9) (by decide +kernel))), (List.forall_mem_cons.mpr ⟨(wa_6 _ (List.mem_of_getElem? (i := 10) (by decide +kernel))), (List.forall_mem_cons.mpr ⟨(wa_1 _ (List.mem_of_getElem? (i := 14) (by decide +kernel))), (fun _ h => absurd h List.not_mem_nil)⟩)⟩)⟩)⟩)⟩)) rfl rfl rfl (by decide +kernel) ⟨by dsimp only; omega, by dsimp only; omega⟩) h1 kX6 rfl hl.1 rfl (Nat.le_of_ble_eq_true rfl) dX6_findFault_16 ⟨Nat.le_of_ble_eq_true rfl, Nat.le_of_ble_eq_true rfl⟩) hW (fun V_4 H locs hp_5 hW => ?_)
  obtain ⟨hT_7, hf_8⟩ := hp_5
  refine lv_aload_n hx hb dX6_findFault_19 rfl (lv_at hl 0 rfl) ?_
  refine lv_bipush (v := nI 8) hx hb dX6_findFault_20 (by decide) ?_
  refine m_cv (m_rV S hW (c_X6_expect l G ad sh V_4 sz B (pAdv B sz (0, tk, ta, nm, -1, [])) (nI 8) hT_7) (cwV 1 hts (gCall [.methodLink RX6 50 yX6_expect, .instanceMethod yX6_expect, .selects RX6 yX6_expect yX6_expect, .initialized RX6] (List.forall_mem_cons.mpr ⟨(wa_7 _ (List.mem_of_getElem? (i := 18) (by decide +kernel))), (List.forall_mem_cons.mpr ⟨(wa_7 _ (List.mem_of_getElem? (i := 15) (by decide +kernel))), (List.forall_mem_cons.mpr ⟨(wa_7 _ (List.mem_of_getElem? (i := 16) (by decide +kernel))), (List.forall_mem_cons.mpr ⟨(wa_7 _ (List.mem_of_getElem? (i := 17) (by decide +kernel))), (List.forall_mem_cons.mpr ⟨(wa_1 _ (List.mem_of_getElem? (i := 14) (by decide +kernel))), (fun _ h => absurd h List.not_mem_nil)⟩)⟩)⟩)⟩)⟩)) rfl rfl rfl (by decide +kernel) ⟨by dsimp only; omega, by dsimp only; omega⟩) h1 kX6 rfl hl.1 rfl (Nat.le_of_ble_eq_true rfl) dX6_findFault_22 ⟨Nat.le_of_ble_eq_true rfl, Nat.le_of_ble_eq_true rfl⟩) hW (fun V_9 H locs hp_10 hW => ?_)
  obtain ⟨hT_12, hf_13⟩ := hp_10
  refine lv_aload_n hx hb dX6_findFault_25 rfl (lv_at hl 0 rfl) ?_
  refine lv_iconst (v := nI 0) hx hb dX6_findFault_26 (by decide) ?_
  refine lv_iconst (v := nI 0) hx hb dX6_findFault_27 (by decide) ?_
  refine m_cv (m_rV S hW (IHr V_9 (pExp (nI 8) B sz (pAdv B sz (0, tk, ta, nm, -1, []))) hT_12) (cwV 2 hts (gCall [.methodLink RX6 53 yX6_readRank, .instanceMethod yX6_readRank, .selects RX6 yX6_readRank yX6_readRank, .initialized RX6] (List.forall_mem_cons.mpr ⟨(wa_8 _ (List.mem_of_getElem? (i := 2) (by decide +kernel))), (List.forall_mem_cons.mpr ⟨(wa_7 _ (List.mem_of_getElem? (i := 23) (by decide +kernel))), (List.forall_mem_cons.mpr ⟨(wa_8 _ (List.mem_of_getElem? (i := 0) (by decide +kernel))), (List.forall_mem_cons.mpr ⟨(wa_8 _ (List.mem_of_getElem? (i := 1) (by decide +kernel))), (List.forall_mem_cons.mpr ⟨(wa_1 _ (List.mem_of_getElem? (i := 14) (by decide +kernel))), (fun _ h => absurd h List.not_mem_nil)⟩)⟩)⟩)⟩)⟩)) rfl rfl rfl (by decide +kernel) ⟨by dsimp only; omega, by dsimp only; omega⟩) h1 kX6 rfl hl.1 rfl (Nat.le_of_ble_eq_true rfl) dX6_findFault_28 ⟨Nat.le_of_ble_eq_true rfl, Nat.le_of_ble_eq_true rfl⟩) hW (fun V_14 H locs hp_15 hW => ?_)
  obtain ⟨hT_17, hf_18⟩ := hp_15
  refine lv_aload_n hx hb dX6_findFault_31 rfl (lv_at hl 0 rfl) ?_
  refine lv_bipush (v := nI 59) hx hb dX6_findFault_32 (by decide) ?_
  refine m_cv (m_rV S hW (c_X6_expect l G ad sh V_14 sz B (rd (pExp (nI 8) B sz (pAdv B sz (0, tk, ta, nm, -1, [])))) (nI 59) hT_17) (cwV 1 hts (gCall [.methodLink RX6 50 yX6_expect, .instanceMethod yX6_expect, .selects RX6 yX6_expect yX6_expect, .initialized RX6] (List.forall_mem_cons.mpr ⟨(wa_7 _ (List.mem_of_getElem? (i := 18) (by decide +kernel))), (List.forall_mem_cons.mpr ⟨(wa_7 _ (List.mem_of_getElem? (i := 15) (by decide +kernel))), (List.forall_mem_cons.mpr ⟨(wa_7 _ (List.mem_of_getElem? (i := 16) (by decide +kernel))), (List.forall_mem_cons.mpr ⟨(wa_7 _ (List.mem_of_getElem? (i := 17) (by decide +kernel))), (List.forall_mem_cons.mpr ⟨(wa_1 _ (List.mem_of_getElem? (i := 14) (by decide +kernel))), (fun _ h => absurd h List.not_mem_nil)⟩)⟩)⟩)⟩)⟩)) rfl rfl rfl (by decide +kernel) ⟨by dsimp only; omega, by dsimp only; omega⟩) h1 kX6 rfl hl.1 rfl (Nat.le_of_ble_eq_true rfl) dX6_findFault_34 ⟨Nat.le_of_ble_eq_true rfl, Nat.le_of_ble_eq_true rfl⟩) hW (fun V_19 H locs hp_20 hW => ?_)
  obtain ⟨hT_22, hf_23⟩ := hp_20
  refine lv_aload_n hx hb dX6_findFault_37 rfl (lv_at hl 0 rfl) ?_
  refine lv_aload_n hx hb dX6_findFault_38 rfl (lv_at hl 0 rfl) ?_
  refine m_geti S hW h1 8 rfl kX6 (iW6 _) (by decide) (List.mem_cons_of_mem _ (wa_6 _ (List.mem_of_getElem? (i := 4) (by decide +kernel)))) dX6_findFault_39 ?_
  refine m_top (y := nI ((pExp (nI 59) B sz (rd (pExp (nI 8) B sz (pAdv B sz (0, tk, ta, nm, -1, []))))).2.2.2.2.2.length)) hT_22.sc ?_
  refine m_puti S hW h1 9 rfl kX6 (iW6 _) tyX6 tyX6_ok nmX6 (by decide) (List.mem_cons_of_mem _ (wa_6 _ (List.mem_of_getElem? (i := 5) (by decide +kernel)))) (Or.inl rfl) rfl rfl dX6_findFault_42 (fun H locs hW => ?_)
  obtain ⟨V_24, eV_24⟩ : ∃ z : mV, z = mU V_19 1 9 (nI ((pExp (nI 59) B sz (rd (pExp (nI 8) B sz (pAdv B sz (0, tk, ta, nm, -1, []))))).2.2.2.2.2.length)) := ⟨_, rfl⟩
  rw [← eV_24] at hW
  have hP1 : TpOk sh V_24 sz B (pExp (nI 59) B sz (rd (pExp (nI 8) B sz (pAdv B sz (0, tk, ta, nm, -1, []))))) := by rw [eV_24]; exact (hT_22).u9 _ (by decide)
  have hT_P1 := hP1
  have hC1 := (((hf_8).trans hf_13).trans hf_18).trans hf_23
  refine lv_aload_n hx hb dX6_findFault_45 rfl (lv_at hl 0 rfl) ?_
  refine lv_bipush (v := nI 9) hx hb dX6_findFault_46 (by decide) ?_
  refine m_cv (m_rV S hW (c_X6_expect l G ad sh V_24 sz B (pExp (nI 59) B sz (rd (pExp (nI 8) B sz (pAdv B sz (0, tk, ta, nm, -1, []))))) (nI 9) hT_P1) (cwV 1 hts (gCall [.methodLink RX6 50 yX6_expect, .instanceMethod yX6_expect, .selects RX6 yX6_expect yX6_expect, .initialized RX6] (List.forall_mem_cons.mpr ⟨(wa_7 _ (List.mem_of_getElem? (i := 18) (by decide +kernel))), (List.forall_mem_cons.mpr ⟨(wa_7 _ (List.mem_of_getElem? (i := 15) (by decide +kernel))), (List.forall_mem_cons.mpr ⟨(wa_7 _ (List.mem_of_getElem? (i := 16) (by decide +kernel))), (List.forall_mem_cons.mpr ⟨(wa_7 _ (List.mem_of_getElem? (i := 17) (by decide +kernel))), (List.forall_mem_cons.mpr ⟨(wa_1 _ (List.mem_of_getElem? (i := 14) (by decide +kernel))), (fun _ h => absurd h List.not_mem_nil)⟩)⟩)⟩)⟩)⟩)) rfl rfl rfl (by decide +kernel) ⟨by dsimp only; omega, by dsimp only; omega⟩) h1 kX6 rfl hl.1 rfl (Nat.le_of_ble_eq_true rfl) dX6_findFault_48 ⟨Nat.le_of_ble_eq_true rfl, Nat.le_of_ble_eq_true rfl⟩) hW (fun V_25 H locs hp_26 hW => ?_)
  obtain ⟨hT_28, hf_29⟩ := hp_26
  refine lv_aload_n hx hb dX6_findFault_51 rfl (lv_at hl 0 rfl) ?_
  refine lv_iconst (v := nI 0) hx hb dX6_findFault_52 (by decide) ?_
  refine lv_iconst (v := nI 0) hx hb dX6_findFault_53 (by decide) ?_
  refine m_cv (m_rV S hW (IHr V_25 (pExp (nI 9) B sz (pExp (nI 59) B sz (rd (pExp (nI 8) B sz (pAdv B sz (0, tk, ta, nm, -1, [])))))) hT_28) (cwV 2 hts (gCall [.methodLink RX6 53 yX6_readRank, .instanceMethod yX6_readRank, .selects RX6 yX6_readRank yX6_readRank, .initialized RX6] (List.forall_mem_cons.mpr ⟨(wa_8 _ (List.mem_of_getElem? (i := 2) (by decide +kernel))), (List.forall_mem_cons.mpr ⟨(wa_7 _ (List.mem_of_getElem? (i := 23) (by decide +kernel))), (List.forall_mem_cons.mpr ⟨(wa_8 _ (List.mem_of_getElem? (i := 0) (by decide +kernel))), (List.forall_mem_cons.mpr ⟨(wa_8 _ (List.mem_of_getElem? (i := 1) (by decide +kernel))), (List.forall_mem_cons.mpr ⟨(wa_1 _ (List.mem_of_getElem? (i := 14) (by decide +kernel))), (fun _ h => absurd h List.not_mem_nil)⟩)⟩)⟩)⟩)⟩)) rfl rfl rfl (by decide +kernel) ⟨by dsimp only; omega, by dsimp only; omega⟩) h1 kX6 rfl hl.1 rfl (Nat.le_of_ble_eq_true rfl) dX6_findFault_54 ⟨Nat.le_of_ble_eq_true rfl, Nat.le_of_ble_eq_true rfl⟩) hW (fun V_30 H locs hp_31 hW => ?_)
  obtain ⟨hT_33, hf_34⟩ := hp_31
  refine lv_aload_n hx hb dX6_findFault_57 rfl (lv_at hl 0 rfl) ?_
  refine lv_bipush (v := nI 59) hx hb dX6_findFault_58 (by decide) ?_
  refine m_cv (m_rV S hW (c_X6_expect l G ad sh V_30 sz B (rd (pExp (nI 9) B sz (pExp (nI 59) B sz (rd (pExp (nI 8) B sz (pAdv B sz (0, tk, ta, nm, -1, []))))))) (nI 59) hT_33) (cwV 1 hts (gCall [.methodLink RX6 50 yX6_expect, .instanceMethod yX6_expect, .selects RX6 yX6_expect yX6_expect, .initialized RX6] (List.forall_mem_cons.mpr ⟨(wa_7 _ (List.mem_of_getElem? (i := 18) (by decide +kernel))), (List.forall_mem_cons.mpr ⟨(wa_7 _ (List.mem_of_getElem? (i := 15) (by decide +kernel))), (List.forall_mem_cons.mpr ⟨(wa_7 _ (List.mem_of_getElem? (i := 16) (by decide +kernel))), (List.forall_mem_cons.mpr ⟨(wa_7 _ (List.mem_of_getElem? (i := 17) (by decide +kernel))), (List.forall_mem_cons.mpr ⟨(wa_1 _ (List.mem_of_getElem? (i := 14) (by decide +kernel))), (fun _ h => absurd h List.not_mem_nil)⟩)⟩)⟩)⟩)⟩)) rfl rfl rfl (by decide +kernel) ⟨by dsimp only; omega, by dsimp only; omega⟩) h1 kX6 rfl hl.1 rfl (Nat.le_of_ble_eq_true rfl) dX6_findFault_60 ⟨Nat.le_of_ble_eq_true rfl, Nat.le_of_ble_eq_true rfl⟩) hW (fun V_35 H locs hp_36 hW => ?_)
  obtain ⟨hT_38, hf_39⟩ := hp_36
  refine lv_aload_n hx hb dX6_findFault_63 rfl (lv_at hl 0 rfl) ?_
  refine lv_aload_n hx hb dX6_findFault_64 rfl (lv_at hl 0 rfl) ?_
  refine m_geti S hW h1 8 rfl kX6 (iW6 _) (by decide) (List.mem_cons_of_mem _ (wa_6 _ (List.mem_of_getElem? (i := 4) (by decide +kernel)))) dX6_findFault_65 ?_
  refine m_top (y := nI ((pExp (nI 59) B sz (rd (pExp (nI 9) B sz (pExp (nI 59) B sz (rd (pExp (nI 8) B sz (pAdv B sz (0, tk, ta, nm, -1, [])))))))).2.2.2.2.2.length)) hT_38.sc ?_
  refine m_puti S hW h1 10 rfl kX6 (iW6 _) tyX6 tyX6_ok nmX6 (by decide) (List.mem_cons_of_mem _ (wa_6 _ (List.mem_of_getElem? (i := 6) (by decide +kernel)))) (Or.inl rfl) rfl rfl dX6_findFault_68 (fun H locs hW => ?_)
  obtain ⟨V_40, eV_40⟩ : ∃ z : mV, z = mU V_35 1 10 (nI ((pExp (nI 59) B sz (rd (pExp (nI 9) B sz (pExp (nI 59) B sz (rd (pExp (nI 8) B sz (pAdv B sz (0, tk, ta, nm, -1, [])))))))).2.2.2.2.2.length)) := ⟨_, rfl⟩
  rw [← eV_40] at hW
  have hP2 : TpOk sh V_40 sz B (pExp (nI 59) B sz (rd (pExp (nI 9) B sz (pExp (nI 59) B sz (rd (pExp (nI 8) B sz (pAdv B sz (0, tk, ta, nm, -1, [])))))))) := by rw [eV_40]; exact (hT_38).u9 _ (by decide)
  have hT_P2 := hP2
  have hC2 := ((hf_29).trans hf_34).trans hf_39
  refine lv_aload_n hx hb dX6_findFault_71 rfl (lv_at hl 0 rfl) ?_
  refine lv_bipush (v := nI 10) hx hb dX6_findFault_72 (by decide) ?_
  refine m_cv (m_rV S hW (c_X6_expect l G ad sh V_40 sz B (pExp (nI 59) B sz (rd (pExp (nI 9) B sz (pExp (nI 59) B sz (rd (pExp (nI 8) B sz (pAdv B sz (0, tk, ta, nm, -1, [])))))))) (nI 10) hT_P2) (cwV 1 hts (gCall [.methodLink RX6 50 yX6_expect, .instanceMethod yX6_expect, .selects RX6 yX6_expect yX6_expect, .initialized RX6] (List.forall_mem_cons.mpr ⟨(wa_7 _ (List.mem_of_getElem? (i := 18) (by decide +kernel))), (List.forall_mem_cons.mpr ⟨(wa_7 _ (List.mem_of_getElem? (i := 15) (by decide +kernel))), (List.forall_mem_cons.mpr ⟨(wa_7 _ (List.mem_of_getElem? (i := 16) (by decide +kernel))), (List.forall_mem_cons.mpr ⟨(wa_7 _ (List.mem_of_getElem? (i := 17) (by decide +kernel))), (List.forall_mem_cons.mpr ⟨(wa_1 _ (List.mem_of_getElem? (i := 14) (by decide +kernel))), (fun _ h => absurd h List.not_mem_nil)⟩)⟩)⟩)⟩)⟩)) rfl rfl rfl (by decide +kernel) ⟨by dsimp only; omega, by dsimp only; omega⟩) h1 kX6 rfl hl.1 rfl (Nat.le_of_ble_eq_true rfl) dX6_findFault_74 ⟨Nat.le_of_ble_eq_true rfl, Nat.le_of_ble_eq_true rfl⟩) hW (fun V_41 H locs hp_42 hW => ?_)
  obtain ⟨hT_44, hf_45⟩ := hp_42
  refine lv_aload_n hx hb dX6_findFault_77 rfl (lv_at hl 0 rfl) ?_
  refine lv_iconst (v := nI 0) hx hb dX6_findFault_78 (by decide) ?_
  refine lv_iconst (v := nI 0) hx hb dX6_findFault_79 (by decide) ?_
  refine m_cv (m_rV S hW (IHr V_41 (pExp (nI 10) B sz (pExp (nI 59) B sz (rd (pExp (nI 9) B sz (pExp (nI 59) B sz (rd (pExp (nI 8) B sz (pAdv B sz (0, tk, ta, nm, -1, []))))))))) hT_44) (cwV 2 hts (gCall [.methodLink RX6 53 yX6_readRank, .instanceMethod yX6_readRank, .selects RX6 yX6_readRank yX6_readRank, .initialized RX6] (List.forall_mem_cons.mpr ⟨(wa_8 _ (List.mem_of_getElem? (i := 2) (by decide +kernel))), (List.forall_mem_cons.mpr ⟨(wa_7 _ (List.mem_of_getElem? (i := 23) (by decide +kernel))), (List.forall_mem_cons.mpr ⟨(wa_8 _ (List.mem_of_getElem? (i := 0) (by decide +kernel))), (List.forall_mem_cons.mpr ⟨(wa_8 _ (List.mem_of_getElem? (i := 1) (by decide +kernel))), (List.forall_mem_cons.mpr ⟨(wa_1 _ (List.mem_of_getElem? (i := 14) (by decide +kernel))), (fun _ h => absurd h List.not_mem_nil)⟩)⟩)⟩)⟩)⟩)) rfl rfl rfl (by decide +kernel) ⟨by dsimp only; omega, by dsimp only; omega⟩) h1 kX6 rfl hl.1 rfl (Nat.le_of_ble_eq_true rfl) dX6_findFault_80 ⟨Nat.le_of_ble_eq_true rfl, Nat.le_of_ble_eq_true rfl⟩) hW (fun V_46 H locs hp_47 hW => ?_)
  obtain ⟨hT_49, hf_50⟩ := hp_47
  refine lv_aload_n hx hb dX6_findFault_83 rfl (lv_at hl 0 rfl) ?_
  refine lv_bipush (v := nI 59) hx hb dX6_findFault_84 (by decide) ?_
  refine m_cv (m_rV S hW (c_X6_expect l G ad sh V_46 sz B (rd (pExp (nI 10) B sz (pExp (nI 59) B sz (rd (pExp (nI 9) B sz (pExp (nI 59) B sz (rd (pExp (nI 8) B sz (pAdv B sz (0, tk, ta, nm, -1, [])))))))))) (nI 59) hT_49) (cwV 1 hts (gCall [.methodLink RX6 50 yX6_expect, .instanceMethod yX6_expect, .selects RX6 yX6_expect yX6_expect, .initialized RX6] (List.forall_mem_cons.mpr ⟨(wa_7 _ (List.mem_of_getElem? (i := 18) (by decide +kernel))), (List.forall_mem_cons.mpr ⟨(wa_7 _ (List.mem_of_getElem? (i := 15) (by decide +kernel))), (List.forall_mem_cons.mpr ⟨(wa_7 _ (List.mem_of_getElem? (i := 16) (by decide +kernel))), (List.forall_mem_cons.mpr ⟨(wa_7 _ (List.mem_of_getElem? (i := 17) (by decide +kernel))), (List.forall_mem_cons.mpr ⟨(wa_1 _ (List.mem_of_getElem? (i := 14) (by decide +kernel))), (fun _ h => absurd h List.not_mem_nil)⟩)⟩)⟩)⟩)⟩)) rfl rfl rfl (by decide +kernel) ⟨by dsimp only; omega, by dsimp only; omega⟩) h1 kX6 rfl hl.1 rfl (Nat.le_of_ble_eq_true rfl) dX6_findFault_86 ⟨Nat.le_of_ble_eq_true rfl, Nat.le_of_ble_eq_true rfl⟩) hW (fun V_51 H locs hp_52 hW => ?_)
  obtain ⟨hT_54, hf_55⟩ := hp_52
  refine lv_aload_n hx hb dX6_findFault_89 rfl (lv_at hl 0 rfl) ?_
  refine m_geti S hW h1 3 rfl kX6 (iW6 _) (by decide) (List.mem_cons_of_mem _ (wa_6 _ (List.mem_of_getElem? (i := 7) (by decide +kernel)))) dX6_findFault_90 ?_
  refine m_top (y := (pExp (nI 59) B sz (rd (pExp (nI 10) B sz (pExp (nI 59) B sz (rd (pExp (nI 9) B sz (pExp (nI 59) B sz (rd (pExp (nI 8) B sz (pAdv B sz (0, tk, ta, nm, -1, []))))))))))).2.1) hT_54.tk ?_
  refine m_if_eq (tgt := 100) hx hb dX6_findFault_93 (by decide) (fun c_56 => ?_) (fun c_56 => ?_)
  · skip
    refine lv_aload_n hx hb dX6_findFault_100 rfl (lv_at hl 0 rfl) ?_
    refine m_geti S hW h1 6 rfl kX6 (iW6 _) (by decide) (List.mem_cons_of_mem _ (wa_6 _ (List.mem_of_getElem? (i := 3) (by decide +kernel)))) dX6_findFault_101 ?_
    refine m_top (y := (pExp (nI 59) B sz (rd (pExp (nI 10) B sz (pExp (nI 59) B sz (rd (pExp (nI 9) B sz (pExp (nI 59) B sz (rd (pExp (nI 8) B sz (pAdv B sz (0, tk, ta, nm, -1, []))))))))))).2.2.2.2.1) hT_54.ft ?_
    exact m_iret S hr hlk hW dX6_findFault_104 (by have hx : gTx rd B sz (0, tk, ta, nm, -1, []) = (pExp (nI 59) B sz (rd (pExp (nI 10) B sz (pExp (nI 59) B sz (rd (pExp (nI 9) B sz (pExp (nI 59) B sz (rd (pExp (nI 8) B sz (pAdv B sz (0, tk, ta, nm, -1, []))))))))))) := if_pos c_56; have hC3 := ((hf_45).trans hf_50).trans hf_55; rw [hx]; exact ⟨rfl, hT_54, by rw [hC3.2.2.1, eV_40, mU_ne _ _ (by decide), hC2.2.2.1, eV_24, mU_eq]; rfl, by rw [hC3.2.2.2, eV_40, mU_eq]; rfl, fun a h1 h3 => by rw [hC3.1 a h1 h3, eV_40, mU_no _ _ h1, hC2.1 a h1 h3, eV_24, mU_no _ _ h1, hC1.1 a h1 h3]; exact hF0 a h1 h3⟩)
  · skip
    refine lv_aload_n hx hb dX6_findFault_96 rfl (lv_at hl 0 rfl) ?_
    refine m_cv (m_rV S hW (c_X6_fail l G ad sh V_51 sz B (pExp (nI 59) B sz (rd (pExp (nI 10) B sz (pExp (nI 59) B sz (rd (pExp (nI 9) B sz (pExp (nI 59) B sz (rd (pExp (nI 8) B sz (pAdv B sz (0, tk, ta, nm, -1, []))))))))))) hT_54) (cwV 0 hts (gCall [.methodLink RX6 66 yX6_fail, .instanceMethod yX6_fail, .selects RX6 yX6_fail yX6_fail, .initialized RX6] (List.forall_mem_cons.mpr ⟨(wa_7 _ (List.mem_of_getElem? (i := 22) (by decide +kernel))), (List.forall_mem_cons.mpr ⟨(wa_7 _ (List.mem_of_getElem? (i := 19) (by decide +kernel))), (List.forall_mem_cons.mpr ⟨(wa_7 _ (List.mem_of_getElem? (i := 20) (by decide +kernel))), (List.forall_mem_cons.mpr ⟨(wa_7 _ (List.mem_of_getElem? (i := 21) (by decide +kernel))), (List.forall_mem_cons.mpr ⟨(wa_1 _ (List.mem_of_getElem? (i := 14) (by decide +kernel))), (fun _ h => absurd h List.not_mem_nil)⟩)⟩)⟩)⟩)⟩)) rfl rfl rfl (by decide +kernel) ⟨by dsimp only; omega, by dsimp only; omega⟩) h1 kX6 rfl hl.1 rfl (Nat.le_of_ble_eq_true rfl) dX6_findFault_97 ⟨Nat.le_of_ble_eq_true rfl, Nat.le_of_ble_eq_true rfl⟩) hW (fun V_57 H locs hp_58 hW => ?_)
    obtain ⟨hT_60, hf_61⟩ := hp_58
    refine lv_aload_n hx hb dX6_findFault_100 rfl (lv_at hl 0 rfl) ?_
    refine m_geti S hW h1 6 rfl kX6 (iW6 _) (by decide) (List.mem_cons_of_mem _ (wa_6 _ (List.mem_of_getElem? (i := 3) (by decide +kernel)))) dX6_findFault_101 ?_
    refine m_top (y := (pFail (pExp (nI 59) B sz (rd (pExp (nI 10) B sz (pExp (nI 59) B sz (rd (pExp (nI 9) B sz (pExp (nI 59) B sz (rd (pExp (nI 8) B sz (pAdv B sz (0, tk, ta, nm, -1, [])))))))))))).2.2.2.2.1) hT_60.ft ?_
    exact m_iret S hr hlk hW dX6_findFault_104 (by have hx : gTx rd B sz (0, tk, ta, nm, -1, []) = pFail (pExp (nI 59) B sz (rd (pExp (nI 10) B sz (pExp (nI 59) B sz (rd (pExp (nI 9) B sz (pExp (nI 59) B sz (rd (pExp (nI 8) B sz (pAdv B sz (0, tk, ta, nm, -1, []))))))))))) := if_neg c_56; have hC3 := (((hf_45).trans hf_50).trans hf_55).trans hf_61; rw [hx]; exact ⟨rfl, hT_60, by rw [hC3.2.2.1, eV_40, mU_ne _ _ (by decide), hC2.2.2.1, eV_24, mU_eq]; rfl, by rw [hC3.2.2.2, eV_40, mU_eq]; rfl, fun a h1 h3 => by rw [hC3.1 a h1 h3, eV_40, mU_no _ _ h1, hC2.1 a h1 h3, eV_24, mU_no _ _ h1, hC1.1 a h1 h3]; exact hF0 a h1 h3⟩)
set_option maxHeartbeats 4000000 in
set_option maxRecDepth 100000 in
theorem c_X6_add (l : Launch) (G : mG) (ad : Nat → Nat) (sh : Nat → Option mSh) (V : mV) (sz : Nat) (x : Int32) (h1 : sh 1 = some sTape) (h2 : sh 2 = some (mI 160)) (h3 : sh 3 = some (mI 160)) (hsz : V 1 1 = nI sz) (hsz4 : sz < 160) : mM l yX6_add wsX6_add ({ frames := 0, cells := 0, slots := 0, locals := 0 } : Room) G ad sh V [.ref (ad 1), .int x] 0 0 (mPv ad sh (fun V' => V' = mU (mU V 1 1 (nI (sz + 1))) 2 sz x)) := by
  refine mM.of (cc := cX6_add) (maxL := 2) (ret := none) (by decide) rfl (Nat.le_of_ble_eq_true rfl) ?_
  intro p e s m below meth c S hr hlk hnm hW ls hl
  obtain ⟨hx, hb, hml, hown, hts⟩ := id S
  have hl : lv_has ls 2 [(0, .ref (ad 1)), (1, .int x)] := hl
  have hS0 : True := trivial
  refine lv_aload_n hx hb dX6_add_0 rfl (lv_at hl 0 rfl) ?_
  refine m_geti S hW h1 1 rfl kX6 (iW6 _) (by decide) (List.mem_cons_of_mem _ (wa_5 _ (List.mem_of_getElem? (i := 21) (by decide +kernel)))) dX6_add_1 ?_
  refine m_top (y := nI sz) hsz ?_
  refine lv_sipush (v := nI 160) hx hb dX6_add_4 (by decide) ?_
  refine lv_icmp_ge (tgt := 27) hx hb dX6_add_7 (by decide) (fun c_1 => ?_) (fun c_1 => ?_)
  · skip
    have c_1 : 160 ≤ sz := (nI_leI (by omega) (by omega)).mp c_1
    exact m_vret S hr hlk hW dX6_add_27 (by exfalso; omega)
  · skip
    have c_1 : ¬ 160 ≤ sz := mt (nI_leI (by omega) (by omega)).mpr c_1
    refine lv_aload_n hx hb dX6_add_10 rfl (lv_at hl 0 rfl) ?_
    refine m_getr S hW h1 0 rfl (j := 2) rfl kX6 (iW6 _) (by decide) (List.mem_cons_of_mem _ (wa_2 _ (List.mem_of_getElem? (i := 20) (by decide +kernel)))) dX6_add_11 ?_
    refine lv_aload_n hx hb dX6_add_14 rfl (lv_at hl 0 rfl) ?_
    refine lv_dup hx hb dX6_add_15 rfl ?_
    refine m_geti S hW h1 1 rfl kX6 (iW6 _) (by decide) (List.mem_cons_of_mem _ (wa_5 _ (List.mem_of_getElem? (i := 21) (by decide +kernel)))) dX6_add_16 ?_
    refine m_top (y := nI sz) hsz ?_
    refine lv_dup_x1 hx hb dX6_add_19 rfl rfl ?_
    refine lv_iconst (v := nI 1) hx hb dX6_add_20 (by decide) ?_
    refine lv_iadd hx hb dX6_add_21 ?_
    refine m_top (y := nI (sz + 1)) (nI_add sz 1) ?_
    refine m_puti S hW h1 1 rfl kX6 (iW6 _) tyX6 tyX6_ok nmX6 (by decide) (List.mem_cons_of_mem _ (wa_5 _ (List.mem_of_getElem? (i := 21) (by decide +kernel)))) (Or.inl rfl) rfl rfl dX6_add_22 (fun H locs hW => ?_)
    obtain ⟨V_2, eV_2⟩ : ∃ z : mV, z = mU V 1 1 (nI (sz + 1)) := ⟨_, rfl⟩
    rw [← eV_2] at hW
    refine lv_iload_n hx hb dX6_add_25 rfl (lv_at hl 1 rfl) ?_
    refine m_iast S hW h2 sz rfl (by omega) (by decide) dX6_add_26 (fun H locs hW => ?_)
    obtain ⟨V_3, eV_3⟩ : ∃ z : mV, z = mU V_2 2 sz (x) := ⟨_, rfl⟩
    rw [← eV_3] at hW
    exact m_vret S hr hlk hW dX6_add_27 (by rw [eV_3, eV_2])
