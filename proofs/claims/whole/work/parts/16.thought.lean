/-! thoughts -/
set_option maxHeartbeats 4000000 in
set_option maxRecDepth 100000 in
theorem c_X8_startFrom (l : Launch) (G : mG) (ad : Nat → Nat) (sh : Nat → Option mSh) (V : mV) (d ne ng : Nat) (h5 : sh 5 = some sThought) (hSc : ScOk sh 80) (hSd : ScOk sh d) (hne : V d 2 = nI ne) (hng : V d 3 = nI ng) (hne5 : ne ≤ 5) (hng6 : ng ≤ 6) (hd : 80 + 24 ≤ d ∨ d + 24 ≤ 80) (htx : sh (110 + 3 * (V d 5).toNatClampNeg) ≠ none) : mM l yX8_startFrom wsX8_startFrom ({ frames := 3, cells := 0, slots := 0, locals := 104 } : Room) G ad sh V [.ref (ad 5), .ref (ad d)] 0 0 (mPv ad sh (fun V' => V' = mU (mU (fBec V 80 d ne ng) 5 1 (-1)) 5 2 (nI 0))) := by
  refine mM.of (cc := cX8_startFrom) (maxL := 2) (ret := none) (by decide) rfl (Nat.le_of_ble_eq_true rfl) ?_
  intro p e s m below meth c S hr hlk hnm hW ls hl
  obtain ⟨hx, hb, hml, hown, hts⟩ := id S
  have hl : lv_has ls 2 [(0, .ref (ad 5)), (1, .ref (ad d))] := hl
  have hS0 : True := trivial
  refine lv_aload_n hx hb dX8_startFrom_0 rfl (lv_at hl 0 rfl) ?_
  refine m_getr S hW h5 0 rfl (j := 80) rfl kX8 (iW8 _) (by decide) (List.mem_cons_of_mem _ (wa_10 _ (List.mem_of_getElem? (i := 15) (by decide +kernel)))) dX8_startFrom_1 ?_
  refine lv_aload_n hx hb dX8_startFrom_4 rfl (lv_at hl 1 rfl) ?_
  refine m_cv (m_rV S hW (c_X4_become l G ad sh V 80 d ne ng hSc hSd (by first | assumption | omega) (by first | assumption | omega) (by first | assumption | omega) (by first | assumption | omega) (by first | assumption | omega) (by first | assumption | omega)) (cwV 1 hts (gCall [.methodLink RX8 20 yX4_become, .instanceMethod yX4_become, .selects RX4 yX4_become yX4_become, .initialized RX4] (List.forall_mem_cons.mpr ⟨(wa_30 _ (List.mem_of_getElem? (i := 11) (by decide +kernel))), (List.forall_mem_cons.mpr ⟨(wa_30 _ (List.mem_of_getElem? (i := 8) (by decide +kernel))), (List.forall_mem_cons.mpr ⟨(wa_30 _ (List.mem_of_getElem? (i := 9) (by decide +kernel))), (List.forall_mem_cons.mpr ⟨(wa_30 _ (List.mem_of_getElem? (i := 10) (by decide +kernel))), (List.forall_mem_cons.mpr ⟨(wa_2 _ (List.mem_of_getElem? (i := 7) (by decide +kernel))), (fun _ h => absurd h List.not_mem_nil)⟩)⟩)⟩)⟩)⟩)) rfl rfl rfl (by decide +kernel) ⟨Nat.le_of_ble_eq_true rfl, Nat.le_of_ble_eq_true rfl⟩) hSc.1 kX4 rfl hl.1 rfl (Nat.le_of_ble_eq_true rfl) dX8_startFrom_5 ⟨Nat.le_of_ble_eq_true rfl, Nat.le_of_ble_eq_true rfl⟩) hW (fun V_1 H locs hp_2 hW => ?_)
  have eV_1 : V_1 = fBec V 80 d ne ng := hp_2
  refine lv_aload_n hx hb dX8_startFrom_8 rfl (lv_at hl 0 rfl) ?_
  refine lv_iconst (v := -1) hx hb dX8_startFrom_9 (by decide) ?_
  refine m_puti S hW h5 1 rfl kX8 (iW8 _) tyX8 tyX8_ok nmX8 (by decide) (List.mem_cons_of_mem _ (wa_30 _ (List.mem_of_getElem? (i := 6) (by decide +kernel)))) (Or.inl rfl) rfl rfl dX8_startFrom_10 (fun H locs hW => ?_)
  obtain ⟨V_4, eV_4⟩ : ∃ z : mV, z = mU V_1 5 1 (-1) := ⟨_, rfl⟩
  rw [← eV_4] at hW
  refine lv_aload_n hx hb dX8_startFrom_13 rfl (lv_at hl 0 rfl) ?_
  refine lv_iconst (v := nI 0) hx hb dX8_startFrom_14 (by decide) ?_
  refine m_puti S hW h5 2 rfl kX8 (iW8 _) tyX8 tyX8_ok nmX8 (by decide) (List.mem_cons_of_mem _ (wa_30 _ (List.mem_of_getElem? (i := 7) (by decide +kernel)))) (Or.inl rfl) rfl rfl dX8_startFrom_15 (fun H locs hW => ?_)
  obtain ⟨V_5, eV_5⟩ : ∃ z : mV, z = mU V_4 5 2 (nI 0) := ⟨_, rfl⟩
  rw [← eV_5] at hW
  exact m_vret S hr hlk hW dX8_startFrom_18 (by simp only [eV_1, eV_4, eV_5])
