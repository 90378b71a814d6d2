/-! scenes: counts, copies -/
/-- the first n eaters of scene b2 come to scene b -/
def fBecE (V : mV) (b b2 n : Nat) : mV := fun a k => if b + 4 ≤ a ∧ a < b + 4 + n ∧ k < 5 then V (a - b + b2) k else V a k
/-- the first n goods -/
def fBecG (V : mV) (b b2 n : Nat) : mV := fun a k => if b + 10 ≤ a ∧ a < b + 10 + 2 * n ∧ (((a - b) % 2 = 0 ∧ (k = 1 ∨ k = 2)) ∨ ((a - b) % 2 = 1 ∧ k < 10)) then V (a - b + b2) k else V a k
def fBec (V : mV) (b b2 ne ng : Nat) : mV := mU (mU (mU (mU (fBecG (fBecE V b b2 ne) b b2 ng) b 2 (V b2 2)) b 3 (V b2 3)) b 4 (V b2 4)) b 5 (V b2 5)
theorem fBecE_0 (V : mV) (b b2 : Nat) : V = fBecE V b b2 0 := by
  funext a k
  rw [fBecE, if_neg (by omega)]
theorem fBecE_s (V : mV) (b b2 n : Nat) (h : b + 24 ≤ b2 ∨ b2 + 24 ≤ b) (hn : n < 5) : mCp (fBecE V b b2 n) (b + 4 + n) (b2 + 4 + n) 5 = fBecE V b b2 (n + 1) := by
  funext a k
  simp only [mCp]
  by_cases h1 : a = b + 4 + n ∧ k < 5
  · obtain ⟨rfl, hk⟩ := h1
    rw [if_pos ⟨rfl, hk⟩, fBecE, if_neg (by omega), fBecE, if_pos (by omega)]
    congr 1
    omega
  · rw [if_neg h1]
    simp only [fBecE]
    by_cases h2 : b + 4 ≤ a ∧ a < b + 4 + n ∧ k < 5
    · rw [if_pos h2, if_pos (by omega)]
    · rw [if_neg h2, if_neg (by omega)]
theorem fBecG_0 (V : mV) (b b2 : Nat) : V = fBecG V b b2 0 := by
  funext a k
  rw [fBecG, if_neg (by omega)]
theorem fBecG_s (V : mV) (b b2 n : Nat) (h : b + 24 ≤ b2 ∨ b2 + 24 ≤ b) (hn : n < 6) : mU (mU (mCpy (fBecG V b b2 n) (b2 + 10 + 2 * n + 1) 0 (b + 10 + 2 * n + 1) 0 10) (b + 10 + 2 * n) 1 (fBecG V b b2 n (b2 + 10 + 2 * n) 1)) (b + 10 + 2 * n) 2 (fBecG V b b2 n (b2 + 10 + 2 * n) 2) = fBecG V b b2 (n + 1) := by
  have o1 : ∀ k, fBecG V b b2 n (b2 + 10 + 2 * n) k = V (b2 + 10 + 2 * n) k := fun k => by rw [fBecG, if_neg (by omega)]
  have o2 : ∀ k, fBecG V b b2 n (b2 + 10 + 2 * n + 1) k = V (b2 + 10 + 2 * n + 1) k := fun k => by rw [fBecG, if_neg (by omega)]
  funext a k
  rw [o1, o1]
  simp only [mU, mCpy]
  by_cases h2 : a = b + 10 + 2 * n ∧ k = 2
  · obtain ⟨rfl, rfl⟩ := h2
    rw [if_pos ⟨rfl, rfl⟩, fBecG, if_pos (by omega)]
    congr 1
    omega
  · rw [if_neg h2]
    by_cases h1 : a = b + 10 + 2 * n ∧ k = 1
    · obtain ⟨rfl, rfl⟩ := h1
      rw [if_pos ⟨rfl, rfl⟩, fBecG, if_pos (by omega)]
      congr 1
      omega
    · rw [if_neg h1]
      by_cases h3 : a = b + 10 + 2 * n + 1 ∧ 0 ≤ k ∧ k < 0 + 10
      · rw [if_pos h3, o2, fBecG, if_pos (by omega)]
        rw [show 0 + (k - 0) = k by omega]
        congr 1
        omega
      · rw [if_neg h3]
        simp only [fBecG]
        by_cases h4 : b + 10 ≤ a ∧ a < b + 10 + 2 * n ∧ (((a - b) % 2 = 0 ∧ (k = 1 ∨ k = 2)) ∨ ((a - b) % 2 = 1 ∧ k < 10))
        · rw [if_pos h4, if_pos (by omega)]
        · rw [if_neg h4, if_neg (by omega)]
set_option maxHeartbeats 4000000 in
set_option maxRecDepth 100000 in
theorem c_X4_goodOfBest_n (l : Launch) (G : mG) (ad : Nat → Nat) (sh : Nat → Option mSh) (V : mV) (b t ta tb tl ne ng : Nat) (hSc : ScOk sh b) (hI : ScI V b t ta tb tl ne ng) (hb6 : V b 6 = -1) : mM l yX4_goodOfBest wsX4_goodOfBest ({ frames := 2, cells := 0, slots := 0, locals := 43 } : Room) G ad sh V [.ref (ad b)] 0 0 (mPrp ad sh V (fun r => none = r)) := by
  refine mM.of (cc := cX4_goodOfBest) (maxL := 1) (ret := (some (.object "BiteFirst$Good"))) (by decide) rfl (Nat.le_of_ble_eq_true rfl) ?_
  intro p e s m below meth c S hr hlk hnm hW ls hl
  obtain ⟨hx, hb, hml, hown, hts⟩ := id S
  have hl : lv_has ls 1 [(0, .ref (ad b))] := hl
  have hS0 : True := trivial
  refine lv_aload_n hx hb dX4_goodOfBest_0 rfl (lv_at hl 0 rfl) ?_
  refine m_geti S hW hSc.1 6 rfl kX4 (iW4 _) (by decide) (List.mem_cons_of_mem _ (wa_28 _ (List.mem_of_getElem? (i := 22) (by decide +kernel)))) dX4_goodOfBest_1 ?_
  refine m_top (y := -1) hb6 ?_
  refine lv_iconst (v := -1) hx hb dX4_goodOfBest_4 (by decide) ?_
  refine lv_icmp_ne (tgt := 12) hx hb dX4_goodOfBest_5 (by decide) (fun c_1 => ?_) (fun c_1 => ?_)
  · exact absurd c_1 (by decide)
  · skip
    refine lv_null hx hb dX4_goodOfBest_8 ?_
    refine lv_goto (tgt := 23) hx hb dX4_goodOfBest_9 (by decide) ?_
    refine W.eq (g2 := F0 m 23 ls [va_rf (Option.map ad (none))]) rfl ?_
    exact m_aret S hr hlk hW dX4_goodOfBest_23 ⟨rfl, (by rfl)⟩
set_option maxHeartbeats 4000000 in
set_option maxRecDepth 100000 in
theorem c_X4_goodOfBest (l : Launch) (G : mG) (ad : Nat → Nat) (sh : Nat → Option mSh) (V : mV) (b t ta tb tl ne ng gg pp : Nat) (hSc : ScOk sh b) (hI : ScI V b t ta tb tl ne ng) (hb6 : V b 6 = nI (100 * gg + pp)) (hgg : gg < ng) (hpp : pp < 16) : mM l yX4_goodOfBest wsX4_goodOfBest ({ frames := 2, cells := 0, slots := 0, locals := 43 } : Room) G ad sh V [.ref (ad b)] 0 0 (mPrp ad sh V (fun r => some (b + 10 + 2 * gg) = r)) := by
  refine mM.of (cc := cX4_goodOfBest) (maxL := 1) (ret := (some (.object "BiteFirst$Good"))) (by decide) rfl (Nat.le_of_ble_eq_true rfl) ?_
  intro p e s m below meth c S hr hlk hnm hW ls hl
  obtain ⟨hx, hb, hml, hown, hts⟩ := id S
  have hl : lv_has ls 1 [(0, .ref (ad b))] := hl
  have hS0 : True := trivial
  have hng6 := hI.2.2.2.1
  refine lv_aload_n hx hb dX4_goodOfBest_0 rfl (lv_at hl 0 rfl) ?_
  refine m_geti S hW hSc.1 6 rfl kX4 (iW4 _) (by decide) (List.mem_cons_of_mem _ (wa_28 _ (List.mem_of_getElem? (i := 22) (by decide +kernel)))) dX4_goodOfBest_1 ?_
  refine m_top (y := nI (100 * gg + pp)) hb6 ?_
  refine lv_iconst (v := -1) hx hb dX4_goodOfBest_4 (by decide) ?_
  refine lv_icmp_ne (tgt := 12) hx hb dX4_goodOfBest_5 (by decide) (fun c_1 => ?_) (fun c_1 => ?_)
  · skip
    refine lv_aload_n hx hb dX4_goodOfBest_12 rfl (lv_at hl 0 rfl) ?_
    refine lv_aload_n hx hb dX4_goodOfBest_13 rfl (lv_at hl 0 rfl) ?_
    refine m_geti S hW hSc.1 6 rfl kX4 (iW4 _) (by decide) (List.mem_cons_of_mem _ (wa_28 _ (List.mem_of_getElem? (i := 22) (by decide +kernel)))) dX4_goodOfBest_14 ?_
    refine m_top (y := nI (100 * gg + pp)) hb6 ?_
    refine lv_bipush (v := nI 100) hx hb dX4_goodOfBest_17 (by decide) ?_
    refine lv_idiv hx hb dX4_goodOfBest_19 (by decide) ?_
    refine m_top (y := nI ((100 * gg + pp) / 100)) (pk_div (by omega) (by omega) (by omega)) ?_
    refine m_crp (m_rV S hW (c_X4_goodAt l G ad sh V b t ta tb tl ne ng (nI ((100 * gg + pp) / 100)) hSc (by first | assumption | omega)) (cwV 1 hts (gCall [.methodLink RX4 131 yX4_goodAt, .instanceMethod yX4_goodAt, .selects RX4 yX4_goodAt yX4_goodAt, .initialized RX4] (List.forall_mem_cons.mpr ⟨(wa_17 _ (List.mem_of_getElem? (i := 13) (by decide +kernel))), (List.forall_mem_cons.mpr ⟨(wa_31 _ (List.mem_of_getElem? (i := 15) (by decide +kernel))), (List.forall_mem_cons.mpr ⟨(wa_17 _ (List.mem_of_getElem? (i := 11) (by decide +kernel))), (List.forall_mem_cons.mpr ⟨(wa_17 _ (List.mem_of_getElem? (i := 12) (by decide +kernel))), (List.forall_mem_cons.mpr ⟨(wa_2 _ (List.mem_of_getElem? (i := 7) (by decide +kernel))), (fun _ h => absurd h List.not_mem_nil)⟩)⟩)⟩)⟩)⟩)) rfl rfl rfl (by decide +kernel) ⟨Nat.le_of_ble_eq_true rfl, Nat.le_of_ble_eq_true rfl⟩) hSc.1 kX4 rfl hl.1 rfl (Nat.le_of_ble_eq_true rfl) dX4_goodOfBest_20 ⟨Nat.le_of_ble_eq_true rfl, Nat.le_of_ble_eq_true rfl⟩) hW (fun r_3 H locs hp_2 hW => ?_)
    rcases hp_2 with ⟨n_4, rfl, hxn_5, hn_6⟩ | ⟨rfl, hx0_7⟩
    · skip
      refine W.eq (g2 := F0 m 23 ls [.ref (ad (b + 10 + 2 * n_4))]) rfl ?_
      refine W.eq (g2 := F0 m 23 ls [va_rf (Option.map ad (some (b + 10 + 2 * n_4)))]) rfl ?_
      exact m_aret S hr hlk hW dX4_goodOfBest_23 ⟨rfl, (by have hq := (nI_eq (by omega) (by omega)).mp hxn_5; rw [show n_4 = gg by omega])⟩
    · skip
      refine W.eq (g2 := F0 m 23 ls [.null]) rfl ?_
      refine W.eq (g2 := F0 m 23 ls [va_rf (Option.map ad (none))]) rfl ?_
      exact m_aret S hr hlk hW dX4_goodOfBest_23 ⟨rfl, (by exfalso; exact hx0_7 ((mIn_nI (by omega)).mpr ⟨by omega, by omega⟩))⟩
  · exact absurd c_1 (m_nneg (by omega))
set_option maxHeartbeats 4000000 in
set_option maxRecDepth 100000 in
theorem c_X4_placeOfBest (l : Launch) (G : mG) (ad : Nat → Nat) (sh : Nat → Option mSh) (V : mV) (b t ta tb tl ne ng gg pp : Nat) (hSc : ScOk sh b) (hI : ScI V b t ta tb tl ne ng) (hb6 : V b 6 = nI (100 * gg + pp)) (hgg : gg < ng) (hpp : pp < 16) : mM l yX4_placeOfBest wsX4_placeOfBest ({ frames := 0, cells := 0, slots := 0, locals := 0 } : Room) G ad sh V [.ref (ad b)] 0 0 (mPe ad sh V (nI pp)) := by
  refine mM.of (cc := cX4_placeOfBest) (maxL := 1) (ret := (some .int)) (by decide) rfl (Nat.le_of_ble_eq_true rfl) ?_
  intro p e s m below meth c S hr hlk hnm hW ls hl
  obtain ⟨hx, hb, hml, hown, hts⟩ := id S
  have hl : lv_has ls 1 [(0, .ref (ad b))] := hl
  have hS0 : True := trivial
  have hng6 := hI.2.2.2.1
  refine lv_aload_n hx hb dX4_placeOfBest_0 rfl (lv_at hl 0 rfl) ?_
  refine m_geti S hW hSc.1 6 rfl kX4 (iW4 _) (by decide) (List.mem_cons_of_mem _ (wa_28 _ (List.mem_of_getElem? (i := 22) (by decide +kernel)))) dX4_placeOfBest_1 ?_
  refine m_top (y := nI (100 * gg + pp)) hb6 ?_
  refine lv_bipush (v := nI 100) hx hb dX4_placeOfBest_4 (by decide) ?_
  refine lv_irem hx hb dX4_placeOfBest_6 (by decide) ?_
  refine m_top (y := nI ((100 * gg + pp) % 100)) (pk_rem (by omega) (by omega) (by omega)) ?_
  exact m_iret S hr hlk hW dX4_placeOfBest_7 ⟨rfl, (by rw [show (100 * gg + pp) % 100 = pp by omega])⟩
set_option maxHeartbeats 4000000 in
set_option maxRecDepth 100000 in
theorem c_X4_addEater (l : Launch) (G : mG) (ad : Nat → Nat) (sh : Nat → Option mSh) (V : mV) (b t ta tb tl ne ng : Nat) (x y z : Int32) (hSc : ScOk sh b) (hI : ScI V b t ta tb tl ne ng) : mM l yX4_addEater wsX4_addEater ({ frames := 1, cells := 0, slots := 0, locals := 23 } : Room) G ad sh V [.ref (ad b), .int x, .int y, .int z] 0 0 (mPi ad sh (fun r V' => (-4 = r ∧ V' = V ∧ (ne = 5)) ∨ (nI ne = r ∧ V' = mU (mU (mU (mU (mU (mU V (b + 4 + ne) 0 x) (b + 4 + ne) 1 y) (b + 4 + ne) 2 z) (b + 4 + ne) 3 (nI 100)) (b + 4 + ne) 4 (nI 0)) b 2 (nI (ne + 1)) ∧ (ne < 5)))) := by
  refine mM.of (cc := cX4_addEater) (maxL := 4) (ret := (some .int)) (by decide) rfl (Nat.le_of_ble_eq_true rfl) ?_
  intro p e s m below meth c S hr hlk hnm hW ls hl
  obtain ⟨hx, hb, hml, hown, hts⟩ := id S
  have hl : lv_has ls 4 [(0, .ref (ad b)), (1, .int x), (2, .int y), (3, .int z)] := hl
  have hS0 : True := trivial
  have hne5 := hI.2.2.1
  refine lv_aload_n hx hb dX4_addEater_0 rfl (lv_at hl 0 rfl) ?_
  refine m_geti S hW hSc.1 2 rfl kX4 (iW4 _) (by decide) (List.mem_cons_of_mem _ (wa_17 _ (List.mem_of_getElem? (i := 9) (by decide +kernel)))) dX4_addEater_1 ?_
  refine m_top (y := nI ne) hI.1 ?_
  refine lv_iconst (v := nI 5) hx hb dX4_addEater_4 (by decide) ?_
  refine lv_icmp_lt (tgt := 11) hx hb dX4_addEater_5 (by decide) (fun c_1 => ?_) (fun c_1 => ?_)
  · skip
    have c_1 : ne < 5 := (nI_ltI (by omega) (by omega)).mp c_1
    refine lv_aload_n hx hb dX4_addEater_11 rfl (lv_at hl 0 rfl) ?_
    refine m_getr S hW hSc.1 0 rfl (j := (b + 1)) rfl kX4 (iW4 _) (by decide) (List.mem_cons_of_mem _ (wa_9 _ (List.mem_of_getElem? (i := 23) (by decide +kernel)))) dX4_addEater_12 ?_
    refine lv_aload_n hx hb dX4_addEater_15 rfl (lv_at hl 0 rfl) ?_
    refine m_geti S hW hSc.1 2 rfl kX4 (iW4 _) (by decide) (List.mem_cons_of_mem _ (wa_17 _ (List.mem_of_getElem? (i := 9) (by decide +kernel)))) dX4_addEater_16 ?_
    refine m_top (y := nI ne) hI.1 ?_
    refine m_aald S hW 1 rfl hSc.2.1 ne rfl (by omega) (by decide) (j := (b + 4 + ne)) (if_pos (by omega)) dX4_addEater_19 ?_
    refine lv_iload_n hx hb dX4_addEater_20 rfl (lv_at hl 1 rfl) ?_
    refine lv_iload_n hx hb dX4_addEater_21 rfl (lv_at hl 2 rfl) ?_
    refine lv_iload_n hx hb dX4_addEater_22 rfl (lv_at hl 3 rfl) ?_
    refine m_cv (m_rV S hW (c_X1_come l G ad sh V (b + 4 + ne) x y z (hSc.2.2.2.2.1 ne (by omega))) (cwV 3 hts (gCall [.methodLink RX4 54 yX1_come, .instanceMethod yX1_come, .selects RX1 yX1_come yX1_come, .initialized RX1] (List.forall_mem_cons.mpr ⟨(wa_22 _ (List.mem_of_getElem? (i := 21) (by decide +kernel))), (List.forall_mem_cons.mpr ⟨(wa_22 _ (List.mem_of_getElem? (i := 18) (by decide +kernel))), (List.forall_mem_cons.mpr ⟨(wa_22 _ (List.mem_of_getElem? (i := 19) (by decide +kernel))), (List.forall_mem_cons.mpr ⟨(wa_22 _ (List.mem_of_getElem? (i := 20) (by decide +kernel))), (List.forall_mem_cons.mpr ⟨(wa_3 _ (List.mem_of_getElem? (i := 3) (by decide +kernel))), (fun _ h => absurd h List.not_mem_nil)⟩)⟩)⟩)⟩)⟩)) rfl rfl rfl (by decide +kernel) ⟨Nat.le_of_ble_eq_true rfl, Nat.le_of_ble_eq_true rfl⟩) (hSc.2.2.2.2.1 ne (by omega)) kX1 rfl hl.1 rfl (Nat.le_of_ble_eq_true rfl) dX4_addEater_23 ⟨Nat.le_of_ble_eq_true rfl, Nat.le_of_ble_eq_true rfl⟩) hW (fun V_2 H locs hp_3 hW => ?_)
    have eV_2 : V_2 = mU (mU (mU (mU (mU V (b + 4 + ne) 0 x) (b + 4 + ne) 1 y) (b + 4 + ne) 2 z) (b + 4 + ne) 3 (nI 100)) (b + 4 + ne) 4 (nI 0) := hp_3
    refine lv_aload_n hx hb dX4_addEater_26 rfl (lv_at hl 0 rfl) ?_
    refine lv_dup hx hb dX4_addEater_27 rfl ?_
    refine m_geti S hW hSc.1 2 rfl kX4 (iW4 _) (by decide) (List.mem_cons_of_mem _ (wa_17 _ (List.mem_of_getElem? (i := 9) (by decide +kernel)))) dX4_addEater_28 ?_
    refine m_top (y := nI ne) (by rw [eV_2]; simp only [mU_no _ _ (show b ≠ b + 4 + ne by omega)]; exact hI.1) ?_
    refine lv_dup_x1 hx hb dX4_addEater_31 rfl rfl ?_
    refine lv_iconst (v := nI 1) hx hb dX4_addEater_32 (by decide) ?_
    refine lv_iadd hx hb dX4_addEater_33 ?_
    refine m_top (y := nI (ne + 1)) (nI_add ne 1) ?_
    refine m_puti S hW hSc.1 2 rfl kX4 (iW4 _) tyX4 tyX4_ok nmX4 (by decide) (List.mem_cons_of_mem _ (wa_17 _ (List.mem_of_getElem? (i := 9) (by decide +kernel)))) (Or.inl rfl) rfl rfl dX4_addEater_34 (fun H locs hW => ?_)
    obtain ⟨V_5, eV_5⟩ : ∃ z : mV, z = mU V_2 b 2 (nI (ne + 1)) := ⟨_, rfl⟩
    rw [← eV_5] at hW
    exact m_iret S hr hlk hW dX4_addEater_37 (by exact Or.inr ⟨rfl, by rw [eV_5, eV_2], by omega⟩)
  · skip
    have c_1 : ¬ ne < 5 := mt (nI_ltI (by omega) (by omega)).mpr c_1
    refine lv_bipush (v := -4) hx hb dX4_addEater_8 (by decide) ?_
    exact m_iret S hr hlk hW dX4_addEater_10 (by exact Or.inl ⟨rfl, rfl, by omega⟩)
set_option maxHeartbeats 4000000 in
set_option maxRecDepth 100000 in
theorem c_X4_addGood (l : Launch) (G : mG) (ad : Nat → Nat) (sh : Nat → Option mSh) (V : mV) (b t ta tb tl ne ng : Nat) (x y : Int32) (hSc : ScOk sh b) (hI : ScI V b t ta tb tl ne ng) : mM l yX4_addGood wsX4_addGood ({ frames := 1, cells := 0, slots := 0, locals := 23 } : Room) G ad sh V [.ref (ad b), .int x, .int y] 0 0 (mPi ad sh (fun r V' => (-4 = r ∧ V' = V ∧ (ng = 6)) ∨ (nI ng = r ∧ V' = mU (mU (mU (mFill V (b + 10 + 2 * ng + 1) 0 10 y) (b + 10 + 2 * ng) 1 x) (b + 10 + 2 * ng) 2 (nI 1023)) b 3 (nI (ng + 1)) ∧ (ng < 6)))) := by
  refine mM.of (cc := cX4_addGood) (maxL := 3) (ret := (some .int)) (by decide) rfl (Nat.le_of_ble_eq_true rfl) ?_
  intro p e s m below meth c S hr hlk hnm hW ls hl
  obtain ⟨hx, hb, hml, hown, hts⟩ := id S
  have hl : lv_has ls 3 [(0, .ref (ad b)), (1, .int x), (2, .int y)] := hl
  have hS0 : True := trivial
  have hng6 := hI.2.2.2.1
  refine lv_aload_n hx hb dX4_addGood_0 rfl (lv_at hl 0 rfl) ?_
  refine m_geti S hW hSc.1 3 rfl kX4 (iW4 _) (by decide) (List.mem_cons_of_mem _ (wa_17 _ (List.mem_of_getElem? (i := 14) (by decide +kernel)))) dX4_addGood_1 ?_
  refine m_top (y := nI ng) hI.2.1 ?_
  refine lv_bipush (v := nI 6) hx hb dX4_addGood_4 (by decide) ?_
  refine lv_icmp_lt (tgt := 12) hx hb dX4_addGood_6 (by decide) (fun c_1 => ?_) (fun c_1 => ?_)
  · skip
    have c_1 : ng < 6 := (nI_ltI (by omega) (by omega)).mp c_1
    refine lv_aload_n hx hb dX4_addGood_12 rfl (lv_at hl 0 rfl) ?_
    refine m_getr S hW hSc.1 1 rfl (j := (b + 2)) rfl kX4 (iW4 _) (by decide) (List.mem_cons_of_mem _ (wa_10 _ (List.mem_of_getElem? (i := 1) (by decide +kernel)))) dX4_addGood_13 ?_
    refine lv_aload_n hx hb dX4_addGood_16 rfl (lv_at hl 0 rfl) ?_
    refine m_geti S hW hSc.1 3 rfl kX4 (iW4 _) (by decide) (List.mem_cons_of_mem _ (wa_17 _ (List.mem_of_getElem? (i := 14) (by decide +kernel)))) dX4_addGood_17 ?_
    refine m_top (y := nI ng) hI.2.1 ?_
    refine m_aald S hW 2 rfl hSc.2.2.1 ng rfl (by omega) (by decide) (j := (b + 10 + 2 * ng)) (if_pos (by omega)) dX4_addGood_20 ?_
    refine lv_iload_n hx hb dX4_addGood_21 rfl (lv_at hl 1 rfl) ?_
    refine lv_iload_n hx hb dX4_addGood_22 rfl (lv_at hl 2 rfl) ?_
    refine m_cv (m_rV S hW (c_X3_come l G ad sh V (b + 10 + 2 * ng) x y (hSc.2.2.2.2.2.1 ng (by omega)) (hSc.2.2.2.2.2.2 ng (by omega))) (cwV 2 hts (gCall [.methodLink RX4 58 yX3_come, .instanceMethod yX3_come, .selects RX3 yX3_come yX3_come, .initialized RX3] (List.forall_mem_cons.mpr ⟨(wa_20 _ (List.mem_of_getElem? (i := 20) (by decide +kernel))), (List.forall_mem_cons.mpr ⟨(wa_20 _ (List.mem_of_getElem? (i := 17) (by decide +kernel))), (List.forall_mem_cons.mpr ⟨(wa_20 _ (List.mem_of_getElem? (i := 18) (by decide +kernel))), (List.forall_mem_cons.mpr ⟨(wa_20 _ (List.mem_of_getElem? (i := 19) (by decide +kernel))), (List.forall_mem_cons.mpr ⟨(wa_10 _ (List.mem_of_getElem? (i := 5) (by decide +kernel))), (fun _ h => absurd h List.not_mem_nil)⟩)⟩)⟩)⟩)⟩)) rfl rfl rfl (by decide +kernel) ⟨Nat.le_of_ble_eq_true rfl, Nat.le_of_ble_eq_true rfl⟩) (hSc.2.2.2.2.2.1 ng (by omega)) kX3 rfl hl.1 rfl (Nat.le_of_ble_eq_true rfl) dX4_addGood_23 ⟨Nat.le_of_ble_eq_true rfl, Nat.le_of_ble_eq_true rfl⟩) hW (fun V_2 H locs hp_3 hW => ?_)
    have eV_2 : V_2 = mU (mU (mFill V ((b + 10 + 2 * ng) + 1) 0 10 y) (b + 10 + 2 * ng) 1 x) (b + 10 + 2 * ng) 2 (nI 1023) := hp_3
    refine lv_aload_n hx hb dX4_addGood_26 rfl (lv_at hl 0 rfl) ?_
    refine lv_dup hx hb dX4_addGood_27 rfl ?_
    refine m_geti S hW hSc.1 3 rfl kX4 (iW4 _) (by decide) (List.mem_cons_of_mem _ (wa_17 _ (List.mem_of_getElem? (i := 14) (by decide +kernel)))) dX4_addGood_28 ?_
    refine m_top (y := nI ng) (by rw [eV_2]; rw [mU_no _ _ (show b ≠ b + 10 + 2 * ng by omega), mU_no _ _ (show b ≠ b + 10 + 2 * ng by omega), mFill_no _ _ (show b ≠ b + 10 + 2 * ng + 1 by omega)]; exact hI.2.1) ?_
    refine lv_dup_x1 hx hb dX4_addGood_31 rfl rfl ?_
    refine lv_iconst (v := nI 1) hx hb dX4_addGood_32 (by decide) ?_
    refine lv_iadd hx hb dX4_addGood_33 ?_
    refine m_top (y := nI (ng + 1)) (nI_add ng 1) ?_
    refine m_puti S hW hSc.1 3 rfl kX4 (iW4 _) tyX4 tyX4_ok nmX4 (by decide) (List.mem_cons_of_mem _ (wa_17 _ (List.mem_of_getElem? (i := 14) (by decide +kernel)))) (Or.inl rfl) rfl rfl dX4_addGood_34 (fun H locs hW => ?_)
    obtain ⟨V_5, eV_5⟩ : ∃ z : mV, z = mU V_2 b 3 (nI (ng + 1)) := ⟨_, rfl⟩
    rw [← eV_5] at hW
    exact m_iret S hr hlk hW dX4_addGood_37 (by exact Or.inr ⟨rfl, by rw [eV_5, eV_2], by omega⟩)
  · skip
    have c_1 : ¬ ng < 6 := mt (nI_ltI (by omega) (by omega)).mpr c_1
    refine lv_bipush (v := -4) hx hb dX4_addGood_9 (by decide) ?_
    exact m_iret S hr hlk hW dX4_addGood_11 (by exact Or.inl ⟨rfl, rfl, by omega⟩)
set_option maxHeartbeats 4000000 in
set_option maxRecDepth 100000 in
theorem c_X4_become (l : Launch) (G : mG) (ad : Nat → Nat) (sh : Nat → Option mSh) (V : mV) (b d ne ng : Nat) (hSc : ScOk sh b) (hSd : ScOk sh d) (hne : V d 2 = nI ne) (hng : V d 3 = nI ng) (hne5 : ne ≤ 5) (hng6 : ng ≤ 6) (hd : b + 24 ≤ d ∨ d + 24 ≤ b) (htx : sh (110 + 3 * (V d 5).toNatClampNeg) ≠ none) : mM l yX4_become wsX4_become ({ frames := 2, cells := 0, slots := 0, locals := 82 } : Room) G ad sh V [.ref (ad b), .ref (ad d)] 0 0 (mPv ad sh (fun V' => V' = fBec V b d ne ng)) := by
  refine mM.of (cc := cX4_become) (maxL := 3) (ret := none) (by decide) rfl (Nat.le_of_ble_eq_true rfl) ?_
  intro p e s m below meth c S hr hlk hnm hW ls hl
  obtain ⟨hx, hb, hml, hown, hts⟩ := id S
  have hl : lv_has ls 3 [(0, .ref (ad b)), (1, .ref (ad d))] := hl
  have hS0 : True := trivial
  refine lv_iconst (v := nI 0) hx hb dX4_become_0 (by decide) ?_
  refine lv_istore_n (lv' := [(2, .int (nI 0)), (0, .ref (ad b)), (1, .ref (ad d))]) hx hb dX4_become_1 rfl hl (by decide) rfl (fun ls hl => ?_)
  have loop_2 : ∀ (n_2 : Nat) (k : Nat) (V1 : mV) (H : Heap) (locs : List Loc) (ls : Array Slot), (k ≤ ne) → (V1 = fBecE V b d k) → (ne - k) < n_2 → mC (mA ad sh s.heap.size) s.heap s G ad sh V1 H locs → lv_has ls 3 [(0, .ref (ad b)), (1, .ref (ad d)), (2, .int (nI k))] → W p l e ({ frames := 2, cells := 0, slots := 0, locals := 82 } : Room) s m ([.ref (ad b), .ref (ad d)] : List Value).toArray below meth c H locs 0 0 (MQ below (mPost G ad sh s.heap.size (mPv ad sh (fun V' => V' = fBec V b d ne ng))) ([.ref (ad b), .ref (ad d)] : List Value).toArray s 0 0 (mA ad sh s.heap.size)) (F0 m 2 ls []) := by
    intro n_2
    induction n_2 with
    | zero => intro k V1 H locs ls hk hv hM_ hW hl; omega
    | succ n_2 ih_2 =>
      intro k V1 H locs ls hk hv hM_ hW hl
      have d2 : V1 d 2 = nI ne := by rw [hv, fBecE, if_neg (by omega)]; exact hne
      refine lv_iload_n hx hb dX4_become_2 rfl (lv_at hl 2 rfl) ?_
      refine lv_aload_n hx hb dX4_become_3 rfl (lv_at hl 1 rfl) ?_
      refine m_geti S hW hSd.1 2 rfl kX4 (iW4 _) (by decide) (List.mem_cons_of_mem _ (wa_17 _ (List.mem_of_getElem? (i := 9) (by decide +kernel)))) dX4_become_4 ?_
      refine m_top (y := nI ne) d2 ?_
      refine lv_icmp_ge (tgt := 31) hx hb dX4_become_7 (by decide) (fun c_1 => ?_) (fun c_1 => ?_)
      · skip
        have c_1 : ne ≤ k := (nI_leI (by omega) (by omega)).mp c_1
        refine lv_iconst (v := nI 0) hx hb dX4_become_31 (by decide) ?_
        refine lv_istore_n (lv' := [(2, .int (nI 0)), (0, .ref (ad b)), (1, .ref (ad d))]) hx hb dX4_become_32 rfl hl (by decide) rfl (fun ls hl => ?_)
        have loop_33 : ∀ (n_33 : Nat) (j : Nat) (V2 : mV) (H : Heap) (locs : List Loc) (ls : Array Slot), (j ≤ ng) → (V2 = fBecG (fBecE V b d ne) b d j) → (ng - j) < n_33 → mC (mA ad sh s.heap.size) s.heap s G ad sh V2 H locs → lv_has ls 3 [(0, .ref (ad b)), (1, .ref (ad d)), (2, .int (nI j))] → W p l e ({ frames := 2, cells := 0, slots := 0, locals := 82 } : Room) s m ([.ref (ad b), .ref (ad d)] : List Value).toArray below meth c H locs 0 0 (MQ below (mPost G ad sh s.heap.size (mPv ad sh (fun V' => V' = fBec V b d ne ng))) ([.ref (ad b), .ref (ad d)] : List Value).toArray s 0 0 (mA ad sh s.heap.size)) (F0 m 33 ls []) := by
          intro n_33
          induction n_33 with
          | zero => intro j V2 H locs ls hj hv2 hM_ hW hl; omega
          | succ n_33 ih_33 =>
            intro j V2 H locs ls hj hv2 hM_ hW hl
            have d3 : V2 d 3 = nI ng := by rw [hv2, fBecG, if_neg (by omega), fBecE, if_neg (by omega)]; exact hng
            refine lv_iload_n hx hb dX4_become_33 rfl (lv_at hl 2 rfl) ?_
            refine lv_aload_n hx hb dX4_become_34 rfl (lv_at hl 1 rfl) ?_
            refine m_geti S hW hSd.1 3 rfl kX4 (iW4 _) (by decide) (List.mem_cons_of_mem _ (wa_17 _ (List.mem_of_getElem? (i := 14) (by decide +kernel)))) dX4_become_35 ?_
            refine m_top (y := nI ng) d3 ?_
            refine lv_icmp_ge (tgt := 62) hx hb dX4_become_38 (by decide) (fun c_2 => ?_) (fun c_2 => ?_)
            · skip
              have c_2 : ng ≤ j := (nI_leI (by omega) (by omega)).mp c_2
              refine lv_aload_n hx hb dX4_become_62 rfl (lv_at hl 0 rfl) ?_
              refine lv_aload_n hx hb dX4_become_63 rfl (lv_at hl 1 rfl) ?_
              refine m_geti S hW hSd.1 2 rfl kX4 (iW4 _) (by decide) (List.mem_cons_of_mem _ (wa_17 _ (List.mem_of_getElem? (i := 9) (by decide +kernel)))) dX4_become_64 ?_
              refine m_top (y := V d 2) (by rw [hv2, fBecG, if_neg (by omega), fBecE, if_neg (by omega)]) ?_
              refine m_puti S hW hSc.1 2 rfl kX4 (iW4 _) tyX4 tyX4_ok nmX4 (by decide) (List.mem_cons_of_mem _ (wa_17 _ (List.mem_of_getElem? (i := 9) (by decide +kernel)))) (Or.inl rfl) rfl rfl dX4_become_67 (fun H locs hW => ?_)
              obtain ⟨V_3, eV_3⟩ : ∃ z : mV, z = mU V2 b 2 (V d 2) := ⟨_, rfl⟩
              rw [← eV_3] at hW
              refine lv_aload_n hx hb dX4_become_70 rfl (lv_at hl 0 rfl) ?_
              refine lv_aload_n hx hb dX4_become_71 rfl (lv_at hl 1 rfl) ?_
              refine m_geti S hW hSd.1 3 rfl kX4 (iW4 _) (by decide) (List.mem_cons_of_mem _ (wa_17 _ (List.mem_of_getElem? (i := 14) (by decide +kernel)))) dX4_become_72 ?_
              refine m_top (y := V d 3) (by rw [eV_3, mU_no _ _ (show d ≠ b by omega), hv2, fBecG, if_neg (by omega), fBecE, if_neg (by omega)]) ?_
              refine m_puti S hW hSc.1 3 rfl kX4 (iW4 _) tyX4 tyX4_ok nmX4 (by decide) (List.mem_cons_of_mem _ (wa_17 _ (List.mem_of_getElem? (i := 14) (by decide +kernel)))) (Or.inl rfl) rfl rfl dX4_become_75 (fun H locs hW => ?_)
              obtain ⟨V_4, eV_4⟩ : ∃ z : mV, z = mU V_3 b 3 (V d 3) := ⟨_, rfl⟩
              rw [← eV_4] at hW
              refine lv_aload_n hx hb dX4_become_78 rfl (lv_at hl 0 rfl) ?_
              refine lv_aload_n hx hb dX4_become_79 rfl (lv_at hl 1 rfl) ?_
              refine m_geti S hW hSd.1 4 rfl kX4 (iW4 _) (by decide) (List.mem_cons_of_mem _ (wa_17 _ (List.mem_of_getElem? (i := 22) (by decide +kernel)))) dX4_become_80 ?_
              refine m_top (y := V d 4) (by rw [eV_4, mU_no _ _ (show d ≠ b by omega), eV_3, mU_no _ _ (show d ≠ b by omega), hv2, fBecG, if_neg (by omega), fBecE, if_neg (by omega)]) ?_
              refine m_puti S hW hSc.1 4 rfl kX4 (iW4 _) tyX4 tyX4_ok nmX4 (by decide) (List.mem_cons_of_mem _ (wa_17 _ (List.mem_of_getElem? (i := 22) (by decide +kernel)))) (Or.inl rfl) rfl rfl dX4_become_83 (fun H locs hW => ?_)
              obtain ⟨V_5, eV_5⟩ : ∃ z : mV, z = mU V_4 b 4 (V d 4) := ⟨_, rfl⟩
              rw [← eV_5] at hW
              refine lv_aload_n hx hb dX4_become_86 rfl (lv_at hl 0 rfl) ?_
              refine lv_aload_n hx hb dX4_become_87 rfl (lv_at hl 1 rfl) ?_
              refine m_getr S hW hSd.1 5 rfl (j := (110 + 3 * (V d 5).toNatClampNeg)) (show some (110 + 3 * (V_5 d 5).toNatClampNeg) = some (110 + 3 * (V d 5).toNatClampNeg) by rw [show V_5 d 5 = V d 5 by rw [eV_5, mU_no _ _ (show d ≠ b by omega), eV_4, mU_no _ _ (show d ≠ b by omega), eV_3, mU_no _ _ (show d ≠ b by omega), hv2, fBecG, if_neg (by omega), fBecE, if_neg (by omega)]]) kX4 (iW4 _) (by decide) (List.mem_cons_of_mem _ (wa_10 _ (List.mem_of_getElem? (i := 3) (by decide +kernel)))) dX4_become_88 ?_
              refine m_putr S hW (V d 5) hSc.1 5 rfl rfl htx kX4 (iW4 _) tyX4 tyX4_ok nmX4 (by decide) (List.mem_cons_of_mem _ (wa_10 _ (List.mem_of_getElem? (i := 3) (by decide +kernel)))) (Or.inl rfl) (fun _ => rfl) (fun _ => rfl) dX4_become_91 (fun H locs hW => ?_)
              obtain ⟨V_6, eV_6⟩ : ∃ z : mV, z = mU V_5 b 5 (V d 5) := ⟨_, rfl⟩
              rw [← eV_6] at hW
              exact m_vret S hr hlk hW dX4_become_94 (by rw [eV_6, eV_5, eV_4, eV_3, hv2, show j = ng by omega]; rfl)
            · skip
              have c_2 : ¬ ng ≤ j := mt (nI_leI (by omega) (by omega)).mpr c_2
              refine lv_aload_n hx hb dX4_become_41 rfl (lv_at hl 0 rfl) ?_
              refine m_getr S hW hSc.1 1 rfl (j := (b + 2)) rfl kX4 (iW4 _) (by decide) (List.mem_cons_of_mem _ (wa_10 _ (List.mem_of_getElem? (i := 1) (by decide +kernel)))) dX4_become_42 ?_
              refine lv_iload_n hx hb dX4_become_45 rfl (lv_at hl 2 rfl) ?_
              refine m_aald S hW 2 rfl hSc.2.2.1 j rfl (by omega) (by decide) (j := (b + 10 + 2 * j)) (if_pos (by omega)) dX4_become_46 ?_
              refine lv_aload_n hx hb dX4_become_47 rfl (lv_at hl 1 rfl) ?_
              refine m_getr S hW hSd.1 1 rfl (j := (d + 2)) rfl kX4 (iW4 _) (by decide) (List.mem_cons_of_mem _ (wa_10 _ (List.mem_of_getElem? (i := 1) (by decide +kernel)))) dX4_become_48 ?_
              refine lv_iload_n hx hb dX4_become_51 rfl (lv_at hl 2 rfl) ?_
              refine m_aald S hW 2 rfl hSd.2.2.1 j rfl (by omega) (by decide) (j := (d + 10 + 2 * j)) (if_pos (by omega)) dX4_become_52 ?_
              refine m_cv (m_rV S hW (c_X3_become l G ad sh V2 (b + 10 + 2 * j) (d + 10 + 2 * j) (hSc.2.2.2.2.2.1 j (by omega)) (hSc.2.2.2.2.2.2 j (by omega)) (hSd.2.2.2.2.2.1 j (by omega)) (hSd.2.2.2.2.2.2 j (by omega)) (by first | assumption | omega) (by first | assumption | omega)) (cwV 1 hts (gCall [.methodLink RX4 44 yX3_become, .instanceMethod yX3_become, .selects RX3 yX3_become yX3_become, .initialized RX3] (List.forall_mem_cons.mpr ⟨(wa_30 _ (List.mem_of_getElem? (i := 19) (by decide +kernel))), (List.forall_mem_cons.mpr ⟨(wa_30 _ (List.mem_of_getElem? (i := 16) (by decide +kernel))), (List.forall_mem_cons.mpr ⟨(wa_30 _ (List.mem_of_getElem? (i := 17) (by decide +kernel))), (List.forall_mem_cons.mpr ⟨(wa_30 _ (List.mem_of_getElem? (i := 18) (by decide +kernel))), (List.forall_mem_cons.mpr ⟨(wa_10 _ (List.mem_of_getElem? (i := 5) (by decide +kernel))), (fun _ h => absurd h List.not_mem_nil)⟩)⟩)⟩)⟩)⟩)) rfl rfl rfl (by decide +kernel) ⟨Nat.le_of_ble_eq_true rfl, Nat.le_of_ble_eq_true rfl⟩) (hSc.2.2.2.2.2.1 j (by omega)) kX3 rfl hl.1 rfl (Nat.le_of_ble_eq_true rfl) dX4_become_53 ⟨Nat.le_of_ble_eq_true rfl, Nat.le_of_ble_eq_true rfl⟩) hW (fun V_7 H locs hp_8 hW => ?_)
              have eV_7 : V_7 = mU (mU (mCpy V2 ((d + 10 + 2 * j) + 1) 0 ((b + 10 + 2 * j) + 1) 0 10) (b + 10 + 2 * j) 1 (V2 (d + 10 + 2 * j) 1)) (b + 10 + 2 * j) 2 (V2 (d + 10 + 2 * j) 2) := hp_8
              refine lv_iinc (v := nI (j + 1)) (lv' := [(2, .int (nI (j + 1))), (0, .ref (ad b)), (1, .ref (ad d))]) hx hb dX4_become_56 hl (k := 2) rfl (m_inc j 1) (by decide) rfl (fun ls hl => ?_)
              refine lv_goto (tgt := 33) hx hb dX4_become_59 (by decide) ?_
              exact ih_33  (j + 1) V_7 _ _ _ (by omega) (by rw [eV_7, hv2]; exact fBecG_s _ _ _ _ hd (by omega)) (by omega) hW (lv_sub hl [1, 2, 0] rfl)
        exact loop_33 (ng - 0 + 1) 0 V1 _ _ _ (by omega) (by rw [hv, show k = ne by omega]; exact fBecG_0 _ _ _) (by omega) hW (lv_sub hl [1, 2, 0] rfl)
      · skip
        have c_1 : ¬ ne ≤ k := mt (nI_leI (by omega) (by omega)).mpr c_1
        refine lv_aload_n hx hb dX4_become_10 rfl (lv_at hl 0 rfl) ?_
        refine m_getr S hW hSc.1 0 rfl (j := (b + 1)) rfl kX4 (iW4 _) (by decide) (List.mem_cons_of_mem _ (wa_9 _ (List.mem_of_getElem? (i := 23) (by decide +kernel)))) dX4_become_11 ?_
        refine lv_iload_n hx hb dX4_become_14 rfl (lv_at hl 2 rfl) ?_
        refine m_aald S hW 1 rfl hSc.2.1 k rfl (by omega) (by decide) (j := (b + 4 + k)) (if_pos (by omega)) dX4_become_15 ?_
        refine lv_aload_n hx hb dX4_become_16 rfl (lv_at hl 1 rfl) ?_
        refine m_getr S hW hSd.1 0 rfl (j := (d + 1)) rfl kX4 (iW4 _) (by decide) (List.mem_cons_of_mem _ (wa_9 _ (List.mem_of_getElem? (i := 23) (by decide +kernel)))) dX4_become_17 ?_
        refine lv_iload_n hx hb dX4_become_20 rfl (lv_at hl 2 rfl) ?_
        refine m_aald S hW 1 rfl hSd.2.1 k rfl (by omega) (by decide) (j := (d + 4 + k)) (if_pos (by omega)) dX4_become_21 ?_
        refine m_cv (m_rV S hW (c_X1_become l G ad sh V1 (b + 4 + k) (d + 4 + k) (hSc.2.2.2.2.1 k (by omega)) (hSd.2.2.2.2.1 k (by omega))) (cwV 1 hts (gCall [.methodLink RX4 37 yX1_become, .instanceMethod yX1_become, .selects RX1 yX1_become yX1_become, .initialized RX1] (List.forall_mem_cons.mpr ⟨(wa_30 _ (List.mem_of_getElem? (i := 15) (by decide +kernel))), (List.forall_mem_cons.mpr ⟨(wa_30 _ (List.mem_of_getElem? (i := 12) (by decide +kernel))), (List.forall_mem_cons.mpr ⟨(wa_30 _ (List.mem_of_getElem? (i := 13) (by decide +kernel))), (List.forall_mem_cons.mpr ⟨(wa_30 _ (List.mem_of_getElem? (i := 14) (by decide +kernel))), (List.forall_mem_cons.mpr ⟨(wa_3 _ (List.mem_of_getElem? (i := 3) (by decide +kernel))), (fun _ h => absurd h List.not_mem_nil)⟩)⟩)⟩)⟩)⟩)) rfl rfl rfl (by decide +kernel) ⟨Nat.le_of_ble_eq_true rfl, Nat.le_of_ble_eq_true rfl⟩) (hSc.2.2.2.2.1 k (by omega)) kX1 rfl hl.1 rfl (Nat.le_of_ble_eq_true rfl) dX4_become_22 ⟨Nat.le_of_ble_eq_true rfl, Nat.le_of_ble_eq_true rfl⟩) hW (fun V_10 H locs hp_11 hW => ?_)
        have eV_10 : V_10 = mCp V1 (b + 4 + k) (d + 4 + k) 5 := hp_11
        refine lv_iinc (v := nI (k + 1)) (lv' := [(2, .int (nI (k + 1))), (0, .ref (ad b)), (1, .ref (ad d))]) hx hb dX4_become_25 hl (k := 2) rfl (m_inc k 1) (by decide) rfl (fun ls hl => ?_)
        refine lv_goto (tgt := 2) hx hb dX4_become_28 (by decide) ?_
        exact ih_2  (k + 1) V_10 _ _ _ (by omega) (by rw [eV_10, hv]; exact fBecE_s _ _ _ _ hd (by omega)) (by omega) hW (lv_sub hl [1, 2, 0] rfl)
  exact loop_2 (ne - 0 + 1) 0 V _ _ _ (by omega) (by exact fBecE_0 _ _ _) (by omega) hW (lv_sub hl [1, 2, 0] rfl)
