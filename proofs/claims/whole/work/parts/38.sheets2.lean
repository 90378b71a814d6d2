/-! sheets -/
theorem m_le_m1 {x : Int32} : -1 ≤ x ↔ (-1 : Int) ≤ x.toInt := by
  rw [Int32.le_iff_toInt_le]
  rfl
theorem upd_c {c c' : Nat → Int32} {n j : Nat} {x : Int32} (h : c j = c' j) : upd c n x j = upd c' n x j := by
  simp only [upd]
  split
  · rfl
  · exact h
theorem XI.setSf {sh : Nat → Option mSh} {V V' : mV} {q : Sg} (h : XI sh V q) {k : Nat} (hk : k < 4) {so : Int32} {n : Nat} {c : Nat → Int32} (h0 : V' (11 + k) 0 = so) (h1 : V' (11 + k) 1 = nI n) (hn4 : n ≤ 40) (hc : ∀ j, j < 40 → V' (15 + k) j = c j) (hf : ∀ a, a ≠ 11 + k → a ≠ 15 + k → a < 80 ∨ 104 ≤ a → V' a = V a) : XI sh V' (gSetS q k (so, n, c)) := by
  -- what lies in the thought's scene doesn't count
  have h' : XI sh (fun a => if a < 80 ∨ 104 ≤ a then V a else V' a) q := h.k ⟨fun a _ _ _ _ _ _ h8 => if_pos h8, fun j _ => congrFun (if_pos (Or.inl (by omega))) j, congrFun (if_pos (Or.inl (by omega))) 0⟩
  exact h'.setS hk h0 h1 hn4 hc (fun a a1 a2 => by
    by_cases h8 : a < 80 ∨ 104 ≤ a
    · rw [if_pos h8]; exact hf a a1 a2 h8
    · rw [if_neg h8])
set_option maxHeartbeats 4000000 in
set_option maxRecDepth 100000 in
theorem c_X10_within_m (l : Launch) (G : mG) (ad : Nat → Nat) (sh : Nat → Option mSh) (V : mV) (x : Int32) (hi : Nat) (hhi : hi < 2 ^ 31) : mM l yX10_within wsX10_within ({ frames := 0, cells := 0, slots := 0, locals := 0 } : Room) G ad sh V [.int x, .int (-1), .int (nI hi)] 0 0 (mPip ad sh V (fun r => (nI 1 = r ∧ (x = -1 ∨ mIn x 0 (hi + 1))) ∨ (nI 0 = r ∧ (¬ x = -1 ∧ ¬ mIn x 0 (hi + 1))))) := by
  refine mM.of (cc := cX10_within) (maxL := 3) (ret := (some .boolean)) (by decide) rfl (Nat.le_of_ble_eq_true rfl) ?_
  intro p e s m below meth c S hr hlk hnm hW ls hl
  obtain ⟨hx, hb, hml, hown, hts⟩ := id S
  have hl : lv_has ls 3 [(0, .int x), (1, .int (-1)), (2, .int (nI hi))] := hl
  have hS0 : True := trivial
  refine lv_iload_n hx hb dX10_within_0 rfl (lv_at hl 0 rfl) ?_
  refine lv_iload_n hx hb dX10_within_1 rfl (lv_at hl 1 rfl) ?_
  refine lv_icmp_lt (tgt := 14) hx hb dX10_within_2 (by decide) (fun c_1 => ?_) (fun c_1 => ?_)
  · skip
    refine lv_iconst (v := nI 0) hx hb dX10_within_14 (by decide) ?_
    exact m_zret S hr hlk hW rfl dX10_within_15 ⟨rfl, (by have a2 := nI_toInt hhi; have a1 : (-1 : Int32).toInt = -1 := (by decide); simp only [Int32.lt_iff_toInt_lt, Int32.not_lt, Int32.le_iff_toInt_le, a1, a2] at c_1; first | exact Or.inl ⟨rfl, by simp only [← Int32.toInt_inj, a1, mIn]; omega⟩ | exact Or.inr ⟨rfl, by simp only [← Int32.toInt_inj, a1, mIn]; omega⟩)⟩
  · skip
    refine lv_iload_n hx hb dX10_within_5 rfl (lv_at hl 0 rfl) ?_
    refine lv_iload_n hx hb dX10_within_6 rfl (lv_at hl 2 rfl) ?_
    refine lv_icmp_gt (tgt := 14) hx hb dX10_within_7 (by decide) (fun c_2 => ?_) (fun c_2 => ?_)
    · skip
      refine lv_iconst (v := nI 0) hx hb dX10_within_14 (by decide) ?_
      exact m_zret S hr hlk hW rfl dX10_within_15 ⟨rfl, (by have a2 := nI_toInt hhi; have a1 : (-1 : Int32).toInt = -1 := (by decide); simp only [Int32.lt_iff_toInt_lt, Int32.not_lt, Int32.le_iff_toInt_le, a1, a2] at c_1 c_2; first | exact Or.inl ⟨rfl, by simp only [← Int32.toInt_inj, a1, mIn]; omega⟩ | exact Or.inr ⟨rfl, by simp only [← Int32.toInt_inj, a1, mIn]; omega⟩)⟩
    · skip
      refine lv_iconst (v := nI 1) hx hb dX10_within_10 (by decide) ?_
      refine lv_goto (tgt := 15) hx hb dX10_within_11 (by decide) ?_
      exact m_zret S hr hlk hW rfl dX10_within_15 ⟨rfl, (by have a2 := nI_toInt hhi; have a1 : (-1 : Int32).toInt = -1 := (by decide); simp only [Int32.lt_iff_toInt_lt, Int32.not_lt, Int32.le_iff_toInt_le, a1, a2] at c_1 c_2; first | exact Or.inl ⟨rfl, by simp only [← Int32.toInt_inj, a1, mIn]; omega⟩ | exact Or.inr ⟨rfl, by simp only [← Int32.toInt_inj, a1, mIn]; omega⟩)⟩
set_option maxHeartbeats 4000000 in
set_option maxRecDepth 100000 in
theorem c_X10_within_g (l : Launch) (G : mG) (ad : Nat → Nat) (sh : Nat → Option mSh) (V : mV) (x b : Int32) : mM l yX10_within wsX10_within ({ frames := 0, cells := 0, slots := 0, locals := 0 } : Room) G ad sh V [.int x, .int (nI 0), .int b] 0 0 (mPip ad sh V (fun r => (nI 1 = r ∧ (nI 0 ≤ x ∧ x ≤ b)) ∨ (nI 0 = r ∧ (¬ (nI 0 ≤ x ∧ x ≤ b))))) := by
  refine mM.of (cc := cX10_within) (maxL := 3) (ret := (some .boolean)) (by decide) rfl (Nat.le_of_ble_eq_true rfl) ?_
  intro p e s m below meth c S hr hlk hnm hW ls hl
  obtain ⟨hx, hb, hml, hown, hts⟩ := id S
  have hl : lv_has ls 3 [(0, .int x), (1, .int (nI 0)), (2, .int b)] := hl
  have hS0 : True := trivial
  refine lv_iload_n hx hb dX10_within_0 rfl (lv_at hl 0 rfl) ?_
  refine lv_iload_n hx hb dX10_within_1 rfl (lv_at hl 1 rfl) ?_
  refine lv_icmp_lt (tgt := 14) hx hb dX10_within_2 (by decide) (fun c_1 => ?_) (fun c_1 => ?_)
  · skip
    refine lv_iconst (v := nI 0) hx hb dX10_within_14 (by decide) ?_
    exact m_zret S hr hlk hW rfl dX10_within_15 ⟨rfl, (by simp only [Int32.lt_iff_toInt_lt, Int32.not_lt, Int32.le_iff_toInt_le] at c_1; first | exact Or.inl ⟨rfl, by simp only [Int32.le_iff_toInt_le]; omega⟩ | exact Or.inr ⟨rfl, by simp only [Int32.le_iff_toInt_le]; omega⟩)⟩
  · skip
    refine lv_iload_n hx hb dX10_within_5 rfl (lv_at hl 0 rfl) ?_
    refine lv_iload_n hx hb dX10_within_6 rfl (lv_at hl 2 rfl) ?_
    refine lv_icmp_gt (tgt := 14) hx hb dX10_within_7 (by decide) (fun c_2 => ?_) (fun c_2 => ?_)
    · skip
      refine lv_iconst (v := nI 0) hx hb dX10_within_14 (by decide) ?_
      exact m_zret S hr hlk hW rfl dX10_within_15 ⟨rfl, (by simp only [Int32.lt_iff_toInt_lt, Int32.not_lt, Int32.le_iff_toInt_le] at c_1 c_2; first | exact Or.inl ⟨rfl, by simp only [Int32.le_iff_toInt_le]; omega⟩ | exact Or.inr ⟨rfl, by simp only [Int32.le_iff_toInt_le]; omega⟩)⟩
    · skip
      refine lv_iconst (v := nI 1) hx hb dX10_within_10 (by decide) ?_
      refine lv_goto (tgt := 15) hx hb dX10_within_11 (by decide) ?_
      exact m_zret S hr hlk hW rfl dX10_within_15 ⟨rfl, (by simp only [Int32.lt_iff_toInt_lt, Int32.not_lt, Int32.le_iff_toInt_le] at c_1 c_2; first | exact Or.inl ⟨rfl, by simp only [Int32.le_iff_toInt_le]; omega⟩ | exact Or.inr ⟨rfl, by simp only [Int32.le_iff_toInt_le]; omega⟩)⟩
set_option maxHeartbeats 4000000 in
set_option maxRecDepth 100000 in
theorem c_X10_sheet (l : Launch) (G : mG) (ad : Nat → Nat) (sh : Nat → Option mSh) (V : mV) (q : Sg) (x so n : Int32) (hX : XI sh V q) : mM l yX10_sheet wsX10_sheet ({ frames := 2, cells := 0, slots := 0, locals := 43 } : Room) G ad sh V [.ref (ad 0), .int x, .int so, .int n] 0 0 (mPi ad sh (fun r V' => (aSheet q x so n) = r ∧ (XI sh V' (nSheet q x so n)) ∧ (XF V V'))) := by
  refine mM.of (cc := cX10_sheet) (maxL := 5) (ret := (some .int)) (by decide) rfl (Nat.le_of_ble_eq_true rfl) ?_
  intro p e s m below meth c S hr hlk hnm hW ls hl
  obtain ⟨hx, hb, hml, hown, hts⟩ := id S
  have hl : lv_has ls 5 [(0, .ref (ad 0)), (1, .int x), (2, .int so), (3, .int n)] := hl
  have hS0 : True := trivial
  have hne5 := hX.ne5
  have hng6 := hX.ng6
  have htn := hX.tn
  refine lv_aload_n hx hb dX10_sheet_0 rfl (lv_at hl 0 rfl) ?_
  refine lv_iload_n hx hb dX10_sheet_1 rfl (lv_at hl 1 rfl) ?_
  refine m_crp (m_rV S hW (c_X10_sheetAt l G ad sh V q x hX) (cwV 1 hts (gCall [.methodLink RX10 270 yX10_sheetAt, .instanceMethod yX10_sheetAt, .selects RX10 yX10_sheetAt yX10_sheetAt, .initialized RX10] (List.forall_mem_cons.mpr ⟨(wa_39 _ (List.mem_of_getElem? (i := 0) (by decide +kernel))), (List.forall_mem_cons.mpr ⟨(wa_38 _ (List.mem_of_getElem? (i := 21) (by decide +kernel))), (List.forall_mem_cons.mpr ⟨(wa_38 _ (List.mem_of_getElem? (i := 22) (by decide +kernel))), (List.forall_mem_cons.mpr ⟨(wa_38 _ (List.mem_of_getElem? (i := 23) (by decide +kernel))), (List.forall_mem_cons.mpr ⟨(wa_1 _ (List.mem_of_getElem? (i := 2) (by decide +kernel))), (fun _ h => absurd h List.not_mem_nil)⟩)⟩)⟩)⟩)⟩)) rfl rfl rfl (by decide +kernel) ⟨Nat.le_of_ble_eq_true rfl, Nat.le_of_ble_eq_true rfl⟩) hX.sp.1 kX10 rfl hl.1 rfl (Nat.le_of_ble_eq_true rfl) dX10_sheet_2 ⟨Nat.le_of_ble_eq_true rfl, Nat.le_of_ble_eq_true rfl⟩) hW (fun r_2 H locs hp_1 hW => ?_)
  rcases hp_1 with ⟨k_3, rfl, hxk_4, hk4_5⟩ | ⟨rfl, hx0_6⟩
  · skip
    refine W.eq (g2 := F0 m 5 ls [.ref (ad (11 + k_3))]) rfl ?_
    have hpx : mIn x 0 4 := by rw [hxk_4]; exact (mIn_nI (by omega)).mpr ⟨Nat.zero_le _, hk4_5⟩
    have hcx : x.toNatClampNeg = k_3 := by rw [hxk_4]; exact nI_clamp (by omega)
    have hsl := hX.sl hk4_5
    refine lv_astore (lv' := [(4, .ref (ad (11 + k_3))), (0, .ref (ad 0)), (1, .int x), (2, .int so), (3, .int n)]) hx hb dX10_sheet_5 hl (by decide) rfl (fun ls hl => ?_)
    refine lv_aload hx hb dX10_sheet_7 (lv_at hl 0 rfl) ?_
    refine lv_ifnull hx hb dX10_sheet_9 ?_
    refine lv_iload_n hx hb dX10_sheet_12 rfl (lv_at hl 3 rfl) ?_
    refine lv_iconst (v := -1) hx hb dX10_sheet_13 (by decide) ?_
    refine lv_iconst (v := nI 2) hx hb dX10_sheet_14 (by decide) ?_
    refine m_cip (m_rS S hW (c_X10_within_m l G ad sh V so 2 (by first | assumption | omega)) (va_cwS 3 hts (gCall [.methodLink RX10 102 yX10_within, .static yX10_within, .initialized RX10] (List.forall_mem_cons.mpr ⟨(wa_8 _ (List.mem_of_getElem? (i := 17) (by decide +kernel))), (List.forall_mem_cons.mpr ⟨(wa_15 _ (List.mem_of_getElem? (i := 8) (by decide +kernel))), (List.forall_mem_cons.mpr ⟨(wa_8 _ (List.mem_of_getElem? (i := 16) (by decide +kernel))), (List.forall_mem_cons.mpr ⟨(wa_1 _ (List.mem_of_getElem? (i := 2) (by decide +kernel))), (fun _ h => absurd h List.not_mem_nil)⟩)⟩)⟩)⟩)) rfl rfl rfl (by decide +kernel) ⟨Nat.le_of_ble_eq_true rfl, Nat.le_of_ble_eq_true rfl⟩) rfl hl.1 rfl (Nat.le_of_ble_eq_true rfl) dX10_sheet_15 ⟨Nat.le_of_ble_eq_true rfl, Nat.le_of_ble_eq_true rfl⟩) hW (fun r_8 H locs hp_7 hW => ?_)
    rcases hp_7 with ⟨rfl, w_9⟩ | ⟨rfl, w_10⟩
    · skip
      refine m_if_ne (tgt := 24) hx hb dX10_sheet_18 (by decide) (fun c_11 => ?_) (fun c_11 => ?_)
      · skip
        refine lv_iload_n hx hb dX10_sheet_24 rfl (lv_at hl 3 rfl) ?_
        refine lv_iconst (v := -1) hx hb dX10_sheet_25 (by decide) ?_
        refine lv_icmp_ne (tgt := 38) hx hb dX10_sheet_26 (by decide) (fun c_12 => ?_) (fun c_12 => ?_)
        · skip
          have hso := w_9.resolve_left c_12
          refine lv_iload_n hx hb dX10_sheet_38 rfl (lv_at hl 4 rfl) ?_
          refine lv_bipush (v := nI 40) hx hb dX10_sheet_39 (by decide) ?_
          refine lv_icmp_le (tgt := 47) hx hb dX10_sheet_41 (by decide) (fun c_13 => ?_) (fun c_13 => ?_)
          · skip
            refine lv_iload_n hx hb dX10_sheet_47 rfl (lv_at hl 4 rfl) ?_
            refine m_if_ge (tgt := 54) hx hb dX10_sheet_48 (by decide) (fun c_14 => ?_) (fun c_14 => ?_)
            · skip
              have hge := Int32.not_lt.mpr c_14
              obtain ⟨nn, hnn2, hnn⟩ := nI_of hge
              have hn40 : nn ≤ 40 := (nI_leI hnn2 (by decide)).mp (hnn ▸ c_13)
              have hcn : n.toNatClampNeg = nn := by rw [hnn]; exact nI_clamp hnn2
              refine lv_aload hx hb dX10_sheet_54 (lv_at hl 0 rfl) ?_
              refine lv_iload_n hx hb dX10_sheet_56 rfl (lv_at hl 3 rfl) ?_
              refine lv_iload_n hx hb dX10_sheet_57 rfl (lv_at hl 4 rfl) ?_
              refine m_cv (m_rV S hW (c_X5_becomeRow l G ad sh V (11 + k_3) so n ((hX.sp.2.2.2.2.2.2.1.2 k_3 hk4_5).1) (show sh (11 + k_3 + 4) = some (mI 40) by rw [show 11 + k_3 + 4 = 15 + k_3 by omega]; exact (hX.sp.2.2.2.2.2.2.1.2 k_3 hk4_5).2)) (cwV 2 hts (gCall [.methodLink RX10 294 yX5_becomeRow, .instanceMethod yX5_becomeRow, .selects RX5 yX5_becomeRow yX5_becomeRow, .initialized RX5] (List.forall_mem_cons.mpr ⟨(wa_41 _ (List.mem_of_getElem? (i := 5) (by decide +kernel))), (List.forall_mem_cons.mpr ⟨(wa_44 _ (List.mem_of_getElem? (i := 16) (by decide +kernel))), (List.forall_mem_cons.mpr ⟨(wa_41 _ (List.mem_of_getElem? (i := 3) (by decide +kernel))), (List.forall_mem_cons.mpr ⟨(wa_41 _ (List.mem_of_getElem? (i := 4) (by decide +kernel))), (List.forall_mem_cons.mpr ⟨(wa_2 _ (List.mem_of_getElem? (i := 15) (by decide +kernel))), (fun _ h => absurd h List.not_mem_nil)⟩)⟩)⟩)⟩)⟩)) rfl rfl rfl (by decide +kernel) ⟨Nat.le_of_ble_eq_true rfl, Nat.le_of_ble_eq_true rfl⟩) (hX.sp.2.2.2.2.2.2.1.2 k_3 hk4_5).1 kX5 rfl hl.1 rfl (Nat.le_of_ble_eq_true rfl) dX10_sheet_58 ⟨Nat.le_of_ble_eq_true rfl, Nat.le_of_ble_eq_true rfl⟩) hW (fun V_15 H locs hp_16 hW => ?_)
              have eV_15 : V_15 = mFill (mU (mU V (11 + k_3) 0 so) (11 + k_3) 1 n) ((11 + k_3) + 4) 0 40 (nI 0) := hp_16
              refine lv_iconst (v := nI 1) hx hb dX10_sheet_61 (by decide) ?_
              exact m_iret S hr hlk hW dX10_sheet_62 (by exact ⟨by simp only [aSheet, if_pos hpx, hcx, if_neg c_12, if_pos hso, if_pos c_13, if_neg hge, hcn], by simp only [nSheet, if_pos hpx, hcx, if_neg c_12, if_pos hso, if_pos c_13, if_neg hge, hcn]; exact hX.setS hk4_5 (by rw [eV_15, mFill_no _ _ (by omega), mU_ne _ _ (by omega), mU_eq]) (by rw [eV_15, mFill_no _ _ (by omega), mU_eq]; exact hnn) (by omega) (fun j hj => by rw [eV_15, show 15 + k_3 = 11 + k_3 + 4 by omega]; exact if_pos ⟨rfl, by omega, by omega⟩) (fun a h1 h2 => by rw [eV_15, mFill_no _ _ (by omega), mU_no _ _ h1, mU_no _ _ h1]), fun c hc => by rw [eV_15, mFill_no _ _ (by omega), mU_no _ _ (by omega), mU_no _ _ (by omega)]⟩)
            · skip
              have hlt := Int32.not_le.mp c_14
              refine lv_bipush (v := -14) hx hb dX10_sheet_51 (by decide) ?_
              exact m_iret S hr hlk hW dX10_sheet_53 (by exact ⟨by simp only [aSheet, if_pos hpx, hcx, if_neg c_12, if_pos hso, if_pos c_13, if_pos hlt]; try rfl, by simp only [nSheet, if_pos hpx, hcx, if_neg c_12, if_pos hso, if_pos c_13, if_pos hlt]; exact hX, XF.rfl V⟩)
          · skip
            refine lv_bipush (v := -2) hx hb dX10_sheet_44 (by decide) ?_
            exact m_iret S hr hlk hW dX10_sheet_46 (by exact ⟨by simp only [aSheet, if_pos hpx, hcx, if_neg c_12, if_pos hso, if_neg c_13]; try rfl, by simp only [nSheet, if_pos hpx, hcx, if_neg c_12, if_pos hso, if_neg c_13]; exact hX, XF.rfl V⟩)
        · skip
          refine lv_aload hx hb dX10_sheet_29 (lv_at hl 0 rfl) ?_
          refine lv_iconst (v := -1) hx hb dX10_sheet_31 (by decide) ?_
          refine lv_iconst (v := nI 0) hx hb dX10_sheet_32 (by decide) ?_
          refine m_cv (m_rV S hW (c_X5_becomeRow l G ad sh V (11 + k_3) (-1) (nI 0) ((hX.sp.2.2.2.2.2.2.1.2 k_3 hk4_5).1) (show sh (11 + k_3 + 4) = some (mI 40) by rw [show 11 + k_3 + 4 = 15 + k_3 by omega]; exact (hX.sp.2.2.2.2.2.2.1.2 k_3 hk4_5).2)) (cwV 2 hts (gCall [.methodLink RX10 294 yX5_becomeRow, .instanceMethod yX5_becomeRow, .selects RX5 yX5_becomeRow yX5_becomeRow, .initialized RX5] (List.forall_mem_cons.mpr ⟨(wa_41 _ (List.mem_of_getElem? (i := 5) (by decide +kernel))), (List.forall_mem_cons.mpr ⟨(wa_44 _ (List.mem_of_getElem? (i := 16) (by decide +kernel))), (List.forall_mem_cons.mpr ⟨(wa_41 _ (List.mem_of_getElem? (i := 3) (by decide +kernel))), (List.forall_mem_cons.mpr ⟨(wa_41 _ (List.mem_of_getElem? (i := 4) (by decide +kernel))), (List.forall_mem_cons.mpr ⟨(wa_2 _ (List.mem_of_getElem? (i := 15) (by decide +kernel))), (fun _ h => absurd h List.not_mem_nil)⟩)⟩)⟩)⟩)⟩)) rfl rfl rfl (by decide +kernel) ⟨Nat.le_of_ble_eq_true rfl, Nat.le_of_ble_eq_true rfl⟩) (hX.sp.2.2.2.2.2.2.1.2 k_3 hk4_5).1 kX5 rfl hl.1 rfl (Nat.le_of_ble_eq_true rfl) dX10_sheet_33 ⟨Nat.le_of_ble_eq_true rfl, Nat.le_of_ble_eq_true rfl⟩) hW (fun V_18 H locs hp_19 hW => ?_)
          have eV_18 : V_18 = mFill (mU (mU V (11 + k_3) 0 (-1)) (11 + k_3) 1 (nI 0)) ((11 + k_3) + 4) 0 40 (nI 0) := hp_19
          refine lv_iconst (v := nI 1) hx hb dX10_sheet_36 (by decide) ?_
          exact m_iret S hr hlk hW dX10_sheet_37 (by exact ⟨by simp only [aSheet, if_pos hpx, hcx, if_pos c_12], by simp only [nSheet, if_pos hpx, hcx, if_pos c_12]; exact hX.setS hk4_5 (by rw [eV_18, mFill_no _ _ (by omega), mU_ne _ _ (by omega), mU_eq]) (by rw [eV_18, mFill_no _ _ (by omega), mU_eq]) (by omega) (fun j hj => by rw [eV_18, show 15 + k_3 = 11 + k_3 + 4 by omega]; exact if_pos ⟨rfl, by omega, by omega⟩) (fun a h1 h2 => by rw [eV_18, mFill_no _ _ (by omega), mU_no _ _ h1, mU_no _ _ h1]), fun c hc => by rw [eV_18, mFill_no _ _ (by omega), mU_no _ _ (by omega), mU_no _ _ (by omega)]⟩)
      · exact absurd c_11 (by decide)
    · skip
      refine m_if_ne (tgt := 24) hx hb dX10_sheet_18 (by decide) (fun c_21 => ?_) (fun c_21 => ?_)
      · exact absurd c_21 (by decide)
      · skip
        refine lv_bipush (v := -2) hx hb dX10_sheet_21 (by decide) ?_
        exact m_iret S hr hlk hW dX10_sheet_23 (by exact ⟨by simp only [aSheet, if_pos hpx, hcx, if_neg w_10.1, if_neg w_10.2]; try rfl, by simp only [nSheet, if_pos hpx, hcx, if_neg w_10.1, if_neg w_10.2]; exact hX, XF.rfl V⟩)
  · skip
    refine W.eq (g2 := F0 m 5 ls [.null]) rfl ?_
    refine lv_astoreN (lv' := [(4, .null), (0, .ref (ad 0)), (1, .int x), (2, .int so), (3, .int n)]) hx hb dX10_sheet_5 hl (by decide) rfl (fun ls hl => ?_)
    refine lv_aloadN hx hb dX10_sheet_7 (lv_at hl 0 rfl) ?_
    refine lv_ifnullN (tgt := 21) hx hb dX10_sheet_9 (by decide) ?_
    refine lv_bipush (v := -2) hx hb dX10_sheet_21 (by decide) ?_
    exact m_iret S hr hlk hW dX10_sheet_23 (by exact ⟨by simp only [aSheet, if_neg hx0_6]; try rfl, by simp only [nSheet, if_neg hx0_6]; exact hX, XF.rfl V⟩)
set_option maxHeartbeats 4000000 in
set_option maxRecDepth 100000 in
theorem c_X10_cell (l : Launch) (G : mG) (ad : Nat → Nat) (sh : Nat → Option mSh) (V : mV) (q : Sg) (x y v : Int32) (hX : XI sh V q) : mM l yX10_cell wsX10_cell ({ frames := 2, cells := 0, slots := 0, locals := 44 } : Room) G ad sh V [.ref (ad 0), .int x, .int y, .int v] 0 0 (mPi ad sh (fun r V' => (aCell q x y v) = r ∧ (XI sh V' (nCell q x y v)) ∧ (XF V V'))) := by
  refine mM.of (cc := cX10_cell) (maxL := 5) (ret := (some .int)) (by decide) rfl (Nat.le_of_ble_eq_true rfl) ?_
  intro p e s m below meth c S hr hlk hnm hW ls hl
  obtain ⟨hx, hb, hml, hown, hts⟩ := id S
  have hl : lv_has ls 5 [(0, .ref (ad 0)), (1, .int x), (2, .int y), (3, .int v)] := hl
  have hS0 : True := trivial
  have hne5 := hX.ne5
  have hng6 := hX.ng6
  have htn := hX.tn
  refine lv_aload_n hx hb dX10_cell_0 rfl (lv_at hl 0 rfl) ?_
  refine lv_iload_n hx hb dX10_cell_1 rfl (lv_at hl 1 rfl) ?_
  refine m_crp (m_rV S hW (c_X10_sheetAt l G ad sh V q x hX) (cwV 1 hts (gCall [.methodLink RX10 270 yX10_sheetAt, .instanceMethod yX10_sheetAt, .selects RX10 yX10_sheetAt yX10_sheetAt, .initialized RX10] (List.forall_mem_cons.mpr ⟨(wa_39 _ (List.mem_of_getElem? (i := 0) (by decide +kernel))), (List.forall_mem_cons.mpr ⟨(wa_38 _ (List.mem_of_getElem? (i := 21) (by decide +kernel))), (List.forall_mem_cons.mpr ⟨(wa_38 _ (List.mem_of_getElem? (i := 22) (by decide +kernel))), (List.forall_mem_cons.mpr ⟨(wa_38 _ (List.mem_of_getElem? (i := 23) (by decide +kernel))), (List.forall_mem_cons.mpr ⟨(wa_1 _ (List.mem_of_getElem? (i := 2) (by decide +kernel))), (fun _ h => absurd h List.not_mem_nil)⟩)⟩)⟩)⟩)⟩)) rfl rfl rfl (by decide +kernel) ⟨Nat.le_of_ble_eq_true rfl, Nat.le_of_ble_eq_true rfl⟩) hX.sp.1 kX10 rfl hl.1 rfl (Nat.le_of_ble_eq_true rfl) dX10_cell_2 ⟨Nat.le_of_ble_eq_true rfl, Nat.le_of_ble_eq_true rfl⟩) hW (fun r_2 H locs hp_1 hW => ?_)
  rcases hp_1 with ⟨k_3, rfl, hxk_4, hk4_5⟩ | ⟨rfl, hx0_6⟩
  · skip
    refine W.eq (g2 := F0 m 5 ls [.ref (ad (11 + k_3))]) rfl ?_
    have hpx : mIn x 0 4 := by rw [hxk_4]; exact (mIn_nI (by omega)).mpr ⟨Nat.zero_le _, hk4_5⟩
    have hcx : x.toNatClampNeg = k_3 := by rw [hxk_4]; exact nI_clamp (by omega)
    have hsl := hX.sl hk4_5
    refine lv_astore (lv' := [(4, .ref (ad (11 + k_3))), (0, .ref (ad 0)), (1, .int x), (2, .int y), (3, .int v)]) hx hb dX10_cell_5 hl (by decide) rfl (fun ls hl => ?_)
    refine lv_aload hx hb dX10_cell_7 (lv_at hl 0 rfl) ?_
    refine lv_ifnonnull (tgt := 15) hx hb dX10_cell_9 (by decide) ?_
    refine lv_aload hx hb dX10_cell_15 (lv_at hl 0 rfl) ?_
    refine m_geti S hW (hX.sp.2.2.2.2.2.2.1.2 k_3 hk4_5).1 0 rfl kX5 (iW5 _) (by decide) (List.mem_cons_of_mem _ (wa_38 _ (List.mem_of_getElem? (i := 18) (by decide +kernel)))) dX10_cell_17 ?_
    refine m_top (y := gSo q k_3) (hX.so hk4_5) ?_
    refine lv_iconst (v := -1) hx hb dX10_cell_20 (by decide) ?_
    refine lv_icmp_ne (tgt := 27) hx hb dX10_cell_21 (by decide) (fun c_7 => ?_) (fun c_7 => ?_)
    · skip
      refine lv_iload_n hx hb dX10_cell_27 rfl (lv_at hl 3 rfl) ?_
      refine lv_iconst (v := nI 0) hx hb dX10_cell_28 (by decide) ?_
      refine lv_aload hx hb dX10_cell_29 (lv_at hl 0 rfl) ?_
      refine m_geti S hW (hX.sp.2.2.2.2.2.2.1.2 k_3 hk4_5).1 1 rfl kX5 (iW5 _) (by decide) (List.mem_cons_of_mem _ (wa_38 _ (List.mem_of_getElem? (i := 19) (by decide +kernel)))) dX10_cell_31 ?_
      refine m_top (y := nI (gSz q k_3)) (hX.ss hk4_5) ?_
      refine lv_iconst (v := nI 1) hx hb dX10_cell_34 (by decide) ?_
      refine lv_isub hx hb dX10_cell_35 ?_
      refine m_cip (m_rS S hW (c_X10_within_c l G ad sh V y ((nI (gSz q k_3)) - (nI 1)) (gSz q k_3) (by exact pk_sub_toInt (by omega) (by decide))) (va_cwS 3 hts (gCall [.methodLink RX10 102 yX10_within, .static yX10_within, .initialized RX10] (List.forall_mem_cons.mpr ⟨(wa_8 _ (List.mem_of_getElem? (i := 17) (by decide +kernel))), (List.forall_mem_cons.mpr ⟨(wa_15 _ (List.mem_of_getElem? (i := 8) (by decide +kernel))), (List.forall_mem_cons.mpr ⟨(wa_8 _ (List.mem_of_getElem? (i := 16) (by decide +kernel))), (List.forall_mem_cons.mpr ⟨(wa_1 _ (List.mem_of_getElem? (i := 2) (by decide +kernel))), (fun _ h => absurd h List.not_mem_nil)⟩)⟩)⟩)⟩)) rfl rfl rfl (by decide +kernel) ⟨Nat.le_of_ble_eq_true rfl, Nat.le_of_ble_eq_true rfl⟩) rfl hl.1 rfl (Nat.le_of_ble_eq_true rfl) dX10_cell_36 ⟨Nat.le_of_ble_eq_true rfl, Nat.le_of_ble_eq_true rfl⟩) hW (fun r_9 H locs hp_8 hW => ?_)
      rcases hp_8 with ⟨rfl, w_10⟩ | ⟨rfl, w_11⟩
      · skip
        obtain ⟨ny, hny, hwny, hlny⟩ := w_10.ex
        have hcy : y.toNatClampNeg = ny := by rw [hny]; exact nI_clamp (by omega)
        refine m_if_ne (tgt := 45) hx hb dX10_cell_39 (by decide) (fun c_12 => ?_) (fun c_12 => ?_)
        · skip
          refine lv_aload hx hb dX10_cell_45 (lv_at hl 0 rfl) ?_
          refine lv_iload_n hx hb dX10_cell_47 rfl (lv_at hl 3 rfl) ?_
          refine m_top (y := nI ny) hny ?_
          refine lv_iload_n hx hb dX10_cell_48 rfl (lv_at hl 4 rfl) ?_
          refine m_cv (m_rV S hW (c_X5_write l G ad sh V (11 + k_3) ny v ((hX.sp.2.2.2.2.2.2.1.2 k_3 hk4_5).1) (show sh (11 + k_3 + 4) = some (mI 40) by rw [show 11 + k_3 + 4 = 15 + k_3 by omega]; exact (hX.sp.2.2.2.2.2.2.1.2 k_3 hk4_5).2) (by omega)) (cwV 2 hts (gCall [.methodLink RX10 302 yX5_write, .instanceMethod yX5_write, .selects RX5 yX5_write yX5_write, .initialized RX5] (List.forall_mem_cons.mpr ⟨(wa_41 _ (List.mem_of_getElem? (i := 14) (by decide +kernel))), (List.forall_mem_cons.mpr ⟨(wa_45 _ (List.mem_of_getElem? (i := 1) (by decide +kernel))), (List.forall_mem_cons.mpr ⟨(wa_41 _ (List.mem_of_getElem? (i := 12) (by decide +kernel))), (List.forall_mem_cons.mpr ⟨(wa_41 _ (List.mem_of_getElem? (i := 13) (by decide +kernel))), (List.forall_mem_cons.mpr ⟨(wa_2 _ (List.mem_of_getElem? (i := 15) (by decide +kernel))), (fun _ h => absurd h List.not_mem_nil)⟩)⟩)⟩)⟩)⟩)) rfl rfl rfl (by decide +kernel) ⟨Nat.le_of_ble_eq_true rfl, Nat.le_of_ble_eq_true rfl⟩) (hX.sp.2.2.2.2.2.2.1.2 k_3 hk4_5).1 kX5 rfl hl.1 rfl (Nat.le_of_ble_eq_true rfl) dX10_cell_49 ⟨Nat.le_of_ble_eq_true rfl, Nat.le_of_ble_eq_true rfl⟩) hW (fun V_13 H locs hp_14 hW => ?_)
          have eV_13 : V_13 = mU V ((11 + k_3) + 4) ny (fNar (V (11 + k_3) 0) v) := hp_14
          refine lv_iconst (v := nI 1) hx hb dX10_cell_52 (by decide) ?_
          exact m_iret S hr hlk hW dX10_cell_53 (by exact ⟨by simp only [aCell, if_pos hpx, hcx, if_neg c_7, if_pos w_10, hcy], by simp only [nCell, if_pos hpx, hcx, if_neg c_7, if_pos w_10, hcy]; exact hX.setS hk4_5 (by rw [eV_13, mU_no _ _ (by omega)]; exact hX.so hk4_5) (by rw [eV_13, mU_no _ _ (by omega)]; exact hX.ss hk4_5) (hX.sl hk4_5) (fun j hj => by rw [eV_13, show 15 + k_3 = 11 + k_3 + 4 by omega, mU_row, hX.so hk4_5]; exact upd_c (hX.sc4 hk4_5 hj)) (fun a h1 h2 => by rw [eV_13, mU_no _ _ (by omega)]), fun c hc => by rw [eV_13, mU_no _ _ (by omega)]⟩)
        · exact absurd c_12 (by decide)
      · skip
        refine m_if_ne (tgt := 45) hx hb dX10_cell_39 (by decide) (fun c_16 => ?_) (fun c_16 => ?_)
        · exact absurd c_16 (by decide)
        · skip
          refine lv_bipush (v := -12) hx hb dX10_cell_42 (by decide) ?_
          exact m_iret S hr hlk hW dX10_cell_44 (by exact ⟨by simp only [aCell, if_pos hpx, hcx, if_neg c_7, if_neg w_11]; try rfl, by simp only [nCell, if_pos hpx, hcx, if_neg c_7, if_neg w_11]; exact hX, XF.rfl V⟩)
    · skip
      refine lv_bipush (v := -11) hx hb dX10_cell_24 (by decide) ?_
      exact m_iret S hr hlk hW dX10_cell_26 (by exact ⟨by simp only [aCell, if_pos hpx, hcx, if_pos c_7]; try rfl, by simp only [nCell, if_pos hpx, hcx, if_pos c_7]; exact hX, XF.rfl V⟩)
  · skip
    refine W.eq (g2 := F0 m 5 ls [.null]) rfl ?_
    refine lv_astoreN (lv' := [(4, .null), (0, .ref (ad 0)), (1, .int x), (2, .int y), (3, .int v)]) hx hb dX10_cell_5 hl (by decide) rfl (fun ls hl => ?_)
    refine lv_aloadN hx hb dX10_cell_7 (lv_at hl 0 rfl) ?_
    refine lv_ifnonnullN hx hb dX10_cell_9 ?_
    refine lv_bipush (v := -2) hx hb dX10_cell_12 (by decide) ?_
    exact m_iret S hr hlk hW dX10_cell_14 (by exact ⟨by simp only [aCell, if_neg hx0_6]; try rfl, by simp only [nCell, if_neg hx0_6]; exact hX, XF.rfl V⟩)
set_option maxHeartbeats 4000000 in
set_option maxRecDepth 100000 in
theorem c_X8_takeTurns_0 (l : Launch) (G : mG) (ad : Nat → Nat) (sh : Nat → Option mSh) (V : mV) (t ta tb tl ne ng : Nat) (ask : fAsks) (z : fZ) (i n : Nat) (hH : ThOk sh V t ta tb tl ne ng ask z) (hne0 : ne = 0) (hi : sh i = some (sSheet i)) (hi' : sh (i + 4) = some (mI 40)) (hi14 : i < 20) : mM l yX8_takeTurns wsX8_takeTurns ({ frames := 5, cells := 0, slots := 0, locals := 166 } : Room) G ad sh V [.ref (ad 5), .int (nI n), .ref (ad i)] 0 0 (mPi ad sh (fun r V' => nI 0 = r ∧ V' = mFill (mU (mU V i 0 (nI 0)) i 1 (nI 0)) (i + 4) 0 40 (nI 0))) := by
  refine mM.of (cc := cX8_takeTurns) (maxL := 7) (ret := (some .int)) (by decide) rfl (Nat.le_of_ble_eq_true rfl) ?_
  intro p e s m below meth c S hr hlk hnm hW ls hl
  obtain ⟨hx, hb, hml, hown, hts⟩ := id S
  have hl : lv_has ls 7 [(0, .ref (ad 5)), (1, .int (nI n)), (2, .ref (ad i))] := hl
  have hS0 : True := trivial
  have hk2 : V 80 2 = nI 0 := by rw [hH.2.2.1.1, hne0]
  refine lv_aload_n hx hb dX8_takeTurns_0 rfl (lv_at hl 2 rfl) ?_
  refine lv_iconst (v := nI 0) hx hb dX8_takeTurns_1 (by decide) ?_
  refine lv_iconst (v := nI 0) hx hb dX8_takeTurns_2 (by decide) ?_
  refine m_cv (m_rV S hW (c_X5_becomeRow l G ad sh V i (nI 0) (nI 0) hi hi') (cwV 2 hts (gCall [.methodLink RX8 122 yX5_becomeRow, .instanceMethod yX5_becomeRow, .selects RX5 yX5_becomeRow yX5_becomeRow, .initialized RX5] (List.forall_mem_cons.mpr ⟨(wa_41 _ (List.mem_of_getElem? (i := 5) (by decide +kernel))), (List.forall_mem_cons.mpr ⟨(wa_41 _ (List.mem_of_getElem? (i := 2) (by decide +kernel))), (List.forall_mem_cons.mpr ⟨(wa_41 _ (List.mem_of_getElem? (i := 3) (by decide +kernel))), (List.forall_mem_cons.mpr ⟨(wa_41 _ (List.mem_of_getElem? (i := 4) (by decide +kernel))), (List.forall_mem_cons.mpr ⟨(wa_2 _ (List.mem_of_getElem? (i := 15) (by decide +kernel))), (fun _ h => absurd h List.not_mem_nil)⟩)⟩)⟩)⟩)⟩)) rfl rfl rfl (by decide +kernel) ⟨Nat.le_of_ble_eq_true rfl, Nat.le_of_ble_eq_true rfl⟩) hi kX5 rfl hl.1 rfl (Nat.le_of_ble_eq_true rfl) dX8_takeTurns_3 ⟨Nat.le_of_ble_eq_true rfl, Nat.le_of_ble_eq_true rfl⟩) hW (fun V_1 H locs hp_2 hW => ?_)
  have eV_1 : V_1 = mFill (mU (mU V i 0 (nI 0)) i 1 (nI 0)) (i + 4) 0 40 (nI 0) := hp_2
  refine lv_aload_n hx hb dX8_takeTurns_6 rfl (lv_at hl 0 rfl) ?_
  refine m_getr S hW hH.1 0 rfl (j := 80) rfl kX8 (iW8 _) (by decide) (List.mem_cons_of_mem _ (wa_10 _ (List.mem_of_getElem? (i := 15) (by decide +kernel)))) dX8_takeTurns_7 ?_
  refine m_geti S hW hH.2.1.1 2 rfl kX4 (iW4 _) (by decide) (List.mem_cons_of_mem _ (wa_31 _ (List.mem_of_getElem? (i := 0) (by decide +kernel)))) dX8_takeTurns_10 ?_
  refine m_top (y := nI 0) (by rw [eV_1, mFill_no _ _ (by omega), mU_no _ _ (by omega), mU_no _ _ (by omega)]; exact hk2) ?_
  refine m_if_ne (tgt := 18) hx hb dX8_takeTurns_13 (by decide) (fun c_4 => ?_) (fun c_4 => ?_)
  · exact absurd c_4 (by decide)
  · skip
    refine lv_iconst (v := nI 0) hx hb dX8_takeTurns_16 (by decide) ?_
    exact m_iret S hr hlk hW dX8_takeTurns_17 (by exact ⟨rfl, eV_1⟩)
set_option maxHeartbeats 4000000 in
set_option maxRecDepth 100000 in
theorem c_X10_film (l : Launch) (G : mG) (ad : Nat → Nat) (sh : Nat → Option mSh) (V : mV) (q : Sg) (x n : Int32) (hX : XI sh V q) : mM l yX10_film wsX10_film ({ frames := 40, cells := 0, slots := 0, locals := 1200 } : Room) G ad sh V [.ref (ad 0), .int x, .int n] 0 0 (mPi ad sh (fun r V' => (aFilm q x n) = r ∧ (XI sh V' (nFilm q x n)) ∧ (XF V V'))) := by
  refine mM.of (cc := cX10_film) (maxL := 4) (ret := (some .int)) (by decide) rfl (Nat.le_of_ble_eq_true rfl) ?_
  intro p e s m below meth c S hr hlk hnm hW ls hl
  obtain ⟨hx, hb, hml, hown, hts⟩ := id S
  have hl : lv_has ls 4 [(0, .ref (ad 0)), (1, .int x), (2, .int n)] := hl
  have hS0 : True := trivial
  have hne5 := hX.ne5
  have hng6 := hX.ng6
  have htn := hX.tn
  refine lv_aload_n hx hb dX10_film_0 rfl (lv_at hl 0 rfl) ?_
  refine lv_iload_n hx hb dX10_film_1 rfl (lv_at hl 1 rfl) ?_
  refine m_crp (m_rV S hW (c_X10_sheetAt l G ad sh V q x hX) (cwV 1 hts (gCall [.methodLink RX10 270 yX10_sheetAt, .instanceMethod yX10_sheetAt, .selects RX10 yX10_sheetAt yX10_sheetAt, .initialized RX10] (List.forall_mem_cons.mpr ⟨(wa_39 _ (List.mem_of_getElem? (i := 0) (by decide +kernel))), (List.forall_mem_cons.mpr ⟨(wa_38 _ (List.mem_of_getElem? (i := 21) (by decide +kernel))), (List.forall_mem_cons.mpr ⟨(wa_38 _ (List.mem_of_getElem? (i := 22) (by decide +kernel))), (List.forall_mem_cons.mpr ⟨(wa_38 _ (List.mem_of_getElem? (i := 23) (by decide +kernel))), (List.forall_mem_cons.mpr ⟨(wa_1 _ (List.mem_of_getElem? (i := 2) (by decide +kernel))), (fun _ h => absurd h List.not_mem_nil)⟩)⟩)⟩)⟩)⟩)) rfl rfl rfl (by decide +kernel) ⟨by dsimp only; omega, by dsimp only; omega⟩) hX.sp.1 kX10 rfl hl.1 rfl (Nat.le_of_ble_eq_true rfl) dX10_film_2 ⟨Nat.le_of_ble_eq_true rfl, Nat.le_of_ble_eq_true rfl⟩) hW (fun r_2 H locs hp_1 hW => ?_)
  rcases hp_1 with ⟨k_3, rfl, hxk_4, hk4_5⟩ | ⟨rfl, hx0_6⟩
  · skip
    refine W.eq (g2 := F0 m 5 ls [.ref (ad (11 + k_3))]) rfl ?_
    have hpx : mIn x 0 4 := by rw [hxk_4]; exact (mIn_nI (by omega)).mpr ⟨Nat.zero_le _, hk4_5⟩
    have hcx : x.toNatClampNeg = k_3 := by rw [hxk_4]; exact nI_clamp (by omega)
    have hsl := hX.sl hk4_5
    refine lv_astore_n (lv' := [(3, .ref (ad (11 + k_3))), (0, .ref (ad 0)), (1, .int x), (2, .int n)]) hx hb dX10_film_5 rfl hl (by decide) rfl (fun ls hl => ?_)
    refine lv_aload_n hx hb dX10_film_6 rfl (lv_at hl 0 rfl) ?_
    refine lv_ifnull hx hb dX10_film_7 ?_
    refine lv_iload_n hx hb dX10_film_10 rfl (lv_at hl 3 rfl) ?_
    refine lv_iconst (v := nI 0) hx hb dX10_film_11 (by decide) ?_
    refine lv_bipush (v := nI 13) hx hb dX10_film_12 (by decide) ?_
    refine m_cip (m_rS S hW (c_X10_within l G ad sh V n 0 13 (by first | assumption | omega) (by first | assumption | omega)) (va_cwS 3 hts (gCall [.methodLink RX10 102 yX10_within, .static yX10_within, .initialized RX10] (List.forall_mem_cons.mpr ⟨(wa_8 _ (List.mem_of_getElem? (i := 17) (by decide +kernel))), (List.forall_mem_cons.mpr ⟨(wa_15 _ (List.mem_of_getElem? (i := 8) (by decide +kernel))), (List.forall_mem_cons.mpr ⟨(wa_8 _ (List.mem_of_getElem? (i := 16) (by decide +kernel))), (List.forall_mem_cons.mpr ⟨(wa_1 _ (List.mem_of_getElem? (i := 2) (by decide +kernel))), (fun _ h => absurd h List.not_mem_nil)⟩)⟩)⟩)⟩)) rfl rfl rfl (by decide +kernel) ⟨by dsimp only; omega, by dsimp only; omega⟩) rfl hl.1 rfl (Nat.le_of_ble_eq_true rfl) dX10_film_14 ⟨Nat.le_of_ble_eq_true rfl, Nat.le_of_ble_eq_true rfl⟩) hW (fun r_8 H locs hp_7 hW => ?_)
    rcases hp_7 with ⟨rfl, w_9⟩ | ⟨rfl, w_10⟩
    · skip
      obtain ⟨nn, hnn, hwnn, hlnn⟩ := w_9.ex
      have hcn : n.toNatClampNeg = nn := by rw [hnn]; exact nI_clamp (by omega)
      refine m_if_ne (tgt := 23) hx hb dX10_film_17 (by decide) (fun c_11 => ?_) (fun c_11 => ?_)
      · skip
        refine lv_aload_n hx hb dX10_film_23 rfl (lv_at hl 1 rfl) ?_
        refine m_getr S hW hX.sp.1 6 rfl (j := 5) rfl kX10 (iW10 _) (by decide) (List.mem_cons_of_mem _ (wa_2 _ (List.mem_of_getElem? (i := 13) (by decide +kernel)))) dX10_film_24 ?_
        refine lv_aload_n hx hb dX10_film_27 rfl (lv_at hl 1 rfl) ?_
        refine m_getr S hW hX.sp.1 3 rfl (j := 20) rfl kX10 (iW10 _) (by decide) (List.mem_cons_of_mem _ (wa_2 _ (List.mem_of_getElem? (i := 8) (by decide +kernel)))) dX10_film_28 ?_
        refine m_cv (m_rV S hW (c_X8_startFrom_x l G ad sh V q (by first | assumption | omega)) (cwV 1 hts (gCall [.methodLink RX10 201 yX8_startFrom, .instanceMethod yX8_startFrom, .selects RX8 yX8_startFrom yX8_startFrom, .initialized RX8] (List.forall_mem_cons.mpr ⟨(wa_30 _ (List.mem_of_getElem? (i := 5) (by decide +kernel))), (List.forall_mem_cons.mpr ⟨(wa_30 _ (List.mem_of_getElem? (i := 2) (by decide +kernel))), (List.forall_mem_cons.mpr ⟨(wa_30 _ (List.mem_of_getElem? (i := 3) (by decide +kernel))), (List.forall_mem_cons.mpr ⟨(wa_30 _ (List.mem_of_getElem? (i := 4) (by decide +kernel))), (List.forall_mem_cons.mpr ⟨(wa_2 _ (List.mem_of_getElem? (i := 12) (by decide +kernel))), (fun _ h => absurd h List.not_mem_nil)⟩)⟩)⟩)⟩)⟩)) rfl rfl rfl (by decide +kernel) ⟨by dsimp only; omega, by dsimp only; omega⟩) hX.sp.2.2.2.1 kX8 rfl hl.1 rfl (Nat.le_of_ble_eq_true rfl) dX10_film_31 ⟨Nat.le_of_ble_eq_true rfl, Nat.le_of_ble_eq_true rfl⟩) hW (fun V_12 H locs hp_13 hW => ?_)
        obtain ⟨hQ_15, hK_16, h51_17, h52_18⟩ := hp_13
        have hX1 := hX.k hK_16
        have hH1 : ThOk sh V_12 (110 + 3 * gRl q) (gT q (gRl q)).2.1 (gT q (gRl q)).2.2 (gT q (gRl q)).1.length (gNe q) (gNg q) (gAsk q) (gZ q) := hX1.th hQ_15 hX.rl
        have hK1 := hK_16
        refine lv_aload_n hx hb dX10_film_34 rfl (lv_at hl 1 rfl) ?_
        by_cases hz0 : gNe q = 0
        · skip
          refine m_getr S hW hX.sp.1 6 rfl (j := 5) rfl kX10 (iW10 _) (by decide) (List.mem_cons_of_mem _ (wa_2 _ (List.mem_of_getElem? (i := 13) (by decide +kernel)))) dX10_film_35 ?_
          refine lv_iload_n hx hb dX10_film_38 rfl (lv_at hl 3 rfl) ?_
          refine m_top (y := nI nn) hnn ?_
          refine lv_aload_n hx hb dX10_film_39 rfl (lv_at hl 0 rfl) ?_
          refine m_ci (m_rV S hW (c_X8_takeTurns_0 l G ad sh V_12 (110 + 3 * gRl q) ((gT q (gRl q)).2.1) ((gT q (gRl q)).2.2) ((gT q (gRl q)).1.length) (gNe q) (gNg q) (gAsk q) (gZ q) (11 + k_3) nn hH1 hz0 ((hX.sp.2.2.2.2.2.2.1.2 k_3 hk4_5).1) (show sh (11 + k_3 + 4) = some (mI 40) by rw [show 11 + k_3 + 4 = 15 + k_3 by omega]; exact (hX.sp.2.2.2.2.2.2.1.2 k_3 hk4_5).2) (by omega)) (cwV 2 hts (gCall [.methodLink RX10 274 yX8_takeTurns, .instanceMethod yX8_takeTurns, .selects RX8 yX8_takeTurns yX8_takeTurns, .initialized RX8] (List.forall_mem_cons.mpr ⟨(wa_41 _ (List.mem_of_getElem? (i := 0) (by decide +kernel))), (List.forall_mem_cons.mpr ⟨(wa_40 _ (List.mem_of_getElem? (i := 21) (by decide +kernel))), (List.forall_mem_cons.mpr ⟨(wa_40 _ (List.mem_of_getElem? (i := 22) (by decide +kernel))), (List.forall_mem_cons.mpr ⟨(wa_40 _ (List.mem_of_getElem? (i := 23) (by decide +kernel))), (List.forall_mem_cons.mpr ⟨(wa_2 _ (List.mem_of_getElem? (i := 12) (by decide +kernel))), (fun _ h => absurd h List.not_mem_nil)⟩)⟩)⟩)⟩)⟩)) rfl rfl rfl (by decide +kernel) ⟨by dsimp only; omega, by dsimp only; omega⟩) hX.sp.2.2.2.1 kX8 rfl hl.1 rfl (Nat.le_of_ble_eq_true rfl) dX10_film_40 ⟨Nat.le_of_ble_eq_true rfl, Nat.le_of_ble_eq_true rfl⟩) hW (fun r_21 V_19 H locs hp_20 hW => ?_)
          obtain ⟨rfl, eV_19⟩ := hp_20
          exact m_iret S hr hlk hW dX10_film_43 (by exact ⟨by simp only [aFilm, if_pos hpx, hcx, if_pos w_9, hcn, if_pos hz0], by simp only [nFilm, if_pos hpx, hcx, if_pos w_9, hcn, if_pos hz0]; exact hX1.setS hk4_5 (by rw [eV_19, mFill_no _ _ (by omega), mU_ne _ _ (by omega), mU_eq]) (by rw [eV_19, mFill_no _ _ (by omega), mU_eq]) (by omega) (fun j hj => by rw [eV_19, show 15 + k_3 = 11 + k_3 + 4 by omega]; exact if_pos ⟨rfl, by omega, by omega⟩) (fun a h1 h2 => by rw [eV_19, mFill_no _ _ (by omega), mU_no _ _ h1, mU_no _ _ h1]), hK1.f.trans (fun c hc => by rw [eV_19, mFill_no _ _ (by omega), mU_no _ _ (by omega), mU_no _ _ (by omega)])⟩)
        · skip
          have hne0 : 0 < gNe q := by omega
          refine m_getr S hW hX.sp.1 6 rfl (j := 5) rfl kX10 (iW10 _) (by decide) (List.mem_cons_of_mem _ (wa_2 _ (List.mem_of_getElem? (i := 13) (by decide +kernel)))) dX10_film_35 ?_
          refine lv_iload_n hx hb dX10_film_38 rfl (lv_at hl 3 rfl) ?_
          refine m_top (y := nI nn) hnn ?_
          refine lv_aload_n hx hb dX10_film_39 rfl (lv_at hl 0 rfl) ?_
          refine m_ci (m_rV S hW (c_X8_takeTurns l G ad sh V_12 (110 + 3 * gRl q) ((gT q (gRl q)).2.1) ((gT q (gRl q)).2.2) ((gT q (gRl q)).1.length) (gNe q) (gNg q) (gAsk q) (gZ q) (11 + k_3) nn hH1 hne0 (by omega) ((hX.sp.2.2.2.2.2.2.1.2 k_3 hk4_5).1) (show sh (11 + k_3 + 4) = some (mI 40) by rw [show 11 + k_3 + 4 = 15 + k_3 by omega]; exact (hX.sp.2.2.2.2.2.2.1.2 k_3 hk4_5).2) (by omega)) (cwV 2 hts (gCall [.methodLink RX10 274 yX8_takeTurns, .instanceMethod yX8_takeTurns, .selects RX8 yX8_takeTurns yX8_takeTurns, .initialized RX8] (List.forall_mem_cons.mpr ⟨(wa_41 _ (List.mem_of_getElem? (i := 0) (by decide +kernel))), (List.forall_mem_cons.mpr ⟨(wa_40 _ (List.mem_of_getElem? (i := 21) (by decide +kernel))), (List.forall_mem_cons.mpr ⟨(wa_40 _ (List.mem_of_getElem? (i := 22) (by decide +kernel))), (List.forall_mem_cons.mpr ⟨(wa_40 _ (List.mem_of_getElem? (i := 23) (by decide +kernel))), (List.forall_mem_cons.mpr ⟨(wa_2 _ (List.mem_of_getElem? (i := 12) (by decide +kernel))), (fun _ h => absurd h List.not_mem_nil)⟩)⟩)⟩)⟩)⟩)) rfl rfl rfl (by decide +kernel) ⟨by dsimp only; omega, by dsimp only; omega⟩) hX.sp.2.2.2.1 kX8 rfl hl.1 rfl (Nat.le_of_ble_eq_true rfl) dX10_film_40 ⟨Nat.le_of_ble_eq_true rfl, Nat.le_of_ble_eq_true rfl⟩) hW (fun r_24 V_22 H locs hp_23 hW => ?_)
          obtain ⟨rfl, hc_25, h0_26, h1_27, hfd_28, hm_29⟩ := hp_23
          have hK9 : ∀ a, a ≠ 11 + k_3 → a ≠ 15 + k_3 → a < 80 ∨ 104 ≤ a → V_22 a = _ := fun a h1 h2 h3 => hfd_28 a h1 (by omega) h3
          exact m_iret S hr hlk hW dX10_film_43 (by exact ⟨by simp only [aFilm, if_pos hpx, hcx, if_pos w_9, hcn, if_neg hz0], by simp only [nFilm, if_pos hpx, hcx, if_pos w_9, hcn, if_neg hz0]; exact hX1.setSf hk4_5 h0_26 h1_27 (by omega) (fun j hj => by rw [show 15 + k_3 = 11 + k_3 + 4 by omega]; exact hc_25 j hj) hK9, hK1.f.trans (fun c hc => hK9 c (by omega) (by omega) (by omega))⟩)
      · exact absurd c_11 (by decide)
    · skip
      refine m_if_ne (tgt := 23) hx hb dX10_film_17 (by decide) (fun c_30 => ?_) (fun c_30 => ?_)
      · exact absurd c_30 (by decide)
      · skip
        refine lv_bipush (v := -2) hx hb dX10_film_20 (by decide) ?_
        exact m_iret S hr hlk hW dX10_film_22 (by exact ⟨by simp only [aFilm, if_pos hpx, hcx, if_neg w_10]; try rfl, by simp only [nFilm, if_pos hpx, hcx, if_neg w_10]; exact hX, XF.rfl V⟩)
  · skip
    refine W.eq (g2 := F0 m 5 ls [.null]) rfl ?_
    refine lv_astore_nN (lv' := [(3, .null), (0, .ref (ad 0)), (1, .int x), (2, .int n)]) hx hb dX10_film_5 rfl hl (by decide) rfl (fun ls hl => ?_)
    refine lv_aload_nN hx hb dX10_film_6 rfl (lv_at hl 0 rfl) ?_
    refine lv_ifnullN (tgt := 20) hx hb dX10_film_7 (by decide) ?_
    refine lv_bipush (v := -2) hx hb dX10_film_20 (by decide) ?_
    exact m_iret S hr hlk hW dX10_film_22 (by exact ⟨by simp only [aFilm, if_neg hx0_6]; try rfl, by simp only [nFilm, if_neg hx0_6]; exact hX, XF.rfl V⟩)
set_option maxHeartbeats 4000000 in
set_option maxRecDepth 100000 in
theorem c_X10_taken (l : Launch) (G : mG) (ad : Nat → Nat) (sh : Nat → Option mSh) (V : mV) (q : Sg) (x k : Int32) (hX : XI sh V q) : mM l yX10_taken wsX10_taken ({ frames := 2, cells := 0, slots := 0, locals := 43 } : Room) G ad sh V [.ref (ad 0), .int x, .int k] 0 0 (mPe ad sh V (aTaken q x k)) := by
  refine mM.of (cc := cX10_taken) (maxL := 5) (ret := (some .int)) (by decide) rfl (Nat.le_of_ble_eq_true rfl) ?_
  intro p e s m below meth c S hr hlk hnm hW ls hl
  obtain ⟨hx, hb, hml, hown, hts⟩ := id S
  have hl : lv_has ls 5 [(0, .ref (ad 0)), (1, .int x), (2, .int k)] := hl
  have hS0 : True := trivial
  have hne5 := hX.ne5
  have hng6 := hX.ng6
  have htn := hX.tn
  refine lv_iload_n hx hb dX10_taken_0 rfl (lv_at hl 2 rfl) ?_
  refine lv_iconst (v := nI 0) hx hb dX10_taken_1 (by decide) ?_
  refine lv_bipush (v := nI 6) hx hb dX10_taken_2 (by decide) ?_
  refine m_cip (m_rS S hW (c_X10_within l G ad sh V k 0 6 (by first | assumption | omega) (by first | assumption | omega)) (va_cwS 3 hts (gCall [.methodLink RX10 102 yX10_within, .static yX10_within, .initialized RX10] (List.forall_mem_cons.mpr ⟨(wa_8 _ (List.mem_of_getElem? (i := 17) (by decide +kernel))), (List.forall_mem_cons.mpr ⟨(wa_15 _ (List.mem_of_getElem? (i := 8) (by decide +kernel))), (List.forall_mem_cons.mpr ⟨(wa_8 _ (List.mem_of_getElem? (i := 16) (by decide +kernel))), (List.forall_mem_cons.mpr ⟨(wa_1 _ (List.mem_of_getElem? (i := 2) (by decide +kernel))), (fun _ h => absurd h List.not_mem_nil)⟩)⟩)⟩)⟩)) rfl rfl rfl (by decide +kernel) ⟨Nat.le_of_ble_eq_true rfl, Nat.le_of_ble_eq_true rfl⟩) rfl hl.1 rfl (Nat.le_of_ble_eq_true rfl) dX10_taken_4 ⟨Nat.le_of_ble_eq_true rfl, Nat.le_of_ble_eq_true rfl⟩) hW (fun r_2 H locs hp_1 hW => ?_)
  rcases hp_1 with ⟨rfl, w_3⟩ | ⟨rfl, w_4⟩
  · skip
    refine m_if_ne (tgt := 13) hx hb dX10_taken_7 (by decide) (fun c_5 => ?_) (fun c_5 => ?_)
    · skip
      refine lv_iload_n hx hb dX10_taken_13 rfl (lv_at hl 1 rfl) ?_
      refine lv_iconst (v := nI 0) hx hb dX10_taken_14 (by decide) ?_
      refine lv_bipush (v := nI 10) hx hb dX10_taken_15 (by decide) ?_
      refine m_cip (m_rS S hW (c_X10_within l G ad sh V x 0 10 (by first | assumption | omega) (by first | assumption | omega)) (va_cwS 3 hts (gCall [.methodLink RX10 102 yX10_within, .static yX10_within, .initialized RX10] (List.forall_mem_cons.mpr ⟨(wa_8 _ (List.mem_of_getElem? (i := 17) (by decide +kernel))), (List.forall_mem_cons.mpr ⟨(wa_15 _ (List.mem_of_getElem? (i := 8) (by decide +kernel))), (List.forall_mem_cons.mpr ⟨(wa_8 _ (List.mem_of_getElem? (i := 16) (by decide +kernel))), (List.forall_mem_cons.mpr ⟨(wa_1 _ (List.mem_of_getElem? (i := 2) (by decide +kernel))), (fun _ h => absurd h List.not_mem_nil)⟩)⟩)⟩)⟩)) rfl rfl rfl (by decide +kernel) ⟨Nat.le_of_ble_eq_true rfl, Nat.le_of_ble_eq_true rfl⟩) rfl hl.1 rfl (Nat.le_of_ble_eq_true rfl) dX10_taken_17 ⟨Nat.le_of_ble_eq_true rfl, Nat.le_of_ble_eq_true rfl⟩) hW (fun r_7 H locs hp_6 hW => ?_)
      rcases hp_6 with ⟨rfl, w_8⟩ | ⟨rfl, w_9⟩
      · skip
        refine m_if_ne (tgt := 26) hx hb dX10_taken_20 (by decide) (fun c_10 => ?_) (fun c_10 => ?_)
        · skip
          refine lv_aload_n hx hb dX10_taken_26 rfl (lv_at hl 0 rfl) ?_
          refine m_getr S hW hX.sp.1 3 rfl (j := 20) rfl kX10 (iW10 _) (by decide) (List.mem_cons_of_mem _ (wa_2 _ (List.mem_of_getElem? (i := 8) (by decide +kernel)))) dX10_taken_27 ?_
          refine lv_iload_n hx hb dX10_taken_30 rfl (lv_at hl 1 rfl) ?_
          refine m_crp (m_rV S hW (c_X4_eaterAt l G ad sh V 20 (110 + 3 * gRl q) ((gT q (gRl q)).2.1) ((gT q (gRl q)).2.2) ((gT q (gRl q)).1.length) (gNe q) (gNg q) x hX.sz.1 hX.sz.2.1) (cwV 1 hts (gCall [.methodLink RX10 120 yX4_eaterAt, .instanceMethod yX4_eaterAt, .selects RX4 yX4_eaterAt yX4_eaterAt, .initialized RX4] (List.forall_mem_cons.mpr ⟨(wa_17 _ (List.mem_of_getElem? (i := 8) (by decide +kernel))), (List.forall_mem_cons.mpr ⟨(wa_17 _ (List.mem_of_getElem? (i := 5) (by decide +kernel))), (List.forall_mem_cons.mpr ⟨(wa_17 _ (List.mem_of_getElem? (i := 6) (by decide +kernel))), (List.forall_mem_cons.mpr ⟨(wa_17 _ (List.mem_of_getElem? (i := 7) (by decide +kernel))), (List.forall_mem_cons.mpr ⟨(wa_2 _ (List.mem_of_getElem? (i := 7) (by decide +kernel))), (fun _ h => absurd h List.not_mem_nil)⟩)⟩)⟩)⟩)⟩)) rfl rfl rfl (by decide +kernel) ⟨Nat.le_of_ble_eq_true rfl, Nat.le_of_ble_eq_true rfl⟩) hX.sz.1.1 kX4 rfl hl.1 rfl (Nat.le_of_ble_eq_true rfl) dX10_taken_31 ⟨Nat.le_of_ble_eq_true rfl, Nat.le_of_ble_eq_true rfl⟩) hW (fun r_12 H locs hp_11 hW => ?_)
          rcases hp_11 with ⟨n_13, rfl, hxn_14, hn_15⟩ | ⟨rfl, hx0_16⟩
          · skip
            refine W.eq (g2 := F0 m 34 ls [.ref (ad (20 + 4 + n_13))]) rfl ?_
            have hpx : mIn x 0 (gNe q) := by rw [hxn_14]; exact (mIn_nI (by have := hX.ne5; have := hX.ng6; omega)).mpr ⟨Nat.zero_le _, hn_15⟩
            have hcx : x.toNatClampNeg = n_13 := by rw [hxn_14]; exact nI_clamp (by have := hX.ne5; have := hX.ng6; omega)
            refine lv_astore_n (lv' := [(3, .ref (ad (20 + 4 + n_13))), (0, .ref (ad 0)), (1, .int x), (2, .int k)]) hx hb dX10_taken_34 rfl hl (by decide) rfl (fun ls hl => ?_)
            refine lv_aload_n hx hb dX10_taken_35 rfl (lv_at hl 1 rfl) ?_
            refine m_getr S hW hX.sp.1 3 rfl (j := 20) rfl kX10 (iW10 _) (by decide) (List.mem_cons_of_mem _ (wa_2 _ (List.mem_of_getElem? (i := 8) (by decide +kernel)))) dX10_taken_36 ?_
            refine lv_iload_n hx hb dX10_taken_39 rfl (lv_at hl 2 rfl) ?_
            refine lv_iconst (v := nI 5) hx hb dX10_taken_40 (by decide) ?_
            refine lv_isub hx hb dX10_taken_41 ?_
            refine m_crp (m_rV S hW (c_X4_goodAt l G ad sh V 20 (110 + 3 * gRl q) ((gT q (gRl q)).2.1) ((gT q (gRl q)).2.2) ((gT q (gRl q)).1.length) (gNe q) (gNg q) (x - (nI 5)) hX.sz.1 hX.sz.2.1) (cwV 1 hts (gCall [.methodLink RX10 124 yX4_goodAt, .instanceMethod yX4_goodAt, .selects RX4 yX4_goodAt yX4_goodAt, .initialized RX4] (List.forall_mem_cons.mpr ⟨(wa_17 _ (List.mem_of_getElem? (i := 13) (by decide +kernel))), (List.forall_mem_cons.mpr ⟨(wa_17 _ (List.mem_of_getElem? (i := 10) (by decide +kernel))), (List.forall_mem_cons.mpr ⟨(wa_17 _ (List.mem_of_getElem? (i := 11) (by decide +kernel))), (List.forall_mem_cons.mpr ⟨(wa_17 _ (List.mem_of_getElem? (i := 12) (by decide +kernel))), (List.forall_mem_cons.mpr ⟨(wa_2 _ (List.mem_of_getElem? (i := 7) (by decide +kernel))), (fun _ h => absurd h List.not_mem_nil)⟩)⟩)⟩)⟩)⟩)) rfl rfl rfl (by decide +kernel) ⟨Nat.le_of_ble_eq_true rfl, Nat.le_of_ble_eq_true rfl⟩) hX.sz.1.1 kX4 rfl hl.1 rfl (Nat.le_of_ble_eq_true rfl) dX10_taken_42 ⟨Nat.le_of_ble_eq_true rfl, Nat.le_of_ble_eq_true rfl⟩) hW (fun r_18 H locs hp_17 hW => ?_)
            rcases hp_17 with ⟨n_19, rfl, hxn_20, hn_21⟩ | ⟨rfl, hx0_22⟩
            · skip
              refine W.eq (g2 := F0 m 45 ls [.ref (ad (20 + 10 + 2 * n_19))]) rfl ?_
              have hpg : mIn (x - nI 5) 0 (gNg q) := by rw [hxn_20]; exact (mIn_nI (by omega)).mpr ⟨Nat.zero_le _, hn_21⟩
              have hcg : (x - nI 5).toNatClampNeg = n_19 := by rw [hxn_20]; exact nI_clamp (by omega)
              refine lv_astore (lv' := [(4, .ref (ad (20 + 10 + 2 * n_19))), (3, .ref (ad (20 + 4 + n_13))), (0, .ref (ad 0)), (1, .int x), (2, .int k)]) hx hb dX10_taken_45 hl (by decide) rfl (fun ls hl => ?_)
              refine lv_aload_n hx hb dX10_taken_47 rfl (lv_at hl 1 rfl) ?_
              refine lv_ifnonnull (tgt := 59) hx hb dX10_taken_48 (by decide) ?_
              refine lv_aload_n hx hb dX10_taken_59 rfl (lv_at hl 1 rfl) ?_
              refine lv_ifnull hx hb dX10_taken_60 ?_
              refine lv_iload_n hx hb dX10_taken_63 rfl (lv_at hl 4 rfl) ?_
              refine lv_bipush (v := nI 6) hx hb dX10_taken_64 (by decide) ?_
              refine lv_icmp_ge (tgt := 81) hx hb dX10_taken_66 (by decide) (fun c_23 => ?_) (fun c_23 => ?_)
              · skip
                have hge6 := Int32.not_lt.mpr c_23
                refine lv_bipush (v := -13) hx hb dX10_taken_81 (by decide) ?_
                exact m_iret S hr hlk hW dX10_taken_83 ⟨rfl, (by simp only [aTaken, if_pos w_3, if_pos w_8, if_pos hpx, hcx, if_neg hge6]; try rfl)⟩
              · skip
                have hlt6 := Int32.not_le.mp c_23
                refine lv_aload_n hx hb dX10_taken_69 rfl (lv_at hl 1 rfl) ?_
                refine lv_iload_n hx hb dX10_taken_70 rfl (lv_at hl 4 rfl) ?_
                refine m_cie (m_rV S hW (c_X1_isOf l G ad sh V (20 + 4 + n_13) k (hX.sz.sE hn_15)) (cwV 1 hts (gCall [.methodLink RX10 314 yX1_isOf, .instanceMethod yX1_isOf, .selects RX1 yX1_isOf yX1_isOf, .initialized RX1] (List.forall_mem_cons.mpr ⟨(wa_46 _ (List.mem_of_getElem? (i := 7) (by decide +kernel))), (List.forall_mem_cons.mpr ⟨(wa_46 _ (List.mem_of_getElem? (i := 4) (by decide +kernel))), (List.forall_mem_cons.mpr ⟨(wa_46 _ (List.mem_of_getElem? (i := 5) (by decide +kernel))), (List.forall_mem_cons.mpr ⟨(wa_46 _ (List.mem_of_getElem? (i := 6) (by decide +kernel))), (List.forall_mem_cons.mpr ⟨(wa_3 _ (List.mem_of_getElem? (i := 3) (by decide +kernel))), (fun _ h => absurd h List.not_mem_nil)⟩)⟩)⟩)⟩)⟩)) rfl rfl rfl (by decide +kernel) ⟨Nat.le_of_ble_eq_true rfl, Nat.le_of_ble_eq_true rfl⟩) (hX.sz.1.2.2.2.2.1 n_13 (Nat.lt_of_lt_of_le hn_15 hX.sz.2.1.2.2.1)) kX1 rfl hl.1 rfl (Nat.le_of_ble_eq_true rfl) dX10_taken_71 ⟨Nat.le_of_ble_eq_true rfl, Nat.le_of_ble_eq_true rfl⟩) hW (fun H locs hW => ?_)
                refine m_if_eq (tgt := 81) hx hb dX10_taken_74 (by decide) (fun c_24 => ?_) (fun c_24 => ?_)
                · skip
                  have hun : ¬ fUnder (gZ q (4 + n_13) 0) k = true := fun z => by rw [hX.zE 0 hn_15 (by omega)] at z; rw [if_pos z] at c_24; exact absurd c_24 (by decide)
                  refine lv_bipush (v := -13) hx hb dX10_taken_81 (by decide) ?_
                  exact m_iret S hr hlk hW dX10_taken_83 ⟨rfl, (by simp only [aTaken, if_pos w_3, if_pos w_8, if_pos hpx, hcx, if_pos hlt6, if_neg hun]; try rfl)⟩
                · skip
                  have hun : fUnder (gZ q (4 + n_13) 0) k = true := Decidable.byContradiction (fun z => by rw [hX.zE 0 hn_15 (by omega)] at z; rw [if_neg z] at c_24; exact c_24 rfl)
                  refine lv_iload_n hx hb dX10_taken_77 rfl (lv_at hl 3 rfl) ?_
                  refine lv_goto (tgt := 83) hx hb dX10_taken_78 (by decide) ?_
                  exact m_iret S hr hlk hW dX10_taken_83 ⟨rfl, (by simp only [aTaken, if_pos w_3, if_pos w_8, if_pos hpx, hcx, if_pos hlt6, if_pos hun])⟩
            · skip
              refine W.eq (g2 := F0 m 45 ls [.null]) rfl ?_
              refine lv_astoreN (lv' := [(4, .null), (3, .ref (ad (20 + 4 + n_13))), (0, .ref (ad 0)), (1, .int x), (2, .int k)]) hx hb dX10_taken_45 hl (by decide) rfl (fun ls hl => ?_)
              refine lv_aload_n hx hb dX10_taken_47 rfl (lv_at hl 1 rfl) ?_
              refine lv_ifnonnull (tgt := 59) hx hb dX10_taken_48 (by decide) ?_
              refine lv_aload_n hx hb dX10_taken_59 rfl (lv_at hl 1 rfl) ?_
              refine lv_ifnull hx hb dX10_taken_60 ?_
              refine lv_iload_n hx hb dX10_taken_63 rfl (lv_at hl 4 rfl) ?_
              refine lv_bipush (v := nI 6) hx hb dX10_taken_64 (by decide) ?_
              refine lv_icmp_ge (tgt := 81) hx hb dX10_taken_66 (by decide) (fun c_25 => ?_) (fun c_25 => ?_)
              · skip
                have hge6 := Int32.not_lt.mpr c_25
                refine lv_bipush (v := -13) hx hb dX10_taken_81 (by decide) ?_
                exact m_iret S hr hlk hW dX10_taken_83 ⟨rfl, (by simp only [aTaken, if_pos w_3, if_pos w_8, if_pos hpx, hcx, if_neg hge6]; try rfl)⟩
              · skip
                have hlt6 := Int32.not_le.mp c_25
                refine lv_aload_n hx hb dX10_taken_69 rfl (lv_at hl 1 rfl) ?_
                refine lv_iload_n hx hb dX10_taken_70 rfl (lv_at hl 4 rfl) ?_
                refine m_cie (m_rV S hW (c_X1_isOf l G ad sh V (20 + 4 + n_13) k (hX.sz.sE hn_15)) (cwV 1 hts (gCall [.methodLink RX10 314 yX1_isOf, .instanceMethod yX1_isOf, .selects RX1 yX1_isOf yX1_isOf, .initialized RX1] (List.forall_mem_cons.mpr ⟨(wa_46 _ (List.mem_of_getElem? (i := 7) (by decide +kernel))), (List.forall_mem_cons.mpr ⟨(wa_46 _ (List.mem_of_getElem? (i := 4) (by decide +kernel))), (List.forall_mem_cons.mpr ⟨(wa_46 _ (List.mem_of_getElem? (i := 5) (by decide +kernel))), (List.forall_mem_cons.mpr ⟨(wa_46 _ (List.mem_of_getElem? (i := 6) (by decide +kernel))), (List.forall_mem_cons.mpr ⟨(wa_3 _ (List.mem_of_getElem? (i := 3) (by decide +kernel))), (fun _ h => absurd h List.not_mem_nil)⟩)⟩)⟩)⟩)⟩)) rfl rfl rfl (by decide +kernel) ⟨Nat.le_of_ble_eq_true rfl, Nat.le_of_ble_eq_true rfl⟩) (hX.sz.1.2.2.2.2.1 n_13 (Nat.lt_of_lt_of_le hn_15 hX.sz.2.1.2.2.1)) kX1 rfl hl.1 rfl (Nat.le_of_ble_eq_true rfl) dX10_taken_71 ⟨Nat.le_of_ble_eq_true rfl, Nat.le_of_ble_eq_true rfl⟩) hW (fun H locs hW => ?_)
                refine m_if_eq (tgt := 81) hx hb dX10_taken_74 (by decide) (fun c_26 => ?_) (fun c_26 => ?_)
                · skip
                  have hun : ¬ fUnder (gZ q (4 + n_13) 0) k = true := fun z => by rw [hX.zE 0 hn_15 (by omega)] at z; rw [if_pos z] at c_26; exact absurd c_26 (by decide)
                  refine lv_bipush (v := -13) hx hb dX10_taken_81 (by decide) ?_
                  exact m_iret S hr hlk hW dX10_taken_83 ⟨rfl, (by simp only [aTaken, if_pos w_3, if_pos w_8, if_pos hpx, hcx, if_pos hlt6, if_neg hun]; try rfl)⟩
                · skip
                  have hun : fUnder (gZ q (4 + n_13) 0) k = true := Decidable.byContradiction (fun z => by rw [hX.zE 0 hn_15 (by omega)] at z; rw [if_neg z] at c_26; exact c_26 rfl)
                  refine lv_iload_n hx hb dX10_taken_77 rfl (lv_at hl 3 rfl) ?_
                  refine lv_goto (tgt := 83) hx hb dX10_taken_78 (by decide) ?_
                  exact m_iret S hr hlk hW dX10_taken_83 ⟨rfl, (by simp only [aTaken, if_pos w_3, if_pos w_8, if_pos hpx, hcx, if_pos hlt6, if_pos hun])⟩
          · skip
            refine W.eq (g2 := F0 m 34 ls [.null]) rfl ?_
            refine lv_astore_nN (lv' := [(3, .null), (0, .ref (ad 0)), (1, .int x), (2, .int k)]) hx hb dX10_taken_34 rfl hl (by decide) rfl (fun ls hl => ?_)
            refine lv_aload_n hx hb dX10_taken_35 rfl (lv_at hl 1 rfl) ?_
            refine m_getr S hW hX.sp.1 3 rfl (j := 20) rfl kX10 (iW10 _) (by decide) (List.mem_cons_of_mem _ (wa_2 _ (List.mem_of_getElem? (i := 8) (by decide +kernel)))) dX10_taken_36 ?_
            refine lv_iload_n hx hb dX10_taken_39 rfl (lv_at hl 2 rfl) ?_
            refine lv_iconst (v := nI 5) hx hb dX10_taken_40 (by decide) ?_
            refine lv_isub hx hb dX10_taken_41 ?_
            refine m_crp (m_rV S hW (c_X4_goodAt l G ad sh V 20 (110 + 3 * gRl q) ((gT q (gRl q)).2.1) ((gT q (gRl q)).2.2) ((gT q (gRl q)).1.length) (gNe q) (gNg q) (x - (nI 5)) hX.sz.1 hX.sz.2.1) (cwV 1 hts (gCall [.methodLink RX10 124 yX4_goodAt, .instanceMethod yX4_goodAt, .selects RX4 yX4_goodAt yX4_goodAt, .initialized RX4] (List.forall_mem_cons.mpr ⟨(wa_17 _ (List.mem_of_getElem? (i := 13) (by decide +kernel))), (List.forall_mem_cons.mpr ⟨(wa_17 _ (List.mem_of_getElem? (i := 10) (by decide +kernel))), (List.forall_mem_cons.mpr ⟨(wa_17 _ (List.mem_of_getElem? (i := 11) (by decide +kernel))), (List.forall_mem_cons.mpr ⟨(wa_17 _ (List.mem_of_getElem? (i := 12) (by decide +kernel))), (List.forall_mem_cons.mpr ⟨(wa_2 _ (List.mem_of_getElem? (i := 7) (by decide +kernel))), (fun _ h => absurd h List.not_mem_nil)⟩)⟩)⟩)⟩)⟩)) rfl rfl rfl (by decide +kernel) ⟨Nat.le_of_ble_eq_true rfl, Nat.le_of_ble_eq_true rfl⟩) hX.sz.1.1 kX4 rfl hl.1 rfl (Nat.le_of_ble_eq_true rfl) dX10_taken_42 ⟨Nat.le_of_ble_eq_true rfl, Nat.le_of_ble_eq_true rfl⟩) hW (fun r_28 H locs hp_27 hW => ?_)
            rcases hp_27 with ⟨n_29, rfl, hxn_30, hn_31⟩ | ⟨rfl, hx0_32⟩
            · skip
              refine W.eq (g2 := F0 m 45 ls [.ref (ad (20 + 10 + 2 * n_29))]) rfl ?_
              have hpg : mIn (x - nI 5) 0 (gNg q) := by rw [hxn_30]; exact (mIn_nI (by omega)).mpr ⟨Nat.zero_le _, hn_31⟩
              have hcg : (x - nI 5).toNatClampNeg = n_29 := by rw [hxn_30]; exact nI_clamp (by omega)
              refine lv_astore (lv' := [(4, .ref (ad (20 + 10 + 2 * n_29))), (3, .null), (0, .ref (ad 0)), (1, .int x), (2, .int k)]) hx hb dX10_taken_45 hl (by decide) rfl (fun ls hl => ?_)
              refine lv_aload_nN hx hb dX10_taken_47 rfl (lv_at hl 1 rfl) ?_
              refine lv_ifnonnullN hx hb dX10_taken_48 ?_
              refine lv_aload hx hb dX10_taken_51 (lv_at hl 0 rfl) ?_
              refine lv_ifnonnull (tgt := 59) hx hb dX10_taken_53 (by decide) ?_
              refine lv_aload_nN hx hb dX10_taken_59 rfl (lv_at hl 1 rfl) ?_
              refine lv_ifnullN (tgt := 84) hx hb dX10_taken_60 (by decide) ?_
              refine lv_iload_n hx hb dX10_taken_84 rfl (lv_at hl 4 rfl) ?_
              refine lv_bipush (v := nI 6) hx hb dX10_taken_85 (by decide) ?_
              refine lv_icmp_ne (tgt := 98) hx hb dX10_taken_87 (by decide) (fun c_33 => ?_) (fun c_33 => ?_)
              · skip
                refine lv_bipush (v := -13) hx hb dX10_taken_98 (by decide) ?_
                exact m_iret S hr hlk hW dX10_taken_100 ⟨rfl, (by simp only [aTaken, if_pos w_3, if_pos w_8, if_neg hx0_16, if_pos hpg, hcg, if_neg c_33]; try rfl)⟩
              · skip
                refine lv_aload hx hb dX10_taken_90 (lv_at hl 0 rfl) ?_
                refine m_geti S hW (hX.sz.1.2.2.2.2.2.1 n_29 (Nat.lt_of_lt_of_le hn_31 hX.sz.2.1.2.2.2.1)) 2 rfl kX3 (iW3 _) (by decide) (List.mem_cons_of_mem _ (wa_34 _ (List.mem_of_getElem? (i := 9) (by decide +kernel)))) dX10_taken_92 ?_
                refine lv_goto (tgt := 100) hx hb dX10_taken_95 (by decide) ?_
                exact m_iret S hr hlk hW dX10_taken_100 ⟨rfl, (by simp only [aTaken, if_pos w_3, if_pos w_8, if_neg hx0_16, if_pos hpg, hcg, if_pos c_33]; exact hX.zG 2 hn_31 (Or.inr rfl))⟩
            · skip
              refine W.eq (g2 := F0 m 45 ls [.null]) rfl ?_
              refine lv_astoreN (lv' := [(4, .null), (3, .null), (0, .ref (ad 0)), (1, .int x), (2, .int k)]) hx hb dX10_taken_45 hl (by decide) rfl (fun ls hl => ?_)
              refine lv_aload_nN hx hb dX10_taken_47 rfl (lv_at hl 1 rfl) ?_
              refine lv_ifnonnullN hx hb dX10_taken_48 ?_
              refine lv_aloadN hx hb dX10_taken_51 (lv_at hl 0 rfl) ?_
              refine lv_ifnonnullN hx hb dX10_taken_53 ?_
              refine lv_bipush (v := -11) hx hb dX10_taken_56 (by decide) ?_
              exact m_iret S hr hlk hW dX10_taken_58 ⟨rfl, (by simp only [aTaken, if_pos w_3, if_pos w_8, if_neg hx0_16, if_neg hx0_32]; try rfl)⟩
        · exact absurd c_10 (by decide)
      · skip
        refine m_if_ne (tgt := 26) hx hb dX10_taken_20 (by decide) (fun c_34 => ?_) (fun c_34 => ?_)
        · exact absurd c_34 (by decide)
        · skip
          refine lv_bipush (v := -12) hx hb dX10_taken_23 (by decide) ?_
          exact m_iret S hr hlk hW dX10_taken_25 ⟨rfl, (by simp only [aTaken, if_pos w_3, if_neg w_9]; try rfl)⟩
    · exact absurd c_5 (by decide)
  · skip
    refine m_if_ne (tgt := 13) hx hb dX10_taken_7 (by decide) (fun c_35 => ?_) (fun c_35 => ?_)
    · exact absurd c_35 (by decide)
    · skip
      refine lv_bipush (v := -2) hx hb dX10_taken_10 (by decide) ?_
      exact m_iret S hr hlk hW dX10_taken_12 ⟨rfl, (by simp only [aTaken, if_neg w_4]; try rfl)⟩
