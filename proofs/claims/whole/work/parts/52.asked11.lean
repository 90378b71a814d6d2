/-! the reference: what is asked -/
theorem MI.r12 {sh : Nat → Option mSh} {V : mV} {q : Sg} (h : MI sh V q) : V 200 12 = nI (gRl q) := h.z.rl_
theorem gAsk_t (q : Sg) : askT (gT q (gRl q)) = gAsk q := rfl
theorem zMost_9 {k : Nat} (h : k < 10) : zMost k = 99 := by rw [zMost, if_neg (by omega), if_neg (by omega)]
theorem zMost_10 {k : Nat} (h : k = 10) : zMost k = 9 := by rw [zMost, if_pos h]
theorem zMost_11 {k : Nat} (h : ¬ k < 10) (h2 : ¬ k = 10) (h3 : k < 12) : zMost k = 1023 := by rw [zMost, if_neg h2, if_pos (by omega)]
theorem told_no {y : Int32} (h0 : ¬ y = nI 0) (h1 : ¬ y = nI 1) (h2 : ¬ mIn y 2 (4 + 1)) : ¬ mIn y 0 5 := fun z => by
  obtain ⟨n, rfl, -, hn⟩ := z.ex
  match n, hn with
  | 0, _ => exact h0 rfl
  | 1, _ => exact h1 rfl
  | n + 2, hn => exact h2 ((mIn_nI (by omega)).mpr ⟨by omega, hn⟩)
section PUTP
variable {sh : Nat → Option mSh} {V : mV} {z : fZ} {ne ng rl : Nat} {x : sT}
theorem put_p (h : MZ sh V z ne ng rl x) {g k : Nat} (hg : g < ng) (hk : k < 12) {y : Int32} (hy : mIn y 0 (zMost k + 1)) : MZ sh (mU V 201 (12 * g + k) y) (zPut z g k y) ne ng rl x ∧ (∀ b, 205 ≤ b ∨ b < 200 → mU V 201 (12 * g + k) y b = V b) ∧ (∀ j, j ≠ 6 → mU V 201 (12 * g + k) y 200 j = V 200 j) := by
  obtain ⟨n, e1, -, e2⟩ := hy.ex
  rw [zPut]
  by_cases h1 : k = 10
  · rw [if_pos h1]
    subst h1
    exact h.put (a := 10 + 2 * g) (k := 1) (Or.inr (Or.inr (by omega))) (by rw [mvL_g]) (by rw [mvL_g]) (by rw [zB, if_neg (by omega), if_neg (by omega), if_pos (by omega), if_pos rfl]; exact ⟨n, e2, e1⟩)
  · by_cases h2 : k = 11
    · rw [if_neg h1, if_pos h2]
      subst h2
      exact h.put (a := 10 + 2 * g) (k := 2) (Or.inr (Or.inr (by omega))) (by rw [mvL_g]) (by rw [mvL_g]) (by rw [zB, if_neg (by omega), if_neg (by omega), if_pos (by omega), if_neg (by decide)]; exact ⟨n, e2, e1⟩)
    · rw [if_neg h1, if_neg h2]
      exact h.put (a := 11 + 2 * g) (k := k) (Or.inr (Or.inr (by omega))) (by rw [mvL_w]) (by rw [mvL_w]) (by rw [zB, if_neg (by omega), if_neg (by omega), if_neg (by omega)]; rw [zMost_9 (by omega)] at e2; exact ⟨n, e2, e1⟩)
theorem MZ.force (h : MZ sh V z ne ng rl x) {V' : mV} {r : Nat} {x' : sT} (hv : V' = mU V 200 12 (nI r)) (ht : MTx V r x' ∧ WfT x') (hr : r < 6) : MZ sh V' z ne ng r x' := by
  subst hv
  have hne := h.ne5
  obtain ⟨a1, ⟨a2, a3, a4⟩, a5, a6, -, a9, a10⟩ := h
  refine ⟨a1, ⟨by rw [mU_ne _ _ (by omega)]; exact a2, by rw [mU_ne _ _ (by omega)]; exact a3, a4⟩, ?_, a6, ⟨mU_eq _ _ _ _, hr⟩, ht.1.eq (mU_no _ _ (by decide)) (mU_no _ _ (by decide)), ht.2⟩
  rw [mv_congr V hne (mU_ne _ _ (by omega)) (fun e _ => ⟨by rw [mU_no _ _ (by decide)], by rw [mU_no _ _ (by decide)]⟩) (fun k _ => by rw [mU_no _ _ (by decide)]) (fun k _ => by rw [mU_no _ _ (by decide)])]
  exact a5
end PUTP
set_option maxHeartbeats 4000000 in
set_option maxRecDepth 100000 in
theorem c_X11_count (l : Launch) (G : mG) (ad : Nat → Nat) (sh : Nat → Option mSh) (V : mV) (q : Sg) (x : Int32) (hI : MI sh V q) : mM l yX11_count wsX11_count ({ frames := 0, cells := 0, slots := 0, locals := 0 } : Room) G ad sh V [.ref (ad 200), .int x] 0 0 (mPi ad sh (fun r V' => (aCount q x) = r ∧ V' = V)) := by
  refine mM.of (cc := cX11_count) (maxL := 2) (ret := (some .int)) (by decide) rfl (Nat.le_of_ble_eq_true rfl) ?_
  intro p e s m below meth c S hr hlk hnm hW ls hl
  obtain ⟨hx, hb, hml, hown, hts⟩ := id S
  have hl : lv_has ls 2 [(0, .ref (ad 200)), (1, .int x)] := hl
  have hS0 : True := trivial
  have hZ := hI.z
  have hne5 := hZ.ne5
  have hng6 := hZ.ng6
  have htn := hI.tn
  refine lv_iload_n hx hb dX11_count_0 rfl (lv_at hl 1 rfl) ?_
  by_cases c_1 : x = nI 0
  · skip
    refine lv_tableIn (off := 39) (tgt := 40) hx hb dX11_count_1 (by rw [c_1]; decide) (by rw [c_1]; decide) (by rw [c_1]; decide +kernel) (by decide) ?_
    refine lv_aload_n hx hb dX11_count_40 rfl (lv_at hl 0 rfl) ?_
    refine m_geti S hW hZ.sp.1 2 rfl kX11 (iW11 _) (by decide) (List.mem_cons_of_mem _ (wa_15 _ (List.mem_of_getElem? (i := 0) (by decide +kernel)))) dX11_count_41 ?_
    refine m_top (y := nI (gNe q)) hI.z.ne_ ?_
    exact m_iret S hr hlk hW dX11_count_44 (by exact ⟨by simp only [aCount, if_pos c_1]; try rfl, rfl⟩)
  by_cases c_2 : x = nI 1
  · skip
    refine lv_tableIn (off := 44) (tgt := 45) hx hb dX11_count_1 (by rw [c_2]; decide) (by rw [c_2]; decide) (by rw [c_2]; decide +kernel) (by decide) ?_
    refine lv_aload_n hx hb dX11_count_45 rfl (lv_at hl 0 rfl) ?_
    refine m_geti S hW hZ.sp.1 0 rfl kX11 (iW11 _) (by decide) (List.mem_cons_of_mem _ (wa_15 _ (List.mem_of_getElem? (i := 1) (by decide +kernel)))) dX11_count_46 ?_
    refine m_top (y := nI (gNg q)) hI.z.ng_ ?_
    exact m_iret S hr hlk hW dX11_count_49 (by exact ⟨by simp only [aCount, if_neg c_1, if_pos c_2]; try rfl, rfl⟩)
  by_cases c_3 : x = nI 2
  · skip
    refine lv_tableIn (off := 49) (tgt := 50) hx hb dX11_count_1 (by rw [c_3]; decide) (by rw [c_3]; decide) (by rw [c_3]; decide +kernel) (by decide) ?_
    refine lv_aload_n hx hb dX11_count_50 rfl (lv_at hl 0 rfl) ?_
    refine m_geti S hW hZ.sp.1 6 rfl kX11 (iW11 _) (by decide) (List.mem_cons_of_mem _ (wa_15 _ (List.mem_of_getElem? (i := 2) (by decide +kernel)))) dX11_count_51 ?_
    exact m_iret S hr hlk hW dX11_count_54 (by exact ⟨by simp only [aCount, if_neg c_1, if_neg c_2, if_pos c_3]; exact hZ.rDay.symm, rfl⟩)
  by_cases c_4 : x = nI 3
  · skip
    refine lv_tableIn (off := 54) (tgt := 55) hx hb dX11_count_1 (by rw [c_4]; decide) (by rw [c_4]; decide) (by rw [c_4]; decide +kernel) (by decide) ?_
    refine lv_aload_n hx hb dX11_count_55 rfl (lv_at hl 0 rfl) ?_
    refine m_geti S hW hZ.sp.1 11 rfl kX11 (iW11 _) (by decide) (List.mem_cons_of_mem _ (wa_12 _ (List.mem_of_getElem? (i := 4) (by decide +kernel)))) dX11_count_56 ?_
    refine m_top (y := nI ((gTxs q).length)) hI.tn.1 ?_
    exact m_iret S hr hlk hW dX11_count_59 (by exact ⟨by simp only [aCount, if_neg c_1, if_neg c_2, if_neg c_3, if_pos c_4]; try rfl, rfl⟩)
  by_cases c_5 : x = nI 4
  · skip
    refine lv_tableIn (off := 59) (tgt := 60) hx hb dX11_count_1 (by rw [c_5]; decide) (by rw [c_5]; decide) (by rw [c_5]; decide +kernel) (by decide) ?_
    refine lv_aload_n hx hb dX11_count_60 rfl (lv_at hl 0 rfl) ?_
    refine m_geti S hW hZ.sp.1 12 rfl kX11 (iW11 _) (by decide) (List.mem_cons_of_mem _ (wa_15 _ (List.mem_of_getElem? (i := 3) (by decide +kernel)))) dX11_count_61 ?_
    refine m_top (y := nI (gRl q)) hI.z.rl_ ?_
    exact m_iret S hr hlk hW dX11_count_64 (by exact ⟨by simp only [aCount, if_neg c_1, if_neg c_2, if_neg c_3, if_neg c_4, if_pos c_5]; try rfl, rfl⟩)
  by_cases c_6 : x = nI 5
  · skip
    refine lv_tableIn (off := 64) (tgt := 65) hx hb dX11_count_1 (by rw [c_6]; decide) (by rw [c_6]; decide) (by rw [c_6]; decide +kernel) (by decide) ?_
    refine lv_aload_n hx hb dX11_count_65 rfl (lv_at hl 0 rfl) ?_
    refine m_geti S hW hZ.sp.1 8 rfl kX11 (iW11 _) (by decide) (List.mem_cons_of_mem _ (wa_11 _ (List.mem_of_getElem? (i := 23) (by decide +kernel)))) dX11_count_66 ?_
    refine m_top (y := nI ((gTp q).length)) hI.tp.1 ?_
    exact m_iret S hr hlk hW dX11_count_69 (by exact ⟨by simp only [aCount, if_neg c_1, if_neg c_2, if_neg c_3, if_neg c_4, if_neg c_5, if_pos c_6]; try rfl, rfl⟩)
  refine lv_tableOut (tgt := 70) hx hb dX11_count_1 (by have a0 := lv_neT c_1 (show (nI 0 : Int32).toInt = 0 by decide); have a1 := lv_neT c_2 (show (nI 1 : Int32).toInt = 1 by decide); have a2 := lv_neT c_3 (show (nI 2 : Int32).toInt = 2 by decide); have a3 := lv_neT c_4 (show (nI 3 : Int32).toInt = 3 by decide); have a4 := lv_neT c_5 (show (nI 4 : Int32).toInt = 4 by decide); have a5 := lv_neT c_6 (show (nI 5 : Int32).toInt = 5 by decide); omega) (by decide) ?_
  refine lv_bipush (v := -2) hx hb dX11_count_70 (by decide) ?_
  exact m_iret S hr hlk hW dX11_count_72 (by exact ⟨by simp only [aCount, if_neg c_1, if_neg c_2, if_neg c_3, if_neg c_4, if_neg c_5, if_neg c_6]; try rfl, rfl⟩)
set_option maxHeartbeats 4000000 in
set_option maxRecDepth 100000 in
theorem c_X11_asks (l : Launch) (G : mG) (ad : Nat → Nat) (sh : Nat → Option mSh) (V : mV) (q : Sg) (pt x y cw : Int32) (hI : MI sh V q) : mM l yX11_asks wsX11_asks ({ frames := 3, cells := 0, slots := 0, locals := 71 } : Room) G ad sh V [.ref (ad 200), .int pt, .int x, .int y, .int cw] 0 0 (mPi ad sh (fun r V' => (aAsks q pt x y cw) = r ∧ V' = V)) := by
  refine mM.of (cc := cX11_asks) (maxL := 6) (ret := (some .int)) (by decide) rfl (Nat.le_of_ble_eq_true rfl) ?_
  intro p e s m below meth c S hr hlk hnm hW ls hl
  obtain ⟨hx, hb, hml, hown, hts⟩ := id S
  have hl : lv_has ls 6 [(0, .ref (ad 200)), (1, .int pt), (2, .int x), (3, .int y), (4, .int cw)] := hl
  have hS0 : True := trivial
  have hZ := hI.z
  have hne5 := hZ.ne5
  have hng6 := hZ.ng6
  have htn := hI.tn
  refine lv_iload_n hx hb dX11_asks_0 rfl (lv_at hl 1 rfl) ?_
  refine lv_iconst (v := nI 0) hx hb dX11_asks_1 (by decide) ?_
  refine lv_iconst (v := nI 2) hx hb dX11_asks_2 (by decide) ?_
  refine m_cip (m_rS S hW (c_X11_in l G ad sh V pt 0 2 (by first | assumption | omega) (by first | assumption | omega)) (va_cwS 3 hts (gCall [.methodLink RX11 84 yX11_in, .static yX11_in, .initialized RX11] (List.forall_mem_cons.mpr ⟨(wa_12 _ (List.mem_of_getElem? (i := 16) (by decide +kernel))), (List.forall_mem_cons.mpr ⟨(wa_12 _ (List.mem_of_getElem? (i := 14) (by decide +kernel))), (List.forall_mem_cons.mpr ⟨(wa_12 _ (List.mem_of_getElem? (i := 15) (by decide +kernel))), (List.forall_mem_cons.mpr ⟨(wa_1 _ (List.mem_of_getElem? (i := 5) (by decide +kernel))), (fun _ h => absurd h List.not_mem_nil)⟩)⟩)⟩)⟩)) rfl rfl rfl (by decide +kernel) ⟨Nat.le_of_ble_eq_true rfl, Nat.le_of_ble_eq_true rfl⟩) rfl hl.1 rfl (Nat.le_of_ble_eq_true rfl) dX11_asks_3 ⟨Nat.le_of_ble_eq_true rfl, Nat.le_of_ble_eq_true rfl⟩) hW (fun r_2 H locs hp_1 hW => ?_)
  rcases hp_1 with ⟨rfl, w_3⟩ | ⟨rfl, w_4⟩
  · skip
    obtain ⟨npt, hnpt, hwnpt, hlnpt⟩ := w_3.ex
    have hcpt : pt.toNatClampNeg = npt := by rw [hnpt]; exact nI_clamp (by omega)
    refine m_if_eq (tgt := 41) hx hb dX11_asks_6 (by decide) (fun c_5 => ?_) (fun c_5 => ?_)
    · exact absurd c_5 (by decide)
    · skip
      refine lv_aload_n hx hb dX11_asks_9 rfl (lv_at hl 0 rfl) ?_
      refine lv_iload_n hx hb dX11_asks_10 rfl (lv_at hl 2 rfl) ?_
      refine m_cip (m_rV S hW (c_X11_isEater l G ad sh V (gZ q) (gNe q) (gNg q) (gRl q) (gT q (gRl q)) x hZ) (cwV 1 hts (gCall [.methodLink RX11 179 yX11_isEater, .instanceMethod yX11_isEater, .selects RX11 yX11_isEater yX11_isEater, .initialized RX11] (List.forall_mem_cons.mpr ⟨(wa_19 _ (List.mem_of_getElem? (i := 3) (by decide +kernel))), (List.forall_mem_cons.mpr ⟨(wa_19 _ (List.mem_of_getElem? (i := 0) (by decide +kernel))), (List.forall_mem_cons.mpr ⟨(wa_19 _ (List.mem_of_getElem? (i := 1) (by decide +kernel))), (List.forall_mem_cons.mpr ⟨(wa_19 _ (List.mem_of_getElem? (i := 2) (by decide +kernel))), (List.forall_mem_cons.mpr ⟨(wa_1 _ (List.mem_of_getElem? (i := 5) (by decide +kernel))), (fun _ h => absurd h List.not_mem_nil)⟩)⟩)⟩)⟩)⟩)) rfl rfl rfl (by decide +kernel) ⟨Nat.le_of_ble_eq_true rfl, Nat.le_of_ble_eq_true rfl⟩) hZ.sp.1 kX11 rfl hl.1 rfl (Nat.le_of_ble_eq_true rfl) dX11_asks_11 ⟨Nat.le_of_ble_eq_true rfl, Nat.le_of_ble_eq_true rfl⟩) hW (fun r_7 H locs hp_6 hW => ?_)
      rcases hp_6 with ⟨rfl, w_8⟩ | ⟨rfl, w_9⟩
      · skip
        obtain ⟨nx, hnx, hwnx, hlnx⟩ := w_8.ex
        have hcx : x.toNatClampNeg = nx := by rw [hnx]; exact nI_clamp (by omega)
        refine m_if_eq (tgt := 41) hx hb dX11_asks_14 (by decide) (fun c_10 => ?_) (fun c_10 => ?_)
        · exact absurd c_10 (by decide)
        · skip
          refine lv_aload_n hx hb dX11_asks_17 rfl (lv_at hl 0 rfl) ?_
          refine lv_iload_n hx hb dX11_asks_18 rfl (lv_at hl 3 rfl) ?_
          refine m_cip (m_rV S hW (c_X11_isGood l G ad sh V (gZ q) (gNe q) (gNg q) (gRl q) (gT q (gRl q)) y hZ) (cwV 1 hts (gCall [.methodLink RX11 182 yX11_isGood, .instanceMethod yX11_isGood, .selects RX11 yX11_isGood yX11_isGood, .initialized RX11] (List.forall_mem_cons.mpr ⟨(wa_19 _ (List.mem_of_getElem? (i := 7) (by decide +kernel))), (List.forall_mem_cons.mpr ⟨(wa_19 _ (List.mem_of_getElem? (i := 4) (by decide +kernel))), (List.forall_mem_cons.mpr ⟨(wa_19 _ (List.mem_of_getElem? (i := 5) (by decide +kernel))), (List.forall_mem_cons.mpr ⟨(wa_19 _ (List.mem_of_getElem? (i := 6) (by decide +kernel))), (List.forall_mem_cons.mpr ⟨(wa_1 _ (List.mem_of_getElem? (i := 5) (by decide +kernel))), (fun _ h => absurd h List.not_mem_nil)⟩)⟩)⟩)⟩)⟩)) rfl rfl rfl (by decide +kernel) ⟨Nat.le_of_ble_eq_true rfl, Nat.le_of_ble_eq_true rfl⟩) hZ.sp.1 kX11 rfl hl.1 rfl (Nat.le_of_ble_eq_true rfl) dX11_asks_19 ⟨Nat.le_of_ble_eq_true rfl, Nat.le_of_ble_eq_true rfl⟩) hW (fun r_12 H locs hp_11 hW => ?_)
          rcases hp_11 with ⟨rfl, w_13⟩ | ⟨rfl, w_14⟩
          · skip
            obtain ⟨ny, hny, hwny, hlny⟩ := w_13.ex
            have hcy : y.toNatClampNeg = ny := by rw [hny]; exact nI_clamp (by omega)
            refine m_if_eq (tgt := 41) hx hb dX11_asks_22 (by decide) (fun c_15 => ?_) (fun c_15 => ?_)
            · exact absurd c_15 (by decide)
            · skip
              refine lv_iload hx hb dX11_asks_25 (lv_at hl 4 rfl) ?_
              refine lv_iconst (v := nI 0) hx hb dX11_asks_27 (by decide) ?_
              refine lv_sipush (v := nI 1099) hx hb dX11_asks_28 (by decide) ?_
              refine m_cip (m_rS S hW (c_X11_in l G ad sh V cw 0 1099 (by first | assumption | omega) (by first | assumption | omega)) (va_cwS 3 hts (gCall [.methodLink RX11 84 yX11_in, .static yX11_in, .initialized RX11] (List.forall_mem_cons.mpr ⟨(wa_12 _ (List.mem_of_getElem? (i := 16) (by decide +kernel))), (List.forall_mem_cons.mpr ⟨(wa_12 _ (List.mem_of_getElem? (i := 14) (by decide +kernel))), (List.forall_mem_cons.mpr ⟨(wa_12 _ (List.mem_of_getElem? (i := 15) (by decide +kernel))), (List.forall_mem_cons.mpr ⟨(wa_1 _ (List.mem_of_getElem? (i := 5) (by decide +kernel))), (fun _ h => absurd h List.not_mem_nil)⟩)⟩)⟩)⟩)) rfl rfl rfl (by decide +kernel) ⟨Nat.le_of_ble_eq_true rfl, Nat.le_of_ble_eq_true rfl⟩) rfl hl.1 rfl (Nat.le_of_ble_eq_true rfl) dX11_asks_31 ⟨Nat.le_of_ble_eq_true rfl, Nat.le_of_ble_eq_true rfl⟩) hW (fun r_17 H locs hp_16 hW => ?_)
              rcases hp_16 with ⟨rfl, w_18⟩ | ⟨rfl, w_19⟩
              · skip
                obtain ⟨ncw, hncw, hwncw, hlncw⟩ := w_18.ex
                have hccw : cw.toNatClampNeg = ncw := by rw [hncw]; exact nI_clamp (by omega)
                refine m_if_eq (tgt := 41) hx hb dX11_asks_34 (by decide) (fun c_20 => ?_) (fun c_20 => ?_)
                · exact absurd c_20 (by decide)
                · skip
                  refine lv_iconst (v := nI 1) hx hb dX11_asks_37 (by decide) ?_
                  refine lv_goto (tgt := 42) hx hb dX11_asks_38 (by decide) ?_
                  refine lv_istore (lv' := [(5, .int (nI 1)), (0, .ref (ad 200)), (1, .int pt), (2, .int x), (3, .int y), (4, .int cw)]) hx hb dX11_asks_42 hl (by decide) rfl (fun ls hl => ?_)
                  refine lv_iload hx hb dX11_asks_44 (lv_at hl 0 rfl) ?_
                  refine m_if_eq (tgt := 69) hx hb dX11_asks_46 (by decide) (fun c_21 => ?_) (fun c_21 => ?_)
                  · exact absurd c_21 (by decide)
                  · skip
                    refine lv_aload_n hx hb dX11_asks_49 rfl (lv_at hl 1 rfl) ?_
                    refine lv_iload_n hx hb dX11_asks_50 rfl (lv_at hl 2 rfl) ?_
                    refine m_top (y := nI npt) hnpt ?_
                    refine lv_iload_n hx hb dX11_asks_51 rfl (lv_at hl 3 rfl) ?_
                    refine m_top (y := nI nx) hnx ?_
                    refine lv_iload_n hx hb dX11_asks_52 rfl (lv_at hl 4 rfl) ?_
                    refine m_top (y := nI ny) hny ?_
                    refine lv_iload hx hb dX11_asks_53 (lv_at hl 5 rfl) ?_
                    refine m_top (y := nI ncw) hncw ?_
                    refine lv_bipush (v := nI 100) hx hb dX11_asks_55 (by decide) ?_
                    refine lv_idiv hx hb dX11_asks_57 (by decide) ?_
                    refine m_top (y := nI (ncw / 100)) (pk_div (by omega) (by omega) (by omega)) ?_
                    refine lv_iload hx hb dX11_asks_58 (lv_at hl 5 rfl) ?_
                    refine m_top (y := nI ncw) hncw ?_
                    refine lv_bipush (v := nI 100) hx hb dX11_asks_60 (by decide) ?_
                    refine lv_irem hx hb dX11_asks_62 (by decide) ?_
                    refine m_top (y := nI (ncw % 100)) (pk_rem (by omega) (by omega) (by omega)) ?_
                    refine m_cie (m_rV S hW (c_X11_asksOf l G ad sh V (gZ q) (gNe q) (gNg q) (gRl q) (gT q (gRl q)) nx ny npt (nI (ncw / 100)) (nI (ncw % 100)) hZ (by first | assumption | omega) (by first | assumption | omega) (by omega)) (cwV 5 hts (gCall [.methodLink RX11 185 yX11_asksOf, .instanceMethod yX11_asksOf, .selects RX11 yX11_asksOf yX11_asksOf, .initialized RX11] (List.forall_mem_cons.mpr ⟨(wa_19 _ (List.mem_of_getElem? (i := 11) (by decide +kernel))), (List.forall_mem_cons.mpr ⟨(wa_19 _ (List.mem_of_getElem? (i := 8) (by decide +kernel))), (List.forall_mem_cons.mpr ⟨(wa_19 _ (List.mem_of_getElem? (i := 9) (by decide +kernel))), (List.forall_mem_cons.mpr ⟨(wa_19 _ (List.mem_of_getElem? (i := 10) (by decide +kernel))), (List.forall_mem_cons.mpr ⟨(wa_1 _ (List.mem_of_getElem? (i := 5) (by decide +kernel))), (fun _ h => absurd h List.not_mem_nil)⟩)⟩)⟩)⟩)⟩)) rfl rfl rfl (by decide +kernel) ⟨Nat.le_of_ble_eq_true rfl, Nat.le_of_ble_eq_true rfl⟩) hZ.sp.1 kX11 rfl hl.1 rfl (Nat.le_of_ble_eq_true rfl) dX11_asks_63 ⟨Nat.le_of_ble_eq_true rfl, Nat.le_of_ble_eq_true rfl⟩) hW (fun H locs hW => ?_)
                    refine lv_goto (tgt := 71) hx hb dX11_asks_66 (by decide) ?_
                    exact m_iret S hr hlk hW dX11_asks_71 (by exact ⟨by simp only [aAsks, if_pos w_3, hcpt, if_pos w_8, hcx, if_pos w_13, hcy, if_pos w_18, hccw]; try rfl, rfl⟩)
              · skip
                refine m_if_eq (tgt := 41) hx hb dX11_asks_34 (by decide) (fun c_22 => ?_) (fun c_22 => ?_)
                · skip
                  refine lv_iconst (v := nI 0) hx hb dX11_asks_41 (by decide) ?_
                  refine lv_istore (lv' := [(5, .int (nI 0)), (0, .ref (ad 200)), (1, .int pt), (2, .int x), (3, .int y), (4, .int cw)]) hx hb dX11_asks_42 hl (by decide) rfl (fun ls hl => ?_)
                  refine lv_iload hx hb dX11_asks_44 (lv_at hl 0 rfl) ?_
                  refine m_if_eq (tgt := 69) hx hb dX11_asks_46 (by decide) (fun c_23 => ?_) (fun c_23 => ?_)
                  · skip
                    refine lv_bipush (v := -2) hx hb dX11_asks_69 (by decide) ?_
                    exact m_iret S hr hlk hW dX11_asks_71 (by exact ⟨by simp only [aAsks, if_pos w_3, hcpt, if_pos w_8, hcx, if_pos w_13, hcy, if_neg w_19]; try rfl, rfl⟩)
                  · exact absurd c_23 (by decide)
                · exact absurd c_22 (by decide)
          · skip
            refine m_if_eq (tgt := 41) hx hb dX11_asks_22 (by decide) (fun c_24 => ?_) (fun c_24 => ?_)
            · skip
              refine lv_iconst (v := nI 0) hx hb dX11_asks_41 (by decide) ?_
              refine lv_istore (lv' := [(5, .int (nI 0)), (0, .ref (ad 200)), (1, .int pt), (2, .int x), (3, .int y), (4, .int cw)]) hx hb dX11_asks_42 hl (by decide) rfl (fun ls hl => ?_)
              refine lv_iload hx hb dX11_asks_44 (lv_at hl 0 rfl) ?_
              refine m_if_eq (tgt := 69) hx hb dX11_asks_46 (by decide) (fun c_25 => ?_) (fun c_25 => ?_)
              · skip
                refine lv_bipush (v := -2) hx hb dX11_asks_69 (by decide) ?_
                exact m_iret S hr hlk hW dX11_asks_71 (by exact ⟨by simp only [aAsks, if_pos w_3, hcpt, if_pos w_8, hcx, if_neg w_14]; try rfl, rfl⟩)
              · exact absurd c_25 (by decide)
            · exact absurd c_24 (by decide)
      · skip
        refine m_if_eq (tgt := 41) hx hb dX11_asks_14 (by decide) (fun c_26 => ?_) (fun c_26 => ?_)
        · skip
          refine lv_iconst (v := nI 0) hx hb dX11_asks_41 (by decide) ?_
          refine lv_istore (lv' := [(5, .int (nI 0)), (0, .ref (ad 200)), (1, .int pt), (2, .int x), (3, .int y), (4, .int cw)]) hx hb dX11_asks_42 hl (by decide) rfl (fun ls hl => ?_)
          refine lv_iload hx hb dX11_asks_44 (lv_at hl 0 rfl) ?_
          refine m_if_eq (tgt := 69) hx hb dX11_asks_46 (by decide) (fun c_27 => ?_) (fun c_27 => ?_)
          · skip
            refine lv_bipush (v := -2) hx hb dX11_asks_69 (by decide) ?_
            exact m_iret S hr hlk hW dX11_asks_71 (by exact ⟨by simp only [aAsks, if_pos w_3, hcpt, if_neg w_9]; try rfl, rfl⟩)
          · exact absurd c_27 (by decide)
        · exact absurd c_26 (by decide)
  · skip
    refine m_if_eq (tgt := 41) hx hb dX11_asks_6 (by decide) (fun c_28 => ?_) (fun c_28 => ?_)
    · skip
      refine lv_iconst (v := nI 0) hx hb dX11_asks_41 (by decide) ?_
      refine lv_istore (lv' := [(5, .int (nI 0)), (0, .ref (ad 200)), (1, .int pt), (2, .int x), (3, .int y), (4, .int cw)]) hx hb dX11_asks_42 hl (by decide) rfl (fun ls hl => ?_)
      refine lv_iload hx hb dX11_asks_44 (lv_at hl 0 rfl) ?_
      refine m_if_eq (tgt := 69) hx hb dX11_asks_46 (by decide) (fun c_29 => ?_) (fun c_29 => ?_)
      · skip
        refine lv_bipush (v := -2) hx hb dX11_asks_69 (by decide) ?_
        exact m_iret S hr hlk hW dX11_asks_71 (by exact ⟨by simp only [aAsks, if_neg w_4]; try rfl, rfl⟩)
      · exact absurd c_29 (by decide)
    · exact absurd c_28 (by decide)
set_option maxHeartbeats 4000000 in
set_option maxRecDepth 100000 in
theorem c_X11_part (l : Launch) (G : mG) (ad : Nat → Nat) (sh : Nat → Option mSh) (V : mV) (q : Sg) (x y : Int32) (hI : MI sh V q) : mM l yX11_part wsX11_part ({ frames := 2, cells := 0, slots := 0, locals := 43 } : Room) G ad sh V [.ref (ad 200), .int x, .int y] 0 0 (mPi ad sh (fun r V' => (aPart q x y) = r ∧ V' = V)) := by
  refine mM.of (cc := cX11_part) (maxL := 3) (ret := (some .int)) (by decide) rfl (Nat.le_of_ble_eq_true rfl) ?_
  intro p e s m below meth c S hr hlk hnm hW ls hl
  obtain ⟨hx, hb, hml, hown, hts⟩ := id S
  have hl : lv_has ls 3 [(0, .ref (ad 200)), (1, .int x), (2, .int y)] := hl
  have hS0 : True := trivial
  have hZ := hI.z
  have hne5 := hZ.ne5
  have hng6 := hZ.ng6
  have htn := hI.tn
  refine lv_aload_n hx hb dX11_part_0 rfl (lv_at hl 0 rfl) ?_
  refine lv_iload_n hx hb dX11_part_1 rfl (lv_at hl 1 rfl) ?_
  refine m_cip (m_rV S hW (c_X11_isGood l G ad sh V (gZ q) (gNe q) (gNg q) (gRl q) (gT q (gRl q)) x hZ) (cwV 1 hts (gCall [.methodLink RX11 182 yX11_isGood, .instanceMethod yX11_isGood, .selects RX11 yX11_isGood yX11_isGood, .initialized RX11] (List.forall_mem_cons.mpr ⟨(wa_19 _ (List.mem_of_getElem? (i := 7) (by decide +kernel))), (List.forall_mem_cons.mpr ⟨(wa_19 _ (List.mem_of_getElem? (i := 4) (by decide +kernel))), (List.forall_mem_cons.mpr ⟨(wa_19 _ (List.mem_of_getElem? (i := 5) (by decide +kernel))), (List.forall_mem_cons.mpr ⟨(wa_19 _ (List.mem_of_getElem? (i := 6) (by decide +kernel))), (List.forall_mem_cons.mpr ⟨(wa_1 _ (List.mem_of_getElem? (i := 5) (by decide +kernel))), (fun _ h => absurd h List.not_mem_nil)⟩)⟩)⟩)⟩)⟩)) rfl rfl rfl (by decide +kernel) ⟨Nat.le_of_ble_eq_true rfl, Nat.le_of_ble_eq_true rfl⟩) hZ.sp.1 kX11 rfl hl.1 rfl (Nat.le_of_ble_eq_true rfl) dX11_part_2 ⟨Nat.le_of_ble_eq_true rfl, Nat.le_of_ble_eq_true rfl⟩) hW (fun r_2 H locs hp_1 hW => ?_)
  rcases hp_1 with ⟨rfl, w_3⟩ | ⟨rfl, w_4⟩
  · skip
    obtain ⟨nx, hnx, hwnx, hlnx⟩ := w_3.ex
    have hcx : x.toNatClampNeg = nx := by rw [hnx]; exact nI_clamp (by omega)
    refine m_if_ne (tgt := 11) hx hb dX11_part_5 (by decide) (fun c_5 => ?_) (fun c_5 => ?_)
    · skip
      refine lv_iload_n hx hb dX11_part_11 rfl (lv_at hl 2 rfl) ?_
      refine lv_iconst (v := nI 0) hx hb dX11_part_12 (by decide) ?_
      refine lv_bipush (v := nI 11) hx hb dX11_part_13 (by decide) ?_
      refine m_cip (m_rS S hW (c_X11_in l G ad sh V y 0 11 (by first | assumption | omega) (by first | assumption | omega)) (va_cwS 3 hts (gCall [.methodLink RX11 84 yX11_in, .static yX11_in, .initialized RX11] (List.forall_mem_cons.mpr ⟨(wa_12 _ (List.mem_of_getElem? (i := 16) (by decide +kernel))), (List.forall_mem_cons.mpr ⟨(wa_12 _ (List.mem_of_getElem? (i := 14) (by decide +kernel))), (List.forall_mem_cons.mpr ⟨(wa_12 _ (List.mem_of_getElem? (i := 15) (by decide +kernel))), (List.forall_mem_cons.mpr ⟨(wa_1 _ (List.mem_of_getElem? (i := 5) (by decide +kernel))), (fun _ h => absurd h List.not_mem_nil)⟩)⟩)⟩)⟩)) rfl rfl rfl (by decide +kernel) ⟨Nat.le_of_ble_eq_true rfl, Nat.le_of_ble_eq_true rfl⟩) rfl hl.1 rfl (Nat.le_of_ble_eq_true rfl) dX11_part_15 ⟨Nat.le_of_ble_eq_true rfl, Nat.le_of_ble_eq_true rfl⟩) hW (fun r_7 H locs hp_6 hW => ?_)
      rcases hp_6 with ⟨rfl, w_8⟩ | ⟨rfl, w_9⟩
      · skip
        obtain ⟨ny, hny, hwny, hlny⟩ := w_8.ex
        have hcy : y.toNatClampNeg = ny := by rw [hny]; exact nI_clamp (by omega)
        refine m_if_eq (tgt := 35) hx hb dX11_part_18 (by decide) (fun c_10 => ?_) (fun c_10 => ?_)
        · exact absurd c_10 (by decide)
        · skip
          refine lv_aload_n hx hb dX11_part_21 rfl (lv_at hl 0 rfl) ?_
          refine m_getr S hW hZ.sp.1 1 rfl (j := 201) rfl kX11 (iW11 _) (by decide) (List.mem_cons_of_mem _ (wa_11 _ (List.mem_of_getElem? (i := 2) (by decide +kernel)))) dX11_part_22 ?_
          refine lv_bipush (v := nI 12) hx hb dX11_part_25 (by decide) ?_
          refine lv_iload_n hx hb dX11_part_27 rfl (lv_at hl 1 rfl) ?_
          refine m_top (y := nI nx) hnx ?_
          refine lv_imul hx hb dX11_part_28 ?_
          refine m_top (y := nI (12 * nx)) (pk_mul 12 nx) ?_
          refine lv_iload_n hx hb dX11_part_29 rfl (lv_at hl 2 rfl) ?_
          refine m_top (y := nI ny) hny ?_
          refine lv_iadd hx hb dX11_part_30 ?_
          refine m_top (y := nI ((12 * nx) + ny)) (nI_add (12 * nx) ny) ?_
          refine m_iald S hW hZ.sp.2.1 ((12 * nx) + ny) rfl (by omega) (by decide) dX11_part_31 ?_
          refine m_top (y := (zPart (gZ q) nx ny)) (hZ.rPart hlnx (by omega)) ?_
          refine lv_goto (tgt := 37) hx hb dX11_part_32 (by decide) ?_
          exact m_iret S hr hlk hW dX11_part_37 (by exact ⟨by simp only [aPart, if_pos w_3, hcx, if_pos w_8, hcy]; try rfl, rfl⟩)
      · skip
        refine m_if_eq (tgt := 35) hx hb dX11_part_18 (by decide) (fun c_11 => ?_) (fun c_11 => ?_)
        · skip
          refine lv_bipush (v := -7) hx hb dX11_part_35 (by decide) ?_
          exact m_iret S hr hlk hW dX11_part_37 (by exact ⟨by simp only [aPart, if_pos w_3, hcx, if_neg w_9]; try rfl, rfl⟩)
        · exact absurd c_11 (by decide)
    · exact absurd c_5 (by decide)
  · skip
    refine m_if_ne (tgt := 11) hx hb dX11_part_5 (by decide) (fun c_12 => ?_) (fun c_12 => ?_)
    · exact absurd c_12 (by decide)
    · skip
      refine lv_bipush (v := -5) hx hb dX11_part_8 (by decide) ?_
      exact m_iret S hr hlk hW dX11_part_10 (by exact ⟨by simp only [aPart, if_neg w_4]; try rfl, rfl⟩)
set_option maxHeartbeats 4000000 in
set_option maxRecDepth 100000 in
theorem c_X11_told (l : Launch) (G : mG) (ad : Nat → Nat) (sh : Nat → Option mSh) (V : mV) (q : Sg) (x y : Int32) (hI : MI sh V q) : mM l yX11_told wsX11_told ({ frames := 2, cells := 0, slots := 0, locals := 43 } : Room) G ad sh V [.ref (ad 200), .int x, .int y] 0 0 (mPi ad sh (fun r V' => (aTold q x y) = r ∧ V' = V)) := by
  refine mM.of (cc := cX11_told) (maxL := 3) (ret := (some .int)) (by decide) rfl (Nat.le_of_ble_eq_true rfl) ?_
  intro p e s m below meth c S hr hlk hnm hW ls hl
  obtain ⟨hx, hb, hml, hown, hts⟩ := id S
  have hl : lv_has ls 3 [(0, .ref (ad 200)), (1, .int x), (2, .int y)] := hl
  have hS0 : True := trivial
  have hZ := hI.z
  have hne5 := hZ.ne5
  have hng6 := hZ.ng6
  have htn := hI.tn
  refine lv_aload_n hx hb dX11_told_0 rfl (lv_at hl 0 rfl) ?_
  refine lv_iload_n hx hb dX11_told_1 rfl (lv_at hl 1 rfl) ?_
  refine m_cip (m_rV S hW (c_X11_isEater l G ad sh V (gZ q) (gNe q) (gNg q) (gRl q) (gT q (gRl q)) x hZ) (cwV 1 hts (gCall [.methodLink RX11 179 yX11_isEater, .instanceMethod yX11_isEater, .selects RX11 yX11_isEater yX11_isEater, .initialized RX11] (List.forall_mem_cons.mpr ⟨(wa_19 _ (List.mem_of_getElem? (i := 3) (by decide +kernel))), (List.forall_mem_cons.mpr ⟨(wa_19 _ (List.mem_of_getElem? (i := 0) (by decide +kernel))), (List.forall_mem_cons.mpr ⟨(wa_19 _ (List.mem_of_getElem? (i := 1) (by decide +kernel))), (List.forall_mem_cons.mpr ⟨(wa_19 _ (List.mem_of_getElem? (i := 2) (by decide +kernel))), (List.forall_mem_cons.mpr ⟨(wa_1 _ (List.mem_of_getElem? (i := 5) (by decide +kernel))), (fun _ h => absurd h List.not_mem_nil)⟩)⟩)⟩)⟩)⟩)) rfl rfl rfl (by decide +kernel) ⟨Nat.le_of_ble_eq_true rfl, Nat.le_of_ble_eq_true rfl⟩) hZ.sp.1 kX11 rfl hl.1 rfl (Nat.le_of_ble_eq_true rfl) dX11_told_2 ⟨Nat.le_of_ble_eq_true rfl, Nat.le_of_ble_eq_true rfl⟩) hW (fun r_2 H locs hp_1 hW => ?_)
  rcases hp_1 with ⟨rfl, w_3⟩ | ⟨rfl, w_4⟩
  · skip
    obtain ⟨nx, hnx, hwnx, hlnx⟩ := w_3.ex
    have hcx : x.toNatClampNeg = nx := by rw [hnx]; exact nI_clamp (by omega)
    refine m_if_ne (tgt := 11) hx hb dX11_told_5 (by decide) (fun c_5 => ?_) (fun c_5 => ?_)
    · skip
      refine lv_iload_n hx hb dX11_told_11 rfl (lv_at hl 2 rfl) ?_
      refine m_if_ne (tgt := 24) hx hb dX11_told_12 (by decide) (fun c_6 => ?_) (fun c_6 => ?_)
      · skip
        refine lv_iload_n hx hb dX11_told_24 rfl (lv_at hl 2 rfl) ?_
        refine lv_iconst (v := nI 1) hx hb dX11_told_25 (by decide) ?_
        refine lv_icmp_ne (tgt := 38) hx hb dX11_told_26 (by decide) (fun c_7 => ?_) (fun c_7 => ?_)
        · skip
          refine lv_iload_n hx hb dX11_told_38 rfl (lv_at hl 2 rfl) ?_
          refine lv_iconst (v := nI 2) hx hb dX11_told_39 (by decide) ?_
          refine lv_iconst (v := nI 4) hx hb dX11_told_40 (by decide) ?_
          refine m_cip (m_rS S hW (c_X11_in l G ad sh V y 2 4 (by first | assumption | omega) (by first | assumption | omega)) (va_cwS 3 hts (gCall [.methodLink RX11 84 yX11_in, .static yX11_in, .initialized RX11] (List.forall_mem_cons.mpr ⟨(wa_12 _ (List.mem_of_getElem? (i := 16) (by decide +kernel))), (List.forall_mem_cons.mpr ⟨(wa_12 _ (List.mem_of_getElem? (i := 14) (by decide +kernel))), (List.forall_mem_cons.mpr ⟨(wa_12 _ (List.mem_of_getElem? (i := 15) (by decide +kernel))), (List.forall_mem_cons.mpr ⟨(wa_1 _ (List.mem_of_getElem? (i := 5) (by decide +kernel))), (fun _ h => absurd h List.not_mem_nil)⟩)⟩)⟩)⟩)) rfl rfl rfl (by decide +kernel) ⟨Nat.le_of_ble_eq_true rfl, Nat.le_of_ble_eq_true rfl⟩) rfl hl.1 rfl (Nat.le_of_ble_eq_true rfl) dX11_told_41 ⟨Nat.le_of_ble_eq_true rfl, Nat.le_of_ble_eq_true rfl⟩) hW (fun r_9 H locs hp_8 hW => ?_)
          rcases hp_8 with ⟨rfl, w_10⟩ | ⟨rfl, w_11⟩
          · skip
            obtain ⟨ny, hny, hwny, hlny⟩ := w_10.ex
            have hcy : y.toNatClampNeg = ny := by rw [hny]; exact nI_clamp (by omega)
            refine m_if_eq (tgt := 62) hx hb dX11_told_44 (by decide) (fun c_12 => ?_) (fun c_12 => ?_)
            · exact absurd c_12 (by decide)
            · skip
              have hp : mIn y 0 5 := by rw [hny]; exact (mIn_nI (by omega)).mpr ⟨by omega, by omega⟩
              refine lv_aload_n hx hb dX11_told_47 rfl (lv_at hl 0 rfl) ?_
              refine m_getr S hW hZ.sp.1 5 rfl (j := 204) rfl kX11 (iW11 _) (by decide) (List.mem_cons_of_mem _ (wa_11 _ (List.mem_of_getElem? (i := 5) (by decide +kernel)))) dX11_told_48 ?_
              refine lv_iconst (v := nI 3) hx hb dX11_told_51 (by decide) ?_
              refine lv_iload_n hx hb dX11_told_52 rfl (lv_at hl 1 rfl) ?_
              refine m_top (y := nI nx) hnx ?_
              refine lv_imul hx hb dX11_told_53 ?_
              refine m_top (y := nI (3 * nx)) (pk_mul 3 nx) ?_
              refine lv_iload_n hx hb dX11_told_54 rfl (lv_at hl 2 rfl) ?_
              refine m_top (y := nI ny) hny ?_
              refine lv_iadd hx hb dX11_told_55 ?_
              refine m_top (y := nI ((3 * nx) + ny)) (nI_add (3 * nx) ny) ?_
              refine lv_iconst (v := nI 2) hx hb dX11_told_56 (by decide) ?_
              refine lv_isub hx hb dX11_told_57 ?_
              refine m_top (y := nI (((3 * nx) + ny) - 2)) (pk_sub (by omega)) ?_
              refine m_iald S hW hZ.sp.2.2.2.2.1 (((3 * nx) + ny) - 2) rfl (by omega) (by decide) dX11_told_58 ?_
              refine m_top (y := (gZ q (4 + nx) ny)) (hZ.rRow hlnx (by omega) (by omega)) ?_
              refine lv_goto (tgt := 64) hx hb dX11_told_59 (by decide) ?_
              exact m_iret S hr hlk hW dX11_told_64 (by exact ⟨by simp only [aTold, if_pos w_3, hcx, if_pos w_10, hcy, if_pos hp]; try rfl, rfl⟩)
          · skip
            refine m_if_eq (tgt := 62) hx hb dX11_told_44 (by decide) (fun c_13 => ?_) (fun c_13 => ?_)
            · skip
              have hno : ¬ mIn y 0 5 := told_no c_6 c_7 w_11
              refine lv_bipush (v := -7) hx hb dX11_told_62 (by decide) ?_
              exact m_iret S hr hlk hW dX11_told_64 (by exact ⟨by simp only [aTold, if_pos w_3, hcx, if_neg hno]; try rfl, rfl⟩)
            · exact absurd c_13 (by decide)
        · skip
          have hp : mIn y 0 5 := by rw [c_7]; decide
          have hcy : y.toNatClampNeg = 1 := by rw [c_7]; decide
          refine lv_aload_n hx hb dX11_told_29 rfl (lv_at hl 0 rfl) ?_
          refine m_getr S hW hZ.sp.1 4 rfl (j := 203) rfl kX11 (iW11 _) (by decide) (List.mem_cons_of_mem _ (wa_11 _ (List.mem_of_getElem? (i := 4) (by decide +kernel)))) dX11_told_30 ?_
          refine lv_iload_n hx hb dX11_told_33 rfl (lv_at hl 1 rfl) ?_
          refine m_top (y := nI nx) hnx ?_
          refine m_iald S hW hZ.sp.2.2.2.1 nx rfl (by omega) (by decide) dX11_told_34 ?_
          refine m_top (y := (gZ q (4 + nx) 1)) (hZ.iMo hlnx) ?_
          refine lv_goto (tgt := 64) hx hb dX11_told_35 (by decide) ?_
          exact m_iret S hr hlk hW dX11_told_64 (by exact ⟨by simp only [aTold, if_pos w_3, hcx, if_pos hp, hcy]; try rfl, rfl⟩)
      · skip
        have hp : mIn y 0 5 := by rw [c_6]; decide
        have hcy : y.toNatClampNeg = 0 := by rw [c_6]; decide
        refine lv_aload_n hx hb dX11_told_15 rfl (lv_at hl 0 rfl) ?_
        refine m_getr S hW hZ.sp.1 3 rfl (j := 202) rfl kX11 (iW11 _) (by decide) (List.mem_cons_of_mem _ (wa_11 _ (List.mem_of_getElem? (i := 3) (by decide +kernel)))) dX11_told_16 ?_
        refine lv_iload_n hx hb dX11_told_19 rfl (lv_at hl 1 rfl) ?_
        refine m_top (y := nI nx) hnx ?_
        refine m_iald S hW hZ.sp.2.2.1 nx rfl (by omega) (by decide) dX11_told_20 ?_
        refine m_top (y := (gZ q (4 + nx) 0)) (hZ.iKi hlnx) ?_
        refine lv_goto (tgt := 64) hx hb dX11_told_21 (by decide) ?_
        exact m_iret S hr hlk hW dX11_told_64 (by exact ⟨by simp only [aTold, if_pos w_3, hcx, if_pos hp, hcy]; try rfl, rfl⟩)
    · exact absurd c_5 (by decide)
  · skip
    refine m_if_ne (tgt := 11) hx hb dX11_told_5 (by decide) (fun c_14 => ?_) (fun c_14 => ?_)
    · exact absurd c_14 (by decide)
    · skip
      refine lv_bipush (v := -5) hx hb dX11_told_8 (by decide) ?_
      exact m_iret S hr hlk hW dX11_told_10 (by exact ⟨by simp only [aTold, if_neg w_4]; try rfl, rfl⟩)
set_option maxHeartbeats 4000000 in
set_option maxRecDepth 100000 in
theorem c_X11_shape (l : Launch) (G : mG) (ad : Nat → Nat) (sh : Nat → Option mSh) (V : mV) (q : Sg) (x y : Int32) (hI : MI sh V q) : mM l yX11_shape wsX11_shape ({ frames := 2, cells := 0, slots := 0, locals := 44 } : Room) G ad sh V [.ref (ad 200), .int x, .int y] 0 0 (mPi ad sh (fun r V' => (aShape q x y) = r ∧ V' = V)) := by
  refine mM.of (cc := cX11_shape) (maxL := 3) (ret := (some .int)) (by decide) rfl (Nat.le_of_ble_eq_true rfl) ?_
  intro p e s m below meth c S hr hlk hnm hW ls hl
  obtain ⟨hx, hb, hml, hown, hts⟩ := id S
  have hl : lv_has ls 3 [(0, .ref (ad 200)), (1, .int x), (2, .int y)] := hl
  have hS0 : True := trivial
  have hZ := hI.z
  have hne5 := hZ.ne5
  have hng6 := hZ.ng6
  have htn := hI.tn
  refine lv_aload_n hx hb dX11_shape_0 rfl (lv_at hl 0 rfl) ?_
  refine lv_iload_n hx hb dX11_shape_1 rfl (lv_at hl 1 rfl) ?_
  refine m_cip (m_rV S hW (c_X11_isEater l G ad sh V (gZ q) (gNe q) (gNg q) (gRl q) (gT q (gRl q)) x hZ) (cwV 1 hts (gCall [.methodLink RX11 179 yX11_isEater, .instanceMethod yX11_isEater, .selects RX11 yX11_isEater yX11_isEater, .initialized RX11] (List.forall_mem_cons.mpr ⟨(wa_19 _ (List.mem_of_getElem? (i := 3) (by decide +kernel))), (List.forall_mem_cons.mpr ⟨(wa_19 _ (List.mem_of_getElem? (i := 0) (by decide +kernel))), (List.forall_mem_cons.mpr ⟨(wa_19 _ (List.mem_of_getElem? (i := 1) (by decide +kernel))), (List.forall_mem_cons.mpr ⟨(wa_19 _ (List.mem_of_getElem? (i := 2) (by decide +kernel))), (List.forall_mem_cons.mpr ⟨(wa_1 _ (List.mem_of_getElem? (i := 5) (by decide +kernel))), (fun _ h => absurd h List.not_mem_nil)⟩)⟩)⟩)⟩)⟩)) rfl rfl rfl (by decide +kernel) ⟨Nat.le_of_ble_eq_true rfl, Nat.le_of_ble_eq_true rfl⟩) hZ.sp.1 kX11 rfl hl.1 rfl (Nat.le_of_ble_eq_true rfl) dX11_shape_2 ⟨Nat.le_of_ble_eq_true rfl, Nat.le_of_ble_eq_true rfl⟩) hW (fun r_2 H locs hp_1 hW => ?_)
  rcases hp_1 with ⟨rfl, w_3⟩ | ⟨rfl, w_4⟩
  · skip
    obtain ⟨nx, hnx, hwnx, hlnx⟩ := w_3.ex
    have hcx : x.toNatClampNeg = nx := by rw [hnx]; exact nI_clamp (by omega)
    refine m_if_eq (tgt := 25) hx hb dX11_shape_5 (by decide) (fun c_5 => ?_) (fun c_5 => ?_)
    · exact absurd c_5 (by decide)
    · skip
      refine lv_aload_n hx hb dX11_shape_8 rfl (lv_at hl 0 rfl) ?_
      refine lv_iload_n hx hb dX11_shape_9 rfl (lv_at hl 2 rfl) ?_
      refine m_cip (m_rV S hW (c_X11_isGood l G ad sh V (gZ q) (gNe q) (gNg q) (gRl q) (gT q (gRl q)) y hZ) (cwV 1 hts (gCall [.methodLink RX11 182 yX11_isGood, .instanceMethod yX11_isGood, .selects RX11 yX11_isGood yX11_isGood, .initialized RX11] (List.forall_mem_cons.mpr ⟨(wa_19 _ (List.mem_of_getElem? (i := 7) (by decide +kernel))), (List.forall_mem_cons.mpr ⟨(wa_19 _ (List.mem_of_getElem? (i := 4) (by decide +kernel))), (List.forall_mem_cons.mpr ⟨(wa_19 _ (List.mem_of_getElem? (i := 5) (by decide +kernel))), (List.forall_mem_cons.mpr ⟨(wa_19 _ (List.mem_of_getElem? (i := 6) (by decide +kernel))), (List.forall_mem_cons.mpr ⟨(wa_1 _ (List.mem_of_getElem? (i := 5) (by decide +kernel))), (fun _ h => absurd h List.not_mem_nil)⟩)⟩)⟩)⟩)⟩)) rfl rfl rfl (by decide +kernel) ⟨Nat.le_of_ble_eq_true rfl, Nat.le_of_ble_eq_true rfl⟩) hZ.sp.1 kX11 rfl hl.1 rfl (Nat.le_of_ble_eq_true rfl) dX11_shape_10 ⟨Nat.le_of_ble_eq_true rfl, Nat.le_of_ble_eq_true rfl⟩) hW (fun r_7 H locs hp_6 hW => ?_)
      rcases hp_6 with ⟨rfl, w_8⟩ | ⟨rfl, w_9⟩
      · skip
        obtain ⟨ny, hny, hwny, hlny⟩ := w_8.ex
        have hcy : y.toNatClampNeg = ny := by rw [hny]; exact nI_clamp (by omega)
        refine m_if_eq (tgt := 25) hx hb dX11_shape_13 (by decide) (fun c_10 => ?_) (fun c_10 => ?_)
        · exact absurd c_10 (by decide)
        · skip
          refine lv_aload_n hx hb dX11_shape_16 rfl (lv_at hl 0 rfl) ?_
          refine lv_iload_n hx hb dX11_shape_17 rfl (lv_at hl 1 rfl) ?_
          refine m_top (y := nI nx) hnx ?_
          refine lv_iload_n hx hb dX11_shape_18 rfl (lv_at hl 2 rfl) ?_
          refine m_top (y := nI ny) hny ?_
          refine m_cie (m_rV S hW (c_X11_shapeOf l G ad sh V (gZ q) (gNe q) (gNg q) (gRl q) (gT q (gRl q)) nx ny hZ (by first | assumption | omega) (by first | assumption | omega)) (cwV 2 hts (gCall [.methodLink RX11 189 yX11_shapeOf, .instanceMethod yX11_shapeOf, .selects RX11 yX11_shapeOf yX11_shapeOf, .initialized RX11] (List.forall_mem_cons.mpr ⟨(wa_24 _ (List.mem_of_getElem? (i := 20) (by decide +kernel))), (List.forall_mem_cons.mpr ⟨(wa_24 _ (List.mem_of_getElem? (i := 17) (by decide +kernel))), (List.forall_mem_cons.mpr ⟨(wa_24 _ (List.mem_of_getElem? (i := 18) (by decide +kernel))), (List.forall_mem_cons.mpr ⟨(wa_24 _ (List.mem_of_getElem? (i := 19) (by decide +kernel))), (List.forall_mem_cons.mpr ⟨(wa_1 _ (List.mem_of_getElem? (i := 5) (by decide +kernel))), (fun _ h => absurd h List.not_mem_nil)⟩)⟩)⟩)⟩)⟩)) rfl rfl rfl (by decide +kernel) ⟨Nat.le_of_ble_eq_true rfl, Nat.le_of_ble_eq_true rfl⟩) hZ.sp.1 kX11 rfl hl.1 rfl (Nat.le_of_ble_eq_true rfl) dX11_shape_19 ⟨Nat.le_of_ble_eq_true rfl, Nat.le_of_ble_eq_true rfl⟩) hW (fun H locs hW => ?_)
          refine lv_goto (tgt := 27) hx hb dX11_shape_22 (by decide) ?_
          exact m_iret S hr hlk hW dX11_shape_27 (by exact ⟨by simp only [aShape, if_pos w_3, hcx, if_pos w_8, hcy]; try rfl, rfl⟩)
      · skip
        refine m_if_eq (tgt := 25) hx hb dX11_shape_13 (by decide) (fun c_11 => ?_) (fun c_11 => ?_)
        · skip
          refine lv_bipush (v := -5) hx hb dX11_shape_25 (by decide) ?_
          exact m_iret S hr hlk hW dX11_shape_27 (by exact ⟨by simp only [aShape, if_pos w_3, hcx, if_neg w_9]; try rfl, rfl⟩)
        · exact absurd c_11 (by decide)
  · skip
    refine m_if_eq (tgt := 25) hx hb dX11_shape_5 (by decide) (fun c_12 => ?_) (fun c_12 => ?_)
    · skip
      refine lv_bipush (v := -5) hx hb dX11_shape_25 (by decide) ?_
      exact m_iret S hr hlk hW dX11_shape_27 (by exact ⟨by simp only [aShape, if_neg w_4]; try rfl, rfl⟩)
    · exact absurd c_12 (by decide)
set_option maxHeartbeats 4000000 in
set_option maxRecDepth 100000 in
theorem c_X11_mark (l : Launch) (G : mG) (ad : Nat → Nat) (sh : Nat → Option mSh) (V : mV) (q : Sg) (x y pl w : Int32) (hI : MI sh V q) : mM l yX11_mark wsX11_mark ({ frames := 4, cells := 0, slots := 0, locals := 97 } : Room) G ad sh V [.ref (ad 200), .int x, .int y, .int pl, .int w] 0 0 (mPi ad sh (fun r V' => (aMark q x y pl w) = r ∧ V' = V)) := by
  refine mM.of (cc := cX11_mark) (maxL := 6) (ret := (some .int)) (by decide) rfl (Nat.le_of_ble_eq_true rfl) ?_
  intro p e s m below meth c S hr hlk hnm hW ls hl
  obtain ⟨hx, hb, hml, hown, hts⟩ := id S
  have hl : lv_has ls 6 [(0, .ref (ad 200)), (1, .int x), (2, .int y), (3, .int pl), (4, .int w)] := hl
  have hS0 : True := trivial
  have hZ := hI.z
  have hne5 := hZ.ne5
  have hng6 := hZ.ng6
  have htn := hI.tn
  refine lv_aload_n hx hb dX11_mark_0 rfl (lv_at hl 0 rfl) ?_
  refine lv_iload_n hx hb dX11_mark_1 rfl (lv_at hl 1 rfl) ?_
  refine m_cip (m_rV S hW (c_X11_isEater l G ad sh V (gZ q) (gNe q) (gNg q) (gRl q) (gT q (gRl q)) x hZ) (cwV 1 hts (gCall [.methodLink RX11 179 yX11_isEater, .instanceMethod yX11_isEater, .selects RX11 yX11_isEater yX11_isEater, .initialized RX11] (List.forall_mem_cons.mpr ⟨(wa_19 _ (List.mem_of_getElem? (i := 3) (by decide +kernel))), (List.forall_mem_cons.mpr ⟨(wa_19 _ (List.mem_of_getElem? (i := 0) (by decide +kernel))), (List.forall_mem_cons.mpr ⟨(wa_19 _ (List.mem_of_getElem? (i := 1) (by decide +kernel))), (List.forall_mem_cons.mpr ⟨(wa_19 _ (List.mem_of_getElem? (i := 2) (by decide +kernel))), (List.forall_mem_cons.mpr ⟨(wa_1 _ (List.mem_of_getElem? (i := 5) (by decide +kernel))), (fun _ h => absurd h List.not_mem_nil)⟩)⟩)⟩)⟩)⟩)) rfl rfl rfl (by decide +kernel) ⟨Nat.le_of_ble_eq_true rfl, Nat.le_of_ble_eq_true rfl⟩) hZ.sp.1 kX11 rfl hl.1 rfl (Nat.le_of_ble_eq_true rfl) dX11_mark_2 ⟨Nat.le_of_ble_eq_true rfl, Nat.le_of_ble_eq_true rfl⟩) hW (fun r_2 H locs hp_1 hW => ?_)
  rcases hp_1 with ⟨rfl, w_3⟩ | ⟨rfl, w_4⟩
  · skip
    obtain ⟨nx, hnx, hwnx, hlnx⟩ := w_3.ex
    have hcx : x.toNatClampNeg = nx := by rw [hnx]; exact nI_clamp (by omega)
    refine m_if_eq (tgt := 16) hx hb dX11_mark_5 (by decide) (fun c_5 => ?_) (fun c_5 => ?_)
    · exact absurd c_5 (by decide)
    · skip
      refine lv_aload_n hx hb dX11_mark_8 rfl (lv_at hl 0 rfl) ?_
      refine lv_iload_n hx hb dX11_mark_9 rfl (lv_at hl 2 rfl) ?_
      refine m_cip (m_rV S hW (c_X11_isGood l G ad sh V (gZ q) (gNe q) (gNg q) (gRl q) (gT q (gRl q)) y hZ) (cwV 1 hts (gCall [.methodLink RX11 182 yX11_isGood, .instanceMethod yX11_isGood, .selects RX11 yX11_isGood yX11_isGood, .initialized RX11] (List.forall_mem_cons.mpr ⟨(wa_19 _ (List.mem_of_getElem? (i := 7) (by decide +kernel))), (List.forall_mem_cons.mpr ⟨(wa_19 _ (List.mem_of_getElem? (i := 4) (by decide +kernel))), (List.forall_mem_cons.mpr ⟨(wa_19 _ (List.mem_of_getElem? (i := 5) (by decide +kernel))), (List.forall_mem_cons.mpr ⟨(wa_19 _ (List.mem_of_getElem? (i := 6) (by decide +kernel))), (List.forall_mem_cons.mpr ⟨(wa_1 _ (List.mem_of_getElem? (i := 5) (by decide +kernel))), (fun _ h => absurd h List.not_mem_nil)⟩)⟩)⟩)⟩)⟩)) rfl rfl rfl (by decide +kernel) ⟨Nat.le_of_ble_eq_true rfl, Nat.le_of_ble_eq_true rfl⟩) hZ.sp.1 kX11 rfl hl.1 rfl (Nat.le_of_ble_eq_true rfl) dX11_mark_10 ⟨Nat.le_of_ble_eq_true rfl, Nat.le_of_ble_eq_true rfl⟩) hW (fun r_7 H locs hp_6 hW => ?_)
      rcases hp_6 with ⟨rfl, w_8⟩ | ⟨rfl, w_9⟩
      · skip
        obtain ⟨ny, hny, hwny, hlny⟩ := w_8.ex
        have hcy : y.toNatClampNeg = ny := by rw [hny]; exact nI_clamp (by omega)
        refine m_if_ne (tgt := 19) hx hb dX11_mark_13 (by decide) (fun c_10 => ?_) (fun c_10 => ?_)
        · skip
          refine lv_iload_n hx hb dX11_mark_19 rfl (lv_at hl 3 rfl) ?_
          refine m_cip (m_rS S hW (c_X11_isPlace l G ad sh V pl) (va_cwS 1 hts (gCall [.methodLink RX11 204 yX11_isPlace, .static yX11_isPlace, .initialized RX11] (List.forall_mem_cons.mpr ⟨(wa_26 _ (List.mem_of_getElem? (i := 14) (by decide +kernel))), (List.forall_mem_cons.mpr ⟨(wa_26 _ (List.mem_of_getElem? (i := 12) (by decide +kernel))), (List.forall_mem_cons.mpr ⟨(wa_26 _ (List.mem_of_getElem? (i := 13) (by decide +kernel))), (List.forall_mem_cons.mpr ⟨(wa_1 _ (List.mem_of_getElem? (i := 5) (by decide +kernel))), (fun _ h => absurd h List.not_mem_nil)⟩)⟩)⟩)⟩)) rfl rfl rfl (by decide +kernel) ⟨Nat.le_of_ble_eq_true rfl, Nat.le_of_ble_eq_true rfl⟩) rfl hl.1 rfl (Nat.le_of_ble_eq_true rfl) dX11_mark_20 ⟨Nat.le_of_ble_eq_true rfl, Nat.le_of_ble_eq_true rfl⟩) hW (fun r_12 H locs hp_11 hW => ?_)
          rcases hp_11 with ⟨rfl, w_13⟩ | ⟨rfl, w_14⟩
          · skip
            obtain ⟨npl, hnpl, hwnpl, hlnpl⟩ := w_13.ex
            have hcpl : pl.toNatClampNeg = npl := by rw [hnpl]; exact nI_clamp (by omega)
            refine m_if_eq (tgt := 36) hx hb dX11_mark_23 (by decide) (fun c_15 => ?_) (fun c_15 => ?_)
            · exact absurd c_15 (by decide)
            · skip
              refine lv_iload hx hb dX11_mark_26 (lv_at hl 4 rfl) ?_
              refine lv_iconst (v := nI 0) hx hb dX11_mark_28 (by decide) ?_
              refine lv_iconst (v := nI 2) hx hb dX11_mark_29 (by decide) ?_
              refine m_cip (m_rS S hW (c_X11_in l G ad sh V w 0 2 (by first | assumption | omega) (by first | assumption | omega)) (va_cwS 3 hts (gCall [.methodLink RX11 84 yX11_in, .static yX11_in, .initialized RX11] (List.forall_mem_cons.mpr ⟨(wa_12 _ (List.mem_of_getElem? (i := 16) (by decide +kernel))), (List.forall_mem_cons.mpr ⟨(wa_12 _ (List.mem_of_getElem? (i := 14) (by decide +kernel))), (List.forall_mem_cons.mpr ⟨(wa_12 _ (List.mem_of_getElem? (i := 15) (by decide +kernel))), (List.forall_mem_cons.mpr ⟨(wa_1 _ (List.mem_of_getElem? (i := 5) (by decide +kernel))), (fun _ h => absurd h List.not_mem_nil)⟩)⟩)⟩)⟩)) rfl rfl rfl (by decide +kernel) ⟨Nat.le_of_ble_eq_true rfl, Nat.le_of_ble_eq_true rfl⟩) rfl hl.1 rfl (Nat.le_of_ble_eq_true rfl) dX11_mark_30 ⟨Nat.le_of_ble_eq_true rfl, Nat.le_of_ble_eq_true rfl⟩) hW (fun r_17 H locs hp_16 hW => ?_)
              rcases hp_16 with ⟨rfl, w_18⟩ | ⟨rfl, w_19⟩
              · skip
                refine m_if_ne (tgt := 39) hx hb dX11_mark_33 (by decide) (fun c_20 => ?_) (fun c_20 => ?_)
                · skip
                  refine lv_aload_n hx hb dX11_mark_39 rfl (lv_at hl 0 rfl) ?_
                  refine lv_iload_n hx hb dX11_mark_40 rfl (lv_at hl 1 rfl) ?_
                  refine m_top (y := nI nx) hnx ?_
                  refine lv_iload_n hx hb dX11_mark_41 rfl (lv_at hl 2 rfl) ?_
                  refine m_top (y := nI ny) hny ?_
                  refine lv_iload_n hx hb dX11_mark_42 rfl (lv_at hl 3 rfl) ?_
                  refine m_top (y := nI npl) hnpl ?_
                  refine m_cie (m_rV S hW (c_X11_markOf l G ad sh V (gZ q) (gNe q) (gNg q) (gRl q) (gT q (gRl q)) nx ny npl hZ (by first | assumption | omega) (by first | assumption | omega) (by first | assumption | omega)) (cwV 3 hts (gCall [.methodLink RX11 198 yX11_markOf, .instanceMethod yX11_markOf, .selects RX11 yX11_markOf yX11_markOf, .initialized RX11] (List.forall_mem_cons.mpr ⟨(wa_26 _ (List.mem_of_getElem? (i := 18) (by decide +kernel))), (List.forall_mem_cons.mpr ⟨(wa_26 _ (List.mem_of_getElem? (i := 15) (by decide +kernel))), (List.forall_mem_cons.mpr ⟨(wa_26 _ (List.mem_of_getElem? (i := 16) (by decide +kernel))), (List.forall_mem_cons.mpr ⟨(wa_26 _ (List.mem_of_getElem? (i := 17) (by decide +kernel))), (List.forall_mem_cons.mpr ⟨(wa_1 _ (List.mem_of_getElem? (i := 5) (by decide +kernel))), (fun _ h => absurd h List.not_mem_nil)⟩)⟩)⟩)⟩)⟩)) rfl rfl rfl (by decide +kernel) ⟨Nat.le_of_ble_eq_true rfl, Nat.le_of_ble_eq_true rfl⟩) hZ.sp.1 kX11 rfl hl.1 rfl (Nat.le_of_ble_eq_true rfl) dX11_mark_43 ⟨Nat.le_of_ble_eq_true rfl, Nat.le_of_ble_eq_true rfl⟩) hW (fun H locs hW => ?_)
                  have hmk := hZ.ok.mkm hlnx hlny (show npl < 16 by omega)
                  refine lv_istore (lv' := [(5, .int (nI (zm (gZ q) nx ny npl))), (0, .ref (ad 200)), (1, .int x), (2, .int y), (3, .int pl), (4, .int w)]) hx hb dX11_mark_46 hl (by decide) rfl (fun ls hl => ?_)
                  refine lv_iload hx hb dX11_mark_48 (lv_at hl 5 rfl) ?_
                  refine m_if_ne (tgt := 58) hx hb dX11_mark_50 (by decide) (fun c_21 => ?_) (fun c_21 => ?_)
                  · skip
                    refine lv_iload hx hb dX11_mark_58 (lv_at hl 5 rfl) ?_
                    refine lv_iconst (v := nI 1) hx hb dX11_mark_60 (by decide) ?_
                    refine lv_icmp_ne (tgt := 75) hx hb dX11_mark_61 (by decide) (fun c_22 => ?_) (fun c_22 => ?_)
                    · skip
                      refine lv_aload_n hx hb dX11_mark_75 rfl (lv_at hl 1 rfl) ?_
                      refine lv_iload_n hx hb dX11_mark_76 rfl (lv_at hl 2 rfl) ?_
                      refine m_top (y := nI nx) hnx ?_
                      refine lv_iload_n hx hb dX11_mark_77 rfl (lv_at hl 3 rfl) ?_
                      refine m_top (y := nI ny) hny ?_
                      refine lv_iload hx hb dX11_mark_78 (lv_at hl 0 rfl) ?_
                      refine m_cie (m_rV S hW (c_X11_likesOf l G ad sh V (gZ q) (gNe q) (gNg q) (gRl q) (gT q (gRl q)) nx ny (zm (gZ q) nx ny npl) hZ (by first | assumption | omega) (by first | assumption | omega) hmk.2) (cwV 3 hts (gCall [.methodLink RX11 207 yX11_likesOf, .instanceMethod yX11_likesOf, .selects RX11 yX11_likesOf yX11_likesOf, .initialized RX11] (List.forall_mem_cons.mpr ⟨(wa_27 _ (List.mem_of_getElem? (i := 9) (by decide +kernel))), (List.forall_mem_cons.mpr ⟨(wa_27 _ (List.mem_of_getElem? (i := 6) (by decide +kernel))), (List.forall_mem_cons.mpr ⟨(wa_27 _ (List.mem_of_getElem? (i := 7) (by decide +kernel))), (List.forall_mem_cons.mpr ⟨(wa_27 _ (List.mem_of_getElem? (i := 8) (by decide +kernel))), (List.forall_mem_cons.mpr ⟨(wa_1 _ (List.mem_of_getElem? (i := 5) (by decide +kernel))), (fun _ h => absurd h List.not_mem_nil)⟩)⟩)⟩)⟩)⟩)) rfl rfl rfl (by decide +kernel) ⟨Nat.le_of_ble_eq_true rfl, Nat.le_of_ble_eq_true rfl⟩) hZ.sp.1 kX11 rfl hl.1 rfl (Nat.le_of_ble_eq_true rfl) dX11_mark_80 ⟨Nat.le_of_ble_eq_true rfl, Nat.le_of_ble_eq_true rfl⟩) hW (fun H locs hW => ?_)
                      exact m_iret S hr hlk hW dX11_mark_83 (by exact ⟨by simp only [aMark, if_pos w_3, hcx, if_pos w_8, hcy, if_pos w_13, hcpl, if_pos w_18, if_neg c_21, if_neg c_22]; first | exact hmk.1 | (rw [hmk.1]; rfl), rfl⟩)
                    · skip
                      refine lv_aload_n hx hb dX11_mark_64 rfl (lv_at hl 1 rfl) ?_
                      refine lv_iload_n hx hb dX11_mark_65 rfl (lv_at hl 2 rfl) ?_
                      refine m_top (y := nI nx) hnx ?_
                      refine lv_iload_n hx hb dX11_mark_66 rfl (lv_at hl 3 rfl) ?_
                      refine m_top (y := nI ny) hny ?_
                      refine lv_iload hx hb dX11_mark_67 (lv_at hl 0 rfl) ?_
                      refine m_cie (m_rV S hW (c_X11_costsOf l G ad sh V (gZ q) (gNe q) (gNg q) (gRl q) (gT q (gRl q)) nx ny (zm (gZ q) nx ny npl) hZ (by first | assumption | omega) (by first | assumption | omega) hmk.2) (cwV 3 hts (gCall [.methodLink RX11 201 yX11_costsOf, .instanceMethod yX11_costsOf, .selects RX11 yX11_costsOf yX11_costsOf, .initialized RX11] (List.forall_mem_cons.mpr ⟨(wa_27 _ (List.mem_of_getElem? (i := 1) (by decide +kernel))), (List.forall_mem_cons.mpr ⟨(wa_26 _ (List.mem_of_getElem? (i := 22) (by decide +kernel))), (List.forall_mem_cons.mpr ⟨(wa_26 _ (List.mem_of_getElem? (i := 23) (by decide +kernel))), (List.forall_mem_cons.mpr ⟨(wa_27 _ (List.mem_of_getElem? (i := 0) (by decide +kernel))), (List.forall_mem_cons.mpr ⟨(wa_1 _ (List.mem_of_getElem? (i := 5) (by decide +kernel))), (fun _ h => absurd h List.not_mem_nil)⟩)⟩)⟩)⟩)⟩)) rfl rfl rfl (by decide +kernel) ⟨Nat.le_of_ble_eq_true rfl, Nat.le_of_ble_eq_true rfl⟩) hZ.sp.1 kX11 rfl hl.1 rfl (Nat.le_of_ble_eq_true rfl) dX11_mark_69 ⟨Nat.le_of_ble_eq_true rfl, Nat.le_of_ble_eq_true rfl⟩) hW (fun H locs hW => ?_)
                      refine lv_goto (tgt := 83) hx hb dX11_mark_72 (by decide) ?_
                      exact m_iret S hr hlk hW dX11_mark_83 (by exact ⟨by simp only [aMark, if_pos w_3, hcx, if_pos w_8, hcy, if_pos w_13, hcpl, if_pos w_18, if_neg c_21, if_pos c_22]; first | exact hmk.1 | (rw [hmk.1]; rfl), rfl⟩)
                  · skip
                    refine lv_iload hx hb dX11_mark_53 (lv_at hl 0 rfl) ?_
                    refine lv_goto (tgt := 83) hx hb dX11_mark_55 (by decide) ?_
                    exact m_iret S hr hlk hW dX11_mark_83 (by exact ⟨by simp only [aMark, if_pos w_3, hcx, if_pos w_8, hcy, if_pos w_13, hcpl, if_pos w_18, if_pos c_21]; first | exact hmk.1 | (rw [hmk.1]; rfl), rfl⟩)
                · exact absurd c_20 (by decide)
              · skip
                refine m_if_ne (tgt := 39) hx hb dX11_mark_33 (by decide) (fun c_23 => ?_) (fun c_23 => ?_)
                · exact absurd c_23 (by decide)
                · skip
                  refine lv_bipush (v := -7) hx hb dX11_mark_36 (by decide) ?_
                  exact m_iret S hr hlk hW dX11_mark_38 (by exact ⟨by simp only [aMark, if_pos w_3, hcx, if_pos w_8, hcy, if_pos w_13, hcpl, if_neg w_19]; try rfl, rfl⟩)
          · skip
            refine m_if_eq (tgt := 36) hx hb dX11_mark_23 (by decide) (fun c_24 => ?_) (fun c_24 => ?_)
            · skip
              refine lv_bipush (v := -7) hx hb dX11_mark_36 (by decide) ?_
              exact m_iret S hr hlk hW dX11_mark_38 (by exact ⟨by simp only [aMark, if_pos w_3, hcx, if_pos w_8, hcy, if_neg w_14]; try rfl, rfl⟩)
            · exact absurd c_24 (by decide)
        · exact absurd c_10 (by decide)
      · skip
        refine m_if_ne (tgt := 19) hx hb dX11_mark_13 (by decide) (fun c_25 => ?_) (fun c_25 => ?_)
        · exact absurd c_25 (by decide)
        · skip
          refine lv_bipush (v := -5) hx hb dX11_mark_16 (by decide) ?_
          exact m_iret S hr hlk hW dX11_mark_18 (by exact ⟨by simp only [aMark, if_pos w_3, hcx, if_neg w_9]; try rfl, rfl⟩)
  · skip
    refine m_if_eq (tgt := 16) hx hb dX11_mark_5 (by decide) (fun c_26 => ?_) (fun c_26 => ?_)
    · skip
      refine lv_bipush (v := -5) hx hb dX11_mark_16 (by decide) ?_
      exact m_iret S hr hlk hW dX11_mark_18 (by exact ⟨by simp only [aMark, if_neg w_4]; try rfl, rfl⟩)
    · exact absurd c_26 (by decide)
set_option maxHeartbeats 4000000 in
set_option maxRecDepth 100000 in
theorem c_X11_best (l : Launch) (G : mG) (ad : Nat → Nat) (sh : Nat → Option mSh) (V : mV) (q : Sg) (x w : Int32) (hI : MI sh V q) : mM l yX11_best wsX11_best ({ frames := 6, cells := 0, slots := 0, locals := 148 } : Room) G ad sh V [.ref (ad 200), .int x, .int w] 0 0 (mPi ad sh (fun r V' => (aBest q x w) = r ∧ (MK V V'))) := by
  refine mM.of (cc := cX11_best) (maxL := 4) (ret := (some .int)) (by decide) rfl (Nat.le_of_ble_eq_true rfl) ?_
  intro p e s m below meth c S hr hlk hnm hW ls hl
  obtain ⟨hx, hb, hml, hown, hts⟩ := id S
  have hl : lv_has ls 4 [(0, .ref (ad 200)), (1, .int x), (2, .int w)] := hl
  have hS0 : True := trivial
  have hZ := hI.z
  have hne5 := hZ.ne5
  have hng6 := hZ.ng6
  have htn := hI.tn
  refine lv_aload_n hx hb dX11_best_0 rfl (lv_at hl 0 rfl) ?_
  refine lv_iload_n hx hb dX11_best_1 rfl (lv_at hl 1 rfl) ?_
  refine m_cip (m_rV S hW (c_X11_isEater l G ad sh V (gZ q) (gNe q) (gNg q) (gRl q) (gT q (gRl q)) x hZ) (cwV 1 hts (gCall [.methodLink RX11 179 yX11_isEater, .instanceMethod yX11_isEater, .selects RX11 yX11_isEater yX11_isEater, .initialized RX11] (List.forall_mem_cons.mpr ⟨(wa_19 _ (List.mem_of_getElem? (i := 3) (by decide +kernel))), (List.forall_mem_cons.mpr ⟨(wa_19 _ (List.mem_of_getElem? (i := 0) (by decide +kernel))), (List.forall_mem_cons.mpr ⟨(wa_19 _ (List.mem_of_getElem? (i := 1) (by decide +kernel))), (List.forall_mem_cons.mpr ⟨(wa_19 _ (List.mem_of_getElem? (i := 2) (by decide +kernel))), (List.forall_mem_cons.mpr ⟨(wa_1 _ (List.mem_of_getElem? (i := 5) (by decide +kernel))), (fun _ h => absurd h List.not_mem_nil)⟩)⟩)⟩)⟩)⟩)) rfl rfl rfl (by decide +kernel) ⟨Nat.le_of_ble_eq_true rfl, Nat.le_of_ble_eq_true rfl⟩) hZ.sp.1 kX11 rfl hl.1 rfl (Nat.le_of_ble_eq_true rfl) dX11_best_2 ⟨Nat.le_of_ble_eq_true rfl, Nat.le_of_ble_eq_true rfl⟩) hW (fun r_2 H locs hp_1 hW => ?_)
  rcases hp_1 with ⟨rfl, w_3⟩ | ⟨rfl, w_4⟩
  · skip
    obtain ⟨nx, hnx, hwnx, hlnx⟩ := w_3.ex
    have hcx : x.toNatClampNeg = nx := by rw [hnx]; exact nI_clamp (by omega)
    refine m_if_ne (tgt := 11) hx hb dX11_best_5 (by decide) (fun c_5 => ?_) (fun c_5 => ?_)
    · skip
      refine lv_iload_n hx hb dX11_best_11 rfl (lv_at hl 2 rfl) ?_
      refine lv_iconst (v := nI 0) hx hb dX11_best_12 (by decide) ?_
      refine lv_iconst (v := nI 1) hx hb dX11_best_13 (by decide) ?_
      refine m_cip (m_rS S hW (c_X11_in l G ad sh V w 0 1 (by first | assumption | omega) (by first | assumption | omega)) (va_cwS 3 hts (gCall [.methodLink RX11 84 yX11_in, .static yX11_in, .initialized RX11] (List.forall_mem_cons.mpr ⟨(wa_12 _ (List.mem_of_getElem? (i := 16) (by decide +kernel))), (List.forall_mem_cons.mpr ⟨(wa_12 _ (List.mem_of_getElem? (i := 14) (by decide +kernel))), (List.forall_mem_cons.mpr ⟨(wa_12 _ (List.mem_of_getElem? (i := 15) (by decide +kernel))), (List.forall_mem_cons.mpr ⟨(wa_1 _ (List.mem_of_getElem? (i := 5) (by decide +kernel))), (fun _ h => absurd h List.not_mem_nil)⟩)⟩)⟩)⟩)) rfl rfl rfl (by decide +kernel) ⟨Nat.le_of_ble_eq_true rfl, Nat.le_of_ble_eq_true rfl⟩) rfl hl.1 rfl (Nat.le_of_ble_eq_true rfl) dX11_best_14 ⟨Nat.le_of_ble_eq_true rfl, Nat.le_of_ble_eq_true rfl⟩) hW (fun r_7 H locs hp_6 hW => ?_)
      rcases hp_6 with ⟨rfl, w_8⟩ | ⟨rfl, w_9⟩
      · skip
        refine m_if_ne (tgt := 23) hx hb dX11_best_17 (by decide) (fun c_10 => ?_) (fun c_10 => ?_)
        · skip
          refine lv_aload_n hx hb dX11_best_23 rfl (lv_at hl 0 rfl) ?_
          refine lv_iload_n hx hb dX11_best_24 rfl (lv_at hl 1 rfl) ?_
          refine m_top (y := nI nx) hnx ?_
          refine m_ci (m_rV S hW (c_X11_bestOf l G ad sh V (gZ q) (gNe q) (gNg q) (gRl q) (gT q (gRl q)) nx hZ (by first | assumption | omega)) (cwV 1 hts (gCall [.methodLink RX11 219 yX11_bestOf, .instanceMethod yX11_bestOf, .selects RX11 yX11_bestOf yX11_bestOf, .initialized RX11] (List.forall_mem_cons.mpr ⟨(wa_29 _ (List.mem_of_getElem? (i := 15) (by decide +kernel))), (List.forall_mem_cons.mpr ⟨(wa_29 _ (List.mem_of_getElem? (i := 12) (by decide +kernel))), (List.forall_mem_cons.mpr ⟨(wa_29 _ (List.mem_of_getElem? (i := 13) (by decide +kernel))), (List.forall_mem_cons.mpr ⟨(wa_29 _ (List.mem_of_getElem? (i := 14) (by decide +kernel))), (List.forall_mem_cons.mpr ⟨(wa_1 _ (List.mem_of_getElem? (i := 5) (by decide +kernel))), (fun _ h => absurd h List.not_mem_nil)⟩)⟩)⟩)⟩)⟩)) rfl rfl rfl (by decide +kernel) ⟨Nat.le_of_ble_eq_true rfl, Nat.le_of_ble_eq_true rfl⟩) hZ.sp.1 kX11 rfl hl.1 rfl (Nat.le_of_ble_eq_true rfl) dX11_best_25 ⟨Nat.le_of_ble_eq_true rfl, Nat.le_of_ble_eq_true rfl⟩) hW (fun r_13 V_11 H locs hp_12 hW => ?_)
          obtain ⟨rfl, hv_14⟩ := hp_12
          refine lv_istore_n (lv' := [(3, .int ((zBest (askT (gT q (gRl q))) (gZ q) nx ((gNg q) * 16)).1)), (0, .ref (ad 200)), (1, .int x), (2, .int w)]) hx hb dX11_best_28 rfl hl (by decide) rfl (fun ls hl => ?_)
          have hKb : MK V V_11 := by rw [hv_14]; exact (MK.rfl V).p200 _ (Or.inl rfl)
          refine lv_iload_n hx hb dX11_best_29 rfl (lv_at hl 3 rfl) ?_
          refine m_if_ne (tgt := 37) hx hb dX11_best_30 (by decide) (fun c_15 => ?_) (fun c_15 => ?_)
          · skip
            refine lv_aload_n hx hb dX11_best_37 rfl (lv_at hl 1 rfl) ?_
            refine m_geti S hW hZ.sp.1 32 rfl kX11 (iW11 _) (by decide) (List.mem_cons_of_mem _ (wa_29 _ (List.mem_of_getElem? (i := 11) (by decide +kernel)))) dX11_best_38 ?_
            refine m_top (y := (zBest (gAsk q) (gZ q) nx (gNg q * 16)).2) (by rw [hv_14, mU_eq]; rfl) ?_
            exact m_iret S hr hlk hW dX11_best_41 (by exact ⟨by simp only [aBest, if_pos w_3, hcx, if_pos w_8, if_neg c_15]; try rfl, hKb⟩)
          · skip
            refine lv_iload_n hx hb dX11_best_33 rfl (lv_at hl 0 rfl) ?_
            refine lv_goto (tgt := 41) hx hb dX11_best_34 (by decide) ?_
            exact m_iret S hr hlk hW dX11_best_41 (by exact ⟨by simp only [aBest, if_pos w_3, hcx, if_pos w_8, if_pos c_15]; try rfl, hKb⟩)
        · exact absurd c_10 (by decide)
      · skip
        refine m_if_ne (tgt := 23) hx hb dX11_best_17 (by decide) (fun c_16 => ?_) (fun c_16 => ?_)
        · exact absurd c_16 (by decide)
        · skip
          refine lv_bipush (v := -7) hx hb dX11_best_20 (by decide) ?_
          exact m_iret S hr hlk hW dX11_best_22 (by exact ⟨by simp only [aBest, if_pos w_3, hcx, if_neg w_9]; try rfl, MK.rfl V⟩)
    · exact absurd c_5 (by decide)
  · skip
    refine m_if_ne (tgt := 11) hx hb dX11_best_5 (by decide) (fun c_17 => ?_) (fun c_17 => ?_)
    · exact absurd c_17 (by decide)
    · skip
      refine lv_bipush (v := -5) hx hb dX11_best_8 (by decide) ?_
      exact m_iret S hr hlk hW dX11_best_10 (by exact ⟨by simp only [aBest, if_neg w_4]; try rfl, MK.rfl V⟩)
set_option maxHeartbeats 4000000 in
set_option maxRecDepth 100000 in
theorem c_X11_set (l : Launch) (G : mG) (ad : Nat → Nat) (sh : Nat → Option mSh) (V : mV) (q : Sg) (x : Int32) (hI : MI sh V q) : mM l yX11_set wsX11_set ({ frames := 1, cells := 0, slots := 0, locals := 22 } : Room) G ad sh V [.ref (ad 200), .int x] 0 0 (mPi ad sh (fun r V' => (aSet q x) = r ∧ (MI sh V' (nSet q x)) ∧ (∀ a, a < 200 → V' a = V a))) := by
  refine mM.of (cc := cX11_set) (maxL := 3) (ret := (some .int)) (by decide) rfl (Nat.le_of_ble_eq_true rfl) ?_
  intro p e s m below meth c S hr hlk hnm hW ls hl
  obtain ⟨hx, hb, hml, hown, hts⟩ := id S
  have hl : lv_has ls 3 [(0, .ref (ad 200)), (1, .int x)] := hl
  have hS0 : True := trivial
  have hZ := hI.z
  have hne5 := hZ.ne5
  have hng6 := hZ.ng6
  have htn := hI.tn
  refine lv_iload_n hx hb dX11_set_0 rfl (lv_at hl 1 rfl) ?_
  refine lv_iconst (v := nI 0) hx hb dX11_set_1 (by decide) ?_
  refine lv_bipush (v := nI 99) hx hb dX11_set_2 (by decide) ?_
  refine m_cip (m_rS S hW (c_X11_in l G ad sh V x 0 99 (by first | assumption | omega) (by first | assumption | omega)) (va_cwS 3 hts (gCall [.methodLink RX11 84 yX11_in, .static yX11_in, .initialized RX11] (List.forall_mem_cons.mpr ⟨(wa_12 _ (List.mem_of_getElem? (i := 16) (by decide +kernel))), (List.forall_mem_cons.mpr ⟨(wa_12 _ (List.mem_of_getElem? (i := 14) (by decide +kernel))), (List.forall_mem_cons.mpr ⟨(wa_12 _ (List.mem_of_getElem? (i := 15) (by decide +kernel))), (List.forall_mem_cons.mpr ⟨(wa_1 _ (List.mem_of_getElem? (i := 5) (by decide +kernel))), (fun _ h => absurd h List.not_mem_nil)⟩)⟩)⟩)⟩)) rfl rfl rfl (by decide +kernel) ⟨Nat.le_of_ble_eq_true rfl, Nat.le_of_ble_eq_true rfl⟩) rfl hl.1 rfl (Nat.le_of_ble_eq_true rfl) dX11_set_4 ⟨Nat.le_of_ble_eq_true rfl, Nat.le_of_ble_eq_true rfl⟩) hW (fun r_2 H locs hp_1 hW => ?_)
  rcases hp_1 with ⟨rfl, w_3⟩ | ⟨rfl, w_4⟩
  · skip
    refine m_if_ne (tgt := 13) hx hb dX11_set_7 (by decide) (fun c_5 => ?_) (fun c_5 => ?_)
    · skip
      refine lv_aload_n hx hb dX11_set_13 rfl (lv_at hl 0 rfl) ?_
      refine m_geti S hW hZ.sp.1 6 rfl kX11 (iW11 _) (by decide) (List.mem_cons_of_mem _ (wa_15 _ (List.mem_of_getElem? (i := 2) (by decide +kernel)))) dX11_set_14 ?_
      refine lv_istore_n (lv' := [(2, .int (V 200 6)), (0, .ref (ad 200)), (1, .int x)]) hx hb dX11_set_17 rfl hl (by decide) rfl (fun ls hl => ?_)
      refine lv_aload_n hx hb dX11_set_18 rfl (lv_at hl 1 rfl) ?_
      refine lv_iload_n hx hb dX11_set_19 rfl (lv_at hl 2 rfl) ?_
      refine m_puti S hW hZ.sp.1 6 rfl kX11 (iW11 _) tyX11 tyX11_ok nmX11 (by decide) (List.mem_cons_of_mem _ (wa_15 _ (List.mem_of_getElem? (i := 2) (by decide +kernel)))) (Or.inl rfl) rfl rfl dX11_set_20 (fun H locs hW => ?_)
      obtain ⟨V_6, eV_6⟩ : ∃ vv_ : mV, vv_ = mU V 200 6 (x) := ⟨_, rfl⟩
      rw [← eV_6] at hW
      refine lv_iload_n hx hb dX11_set_23 rfl (lv_at hl 0 rfl) ?_
      exact m_iret S hr hlk hW dX11_set_24 (by have hp9 := hZ.put (a := 0) (k := 4) (o := 200) (i := 6) (y := x) (Or.inl ⟨rfl, rfl⟩) rfl rfl (by rw [zB, if_pos rfl]; obtain ⟨n, e1, -, e2⟩ := w_3.ex; exact ⟨n, e2, e1⟩); rw [← eV_6] at hp9; exact ⟨by simp only [aSet, if_pos w_3]; exact hZ.rDay.symm, by simp only [nSet, if_pos w_3]; exact hI.scene (s' := (_, gNe q, gNg q, gRl q)) hp9.1 htn.2.2.2 (fun a ha _ _ => hp9.2.1 a (Or.inl ha)) ⟨hp9.2.2 8 (by decide), hp9.2.2 11 (by decide), hp9.2.2 13 (by decide)⟩ (fun u hu => ⟨by rw [eV_6, mU_no _ _ (by decide)], by rw [eV_6, mU_no _ _ (by decide)]⟩) (fun hh => (hI.im hh).2.2.1), fun a ha => hp9.2.1 a (Or.inr ha)⟩)
    · exact absurd c_5 (by decide)
  · skip
    refine m_if_ne (tgt := 13) hx hb dX11_set_7 (by decide) (fun c_7 => ?_) (fun c_7 => ?_)
    · exact absurd c_7 (by decide)
    · skip
      refine lv_bipush (v := -7) hx hb dX11_set_10 (by decide) ?_
      exact m_iret S hr hlk hW dX11_set_12 (by exact ⟨by simp only [aSet, if_neg w_4]; try rfl, by simp only [nSet, if_neg w_4]; exact hI, fun _ _ => rfl⟩)
set_option maxHeartbeats 4000000 in
set_option maxRecDepth 100000 in
theorem c_X11_lend (l : Launch) (G : mG) (ad : Nat → Nat) (sh : Nat → Option mSh) (V : mV) (q : Sg) (x w v : Int32) (hI : MI sh V q) : mM l yX11_lend wsX11_lend ({ frames := 2, cells := 0, slots := 0, locals := 43 } : Room) G ad sh V [.ref (ad 200), .int x, .int w, .int v] 0 0 (mPi ad sh (fun r V' => (aLend q x w v) = r ∧ (MI sh V' (nLend q x w v)) ∧ (∀ a, a < 200 → V' a = V a))) := by
  refine mM.of (cc := cX11_lend) (maxL := 5) (ret := (some .int)) (by decide) rfl (Nat.le_of_ble_eq_true rfl) ?_
  intro p e s m below meth c S hr hlk hnm hW ls hl
  obtain ⟨hx, hb, hml, hown, hts⟩ := id S
  have hl : lv_has ls 5 [(0, .ref (ad 200)), (1, .int x), (2, .int w), (3, .int v)] := hl
  have hS0 : True := trivial
  have hZ := hI.z
  have hne5 := hZ.ne5
  have hng6 := hZ.ng6
  have htn := hI.tn
  refine lv_aload_n hx hb dX11_lend_0 rfl (lv_at hl 0 rfl) ?_
  refine lv_iload_n hx hb dX11_lend_1 rfl (lv_at hl 1 rfl) ?_
  refine m_cip (m_rV S hW (c_X11_isEater l G ad sh V (gZ q) (gNe q) (gNg q) (gRl q) (gT q (gRl q)) x hZ) (cwV 1 hts (gCall [.methodLink RX11 179 yX11_isEater, .instanceMethod yX11_isEater, .selects RX11 yX11_isEater yX11_isEater, .initialized RX11] (List.forall_mem_cons.mpr ⟨(wa_19 _ (List.mem_of_getElem? (i := 3) (by decide +kernel))), (List.forall_mem_cons.mpr ⟨(wa_19 _ (List.mem_of_getElem? (i := 0) (by decide +kernel))), (List.forall_mem_cons.mpr ⟨(wa_19 _ (List.mem_of_getElem? (i := 1) (by decide +kernel))), (List.forall_mem_cons.mpr ⟨(wa_19 _ (List.mem_of_getElem? (i := 2) (by decide +kernel))), (List.forall_mem_cons.mpr ⟨(wa_1 _ (List.mem_of_getElem? (i := 5) (by decide +kernel))), (fun _ h => absurd h List.not_mem_nil)⟩)⟩)⟩)⟩)⟩)) rfl rfl rfl (by decide +kernel) ⟨Nat.le_of_ble_eq_true rfl, Nat.le_of_ble_eq_true rfl⟩) hZ.sp.1 kX11 rfl hl.1 rfl (Nat.le_of_ble_eq_true rfl) dX11_lend_2 ⟨Nat.le_of_ble_eq_true rfl, Nat.le_of_ble_eq_true rfl⟩) hW (fun r_2 H locs hp_1 hW => ?_)
  rcases hp_1 with ⟨rfl, w_3⟩ | ⟨rfl, w_4⟩
  · skip
    obtain ⟨nx, hnx, hwnx, hlnx⟩ := w_3.ex
    have hcx : x.toNatClampNeg = nx := by rw [hnx]; exact nI_clamp (by omega)
    refine m_if_ne (tgt := 11) hx hb dX11_lend_5 (by decide) (fun c_5 => ?_) (fun c_5 => ?_)
    · skip
      refine lv_iload_n hx hb dX11_lend_11 rfl (lv_at hl 2 rfl) ?_
      refine lv_iconst (v := nI 0) hx hb dX11_lend_12 (by decide) ?_
      refine lv_iconst (v := nI 1) hx hb dX11_lend_13 (by decide) ?_
      refine m_cip (m_rS S hW (c_X11_in l G ad sh V w 0 1 (by first | assumption | omega) (by first | assumption | omega)) (va_cwS 3 hts (gCall [.methodLink RX11 84 yX11_in, .static yX11_in, .initialized RX11] (List.forall_mem_cons.mpr ⟨(wa_12 _ (List.mem_of_getElem? (i := 16) (by decide +kernel))), (List.forall_mem_cons.mpr ⟨(wa_12 _ (List.mem_of_getElem? (i := 14) (by decide +kernel))), (List.forall_mem_cons.mpr ⟨(wa_12 _ (List.mem_of_getElem? (i := 15) (by decide +kernel))), (List.forall_mem_cons.mpr ⟨(wa_1 _ (List.mem_of_getElem? (i := 5) (by decide +kernel))), (fun _ h => absurd h List.not_mem_nil)⟩)⟩)⟩)⟩)) rfl rfl rfl (by decide +kernel) ⟨Nat.le_of_ble_eq_true rfl, Nat.le_of_ble_eq_true rfl⟩) rfl hl.1 rfl (Nat.le_of_ble_eq_true rfl) dX11_lend_14 ⟨Nat.le_of_ble_eq_true rfl, Nat.le_of_ble_eq_true rfl⟩) hW (fun r_7 H locs hp_6 hW => ?_)
      rcases hp_6 with ⟨rfl, w_8⟩ | ⟨rfl, w_9⟩
      · skip
        obtain ⟨nw, hnw, hwnw, hlnw⟩ := w_8.ex
        have hcw : w.toNatClampNeg = nw := by rw [hnw]; exact nI_clamp (by omega)
        refine m_if_eq (tgt := 48) hx hb dX11_lend_17 (by decide) (fun c_10 => ?_) (fun c_10 => ?_)
        · exact absurd c_10 (by decide)
        · skip
          rcases (show nw = 0 ∨ nw = 1 by omega) with h0w | h0w
          · skip
            have hw0 : w = nI 0 := by rw [hnw, h0w]
            refine lv_iload_n hx hb dX11_lend_20 rfl (lv_at hl 3 rfl) ?_
            refine lv_iload_n hx hb dX11_lend_21 rfl (lv_at hl 2 rfl) ?_
            refine m_top (y := nI 0) (by rw [hnw, h0w]) ?_
            refine m_if_ne (tgt := 29) hx hb dX11_lend_22 (by decide) (fun c_11 => ?_) (fun c_11 => ?_)
            · exact absurd c_11 (by decide)
            · skip
              refine lv_iconst (v := nI 1) hx hb dX11_lend_25 (by decide) ?_
              refine lv_goto (tgt := 30) hx hb dX11_lend_26 (by decide) ?_
              refine lv_iload_n hx hb dX11_lend_30 rfl (lv_at hl 2 rfl) ?_
              refine m_top (y := nI 0) (by rw [hnw, h0w]) ?_
              refine m_if_ne (tgt := 39) hx hb dX11_lend_31 (by decide) (fun c_12 => ?_) (fun c_12 => ?_)
              · exact absurd c_12 (by decide)
              · skip
                refine lv_bipush (v := nI 63) hx hb dX11_lend_34 (by decide) ?_
                refine lv_goto (tgt := 42) hx hb dX11_lend_36 (by decide) ?_
                refine m_cip (m_rS S hW (c_X11_in l G ad sh V v 1 63 (by first | assumption | omega) (by first | assumption | omega)) (va_cwS 3 hts (gCall [.methodLink RX11 84 yX11_in, .static yX11_in, .initialized RX11] (List.forall_mem_cons.mpr ⟨(wa_12 _ (List.mem_of_getElem? (i := 16) (by decide +kernel))), (List.forall_mem_cons.mpr ⟨(wa_12 _ (List.mem_of_getElem? (i := 14) (by decide +kernel))), (List.forall_mem_cons.mpr ⟨(wa_12 _ (List.mem_of_getElem? (i := 15) (by decide +kernel))), (List.forall_mem_cons.mpr ⟨(wa_1 _ (List.mem_of_getElem? (i := 5) (by decide +kernel))), (fun _ h => absurd h List.not_mem_nil)⟩)⟩)⟩)⟩)) rfl rfl rfl (by decide +kernel) ⟨Nat.le_of_ble_eq_true rfl, Nat.le_of_ble_eq_true rfl⟩) rfl hl.1 rfl (Nat.le_of_ble_eq_true rfl) dX11_lend_42 ⟨Nat.le_of_ble_eq_true rfl, Nat.le_of_ble_eq_true rfl⟩) hW (fun r_14 H locs hp_13 hW => ?_)
                rcases hp_13 with ⟨rfl, w_15⟩ | ⟨rfl, w_16⟩
                · skip
                  refine m_if_ne (tgt := 51) hx hb dX11_lend_45 (by decide) (fun c_17 => ?_) (fun c_17 => ?_)
                  · skip
                    refine lv_aload_n hx hb dX11_lend_51 rfl (lv_at hl 0 rfl) ?_
                    refine m_getr S hW hZ.sp.1 5 rfl (j := 204) rfl kX11 (iW11 _) (by decide) (List.mem_cons_of_mem _ (wa_11 _ (List.mem_of_getElem? (i := 5) (by decide +kernel)))) dX11_lend_52 ?_
                    refine lv_iconst (v := nI 3) hx hb dX11_lend_55 (by decide) ?_
                    refine lv_iload_n hx hb dX11_lend_56 rfl (lv_at hl 1 rfl) ?_
                    refine m_top (y := nI nx) hnx ?_
                    refine lv_imul hx hb dX11_lend_57 ?_
                    refine m_top (y := nI (3 * nx)) (pk_mul 3 nx) ?_
                    refine lv_iload_n hx hb dX11_lend_58 rfl (lv_at hl 2 rfl) ?_
                    refine m_top (y := nI 0) (by rw [hnw, h0w]) ?_
                    refine lv_iadd hx hb dX11_lend_59 ?_
                    refine m_top (y := nI ((3 * nx) + 0)) (nI_add (3 * nx) 0) ?_
                    refine m_iald S hW hZ.sp.2.2.2.2.1 ((3 * nx) + 0) rfl (by omega) (by decide) dX11_lend_60 ?_
                    refine m_top (y := (gZ q (4 + nx) 2)) (hZ.iJa hlnx) ?_
                    refine lv_istore (lv' := [(4, .int (gZ q (4 + nx) 2)), (0, .ref (ad 200)), (1, .int x), (2, .int w), (3, .int v)]) hx hb dX11_lend_61 hl (by decide) rfl (fun ls hl => ?_)
                    refine lv_aload_n hx hb dX11_lend_63 rfl (lv_at hl 1 rfl) ?_
                    refine m_getr S hW hZ.sp.1 5 rfl (j := 204) rfl kX11 (iW11 _) (by decide) (List.mem_cons_of_mem _ (wa_11 _ (List.mem_of_getElem? (i := 5) (by decide +kernel)))) dX11_lend_64 ?_
                    refine lv_iconst (v := nI 3) hx hb dX11_lend_67 (by decide) ?_
                    refine lv_iload_n hx hb dX11_lend_68 rfl (lv_at hl 2 rfl) ?_
                    refine m_top (y := nI nx) hnx ?_
                    refine lv_imul hx hb dX11_lend_69 ?_
                    refine m_top (y := nI (3 * nx)) (pk_mul 3 nx) ?_
                    refine lv_iload_n hx hb dX11_lend_70 rfl (lv_at hl 3 rfl) ?_
                    refine m_top (y := nI 0) (by rw [hnw, h0w]) ?_
                    refine lv_iadd hx hb dX11_lend_71 ?_
                    refine m_top (y := nI ((3 * nx) + 0)) (nI_add (3 * nx) 0) ?_
                    refine lv_iload_n hx hb dX11_lend_72 rfl (lv_at hl 4 rfl) ?_
                    refine m_iast S hW hZ.sp.2.2.2.2.1 ((3 * nx) + 0) rfl (by omega) (by decide) dX11_lend_73 (fun H locs hW => ?_)
                    obtain ⟨V_18, eV_18⟩ : ∃ vv_ : mV, vv_ = mU V 204 ((3 * nx) + 0) (v) := ⟨_, rfl⟩
                    rw [← eV_18] at hW
                    refine lv_iload hx hb dX11_lend_74 (lv_at hl 0 rfl) ?_
                    exact m_iret S hr hlk hW dX11_lend_76 (by have hp9 := hZ.put (a := 4 + nx) (k := 2) (o := 204) (i := 3 * nx + 0) (y := v) (Or.inr (Or.inl (by omega))) (by rw [mvL_e (by omega)]; rfl) (by rw [mvL_e (by omega)]; rfl) (by rw [zB, if_neg (by omega), if_pos (by omega), if_neg (by decide), if_neg (by decide), if_pos rfl]; obtain ⟨n, e1, e3, e2⟩ := w_15.ex; exact ⟨n, e3, e2, e1⟩); rw [← eV_18] at hp9; exact ⟨by simp only [aLend, if_pos w_3, hcx, if_pos hw0, if_pos w_15]; try rfl, by simp only [nLend, if_pos w_3, hcx, if_pos hw0, if_pos w_15]; exact hI.scene (s' := (_, gNe q, gNg q, gRl q)) hp9.1 htn.2.2.2 (fun a ha _ _ => hp9.2.1 a (Or.inl ha)) ⟨hp9.2.2 8 (by decide), hp9.2.2 11 (by decide), hp9.2.2 13 (by decide)⟩ (fun u hu => ⟨by rw [eV_18, mU_no _ _ (by decide)], by rw [eV_18, mU_no _ _ (by decide)]⟩) (fun hh => (hI.im hh).2.2.1), fun a ha => hp9.2.1 a (Or.inr ha)⟩)
                  · exact absurd c_17 (by decide)
                · skip
                  refine m_if_ne (tgt := 51) hx hb dX11_lend_45 (by decide) (fun c_19 => ?_) (fun c_19 => ?_)
                  · exact absurd c_19 (by decide)
                  · skip
                    refine lv_bipush (v := -7) hx hb dX11_lend_48 (by decide) ?_
                    exact m_iret S hr hlk hW dX11_lend_50 (by exact ⟨by simp only [aLend, if_pos w_3, hcx, if_pos hw0, if_neg w_16]; try rfl, by simp only [nLend, if_pos w_3, hcx, if_pos hw0, if_neg w_16]; exact hI, fun _ _ => rfl⟩)
          · skip
            have hw0 : w = nI 1 := by rw [hnw, h0w]
            have hw1 : ¬ w = nI 0 := by rw [hw0]; decide
            refine lv_iload_n hx hb dX11_lend_20 rfl (lv_at hl 3 rfl) ?_
            refine lv_iload_n hx hb dX11_lend_21 rfl (lv_at hl 2 rfl) ?_
            refine m_top (y := nI 1) (by rw [hnw, h0w]) ?_
            refine m_if_ne (tgt := 29) hx hb dX11_lend_22 (by decide) (fun c_20 => ?_) (fun c_20 => ?_)
            · skip
              refine lv_iconst (v := nI 0) hx hb dX11_lend_29 (by decide) ?_
              refine lv_iload_n hx hb dX11_lend_30 rfl (lv_at hl 2 rfl) ?_
              refine m_top (y := nI 1) (by rw [hnw, h0w]) ?_
              refine m_if_ne (tgt := 39) hx hb dX11_lend_31 (by decide) (fun c_21 => ?_) (fun c_21 => ?_)
              · skip
                refine lv_sipush (v := nI 9999) hx hb dX11_lend_39 (by decide) ?_
                refine m_cip (m_rS S hW (c_X11_in l G ad sh V v 0 9999 (by first | assumption | omega) (by first | assumption | omega)) (va_cwS 3 hts (gCall [.methodLink RX11 84 yX11_in, .static yX11_in, .initialized RX11] (List.forall_mem_cons.mpr ⟨(wa_12 _ (List.mem_of_getElem? (i := 16) (by decide +kernel))), (List.forall_mem_cons.mpr ⟨(wa_12 _ (List.mem_of_getElem? (i := 14) (by decide +kernel))), (List.forall_mem_cons.mpr ⟨(wa_12 _ (List.mem_of_getElem? (i := 15) (by decide +kernel))), (List.forall_mem_cons.mpr ⟨(wa_1 _ (List.mem_of_getElem? (i := 5) (by decide +kernel))), (fun _ h => absurd h List.not_mem_nil)⟩)⟩)⟩)⟩)) rfl rfl rfl (by decide +kernel) ⟨Nat.le_of_ble_eq_true rfl, Nat.le_of_ble_eq_true rfl⟩) rfl hl.1 rfl (Nat.le_of_ble_eq_true rfl) dX11_lend_42 ⟨Nat.le_of_ble_eq_true rfl, Nat.le_of_ble_eq_true rfl⟩) hW (fun r_23 H locs hp_22 hW => ?_)
                rcases hp_22 with ⟨rfl, w_24⟩ | ⟨rfl, w_25⟩
                · skip
                  refine m_if_ne (tgt := 51) hx hb dX11_lend_45 (by decide) (fun c_26 => ?_) (fun c_26 => ?_)
                  · skip
                    refine lv_aload_n hx hb dX11_lend_51 rfl (lv_at hl 0 rfl) ?_
                    refine m_getr S hW hZ.sp.1 5 rfl (j := 204) rfl kX11 (iW11 _) (by decide) (List.mem_cons_of_mem _ (wa_11 _ (List.mem_of_getElem? (i := 5) (by decide +kernel)))) dX11_lend_52 ?_
                    refine lv_iconst (v := nI 3) hx hb dX11_lend_55 (by decide) ?_
                    refine lv_iload_n hx hb dX11_lend_56 rfl (lv_at hl 1 rfl) ?_
                    refine m_top (y := nI nx) hnx ?_
                    refine lv_imul hx hb dX11_lend_57 ?_
                    refine m_top (y := nI (3 * nx)) (pk_mul 3 nx) ?_
                    refine lv_iload_n hx hb dX11_lend_58 rfl (lv_at hl 2 rfl) ?_
                    refine m_top (y := nI 1) (by rw [hnw, h0w]) ?_
                    refine lv_iadd hx hb dX11_lend_59 ?_
                    refine m_top (y := nI ((3 * nx) + 1)) (nI_add (3 * nx) 1) ?_
                    refine m_iald S hW hZ.sp.2.2.2.2.1 ((3 * nx) + 1) rfl (by omega) (by decide) dX11_lend_60 ?_
                    refine m_top (y := (gZ q (4 + nx) 3)) (hZ.rPu hlnx) ?_
                    refine lv_istore (lv' := [(4, .int (gZ q (4 + nx) 3)), (0, .ref (ad 200)), (1, .int x), (2, .int w), (3, .int v)]) hx hb dX11_lend_61 hl (by decide) rfl (fun ls hl => ?_)
                    refine lv_aload_n hx hb dX11_lend_63 rfl (lv_at hl 1 rfl) ?_
                    refine m_getr S hW hZ.sp.1 5 rfl (j := 204) rfl kX11 (iW11 _) (by decide) (List.mem_cons_of_mem _ (wa_11 _ (List.mem_of_getElem? (i := 5) (by decide +kernel)))) dX11_lend_64 ?_
                    refine lv_iconst (v := nI 3) hx hb dX11_lend_67 (by decide) ?_
                    refine lv_iload_n hx hb dX11_lend_68 rfl (lv_at hl 2 rfl) ?_
                    refine m_top (y := nI nx) hnx ?_
                    refine lv_imul hx hb dX11_lend_69 ?_
                    refine m_top (y := nI (3 * nx)) (pk_mul 3 nx) ?_
                    refine lv_iload_n hx hb dX11_lend_70 rfl (lv_at hl 3 rfl) ?_
                    refine m_top (y := nI 1) (by rw [hnw, h0w]) ?_
                    refine lv_iadd hx hb dX11_lend_71 ?_
                    refine m_top (y := nI ((3 * nx) + 1)) (nI_add (3 * nx) 1) ?_
                    refine lv_iload_n hx hb dX11_lend_72 rfl (lv_at hl 4 rfl) ?_
                    refine m_iast S hW hZ.sp.2.2.2.2.1 ((3 * nx) + 1) rfl (by omega) (by decide) dX11_lend_73 (fun H locs hW => ?_)
                    obtain ⟨V_27, eV_27⟩ : ∃ vv_ : mV, vv_ = mU V 204 ((3 * nx) + 1) (v) := ⟨_, rfl⟩
                    rw [← eV_27] at hW
                    refine lv_iload hx hb dX11_lend_74 (lv_at hl 0 rfl) ?_
                    exact m_iret S hr hlk hW dX11_lend_76 (by have hp9 := hZ.put (a := 4 + nx) (k := 3) (o := 204) (i := 3 * nx + 1) (y := v) (Or.inr (Or.inl (by omega))) (by rw [mvL_e (by omega)]; rfl) (by rw [mvL_e (by omega)]; rfl) (by rw [zB, if_neg (by omega), if_pos (by omega), if_neg (by decide), if_neg (by decide), if_neg (by decide)]; obtain ⟨n, e1, e3, e2⟩ := w_24.ex; exact ⟨n, e2, e1⟩); rw [← eV_27] at hp9; exact ⟨by simp only [aLend, if_pos w_3, hcx, if_neg hw1, if_pos hw0, if_pos w_24]; try rfl, by simp only [nLend, if_pos w_3, hcx, if_neg hw1, if_pos hw0, if_pos w_24]; exact hI.scene (s' := (_, gNe q, gNg q, gRl q)) hp9.1 htn.2.2.2 (fun a ha _ _ => hp9.2.1 a (Or.inl ha)) ⟨hp9.2.2 8 (by decide), hp9.2.2 11 (by decide), hp9.2.2 13 (by decide)⟩ (fun u hu => ⟨by rw [eV_27, mU_no _ _ (by decide)], by rw [eV_27, mU_no _ _ (by decide)]⟩) (fun hh => (hI.im hh).2.2.1), fun a ha => hp9.2.1 a (Or.inr ha)⟩)
                  · exact absurd c_26 (by decide)
                · skip
                  refine m_if_ne (tgt := 51) hx hb dX11_lend_45 (by decide) (fun c_28 => ?_) (fun c_28 => ?_)
                  · exact absurd c_28 (by decide)
                  · skip
                    refine lv_bipush (v := -7) hx hb dX11_lend_48 (by decide) ?_
                    exact m_iret S hr hlk hW dX11_lend_50 (by exact ⟨by simp only [aLend, if_pos w_3, hcx, if_neg hw1, if_pos hw0, if_neg w_25]; try rfl, by simp only [nLend, if_pos w_3, hcx, if_neg hw1, if_pos hw0, if_neg w_25]; exact hI, fun _ _ => rfl⟩)
              · exact absurd c_21 (by decide)
            · exact absurd c_20 (by decide)
      · skip
        refine m_if_eq (tgt := 48) hx hb dX11_lend_17 (by decide) (fun c_29 => ?_) (fun c_29 => ?_)
        · skip
          have hw0 : ¬ w = nI 0 := fun z => w_9 (by rw [z]; decide)
          have hw1 : ¬ w = nI 1 := fun z => w_9 (by rw [z]; decide)
          refine lv_bipush (v := -7) hx hb dX11_lend_48 (by decide) ?_
          exact m_iret S hr hlk hW dX11_lend_50 (by exact ⟨by simp only [aLend, if_pos w_3, hcx, if_neg hw0, if_neg hw1]; try rfl, by simp only [nLend, if_pos w_3, hcx, if_neg hw0, if_neg hw1]; exact hI, fun _ _ => rfl⟩)
        · exact absurd c_29 (by decide)
    · exact absurd c_5 (by decide)
  · skip
    refine m_if_ne (tgt := 11) hx hb dX11_lend_5 (by decide) (fun c_30 => ?_) (fun c_30 => ?_)
    · exact absurd c_30 (by decide)
    · skip
      refine lv_bipush (v := -5) hx hb dX11_lend_8 (by decide) ?_
      exact m_iret S hr hlk hW dX11_lend_10 (by exact ⟨by simp only [aLend, if_neg w_4]; try rfl, by simp only [nLend, if_neg w_4]; exact hI, fun _ _ => rfl⟩)
set_option maxHeartbeats 4000000 in
set_option maxRecDepth 100000 in
theorem c_X11_put (l : Launch) (G : mG) (ad : Nat → Nat) (sh : Nat → Option mSh) (V : mV) (q : Sg) (x y v : Int32) (hI : MI sh V q) : mM l yX11_put wsX11_put ({ frames := 2, cells := 0, slots := 0, locals := 43 } : Room) G ad sh V [.ref (ad 200), .int x, .int y, .int v] 0 0 (mPi ad sh (fun r V' => (aPut q x y v) = r ∧ (MI sh V' (nPut q x y v)) ∧ (∀ a, a < 200 → V' a = V a))) := by
  refine mM.of (cc := cX11_put) (maxL := 5) (ret := (some .int)) (by decide) rfl (Nat.le_of_ble_eq_true rfl) ?_
  intro p e s m below meth c S hr hlk hnm hW ls hl
  obtain ⟨hx, hb, hml, hown, hts⟩ := id S
  have hl : lv_has ls 5 [(0, .ref (ad 200)), (1, .int x), (2, .int y), (3, .int v)] := hl
  have hS0 : True := trivial
  have hZ := hI.z
  have hne5 := hZ.ne5
  have hng6 := hZ.ng6
  have htn := hI.tn
  refine lv_aload_n hx hb dX11_put_0 rfl (lv_at hl 0 rfl) ?_
  refine lv_iload_n hx hb dX11_put_1 rfl (lv_at hl 1 rfl) ?_
  refine m_cip (m_rV S hW (c_X11_isGood l G ad sh V (gZ q) (gNe q) (gNg q) (gRl q) (gT q (gRl q)) x hZ) (cwV 1 hts (gCall [.methodLink RX11 182 yX11_isGood, .instanceMethod yX11_isGood, .selects RX11 yX11_isGood yX11_isGood, .initialized RX11] (List.forall_mem_cons.mpr ⟨(wa_19 _ (List.mem_of_getElem? (i := 7) (by decide +kernel))), (List.forall_mem_cons.mpr ⟨(wa_19 _ (List.mem_of_getElem? (i := 4) (by decide +kernel))), (List.forall_mem_cons.mpr ⟨(wa_19 _ (List.mem_of_getElem? (i := 5) (by decide +kernel))), (List.forall_mem_cons.mpr ⟨(wa_19 _ (List.mem_of_getElem? (i := 6) (by decide +kernel))), (List.forall_mem_cons.mpr ⟨(wa_1 _ (List.mem_of_getElem? (i := 5) (by decide +kernel))), (fun _ h => absurd h List.not_mem_nil)⟩)⟩)⟩)⟩)⟩)) rfl rfl rfl (by decide +kernel) ⟨Nat.le_of_ble_eq_true rfl, Nat.le_of_ble_eq_true rfl⟩) hZ.sp.1 kX11 rfl hl.1 rfl (Nat.le_of_ble_eq_true rfl) dX11_put_2 ⟨Nat.le_of_ble_eq_true rfl, Nat.le_of_ble_eq_true rfl⟩) hW (fun r_2 H locs hp_1 hW => ?_)
  rcases hp_1 with ⟨rfl, w_3⟩ | ⟨rfl, w_4⟩
  · skip
    obtain ⟨nx, hnx, hwnx, hlnx⟩ := w_3.ex
    have hcx : x.toNatClampNeg = nx := by rw [hnx]; exact nI_clamp (by omega)
    refine m_if_ne (tgt := 11) hx hb dX11_put_5 (by decide) (fun c_5 => ?_) (fun c_5 => ?_)
    · skip
      refine lv_iload_n hx hb dX11_put_11 rfl (lv_at hl 2 rfl) ?_
      refine lv_iconst (v := nI 0) hx hb dX11_put_12 (by decide) ?_
      refine lv_bipush (v := nI 11) hx hb dX11_put_13 (by decide) ?_
      refine m_cip (m_rS S hW (c_X11_in l G ad sh V y 0 11 (by first | assumption | omega) (by first | assumption | omega)) (va_cwS 3 hts (gCall [.methodLink RX11 84 yX11_in, .static yX11_in, .initialized RX11] (List.forall_mem_cons.mpr ⟨(wa_12 _ (List.mem_of_getElem? (i := 16) (by decide +kernel))), (List.forall_mem_cons.mpr ⟨(wa_12 _ (List.mem_of_getElem? (i := 14) (by decide +kernel))), (List.forall_mem_cons.mpr ⟨(wa_12 _ (List.mem_of_getElem? (i := 15) (by decide +kernel))), (List.forall_mem_cons.mpr ⟨(wa_1 _ (List.mem_of_getElem? (i := 5) (by decide +kernel))), (fun _ h => absurd h List.not_mem_nil)⟩)⟩)⟩)⟩)) rfl rfl rfl (by decide +kernel) ⟨Nat.le_of_ble_eq_true rfl, Nat.le_of_ble_eq_true rfl⟩) rfl hl.1 rfl (Nat.le_of_ble_eq_true rfl) dX11_put_15 ⟨Nat.le_of_ble_eq_true rfl, Nat.le_of_ble_eq_true rfl⟩) hW (fun r_7 H locs hp_6 hW => ?_)
      rcases hp_6 with ⟨rfl, w_8⟩ | ⟨rfl, w_9⟩
      · skip
        obtain ⟨ny, hny, hwny, hlny⟩ := w_8.ex
        have hcy : y.toNatClampNeg = ny := by rw [hny]; exact nI_clamp (by omega)
        refine m_if_eq (tgt := 54) hx hb dX11_put_18 (by decide) (fun c_10 => ?_) (fun c_10 => ?_)
        · exact absurd c_10 (by decide)
        · skip
          refine lv_iload_n hx hb dX11_put_21 rfl (lv_at hl 3 rfl) ?_
          refine lv_iconst (v := nI 0) hx hb dX11_put_22 (by decide) ?_
          refine lv_iload_n hx hb dX11_put_23 rfl (lv_at hl 2 rfl) ?_
          refine m_top (y := nI ny) hny ?_
          refine lv_bipush (v := nI 10) hx hb dX11_put_24 (by decide) ?_
          refine lv_icmp_ge (tgt := 34) hx hb dX11_put_26 (by decide) (fun c_11 => ?_) (fun c_11 => ?_)
          · skip
            have c_11 : 10 ≤ ny := (nI_leI (by omega) (by omega)).mp c_11
            refine lv_iload_n hx hb dX11_put_34 rfl (lv_at hl 2 rfl) ?_
            refine m_top (y := nI ny) hny ?_
            refine lv_bipush (v := nI 10) hx hb dX11_put_35 (by decide) ?_
            refine lv_icmp_ne (tgt := 45) hx hb dX11_put_37 (by decide) (fun c_12 => ?_) (fun c_12 => ?_)
            · skip
              have c_12 : ¬ ny = 10 := mt (nI_eq (by omega) (by omega)).mpr c_12
              have hzm := zMost_11 (k := ny) (by omega) (by omega) (by omega)
              refine lv_sipush (v := nI 1023) hx hb dX11_put_45 (by decide) ?_
              refine m_cip (m_rS S hW (c_X11_in l G ad sh V v 0 1023 (by first | assumption | omega) (by first | assumption | omega)) (va_cwS 3 hts (gCall [.methodLink RX11 84 yX11_in, .static yX11_in, .initialized RX11] (List.forall_mem_cons.mpr ⟨(wa_12 _ (List.mem_of_getElem? (i := 16) (by decide +kernel))), (List.forall_mem_cons.mpr ⟨(wa_12 _ (List.mem_of_getElem? (i := 14) (by decide +kernel))), (List.forall_mem_cons.mpr ⟨(wa_12 _ (List.mem_of_getElem? (i := 15) (by decide +kernel))), (List.forall_mem_cons.mpr ⟨(wa_1 _ (List.mem_of_getElem? (i := 5) (by decide +kernel))), (fun _ h => absurd h List.not_mem_nil)⟩)⟩)⟩)⟩)) rfl rfl rfl (by decide +kernel) ⟨Nat.le_of_ble_eq_true rfl, Nat.le_of_ble_eq_true rfl⟩) rfl hl.1 rfl (Nat.le_of_ble_eq_true rfl) dX11_put_48 ⟨Nat.le_of_ble_eq_true rfl, Nat.le_of_ble_eq_true rfl⟩) hW (fun r_14 H locs hp_13 hW => ?_)
              rcases hp_13 with ⟨rfl, w_15⟩ | ⟨rfl, w_16⟩
              · skip
                refine m_if_ne (tgt := 57) hx hb dX11_put_51 (by decide) (fun c_17 => ?_) (fun c_17 => ?_)
                · skip
                  refine lv_aload_n hx hb dX11_put_57 rfl (lv_at hl 0 rfl) ?_
                  refine m_getr S hW hZ.sp.1 1 rfl (j := 201) rfl kX11 (iW11 _) (by decide) (List.mem_cons_of_mem _ (wa_11 _ (List.mem_of_getElem? (i := 2) (by decide +kernel)))) dX11_put_58 ?_
                  refine lv_bipush (v := nI 12) hx hb dX11_put_61 (by decide) ?_
                  refine lv_iload_n hx hb dX11_put_63 rfl (lv_at hl 1 rfl) ?_
                  refine m_top (y := nI nx) hnx ?_
                  refine lv_imul hx hb dX11_put_64 ?_
                  refine m_top (y := nI (12 * nx)) (pk_mul 12 nx) ?_
                  refine lv_iload_n hx hb dX11_put_65 rfl (lv_at hl 2 rfl) ?_
                  refine m_top (y := nI ny) hny ?_
                  refine lv_iadd hx hb dX11_put_66 ?_
                  refine m_top (y := nI ((12 * nx) + ny)) (nI_add (12 * nx) ny) ?_
                  refine m_iald S hW hZ.sp.2.1 ((12 * nx) + ny) rfl (by omega) (by decide) dX11_put_67 ?_
                  refine m_top (y := (zPart (gZ q) nx ny)) (hZ.rPart hlnx (by omega)) ?_
                  refine lv_istore (lv' := [(4, .int (zPart (gZ q) nx ny)), (0, .ref (ad 200)), (1, .int x), (2, .int y), (3, .int v)]) hx hb dX11_put_68 hl (by decide) rfl (fun ls hl => ?_)
                  refine lv_aload_n hx hb dX11_put_70 rfl (lv_at hl 1 rfl) ?_
                  refine m_getr S hW hZ.sp.1 1 rfl (j := 201) rfl kX11 (iW11 _) (by decide) (List.mem_cons_of_mem _ (wa_11 _ (List.mem_of_getElem? (i := 2) (by decide +kernel)))) dX11_put_71 ?_
                  refine lv_bipush (v := nI 12) hx hb dX11_put_74 (by decide) ?_
                  refine lv_iload_n hx hb dX11_put_76 rfl (lv_at hl 2 rfl) ?_
                  refine m_top (y := nI nx) hnx ?_
                  refine lv_imul hx hb dX11_put_77 ?_
                  refine m_top (y := nI (12 * nx)) (pk_mul 12 nx) ?_
                  refine lv_iload_n hx hb dX11_put_78 rfl (lv_at hl 3 rfl) ?_
                  refine m_top (y := nI ny) hny ?_
                  refine lv_iadd hx hb dX11_put_79 ?_
                  refine m_top (y := nI ((12 * nx) + ny)) (nI_add (12 * nx) ny) ?_
                  refine lv_iload_n hx hb dX11_put_80 rfl (lv_at hl 4 rfl) ?_
                  refine m_iast S hW hZ.sp.2.1 ((12 * nx) + ny) rfl (by omega) (by decide) dX11_put_81 (fun H locs hW => ?_)
                  obtain ⟨V_18, eV_18⟩ : ∃ vv_ : mV, vv_ = mU V 201 ((12 * nx) + ny) (v) := ⟨_, rfl⟩
                  rw [← eV_18] at hW
                  refine lv_iload hx hb dX11_put_82 (lv_at hl 0 rfl) ?_
                  exact m_iret S hr hlk hW dX11_put_84 (by have hp9 := put_p hZ hlnx (show ny < 12 by omega) (y := v) (by rw [hzm]; exact w_15); rw [← eV_18] at hp9; exact ⟨by simp only [aPut, if_pos w_3, hcx, if_pos w_8, hcy, hzm, if_pos w_15]; try rfl, by simp only [nPut, if_pos w_3, hcx, if_pos w_8, hcy, hzm, if_pos w_15]; exact hI.scene (s' := (_, gNe q, gNg q, gRl q)) hp9.1 htn.2.2.2 (fun a ha _ _ => hp9.2.1 a (Or.inl ha)) ⟨hp9.2.2 8 (by decide), hp9.2.2 11 (by decide), hp9.2.2 13 (by decide)⟩ (fun u hu => ⟨by rw [eV_18, mU_no _ _ (by decide)], by rw [eV_18, mU_no _ _ (by decide)]⟩) (fun hh => (hI.im hh).2.2.1), fun a ha => hp9.2.1 a (Or.inr ha)⟩)
                · exact absurd c_17 (by decide)
              · skip
                refine m_if_ne (tgt := 57) hx hb dX11_put_51 (by decide) (fun c_19 => ?_) (fun c_19 => ?_)
                · exact absurd c_19 (by decide)
                · skip
                  refine lv_bipush (v := -7) hx hb dX11_put_54 (by decide) ?_
                  exact m_iret S hr hlk hW dX11_put_56 (by exact ⟨by simp only [aPut, if_pos w_3, hcx, if_pos w_8, hcy, hzm, if_neg w_16]; try rfl, by simp only [nPut, if_pos w_3, hcx, if_pos w_8, hcy, hzm, if_neg w_16]; exact hI, fun _ _ => rfl⟩)
            · skip
              have c_12 : ny = 10 := (nI_eq (by omega) (by omega)).mp c_12
              have hzm := zMost_10 (k := ny) (by omega)
              refine lv_bipush (v := nI 9) hx hb dX11_put_40 (by decide) ?_
              refine lv_goto (tgt := 48) hx hb dX11_put_42 (by decide) ?_
              refine m_cip (m_rS S hW (c_X11_in l G ad sh V v 0 9 (by first | assumption | omega) (by first | assumption | omega)) (va_cwS 3 hts (gCall [.methodLink RX11 84 yX11_in, .static yX11_in, .initialized RX11] (List.forall_mem_cons.mpr ⟨(wa_12 _ (List.mem_of_getElem? (i := 16) (by decide +kernel))), (List.forall_mem_cons.mpr ⟨(wa_12 _ (List.mem_of_getElem? (i := 14) (by decide +kernel))), (List.forall_mem_cons.mpr ⟨(wa_12 _ (List.mem_of_getElem? (i := 15) (by decide +kernel))), (List.forall_mem_cons.mpr ⟨(wa_1 _ (List.mem_of_getElem? (i := 5) (by decide +kernel))), (fun _ h => absurd h List.not_mem_nil)⟩)⟩)⟩)⟩)) rfl rfl rfl (by decide +kernel) ⟨Nat.le_of_ble_eq_true rfl, Nat.le_of_ble_eq_true rfl⟩) rfl hl.1 rfl (Nat.le_of_ble_eq_true rfl) dX11_put_48 ⟨Nat.le_of_ble_eq_true rfl, Nat.le_of_ble_eq_true rfl⟩) hW (fun r_21 H locs hp_20 hW => ?_)
              rcases hp_20 with ⟨rfl, w_22⟩ | ⟨rfl, w_23⟩
              · skip
                refine m_if_ne (tgt := 57) hx hb dX11_put_51 (by decide) (fun c_24 => ?_) (fun c_24 => ?_)
                · skip
                  refine lv_aload_n hx hb dX11_put_57 rfl (lv_at hl 0 rfl) ?_
                  refine m_getr S hW hZ.sp.1 1 rfl (j := 201) rfl kX11 (iW11 _) (by decide) (List.mem_cons_of_mem _ (wa_11 _ (List.mem_of_getElem? (i := 2) (by decide +kernel)))) dX11_put_58 ?_
                  refine lv_bipush (v := nI 12) hx hb dX11_put_61 (by decide) ?_
                  refine lv_iload_n hx hb dX11_put_63 rfl (lv_at hl 1 rfl) ?_
                  refine m_top (y := nI nx) hnx ?_
                  refine lv_imul hx hb dX11_put_64 ?_
                  refine m_top (y := nI (12 * nx)) (pk_mul 12 nx) ?_
                  refine lv_iload_n hx hb dX11_put_65 rfl (lv_at hl 2 rfl) ?_
                  refine m_top (y := nI ny) hny ?_
                  refine lv_iadd hx hb dX11_put_66 ?_
                  refine m_top (y := nI ((12 * nx) + ny)) (nI_add (12 * nx) ny) ?_
                  refine m_iald S hW hZ.sp.2.1 ((12 * nx) + ny) rfl (by omega) (by decide) dX11_put_67 ?_
                  refine m_top (y := (zPart (gZ q) nx ny)) (hZ.rPart hlnx (by omega)) ?_
                  refine lv_istore (lv' := [(4, .int (zPart (gZ q) nx ny)), (0, .ref (ad 200)), (1, .int x), (2, .int y), (3, .int v)]) hx hb dX11_put_68 hl (by decide) rfl (fun ls hl => ?_)
                  refine lv_aload_n hx hb dX11_put_70 rfl (lv_at hl 1 rfl) ?_
                  refine m_getr S hW hZ.sp.1 1 rfl (j := 201) rfl kX11 (iW11 _) (by decide) (List.mem_cons_of_mem _ (wa_11 _ (List.mem_of_getElem? (i := 2) (by decide +kernel)))) dX11_put_71 ?_
                  refine lv_bipush (v := nI 12) hx hb dX11_put_74 (by decide) ?_
                  refine lv_iload_n hx hb dX11_put_76 rfl (lv_at hl 2 rfl) ?_
                  refine m_top (y := nI nx) hnx ?_
                  refine lv_imul hx hb dX11_put_77 ?_
                  refine m_top (y := nI (12 * nx)) (pk_mul 12 nx) ?_
                  refine lv_iload_n hx hb dX11_put_78 rfl (lv_at hl 3 rfl) ?_
                  refine m_top (y := nI ny) hny ?_
                  refine lv_iadd hx hb dX11_put_79 ?_
                  refine m_top (y := nI ((12 * nx) + ny)) (nI_add (12 * nx) ny) ?_
                  refine lv_iload_n hx hb dX11_put_80 rfl (lv_at hl 4 rfl) ?_
                  refine m_iast S hW hZ.sp.2.1 ((12 * nx) + ny) rfl (by omega) (by decide) dX11_put_81 (fun H locs hW => ?_)
                  obtain ⟨V_25, eV_25⟩ : ∃ vv_ : mV, vv_ = mU V 201 ((12 * nx) + ny) (v) := ⟨_, rfl⟩
                  rw [← eV_25] at hW
                  refine lv_iload hx hb dX11_put_82 (lv_at hl 0 rfl) ?_
                  exact m_iret S hr hlk hW dX11_put_84 (by have hp9 := put_p hZ hlnx (show ny < 12 by omega) (y := v) (by rw [hzm]; exact w_22); rw [← eV_25] at hp9; exact ⟨by simp only [aPut, if_pos w_3, hcx, if_pos w_8, hcy, hzm, if_pos w_22]; try rfl, by simp only [nPut, if_pos w_3, hcx, if_pos w_8, hcy, hzm, if_pos w_22]; exact hI.scene (s' := (_, gNe q, gNg q, gRl q)) hp9.1 htn.2.2.2 (fun a ha _ _ => hp9.2.1 a (Or.inl ha)) ⟨hp9.2.2 8 (by decide), hp9.2.2 11 (by decide), hp9.2.2 13 (by decide)⟩ (fun u hu => ⟨by rw [eV_25, mU_no _ _ (by decide)], by rw [eV_25, mU_no _ _ (by decide)]⟩) (fun hh => (hI.im hh).2.2.1), fun a ha => hp9.2.1 a (Or.inr ha)⟩)
                · exact absurd c_24 (by decide)
              · skip
                refine m_if_ne (tgt := 57) hx hb dX11_put_51 (by decide) (fun c_26 => ?_) (fun c_26 => ?_)
                · exact absurd c_26 (by decide)
                · skip
                  refine lv_bipush (v := -7) hx hb dX11_put_54 (by decide) ?_
                  exact m_iret S hr hlk hW dX11_put_56 (by exact ⟨by simp only [aPut, if_pos w_3, hcx, if_pos w_8, hcy, hzm, if_neg w_23]; try rfl, by simp only [nPut, if_pos w_3, hcx, if_pos w_8, hcy, hzm, if_neg w_23]; exact hI, fun _ _ => rfl⟩)
          · skip
            have c_11 : ¬ 10 ≤ ny := mt (nI_leI (by omega) (by omega)).mpr c_11
            have hzm := zMost_9 (k := ny) (by omega)
            refine lv_bipush (v := nI 99) hx hb dX11_put_29 (by decide) ?_
            refine lv_goto (tgt := 48) hx hb dX11_put_31 (by decide) ?_
            refine m_cip (m_rS S hW (c_X11_in l G ad sh V v 0 99 (by first | assumption | omega) (by first | assumption | omega)) (va_cwS 3 hts (gCall [.methodLink RX11 84 yX11_in, .static yX11_in, .initialized RX11] (List.forall_mem_cons.mpr ⟨(wa_12 _ (List.mem_of_getElem? (i := 16) (by decide +kernel))), (List.forall_mem_cons.mpr ⟨(wa_12 _ (List.mem_of_getElem? (i := 14) (by decide +kernel))), (List.forall_mem_cons.mpr ⟨(wa_12 _ (List.mem_of_getElem? (i := 15) (by decide +kernel))), (List.forall_mem_cons.mpr ⟨(wa_1 _ (List.mem_of_getElem? (i := 5) (by decide +kernel))), (fun _ h => absurd h List.not_mem_nil)⟩)⟩)⟩)⟩)) rfl rfl rfl (by decide +kernel) ⟨Nat.le_of_ble_eq_true rfl, Nat.le_of_ble_eq_true rfl⟩) rfl hl.1 rfl (Nat.le_of_ble_eq_true rfl) dX11_put_48 ⟨Nat.le_of_ble_eq_true rfl, Nat.le_of_ble_eq_true rfl⟩) hW (fun r_28 H locs hp_27 hW => ?_)
            rcases hp_27 with ⟨rfl, w_29⟩ | ⟨rfl, w_30⟩
            · skip
              refine m_if_ne (tgt := 57) hx hb dX11_put_51 (by decide) (fun c_31 => ?_) (fun c_31 => ?_)
              · skip
                refine lv_aload_n hx hb dX11_put_57 rfl (lv_at hl 0 rfl) ?_
                refine m_getr S hW hZ.sp.1 1 rfl (j := 201) rfl kX11 (iW11 _) (by decide) (List.mem_cons_of_mem _ (wa_11 _ (List.mem_of_getElem? (i := 2) (by decide +kernel)))) dX11_put_58 ?_
                refine lv_bipush (v := nI 12) hx hb dX11_put_61 (by decide) ?_
                refine lv_iload_n hx hb dX11_put_63 rfl (lv_at hl 1 rfl) ?_
                refine m_top (y := nI nx) hnx ?_
                refine lv_imul hx hb dX11_put_64 ?_
                refine m_top (y := nI (12 * nx)) (pk_mul 12 nx) ?_
                refine lv_iload_n hx hb dX11_put_65 rfl (lv_at hl 2 rfl) ?_
                refine m_top (y := nI ny) hny ?_
                refine lv_iadd hx hb dX11_put_66 ?_
                refine m_top (y := nI ((12 * nx) + ny)) (nI_add (12 * nx) ny) ?_
                refine m_iald S hW hZ.sp.2.1 ((12 * nx) + ny) rfl (by omega) (by decide) dX11_put_67 ?_
                refine m_top (y := (zPart (gZ q) nx ny)) (hZ.rPart hlnx (by omega)) ?_
                refine lv_istore (lv' := [(4, .int (zPart (gZ q) nx ny)), (0, .ref (ad 200)), (1, .int x), (2, .int y), (3, .int v)]) hx hb dX11_put_68 hl (by decide) rfl (fun ls hl => ?_)
                refine lv_aload_n hx hb dX11_put_70 rfl (lv_at hl 1 rfl) ?_
                refine m_getr S hW hZ.sp.1 1 rfl (j := 201) rfl kX11 (iW11 _) (by decide) (List.mem_cons_of_mem _ (wa_11 _ (List.mem_of_getElem? (i := 2) (by decide +kernel)))) dX11_put_71 ?_
                refine lv_bipush (v := nI 12) hx hb dX11_put_74 (by decide) ?_
                refine lv_iload_n hx hb dX11_put_76 rfl (lv_at hl 2 rfl) ?_
                refine m_top (y := nI nx) hnx ?_
                refine lv_imul hx hb dX11_put_77 ?_
                refine m_top (y := nI (12 * nx)) (pk_mul 12 nx) ?_
                refine lv_iload_n hx hb dX11_put_78 rfl (lv_at hl 3 rfl) ?_
                refine m_top (y := nI ny) hny ?_
                refine lv_iadd hx hb dX11_put_79 ?_
                refine m_top (y := nI ((12 * nx) + ny)) (nI_add (12 * nx) ny) ?_
                refine lv_iload_n hx hb dX11_put_80 rfl (lv_at hl 4 rfl) ?_
                refine m_iast S hW hZ.sp.2.1 ((12 * nx) + ny) rfl (by omega) (by decide) dX11_put_81 (fun H locs hW => ?_)
                obtain ⟨V_32, eV_32⟩ : ∃ vv_ : mV, vv_ = mU V 201 ((12 * nx) + ny) (v) := ⟨_, rfl⟩
                rw [← eV_32] at hW
                refine lv_iload hx hb dX11_put_82 (lv_at hl 0 rfl) ?_
                exact m_iret S hr hlk hW dX11_put_84 (by have hp9 := put_p hZ hlnx (show ny < 12 by omega) (y := v) (by rw [hzm]; exact w_29); rw [← eV_32] at hp9; exact ⟨by simp only [aPut, if_pos w_3, hcx, if_pos w_8, hcy, hzm, if_pos w_29]; try rfl, by simp only [nPut, if_pos w_3, hcx, if_pos w_8, hcy, hzm, if_pos w_29]; exact hI.scene (s' := (_, gNe q, gNg q, gRl q)) hp9.1 htn.2.2.2 (fun a ha _ _ => hp9.2.1 a (Or.inl ha)) ⟨hp9.2.2 8 (by decide), hp9.2.2 11 (by decide), hp9.2.2 13 (by decide)⟩ (fun u hu => ⟨by rw [eV_32, mU_no _ _ (by decide)], by rw [eV_32, mU_no _ _ (by decide)]⟩) (fun hh => (hI.im hh).2.2.1), fun a ha => hp9.2.1 a (Or.inr ha)⟩)
              · exact absurd c_31 (by decide)
            · skip
              refine m_if_ne (tgt := 57) hx hb dX11_put_51 (by decide) (fun c_33 => ?_) (fun c_33 => ?_)
              · exact absurd c_33 (by decide)
              · skip
                refine lv_bipush (v := -7) hx hb dX11_put_54 (by decide) ?_
                exact m_iret S hr hlk hW dX11_put_56 (by exact ⟨by simp only [aPut, if_pos w_3, hcx, if_pos w_8, hcy, hzm, if_neg w_30]; try rfl, by simp only [nPut, if_pos w_3, hcx, if_pos w_8, hcy, hzm, if_neg w_30]; exact hI, fun _ _ => rfl⟩)
      · skip
        refine m_if_eq (tgt := 54) hx hb dX11_put_18 (by decide) (fun c_34 => ?_) (fun c_34 => ?_)
        · skip
          refine lv_bipush (v := -7) hx hb dX11_put_54 (by decide) ?_
          exact m_iret S hr hlk hW dX11_put_56 (by exact ⟨by simp only [aPut, if_pos w_3, hcx, if_neg w_9]; try rfl, by simp only [nPut, if_pos w_3, hcx, if_neg w_9]; exact hI, fun _ _ => rfl⟩)
        · exact absurd c_34 (by decide)
    · exact absurd c_5 (by decide)
  · skip
    refine m_if_ne (tgt := 11) hx hb dX11_put_5 (by decide) (fun c_35 => ?_) (fun c_35 => ?_)
    · exact absurd c_35 (by decide)
    · skip
      refine lv_bipush (v := -5) hx hb dX11_put_8 (by decide) ?_
      exact m_iret S hr hlk hW dX11_put_10 (by exact ⟨by simp only [aPut, if_neg w_4]; try rfl, by simp only [nPut, if_neg w_4]; exact hI, fun _ _ => rfl⟩)
set_option maxHeartbeats 4000000 in
set_option maxRecDepth 100000 in
theorem c_X11_force (l : Launch) (G : mG) (ad : Nat → Nat) (sh : Nat → Option mSh) (V : mV) (q : Sg) (x : Int32) (hI : MI sh V q) : mM l yX11_force wsX11_force ({ frames := 1, cells := 0, slots := 0, locals := 22 } : Room) G ad sh V [.ref (ad 200), .int x] 0 0 (mPi ad sh (fun r V' => (aForce q x) = r ∧ (MI sh V' (nForce q x)) ∧ (∀ a, a < 200 → V' a = V a))) := by
  refine mM.of (cc := cX11_force) (maxL := 3) (ret := (some .int)) (by decide) rfl (Nat.le_of_ble_eq_true rfl) ?_
  intro p e s m below meth c S hr hlk hnm hW ls hl
  obtain ⟨hx, hb, hml, hown, hts⟩ := id S
  have hl : lv_has ls 3 [(0, .ref (ad 200)), (1, .int x)] := hl
  have hS0 : True := trivial
  have hZ := hI.z
  have hne5 := hZ.ne5
  have hng6 := hZ.ng6
  have htn := hI.tn
  refine lv_iload_n hx hb dX11_force_0 rfl (lv_at hl 1 rfl) ?_
  refine lv_iconst (v := nI 0) hx hb dX11_force_1 (by decide) ?_
  refine lv_aload_n hx hb dX11_force_2 rfl (lv_at hl 0 rfl) ?_
  refine m_geti S hW hZ.sp.1 11 rfl kX11 (iW11 _) (by decide) (List.mem_cons_of_mem _ (wa_12 _ (List.mem_of_getElem? (i := 4) (by decide +kernel)))) dX11_force_3 ?_
  refine m_top (y := nI ((gTxs q).length)) hI.tn.1 ?_
  refine lv_iconst (v := nI 1) hx hb dX11_force_6 (by decide) ?_
  refine lv_isub hx hb dX11_force_7 ?_
  refine m_cip (m_rS S hW (c_X11_in_c l G ad sh V x ((nI ((gTxs q).length)) - (nI 1)) ((gTxs q).length) (by exact pk_sub_toInt (by omega) (by decide))) (va_cwS 3 hts (gCall [.methodLink RX11 84 yX11_in, .static yX11_in, .initialized RX11] (List.forall_mem_cons.mpr ⟨(wa_12 _ (List.mem_of_getElem? (i := 16) (by decide +kernel))), (List.forall_mem_cons.mpr ⟨(wa_12 _ (List.mem_of_getElem? (i := 14) (by decide +kernel))), (List.forall_mem_cons.mpr ⟨(wa_12 _ (List.mem_of_getElem? (i := 15) (by decide +kernel))), (List.forall_mem_cons.mpr ⟨(wa_1 _ (List.mem_of_getElem? (i := 5) (by decide +kernel))), (fun _ h => absurd h List.not_mem_nil)⟩)⟩)⟩)⟩)) rfl rfl rfl (by decide +kernel) ⟨Nat.le_of_ble_eq_true rfl, Nat.le_of_ble_eq_true rfl⟩) rfl hl.1 rfl (Nat.le_of_ble_eq_true rfl) dX11_force_8 ⟨Nat.le_of_ble_eq_true rfl, Nat.le_of_ble_eq_true rfl⟩) hW (fun r_2 H locs hp_1 hW => ?_)
  rcases hp_1 with ⟨rfl, w_3⟩ | ⟨rfl, w_4⟩
  · skip
    obtain ⟨nx, hnx, hwnx, hlnx⟩ := w_3.ex
    have hcx : x.toNatClampNeg = nx := by rw [hnx]; exact nI_clamp (by omega)
    refine m_if_ne (tgt := 17) hx hb dX11_force_11 (by decide) (fun c_5 => ?_) (fun c_5 => ?_)
    · skip
      refine lv_aload_n hx hb dX11_force_17 rfl (lv_at hl 0 rfl) ?_
      refine m_geti S hW hZ.sp.1 12 rfl kX11 (iW11 _) (by decide) (List.mem_cons_of_mem _ (wa_15 _ (List.mem_of_getElem? (i := 3) (by decide +kernel)))) dX11_force_18 ?_
      refine m_top (y := nI (gRl q)) hI.z.rl_ ?_
      refine lv_istore_n (lv' := [(2, .int (nI (gRl q))), (0, .ref (ad 200)), (1, .int x)]) hx hb dX11_force_21 rfl hl (by decide) rfl (fun ls hl => ?_)
      refine lv_aload_n hx hb dX11_force_22 rfl (lv_at hl 1 rfl) ?_
      refine lv_iload_n hx hb dX11_force_23 rfl (lv_at hl 2 rfl) ?_
      refine m_top (y := nI nx) hnx ?_
      refine m_puti S hW hZ.sp.1 12 rfl kX11 (iW11 _) tyX11 tyX11_ok nmX11 (by decide) (List.mem_cons_of_mem _ (wa_15 _ (List.mem_of_getElem? (i := 3) (by decide +kernel)))) (Or.inl rfl) rfl rfl dX11_force_24 (fun H locs hW => ?_)
      obtain ⟨V_6, eV_6⟩ : ∃ vv_ : mV, vv_ = mU V 200 12 (nI nx) := ⟨_, rfl⟩
      rw [← eV_6] at hW
      refine lv_iload_n hx hb dX11_force_27 rfl (lv_at hl 0 rfl) ?_
      exact m_iret S hr hlk hW dX11_force_28 (by exact ⟨by simp only [aForce, if_pos w_3, hcx], by simp only [nForce, if_pos w_3, hcx]; exact hI.scene (s' := (gZ q, gNe q, gNg q, nx)) (hZ.force eV_6 (hI.tx nx hlnx) (Nat.lt_of_lt_of_le hlnx htn.2.2.1)) hlnx (fun a ha _ _ => by rw [eV_6, mU_no _ _ (by omega)]) ⟨by rw [eV_6, mU_ne _ _ (by omega)], by rw [eV_6, mU_ne _ _ (by omega)], by rw [eV_6, mU_ne _ _ (by omega)]⟩ (fun u _ => ⟨by rw [eV_6, mU_no _ _ (by decide)], by rw [eV_6, mU_no _ _ (by decide)]⟩) (fun hh => (hI.im hh).2.2.1), fun a ha => by rw [eV_6, mU_no _ _ (by omega)]⟩)
    · exact absurd c_5 (by decide)
  · skip
    refine m_if_ne (tgt := 17) hx hb dX11_force_11 (by decide) (fun c_7 => ?_) (fun c_7 => ?_)
    · exact absurd c_7 (by decide)
    · skip
      refine lv_bipush (v := -2) hx hb dX11_force_14 (by decide) ?_
      exact m_iret S hr hlk hW dX11_force_16 (by exact ⟨by simp only [aForce, if_neg w_4]; try rfl, by simp only [nForce, if_neg w_4]; exact hI, fun _ _ => rfl⟩)
set_option maxHeartbeats 4000000 in
set_option maxRecDepth 100000 in
theorem c_X11_bite (l : Launch) (G : mG) (ad : Nat → Nat) (sh : Nat → Option mSh) (V : mV) (q : Sg) (x y pl : Int32) (hI : MI sh V q) : mM l yX11_bite wsX11_bite ({ frames := 5, cells := 0, slots := 0, locals := 123 } : Room) G ad sh V [.ref (ad 200), .int x, .int y, .int pl] 0 0 (mPi ad sh (fun r V' => (aBite q x y pl) = r ∧ (MI sh V' (nBite q x y pl)) ∧ (∀ a, a < 200 → V' a = V a))) := by
  refine mM.of (cc := cX11_bite) (maxL := 6) (ret := (some .int)) (by decide) rfl (Nat.le_of_ble_eq_true rfl) ?_
  intro p e s m below meth c S hr hlk hnm hW ls hl
  obtain ⟨hx, hb, hml, hown, hts⟩ := id S
  have hl : lv_has ls 6 [(0, .ref (ad 200)), (1, .int x), (2, .int y), (3, .int pl)] := hl
  have hS0 : True := trivial
  have hZ := hI.z
  have hne5 := hZ.ne5
  have hng6 := hZ.ng6
  have htn := hI.tn
  refine lv_aload_n hx hb dX11_bite_0 rfl (lv_at hl 0 rfl) ?_
  refine lv_iload_n hx hb dX11_bite_1 rfl (lv_at hl 1 rfl) ?_
  refine m_cip (m_rV S hW (c_X11_isEater l G ad sh V (gZ q) (gNe q) (gNg q) (gRl q) (gT q (gRl q)) x hZ) (cwV 1 hts (gCall [.methodLink RX11 179 yX11_isEater, .instanceMethod yX11_isEater, .selects RX11 yX11_isEater yX11_isEater, .initialized RX11] (List.forall_mem_cons.mpr ⟨(wa_19 _ (List.mem_of_getElem? (i := 3) (by decide +kernel))), (List.forall_mem_cons.mpr ⟨(wa_19 _ (List.mem_of_getElem? (i := 0) (by decide +kernel))), (List.forall_mem_cons.mpr ⟨(wa_19 _ (List.mem_of_getElem? (i := 1) (by decide +kernel))), (List.forall_mem_cons.mpr ⟨(wa_19 _ (List.mem_of_getElem? (i := 2) (by decide +kernel))), (List.forall_mem_cons.mpr ⟨(wa_1 _ (List.mem_of_getElem? (i := 5) (by decide +kernel))), (fun _ h => absurd h List.not_mem_nil)⟩)⟩)⟩)⟩)⟩)) rfl rfl rfl (by decide +kernel) ⟨Nat.le_of_ble_eq_true rfl, Nat.le_of_ble_eq_true rfl⟩) hZ.sp.1 kX11 rfl hl.1 rfl (Nat.le_of_ble_eq_true rfl) dX11_bite_2 ⟨Nat.le_of_ble_eq_true rfl, Nat.le_of_ble_eq_true rfl⟩) hW (fun r_2 H locs hp_1 hW => ?_)
  rcases hp_1 with ⟨rfl, w_3⟩ | ⟨rfl, w_4⟩
  · skip
    obtain ⟨nx, hnx, hwnx, hlnx⟩ := w_3.ex
    have hcx : x.toNatClampNeg = nx := by rw [hnx]; exact nI_clamp (by omega)
    refine m_if_eq (tgt := 16) hx hb dX11_bite_5 (by decide) (fun c_5 => ?_) (fun c_5 => ?_)
    · exact absurd c_5 (by decide)
    · skip
      refine lv_aload_n hx hb dX11_bite_8 rfl (lv_at hl 0 rfl) ?_
      refine lv_iload_n hx hb dX11_bite_9 rfl (lv_at hl 2 rfl) ?_
      refine m_cip (m_rV S hW (c_X11_isGood l G ad sh V (gZ q) (gNe q) (gNg q) (gRl q) (gT q (gRl q)) y hZ) (cwV 1 hts (gCall [.methodLink RX11 182 yX11_isGood, .instanceMethod yX11_isGood, .selects RX11 yX11_isGood yX11_isGood, .initialized RX11] (List.forall_mem_cons.mpr ⟨(wa_19 _ (List.mem_of_getElem? (i := 7) (by decide +kernel))), (List.forall_mem_cons.mpr ⟨(wa_19 _ (List.mem_of_getElem? (i := 4) (by decide +kernel))), (List.forall_mem_cons.mpr ⟨(wa_19 _ (List.mem_of_getElem? (i := 5) (by decide +kernel))), (List.forall_mem_cons.mpr ⟨(wa_19 _ (List.mem_of_getElem? (i := 6) (by decide +kernel))), (List.forall_mem_cons.mpr ⟨(wa_1 _ (List.mem_of_getElem? (i := 5) (by decide +kernel))), (fun _ h => absurd h List.not_mem_nil)⟩)⟩)⟩)⟩)⟩)) rfl rfl rfl (by decide +kernel) ⟨Nat.le_of_ble_eq_true rfl, Nat.le_of_ble_eq_true rfl⟩) hZ.sp.1 kX11 rfl hl.1 rfl (Nat.le_of_ble_eq_true rfl) dX11_bite_10 ⟨Nat.le_of_ble_eq_true rfl, Nat.le_of_ble_eq_true rfl⟩) hW (fun r_7 H locs hp_6 hW => ?_)
      rcases hp_6 with ⟨rfl, w_8⟩ | ⟨rfl, w_9⟩
      · skip
        obtain ⟨ny, hny, hwny, hlny⟩ := w_8.ex
        have hcy : y.toNatClampNeg = ny := by rw [hny]; exact nI_clamp (by omega)
        refine m_if_ne (tgt := 19) hx hb dX11_bite_13 (by decide) (fun c_10 => ?_) (fun c_10 => ?_)
        · skip
          refine lv_iload_n hx hb dX11_bite_19 rfl (lv_at hl 3 rfl) ?_
          refine m_cip (m_rS S hW (c_X11_isPlace l G ad sh V pl) (va_cwS 1 hts (gCall [.methodLink RX11 204 yX11_isPlace, .static yX11_isPlace, .initialized RX11] (List.forall_mem_cons.mpr ⟨(wa_26 _ (List.mem_of_getElem? (i := 14) (by decide +kernel))), (List.forall_mem_cons.mpr ⟨(wa_26 _ (List.mem_of_getElem? (i := 12) (by decide +kernel))), (List.forall_mem_cons.mpr ⟨(wa_26 _ (List.mem_of_getElem? (i := 13) (by decide +kernel))), (List.forall_mem_cons.mpr ⟨(wa_1 _ (List.mem_of_getElem? (i := 5) (by decide +kernel))), (fun _ h => absurd h List.not_mem_nil)⟩)⟩)⟩)⟩)) rfl rfl rfl (by decide +kernel) ⟨Nat.le_of_ble_eq_true rfl, Nat.le_of_ble_eq_true rfl⟩) rfl hl.1 rfl (Nat.le_of_ble_eq_true rfl) dX11_bite_20 ⟨Nat.le_of_ble_eq_true rfl, Nat.le_of_ble_eq_true rfl⟩) hW (fun r_12 H locs hp_11 hW => ?_)
          rcases hp_11 with ⟨rfl, w_13⟩ | ⟨rfl, w_14⟩
          · skip
            obtain ⟨npl, hnpl, hwnpl, hlnpl⟩ := w_13.ex
            have hcpl : pl.toNatClampNeg = npl := by rw [hnpl]; exact nI_clamp (by omega)
            refine m_if_ne (tgt := 29) hx hb dX11_bite_23 (by decide) (fun c_15 => ?_) (fun c_15 => ?_)
            · skip
              refine lv_aload_n hx hb dX11_bite_29 rfl (lv_at hl 0 rfl) ?_
              refine lv_iload_n hx hb dX11_bite_30 rfl (lv_at hl 1 rfl) ?_
              refine m_top (y := nI nx) hnx ?_
              refine lv_iload_n hx hb dX11_bite_31 rfl (lv_at hl 2 rfl) ?_
              refine m_top (y := nI ny) hny ?_
              refine lv_iload_n hx hb dX11_bite_32 rfl (lv_at hl 3 rfl) ?_
              refine m_top (y := nI npl) hnpl ?_
              refine m_cie (m_rV S hW (c_X11_markOf l G ad sh V (gZ q) (gNe q) (gNg q) (gRl q) (gT q (gRl q)) nx ny npl hZ (by first | assumption | omega) (by first | assumption | omega) (by first | assumption | omega)) (cwV 3 hts (gCall [.methodLink RX11 198 yX11_markOf, .instanceMethod yX11_markOf, .selects RX11 yX11_markOf yX11_markOf, .initialized RX11] (List.forall_mem_cons.mpr ⟨(wa_26 _ (List.mem_of_getElem? (i := 18) (by decide +kernel))), (List.forall_mem_cons.mpr ⟨(wa_26 _ (List.mem_of_getElem? (i := 15) (by decide +kernel))), (List.forall_mem_cons.mpr ⟨(wa_26 _ (List.mem_of_getElem? (i := 16) (by decide +kernel))), (List.forall_mem_cons.mpr ⟨(wa_26 _ (List.mem_of_getElem? (i := 17) (by decide +kernel))), (List.forall_mem_cons.mpr ⟨(wa_1 _ (List.mem_of_getElem? (i := 5) (by decide +kernel))), (fun _ h => absurd h List.not_mem_nil)⟩)⟩)⟩)⟩)⟩)) rfl rfl rfl (by decide +kernel) ⟨Nat.le_of_ble_eq_true rfl, Nat.le_of_ble_eq_true rfl⟩) hZ.sp.1 kX11 rfl hl.1 rfl (Nat.le_of_ble_eq_true rfl) dX11_bite_33 ⟨Nat.le_of_ble_eq_true rfl, Nat.le_of_ble_eq_true rfl⟩) hW (fun H locs hW => ?_)
              refine lv_istore (lv' := [(4, .int (nI (zm (gZ q) nx ny npl))), (0, .ref (ad 200)), (1, .int x), (2, .int y), (3, .int pl)]) hx hb dX11_bite_36 hl (by decide) rfl (fun ls hl => ?_)
              have hmk := hZ.ok.mkm hlnx hlny (show npl < 16 by omega)
              refine lv_iload hx hb dX11_bite_38 (lv_at hl 0 rfl) ?_
              refine m_if_ne (tgt := 46) hx hb dX11_bite_40 (by decide) (fun c_16 => ?_) (fun c_16 => ?_)
              · skip
                have c_16 : ¬ (zm (gZ q) nx ny npl) = 0 := mt (nI_eq (by omega) (by omega)).mpr c_16
                have hm0 : ¬ zMk (gZ q) nx ny npl = nI 0 := by rw [hmk.1]; exact mt (nI_eq (by omega) (by decide)).mp c_16
                refine lv_aload_n hx hb dX11_bite_46 rfl (lv_at hl 1 rfl) ?_
                refine lv_iload_n hx hb dX11_bite_47 rfl (lv_at hl 2 rfl) ?_
                refine m_top (y := nI nx) hnx ?_
                refine lv_iload_n hx hb dX11_bite_48 rfl (lv_at hl 3 rfl) ?_
                refine m_top (y := nI ny) hny ?_
                refine lv_iload hx hb dX11_bite_49 (lv_at hl 0 rfl) ?_
                refine m_cie (m_rV S hW (c_X11_costsOf l G ad sh V (gZ q) (gNe q) (gNg q) (gRl q) (gT q (gRl q)) nx ny (zm (gZ q) nx ny npl) hZ (by first | assumption | omega) (by first | assumption | omega) hmk.2) (cwV 3 hts (gCall [.methodLink RX11 201 yX11_costsOf, .instanceMethod yX11_costsOf, .selects RX11 yX11_costsOf yX11_costsOf, .initialized RX11] (List.forall_mem_cons.mpr ⟨(wa_27 _ (List.mem_of_getElem? (i := 1) (by decide +kernel))), (List.forall_mem_cons.mpr ⟨(wa_26 _ (List.mem_of_getElem? (i := 22) (by decide +kernel))), (List.forall_mem_cons.mpr ⟨(wa_26 _ (List.mem_of_getElem? (i := 23) (by decide +kernel))), (List.forall_mem_cons.mpr ⟨(wa_27 _ (List.mem_of_getElem? (i := 0) (by decide +kernel))), (List.forall_mem_cons.mpr ⟨(wa_1 _ (List.mem_of_getElem? (i := 5) (by decide +kernel))), (fun _ h => absurd h List.not_mem_nil)⟩)⟩)⟩)⟩)⟩)) rfl rfl rfl (by decide +kernel) ⟨Nat.le_of_ble_eq_true rfl, Nat.le_of_ble_eq_true rfl⟩) hZ.sp.1 kX11 rfl hl.1 rfl (Nat.le_of_ble_eq_true rfl) dX11_bite_51 ⟨Nat.le_of_ble_eq_true rfl, Nat.le_of_ble_eq_true rfl⟩) hW (fun H locs hW => ?_)
                refine m_top (y := (zCo (gAsk q) (gZ q) nx ny (zMk (gZ q) nx ny npl))) (by rw [hmk.1]; rfl) ?_
                refine lv_istore (lv' := [(5, .int (zCo (gAsk q) (gZ q) nx ny (zMk (gZ q) nx ny npl))), (4, .int (nI (zm (gZ q) nx ny npl))), (0, .ref (ad 200)), (1, .int x), (2, .int y), (3, .int pl)]) hx hb dX11_bite_54 hl (by decide) rfl (fun ls hl => ?_)
                refine lv_iload hx hb dX11_bite_56 (lv_at hl 0 rfl) ?_
                refine lv_aload_n hx hb dX11_bite_58 rfl (lv_at hl 2 rfl) ?_
                refine m_getr S hW hZ.sp.1 5 rfl (j := 204) rfl kX11 (iW11 _) (by decide) (List.mem_cons_of_mem _ (wa_11 _ (List.mem_of_getElem? (i := 5) (by decide +kernel)))) dX11_bite_59 ?_
                refine lv_iconst (v := nI 3) hx hb dX11_bite_62 (by decide) ?_
                refine lv_iload_n hx hb dX11_bite_63 rfl (lv_at hl 3 rfl) ?_
                refine m_top (y := nI nx) hnx ?_
                refine lv_imul hx hb dX11_bite_64 ?_
                refine m_top (y := nI (3 * nx)) (pk_mul 3 nx) ?_
                refine lv_iconst (v := nI 1) hx hb dX11_bite_65 (by decide) ?_
                refine lv_iadd hx hb dX11_bite_66 ?_
                refine m_top (y := nI ((3 * nx) + 1)) (nI_add (3 * nx) 1) ?_
                refine m_iald S hW hZ.sp.2.2.2.2.1 ((3 * nx) + 1) rfl (by omega) (by decide) dX11_bite_67 ?_
                refine m_top (y := (gZ q (4 + nx) 3)) (hZ.rPu hlnx) ?_
                refine lv_icmp_le (tgt := 74) hx hb dX11_bite_68 (by decide) (fun c_17 => ?_) (fun c_17 => ?_)
                · skip
                  have hnp := Int32.not_lt.mpr c_17
                  have hcan : zCan (gAsk q) (gZ q) nx ny npl := ⟨hm0, hnp⟩
                  refine lv_aload_n hx hb dX11_bite_74 rfl (lv_at hl 2 rfl) ?_
                  refine lv_iload_n hx hb dX11_bite_75 rfl (lv_at hl 3 rfl) ?_
                  refine m_top (y := nI nx) hnx ?_
                  refine lv_iload_n hx hb dX11_bite_76 rfl (lv_at hl 4 rfl) ?_
                  refine m_top (y := nI ny) hny ?_
                  refine lv_iload_n hx hb dX11_bite_77 rfl (lv_at hl 5 rfl) ?_
                  refine m_top (y := nI npl) hnpl ?_
                  refine m_ci (m_rV S hW (c_X11_bites l G ad sh V (gZ q) (gNe q) (gNg q) (gRl q) (gT q (gRl q)) nx ny npl hZ (by first | assumption | omega) (by first | assumption | omega) (by first | assumption | omega) hcan) (cwV 3 hts (gCall [.methodLink RX11 210 yX11_bites, .instanceMethod yX11_bites, .selects RX11 yX11_bites yX11_bites, .initialized RX11] (List.forall_mem_cons.mpr ⟨(wa_28 _ (List.mem_of_getElem? (i := 11) (by decide +kernel))), (List.forall_mem_cons.mpr ⟨(wa_28 _ (List.mem_of_getElem? (i := 8) (by decide +kernel))), (List.forall_mem_cons.mpr ⟨(wa_28 _ (List.mem_of_getElem? (i := 9) (by decide +kernel))), (List.forall_mem_cons.mpr ⟨(wa_28 _ (List.mem_of_getElem? (i := 10) (by decide +kernel))), (List.forall_mem_cons.mpr ⟨(wa_1 _ (List.mem_of_getElem? (i := 5) (by decide +kernel))), (fun _ h => absurd h List.not_mem_nil)⟩)⟩)⟩)⟩)⟩)) rfl rfl rfl (by decide +kernel) ⟨Nat.le_of_ble_eq_true rfl, Nat.le_of_ble_eq_true rfl⟩) hZ.sp.1 kX11 rfl hl.1 rfl (Nat.le_of_ble_eq_true rfl) dX11_bite_78 ⟨Nat.le_of_ble_eq_true rfl, Nat.le_of_ble_eq_true rfl⟩) hW (fun r_20 V_18 H locs hp_19 hW => ?_)
                  obtain ⟨rfl, hZ_21, hB_22⟩ := hp_19
                  refine lv_pop hx hb dX11_bite_81 rfl ?_
                  refine lv_iload hx hb dX11_bite_82 (lv_at hl 0 rfl) ?_
                  exact m_iret S hr hlk hW dX11_bite_84 (by exact ⟨by simp only [aBite, if_pos w_3, hcx, if_pos w_8, hcy, if_pos w_13, hcpl, if_neg hm0, if_neg hnp], by simp only [nBite, if_pos w_3, hcx, if_pos w_8, hcy, if_pos w_13, hcpl, if_neg hm0, if_neg hnp]; exact hI.scene (s' := (zBi (gAsk q) (gZ q) nx ny npl, gNe q, gNg q, gRl q)) hZ_21 htn.2.2.2 (fun a ha _ _ => hB_22.1 a (by omega) (by omega) (by omega)) ⟨hB_22.2.2 8 (by decide) (by decide) (by decide), hB_22.2.2 11 (by decide) (by decide) (by decide), hB_22.2.2 13 (by decide) (by decide) (by decide)⟩ (fun u _ => ⟨by rw [hB_22.1 202 (by decide) (by decide) (by decide)], by rw [hB_22.1 203 (by decide) (by decide) (by decide)]⟩) (fun hh => (hI.im hh).2.2.1), fun a ha => hB_22.1 a (by omega) (by omega) (by omega)⟩)
                · skip
                  refine lv_bipush (v := -4) hx hb dX11_bite_71 (by decide) ?_
                  exact m_iret S hr hlk hW dX11_bite_73 (by exact ⟨by simp only [aBite, if_pos w_3, hcx, if_pos w_8, hcy, if_pos w_13, hcpl, if_neg hm0, if_pos (Int32.not_le.mp c_17)]; try rfl, by simp only [nBite, if_pos w_3, hcx, if_pos w_8, hcy, if_pos w_13, hcpl, if_neg hm0, if_pos (Int32.not_le.mp c_17)]; exact hI, fun _ _ => rfl⟩)
              · skip
                have c_16 : (zm (gZ q) nx ny npl) = 0 := (nI_eq (by omega) (by omega)).mp c_16
                have hm0 : zMk (gZ q) nx ny npl = nI 0 := by rw [hmk.1, c_16]
                refine lv_bipush (v := -3) hx hb dX11_bite_43 (by decide) ?_
                exact m_iret S hr hlk hW dX11_bite_45 (by exact ⟨by simp only [aBite, if_pos w_3, hcx, if_pos w_8, hcy, if_pos w_13, hcpl, if_pos hm0]; try rfl, by simp only [nBite, if_pos w_3, hcx, if_pos w_8, hcy, if_pos w_13, hcpl, if_pos hm0]; exact hI, fun _ _ => rfl⟩)
            · exact absurd c_15 (by decide)
          · skip
            refine m_if_ne (tgt := 29) hx hb dX11_bite_23 (by decide) (fun c_23 => ?_) (fun c_23 => ?_)
            · exact absurd c_23 (by decide)
            · skip
              refine lv_bipush (v := -7) hx hb dX11_bite_26 (by decide) ?_
              exact m_iret S hr hlk hW dX11_bite_28 (by exact ⟨by simp only [aBite, if_pos w_3, hcx, if_pos w_8, hcy, if_neg w_14]; try rfl, by simp only [nBite, if_pos w_3, hcx, if_pos w_8, hcy, if_neg w_14]; exact hI, fun _ _ => rfl⟩)
        · exact absurd c_10 (by decide)
      · skip
        refine m_if_ne (tgt := 19) hx hb dX11_bite_13 (by decide) (fun c_24 => ?_) (fun c_24 => ?_)
        · exact absurd c_24 (by decide)
        · skip
          refine lv_bipush (v := -5) hx hb dX11_bite_16 (by decide) ?_
          exact m_iret S hr hlk hW dX11_bite_18 (by exact ⟨by simp only [aBite, if_pos w_3, hcx, if_neg w_9]; try rfl, by simp only [nBite, if_pos w_3, hcx, if_neg w_9]; exact hI, fun _ _ => rfl⟩)
  · skip
    refine m_if_eq (tgt := 16) hx hb dX11_bite_5 (by decide) (fun c_25 => ?_) (fun c_25 => ?_)
    · skip
      refine lv_bipush (v := -5) hx hb dX11_bite_16 (by decide) ?_
      exact m_iret S hr hlk hW dX11_bite_18 (by exact ⟨by simp only [aBite, if_neg w_4]; try rfl, by simp only [nBite, if_neg w_4]; exact hI, fun _ _ => rfl⟩)
    · exact absurd c_25 (by decide)
