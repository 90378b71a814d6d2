/-! odds -/
theorem fDiv_pos (a b : Nat) : ∀ d, 1 ≤ fDiv a b d ∧ fDiv a b d ≤ d + 1
  | 0 => ⟨Nat.le_refl _, Nat.le_refl _⟩
  | d + 1 => by
    rw [fDiv]
    by_cases h : d = 0
    · rw [if_pos h]; omega
    · rw [if_neg h]
      by_cases h2 : a % (d + 1) = 0 ∧ b % (d + 1) = 0
      · rw [if_pos h2]; omega
      · rw [if_neg h2]
        have := fDiv_pos a b d
        omega
set_option maxHeartbeats 4000000 in
set_option maxRecDepth 100000 in
theorem c_X10_odds (l : Launch) (G : mG) (ad : Nat → Nat) (sh : Nat → Option mSh) (V : mV) (q : Sg) (sd nb x want pt : Int32) (hX : XI sh V q) : mM l yX10_odds wsX10_odds ({ frames := 40, cells := 0, slots := 0, locals := 1200 } : Room) G ad sh V [.ref (ad 0), .int sd, .int nb, .int x, .int want, .int pt] 0 0 (mPl ad sh (fun r V' => (aOdds q sd nb x want pt) = r ∧ (XK V V'))) := by
  refine mM.of (cc := cX10_odds) (maxL := 11) (ret := (some .long)) (by decide) rfl (Nat.le_of_ble_eq_true rfl) ?_
  intro p e s m below meth c S hr hlk hnm hW ls hl
  obtain ⟨hx, hb, hml, hown, hts⟩ := id S
  have hl : lv_has ls 11 [(0, .ref (ad 0)), (1, .int sd), (2, .int nb), (3, .int x), (4, .int want), (5, .int pt)] := hl
  have hS0 : True := trivial
  have hne5 := hX.ne5
  have hng6 := hX.ng6
  have htn := hX.tn
  refine lv_aload_n hx hb dX10_odds_0 rfl (lv_at hl 0 rfl) ?_
  refine m_getr S hW hX.sp.1 6 rfl (j := 5) rfl kX10 (iW10 _) (by decide) (List.mem_cons_of_mem _ (wa_2 _ (List.mem_of_getElem? (i := 13) (by decide +kernel)))) dX10_odds_1 ?_
  refine lv_aload_n hx hb dX10_odds_4 rfl (lv_at hl 0 rfl) ?_
  refine m_getr S hW hX.sp.1 3 rfl (j := 20) rfl kX10 (iW10 _) (by decide) (List.mem_cons_of_mem _ (wa_2 _ (List.mem_of_getElem? (i := 8) (by decide +kernel)))) dX10_odds_5 ?_
  refine m_cv (m_rV S hW (c_X8_startFrom_x l G ad sh V q (by first | assumption | omega)) (cwV 1 hts (gCall [.methodLink RX10 201 yX8_startFrom, .instanceMethod yX8_startFrom, .selects RX8 yX8_startFrom yX8_startFrom, .initialized RX8] (List.forall_mem_cons.mpr ⟨(wa_30 _ (List.mem_of_getElem? (i := 5) (by decide +kernel))), (List.forall_mem_cons.mpr ⟨(wa_30 _ (List.mem_of_getElem? (i := 2) (by decide +kernel))), (List.forall_mem_cons.mpr ⟨(wa_30 _ (List.mem_of_getElem? (i := 3) (by decide +kernel))), (List.forall_mem_cons.mpr ⟨(wa_30 _ (List.mem_of_getElem? (i := 4) (by decide +kernel))), (List.forall_mem_cons.mpr ⟨(wa_2 _ (List.mem_of_getElem? (i := 12) (by decide +kernel))), (fun _ h => absurd h List.not_mem_nil)⟩)⟩)⟩)⟩)⟩)) rfl rfl rfl (by decide +kernel) ⟨by dsimp only; omega, by dsimp only; omega⟩) hX.sp.2.2.2.1 kX8 rfl hl.1 rfl (Nat.le_of_ble_eq_true rfl) dX10_odds_8 ⟨Nat.le_of_ble_eq_true rfl, Nat.le_of_ble_eq_true rfl⟩) hW (fun V_1 H locs hp_2 hW => ?_)
  obtain ⟨hQ_4, hK_5, h51_6, h52_7⟩ := hp_2
  have hX1 := hX.k hK_5
  have hH1 : ThOk sh V_1 (110 + 3 * gRl q) (gT q (gRl q)).2.1 (gT q (gRl q)).2.2 (gT q (gRl q)).1.length (gNe q) (gNg q) (gAsk q) (gZ q) := hX1.th hQ_4 hX.rl
  have hK1 := hK_5
  refine lv_aload_n hx hb dX10_odds_11 rfl (lv_at hl 0 rfl) ?_
  refine m_getr S hW hX.sp.1 6 rfl (j := 5) rfl kX10 (iW10 _) (by decide) (List.mem_cons_of_mem _ (wa_2 _ (List.mem_of_getElem? (i := 13) (by decide +kernel)))) dX10_odds_12 ?_
  refine m_getr S hW hX.sp.2.2.2.1 0 rfl (j := 80) rfl kX8 (iW8 _) (by decide) (List.mem_cons_of_mem _ (wa_33 _ (List.mem_of_getElem? (i := 2) (by decide +kernel)))) dX10_odds_15 ?_
  refine lv_iload_n hx hb dX10_odds_18 rfl (lv_at hl 3 rfl) ?_
  refine m_crp (m_rV S hW (c_X4_eaterAt l G ad sh V_1 80 (110 + 3 * gRl q) ((gT q (gRl q)).2.1) ((gT q (gRl q)).2.2) ((gT q (gRl q)).1.length) (gNe q) (gNg q) x hH1.2.1 hH1.2.2.1) (cwV 1 hts (gCall [.methodLink RX10 120 yX4_eaterAt, .instanceMethod yX4_eaterAt, .selects RX4 yX4_eaterAt yX4_eaterAt, .initialized RX4] (List.forall_mem_cons.mpr ⟨(wa_17 _ (List.mem_of_getElem? (i := 8) (by decide +kernel))), (List.forall_mem_cons.mpr ⟨(wa_17 _ (List.mem_of_getElem? (i := 5) (by decide +kernel))), (List.forall_mem_cons.mpr ⟨(wa_17 _ (List.mem_of_getElem? (i := 6) (by decide +kernel))), (List.forall_mem_cons.mpr ⟨(wa_17 _ (List.mem_of_getElem? (i := 7) (by decide +kernel))), (List.forall_mem_cons.mpr ⟨(wa_2 _ (List.mem_of_getElem? (i := 7) (by decide +kernel))), (fun _ h => absurd h List.not_mem_nil)⟩)⟩)⟩)⟩)⟩)) rfl rfl rfl (by decide +kernel) ⟨by dsimp only; omega, by dsimp only; omega⟩) hX.sp.2.2.2.2.2.2.2.1.2.2.1 kX4 rfl hl.1 rfl (Nat.le_of_ble_eq_true rfl) dX10_odds_19 ⟨Nat.le_of_ble_eq_true rfl, Nat.le_of_ble_eq_true rfl⟩) hW (fun r_9 H locs hp_8 hW => ?_)
  rcases hp_8 with ⟨n_10, rfl, hxn_11, hn_12⟩ | ⟨rfl, hx0_13⟩
  · skip
    refine W.eq (g2 := F0 m 22 ls [.ref (ad (80 + 4 + n_10))]) rfl ?_
    have hpx : mIn x 0 (gNe q) := by rw [hxn_11]; exact (mIn_nI (by have := hX.ne5; have := hX.ng6; omega)).mpr ⟨Nat.zero_le _, hn_12⟩
    have hcx : x.toNatClampNeg = n_10 := by rw [hxn_11]; exact nI_clamp (by have := hX.ne5; have := hX.ng6; omega)
    refine lv_astore (lv' := [(6, .ref (ad (80 + 4 + n_10))), (0, .ref (ad 0)), (1, .int sd), (2, .int nb), (3, .int x), (4, .int want), (5, .int pt)]) hx hb dX10_odds_22 hl (by decide) rfl (fun ls hl => ?_)
    refine lv_iload_n hx hb dX10_odds_24 rfl (lv_at hl 2 rfl) ?_
    refine lv_iconst (v := nI 0) hx hb dX10_odds_25 (by decide) ?_
    refine lv_ldcw (v := nI 99999) hx hb hown (hts (.constant RX10 278 (99999)) (List.mem_cons_of_mem _ (wa_41 _ (List.mem_of_getElem? (i := 23) (by decide +kernel))))) dX10_odds_26 ?_
    refine m_cip (m_rS S hW (c_X10_within l G ad sh V_1 sd 0 99999 (by first | assumption | omega) (by first | assumption | omega)) (va_cwS 3 hts (gCall [.methodLink RX10 102 yX10_within, .static yX10_within, .initialized RX10] (List.forall_mem_cons.mpr ⟨(wa_8 _ (List.mem_of_getElem? (i := 17) (by decide +kernel))), (List.forall_mem_cons.mpr ⟨(wa_15 _ (List.mem_of_getElem? (i := 8) (by decide +kernel))), (List.forall_mem_cons.mpr ⟨(wa_8 _ (List.mem_of_getElem? (i := 16) (by decide +kernel))), (List.forall_mem_cons.mpr ⟨(wa_1 _ (List.mem_of_getElem? (i := 2) (by decide +kernel))), (fun _ h => absurd h List.not_mem_nil)⟩)⟩)⟩)⟩)) rfl rfl rfl (by decide +kernel) ⟨by dsimp only; omega, by dsimp only; omega⟩) rfl hl.1 rfl (Nat.le_of_ble_eq_true rfl) dX10_odds_29 ⟨Nat.le_of_ble_eq_true rfl, Nat.le_of_ble_eq_true rfl⟩) hW (fun r_15 H locs hp_14 hW => ?_)
    rcases hp_14 with ⟨rfl, w_16⟩ | ⟨rfl, w_17⟩
    · skip
      obtain ⟨nsd, hnsd, hwnsd, hlnsd⟩ := w_16.ex
      have hcsd : sd.toNatClampNeg = nsd := by rw [hnsd]; exact nI_clamp (by omega)
      refine m_if_eq (tgt := 76) hx hb dX10_odds_32 (by decide) (fun c_18 => ?_) (fun c_18 => ?_)
      · exact absurd c_18 (by decide)
      · skip
        refine lv_iload_n hx hb dX10_odds_35 rfl (lv_at hl 3 rfl) ?_
        refine m_if_lt (tgt := 76) hx hb dX10_odds_36 (by decide) (fun c_19 => ?_) (fun c_19 => ?_)
        · skip
          have hnb0 : nb < nI 0 := c_19
          refine lv_ldc2 (v := (-4611686018427387904)) hx hb hown (hts (.constantLong RX10 282 (-4611686018427387904)) (List.mem_cons_of_mem _ (wa_43 _ (List.mem_of_getElem? (i := 5) (by decide +kernel))))) dX10_odds_76 ?_
          exact m_lret S hr hlk hW dX10_odds_79 (by exact ⟨by simp only [aOdds, if_pos hpx, hcx, if_pos w_16, hcsd, if_pos hnb0]; try rfl, hK1⟩)
        · skip
          have hnb0 : ¬ nb < nI 0 := c_19
          obtain ⟨nnb, hlnb, hnb⟩ := nI_of hnb0
          have hcnb : nb.toNatClampNeg = nnb := by rw [hnb]; exact nI_clamp hlnb
          refine lv_aload hx hb dX10_odds_39 (lv_at hl 0 rfl) ?_
          refine lv_ifnull hx hb dX10_odds_41 ?_
          refine lv_iload hx hb dX10_odds_44 (lv_at hl 5 rfl) ?_
          refine lv_iconst (v := nI 0) hx hb dX10_odds_46 (by decide) ?_
          refine lv_sipush (v := nI 9999) hx hb dX10_odds_47 (by decide) ?_
          refine m_cip (m_rS S hW (c_X10_within l G ad sh V_1 want 0 9999 (by first | assumption | omega) (by first | assumption | omega)) (va_cwS 3 hts (gCall [.methodLink RX10 102 yX10_within, .static yX10_within, .initialized RX10] (List.forall_mem_cons.mpr ⟨(wa_8 _ (List.mem_of_getElem? (i := 17) (by decide +kernel))), (List.forall_mem_cons.mpr ⟨(wa_15 _ (List.mem_of_getElem? (i := 8) (by decide +kernel))), (List.forall_mem_cons.mpr ⟨(wa_8 _ (List.mem_of_getElem? (i := 16) (by decide +kernel))), (List.forall_mem_cons.mpr ⟨(wa_1 _ (List.mem_of_getElem? (i := 2) (by decide +kernel))), (fun _ h => absurd h List.not_mem_nil)⟩)⟩)⟩)⟩)) rfl rfl rfl (by decide +kernel) ⟨by dsimp only; omega, by dsimp only; omega⟩) rfl hl.1 rfl (Nat.le_of_ble_eq_true rfl) dX10_odds_50 ⟨Nat.le_of_ble_eq_true rfl, Nat.le_of_ble_eq_true rfl⟩) hW (fun r_21 H locs hp_20 hW => ?_)
          rcases hp_20 with ⟨rfl, w_22⟩ | ⟨rfl, w_23⟩
          · skip
            refine m_if_eq (tgt := 76) hx hb dX10_odds_53 (by decide) (fun c_24 => ?_) (fun c_24 => ?_)
            · exact absurd c_24 (by decide)
            · skip
              refine lv_iload hx hb dX10_odds_56 (lv_at hl 6 rfl) ?_
              refine lv_iconst (v := nI 0) hx hb dX10_odds_58 (by decide) ?_
              refine lv_iconst (v := nI 1) hx hb dX10_odds_59 (by decide) ?_
              refine m_cip (m_rS S hW (c_X10_within l G ad sh V_1 pt 0 1 (by first | assumption | omega) (by first | assumption | omega)) (va_cwS 3 hts (gCall [.methodLink RX10 102 yX10_within, .static yX10_within, .initialized RX10] (List.forall_mem_cons.mpr ⟨(wa_8 _ (List.mem_of_getElem? (i := 17) (by decide +kernel))), (List.forall_mem_cons.mpr ⟨(wa_15 _ (List.mem_of_getElem? (i := 8) (by decide +kernel))), (List.forall_mem_cons.mpr ⟨(wa_8 _ (List.mem_of_getElem? (i := 16) (by decide +kernel))), (List.forall_mem_cons.mpr ⟨(wa_1 _ (List.mem_of_getElem? (i := 2) (by decide +kernel))), (fun _ h => absurd h List.not_mem_nil)⟩)⟩)⟩)⟩)) rfl rfl rfl (by decide +kernel) ⟨by dsimp only; omega, by dsimp only; omega⟩) rfl hl.1 rfl (Nat.le_of_ble_eq_true rfl) dX10_odds_60 ⟨Nat.le_of_ble_eq_true rfl, Nat.le_of_ble_eq_true rfl⟩) hW (fun r_26 H locs hp_25 hW => ?_)
              rcases hp_25 with ⟨rfl, w_27⟩ | ⟨rfl, w_28⟩
              · skip
                refine m_if_eq (tgt := 76) hx hb dX10_odds_63 (by decide) (fun c_29 => ?_) (fun c_29 => ?_)
                · exact absurd c_29 (by decide)
                · skip
                  refine lv_aload_n hx hb dX10_odds_66 rfl (lv_at hl 1 rfl) ?_
                  refine m_getr S hW hX.sp.1 3 rfl (j := 20) rfl kX10 (iW10 _) (by decide) (List.mem_cons_of_mem _ (wa_2 _ (List.mem_of_getElem? (i := 8) (by decide +kernel)))) dX10_odds_67 ?_
                  refine m_geti S hW hX.sz.1.1 3 rfl kX4 (iW4 _) (by decide) (List.mem_cons_of_mem _ (wa_14 _ (List.mem_of_getElem? (i := 12) (by decide +kernel)))) dX10_odds_70 ?_
                  refine m_top (y := nI (gNg q)) hX1.now.2.1 ?_
                  refine m_if_ne (tgt := 80) hx hb dX10_odds_73 (by decide) (fun c_30 => ?_) (fun c_30 => ?_)
                  · skip
                    have c_30 : ¬ (gNg q) = 0 := mt (nI_eq (by omega) (by omega)).mpr c_30
                    refine lv_iload_n hx hb dX10_odds_80 rfl (lv_at hl 3 rfl) ?_
                    refine m_top (y := nI nnb) hnb ?_
                    refine lv_bipush (v := nI 100) hx hb dX10_odds_81 (by decide) ?_
                    refine lv_idiv hx hb dX10_odds_83 (by decide) ?_
                    refine m_top (y := nI (nnb / 100)) (pk_div (by omega) (by omega) (by omega)) ?_
                    refine lv_istore (lv' := [(7, .int (nI (nnb / 100))), (6, .ref (ad (80 + 4 + n_10))), (0, .ref (ad 0)), (1, .int sd), (2, .int nb), (3, .int x), (4, .int want), (5, .int pt)]) hx hb dX10_odds_84 hl (by decide) rfl (fun ls hl => ?_)
                    refine lv_iload_n hx hb dX10_odds_86 rfl (lv_at hl 4 rfl) ?_
                    refine m_top (y := nI nnb) hnb ?_
                    refine lv_bipush (v := nI 100) hx hb dX10_odds_87 (by decide) ?_
                    refine lv_irem hx hb dX10_odds_89 (by decide) ?_
                    refine m_top (y := nI (nnb % 100)) (pk_rem (by omega) (by omega) (by omega)) ?_
                    refine lv_istore (lv' := [(8, .int (nI (nnb % 100))), (7, .int (nI (nnb / 100))), (6, .ref (ad (80 + 4 + n_10))), (0, .ref (ad 0)), (1, .int sd), (2, .int nb), (3, .int x), (4, .int want), (5, .int pt)]) hx hb dX10_odds_90 hl (by decide) rfl (fun ls hl => ?_)
                    refine lv_iload hx hb dX10_odds_92 (lv_at hl 1 rfl) ?_
                    refine lv_bipush (v := nI 60) hx hb dX10_odds_94 (by decide) ?_
                    refine lv_icmp_gt (tgt := 110) hx hb dX10_odds_96 (by decide) (fun c_31 => ?_) (fun c_31 => ?_)
                    · skip
                      have c_31 : 60 < (nnb / 100) := (nI_ltI (by omega) (by omega)).mp c_31
                      have hl60 : ¬ nnb / 100 ≤ 60 := by omega
                      refine lv_ldc2 (v := (-4611686018427387904)) hx hb hown (hts (.constantLong RX10 282 (-4611686018427387904)) (List.mem_cons_of_mem _ (wa_43 _ (List.mem_of_getElem? (i := 5) (by decide +kernel))))) dX10_odds_110 ?_
                      exact m_lret S hr hlk hW dX10_odds_113 (by exact ⟨by simp only [aOdds, if_pos hpx, hcx, if_pos w_16, hcsd, if_neg hnb0, hcnb, if_pos w_22, if_pos w_27, if_neg c_30, if_neg hl60]; try rfl, hK1⟩)
                    · skip
                      have c_31 : ¬ 60 < (nnb / 100) := mt (nI_ltI (by omega) (by omega)).mpr c_31
                      have hl60 : nnb / 100 ≤ 60 := by omega
                      refine lv_iload hx hb dX10_odds_99 (lv_at hl 0 rfl) ?_
                      refine lv_iconst (v := nI 1) hx hb dX10_odds_101 (by decide) ?_
                      refine lv_bipush (v := nI 40) hx hb dX10_odds_102 (by decide) ?_
                      refine m_cip (m_rS S hW (c_X10_within l G ad sh V_1 (nI (nnb % 100)) 1 40 (by first | assumption | omega) (by first | assumption | omega)) (va_cwS 3 hts (gCall [.methodLink RX10 102 yX10_within, .static yX10_within, .initialized RX10] (List.forall_mem_cons.mpr ⟨(wa_8 _ (List.mem_of_getElem? (i := 17) (by decide +kernel))), (List.forall_mem_cons.mpr ⟨(wa_15 _ (List.mem_of_getElem? (i := 8) (by decide +kernel))), (List.forall_mem_cons.mpr ⟨(wa_8 _ (List.mem_of_getElem? (i := 16) (by decide +kernel))), (List.forall_mem_cons.mpr ⟨(wa_1 _ (List.mem_of_getElem? (i := 2) (by decide +kernel))), (fun _ h => absurd h List.not_mem_nil)⟩)⟩)⟩)⟩)) rfl rfl rfl (by decide +kernel) ⟨by dsimp only; omega, by dsimp only; omega⟩) rfl hl.1 rfl (Nat.le_of_ble_eq_true rfl) dX10_odds_104 ⟨Nat.le_of_ble_eq_true rfl, Nat.le_of_ble_eq_true rfl⟩) hW (fun r_33 H locs hp_32 hW => ?_)
                      rcases hp_32 with ⟨rfl, w_34⟩ | ⟨rfl, w_35⟩
                      · skip
                        have hsd1 := (mIn_nI (by omega)).mp w_34
                        refine m_if_ne (tgt := 114) hx hb dX10_odds_107 (by decide) (fun c_36 => ?_) (fun c_36 => ?_)
                        · skip
                          refine lv_iconst (v := nI 0) hx hb dX10_odds_114 (by decide) ?_
                          refine lv_istore (lv' := [(9, .int (nI 0)), (8, .int (nI (nnb % 100))), (7, .int (nI (nnb / 100))), (6, .ref (ad (80 + 4 + n_10))), (0, .ref (ad 0)), (1, .int sd), (2, .int nb), (3, .int x), (4, .int want), (5, .int pt)]) hx hb dX10_odds_115 hl (by decide) rfl (fun ls hl => ?_)
                          refine lv_iconst (v := nI 0) hx hb dX10_odds_117 (by decide) ?_
                          refine lv_istore (lv' := [(10, .int (nI 0)), (9, .int (nI 0)), (8, .int (nI (nnb % 100))), (7, .int (nI (nnb / 100))), (6, .ref (ad (80 + 4 + n_10))), (0, .ref (ad 0)), (1, .int sd), (2, .int nb), (3, .int x), (4, .int want), (5, .int pt)]) hx hb dX10_odds_118 hl (by decide) rfl (fun ls hl => ?_)
                          have loop_120 : ∀ (n_120 : Nat) (ab k : Nat) (V1 : mV) (H : Heap) (locs : List Loc) (ls : Array Slot), (k ≤ nnb % 100) → (XK V V1) → (ab = (zAbove (gAsk q) (gNe q) (gNg q) nsd (nnb / 100) (gZ q) n_10 want k)) → (ab ≤ k) → (nnb % 100 - k) < n_120 → mC (mA ad sh s.heap.size) s.heap s G ad sh V1 H locs → lv_has ls 11 [(8, .int (nI (nnb % 100))), (7, .int (nI (nnb / 100))), (6, .ref (ad (80 + 4 + n_10))), (0, .ref (ad 0)), (1, .int sd), (2, .int nb), (3, .int x), (4, .int want), (5, .int pt), (9, .int (nI ab)), (10, .int (nI k))] → W p l e ({ frames := 40, cells := 0, slots := 0, locals := 1200 } : Room) s m ([.ref (ad 0), .int sd, .int nb, .int x, .int want, .int pt] : List Value).toArray below meth c H locs 0 0 (MQ below (mPost G ad sh s.heap.size (mPl ad sh (fun r V' => (aOdds q sd nb x want pt) = r ∧ (XK V V')))) ([.ref (ad 0), .int sd, .int nb, .int x, .int want, .int pt] : List Value).toArray s 0 0 (mA ad sh s.heap.size)) (F0 m 120 ls []) := by
                            intro n_120
                            induction n_120 with
                            | zero => intro ab k V1 H locs ls hk hKl hab hab2 hM_ hW hl; omega
                            | succ n_120 ih_120 =>
                              intro ab k V1 H locs ls hk hKl hab hab2 hM_ hW hl
                              have hXl := hX.k hKl
                              refine lv_iload hx hb dX10_odds_120 (lv_at hl 10 rfl) ?_
                              refine lv_iload hx hb dX10_odds_122 (lv_at hl 0 rfl) ?_
                              refine lv_icmp_ge (tgt := 170) hx hb dX10_odds_124 (by decide) (fun c_37 => ?_) (fun c_37 => ?_)
                              · skip
                                have c_37 : (nnb % 100) ≤ k := (nI_leI (by omega) (by omega)).mp c_37
                                have hkk : k = nnb % 100 := by omega
                                have hav : gAbv q sd nb x want = ab := by rw [gAbv, hcsd, hcnb, hcx, hab, hkk]
                                have habl : ab ≤ k := by rw [hab]; exact zAbove_le _ _ _ _ _ _ _ _ _
                                have hd1 := Nat.div_le_self ab (fDiv ab (nnb % 100) (nnb % 100))
                                have hd2 := Nat.div_le_self (nnb % 100) (fDiv ab (nnb % 100) (nnb % 100))
                                have hdp := fDiv_pos ab (nnb % 100) (nnb % 100)
                                refine lv_iload hx hb dX10_odds_170 (lv_at hl 9 rfl) ?_
                                refine lv_iload hx hb dX10_odds_172 (lv_at hl 0 rfl) ?_
                                refine m_cie (m_rS S hW (c_X10_commonDivisor l G ad sh V1 ab (nnb % 100) (by first | assumption | omega) (by first | assumption | omega)) (va_cwS 2 hts (gCall [.methodLink RX10 284 yX10_commonDivisor, .static yX10_commonDivisor, .initialized RX10] (List.forall_mem_cons.mpr ⟨(wa_43 _ (List.mem_of_getElem? (i := 8) (by decide +kernel))), (List.forall_mem_cons.mpr ⟨(wa_43 _ (List.mem_of_getElem? (i := 6) (by decide +kernel))), (List.forall_mem_cons.mpr ⟨(wa_43 _ (List.mem_of_getElem? (i := 7) (by decide +kernel))), (List.forall_mem_cons.mpr ⟨(wa_1 _ (List.mem_of_getElem? (i := 2) (by decide +kernel))), (fun _ h => absurd h List.not_mem_nil)⟩)⟩)⟩)⟩)) rfl rfl rfl (by decide +kernel) ⟨by dsimp only; omega, by dsimp only; omega⟩) rfl hl.1 rfl (Nat.le_of_ble_eq_true rfl) dX10_odds_174 ⟨Nat.le_of_ble_eq_true rfl, Nat.le_of_ble_eq_true rfl⟩) hW (fun H locs hW => ?_)
                                refine lv_istore (lv' := [(10, .int (nI (fDiv ab (nnb % 100) (nnb % 100)))), (8, .int (nI (nnb % 100))), (7, .int (nI (nnb / 100))), (6, .ref (ad (80 + 4 + n_10))), (0, .ref (ad 0)), (1, .int sd), (2, .int nb), (3, .int x), (4, .int want), (5, .int pt), (9, .int (nI ab))]) hx hb dX10_odds_177 hl (by decide) rfl (fun ls hl => ?_)
                                refine lv_iload hx hb dX10_odds_179 (lv_at hl 9 rfl) ?_
                                refine m_if_ne (tgt := 193) hx hb dX10_odds_181 (by decide) (fun c_38 => ?_) (fun c_38 => ?_)
                                · skip
                                  refine lv_iload hx hb dX10_odds_193 (lv_at hl 1 rfl) ?_
                                  refine lv_iload hx hb dX10_odds_195 (lv_at hl 0 rfl) ?_
                                  refine lv_idiv hx hb dX10_odds_197 (nI_ne0 (by omega) (by omega)) ?_
                                  refine m_top (y := nI ((nnb % 100) / (fDiv ab (nnb % 100) (nnb % 100)))) (pk_div (by omega) (by omega) (by omega)) ?_
                                  refine lv_i2l (v := (nI ((nnb % 100) / (fDiv ab (nnb % 100) (nnb % 100)))).toInt64) hx hb dX10_odds_198 rfl ?_
                                  refine m_topl (y := lN ((nnb % 100) / (fDiv ab (nnb % 100) (nnb % 100)))) (nI_l (by omega)) ?_
                                  exact m_lret S hr hlk hW dX10_odds_199 (by exact ⟨by simp only [aOdds, if_pos hpx, hcx, if_pos w_16, hcsd, if_neg hnb0, hcnb, if_pos w_22, if_pos w_27, if_neg c_30, if_pos hl60, if_pos w_34, hav, if_neg c_38]; try rfl, hKl⟩)
                                · skip
                                  refine lv_iload hx hb dX10_odds_184 (lv_at hl 10 rfl) ?_
                                  refine lv_iload hx hb dX10_odds_186 (lv_at hl 0 rfl) ?_
                                  refine lv_idiv hx hb dX10_odds_188 (nI_ne0 (by omega) (by omega)) ?_
                                  refine m_top (y := nI (ab / (fDiv ab (nnb % 100) (nnb % 100)))) (pk_div (by omega) (by omega) (by omega)) ?_
                                  refine lv_i2l (v := (nI (ab / (fDiv ab (nnb % 100) (nnb % 100)))).toInt64) hx hb dX10_odds_189 rfl ?_
                                  refine m_topl (y := lN (ab / (fDiv ab (nnb % 100) (nnb % 100)))) (nI_l (by omega)) ?_
                                  refine lv_goto (tgt := 199) hx hb dX10_odds_190 (by decide) ?_
                                  exact m_lret S hr hlk hW dX10_odds_199 (by exact ⟨by simp only [aOdds, if_pos hpx, hcx, if_pos w_16, hcsd, if_neg hnb0, hcnb, if_pos w_22, if_pos w_27, if_neg c_30, if_pos hl60, if_pos w_34, hav, if_pos c_38]; try rfl, hKl⟩)
                              · skip
                                have c_37 : ¬ (nnb % 100) ≤ k := mt (nI_leI (by omega) (by omega)).mpr c_37
                                refine lv_aload_n hx hb dX10_odds_127 rfl (lv_at hl 3 rfl) ?_
                                refine m_getr S hW hX.sp.1 6 rfl (j := 5) rfl kX10 (iW10 _) (by decide) (List.mem_cons_of_mem _ (wa_2 _ (List.mem_of_getElem? (i := 13) (by decide +kernel)))) dX10_odds_128 ?_
                                refine lv_aload_n hx hb dX10_odds_131 rfl (lv_at hl 3 rfl) ?_
                                refine m_getr S hW hX.sp.1 3 rfl (j := 20) rfl kX10 (iW10 _) (by decide) (List.mem_cons_of_mem _ (wa_2 _ (List.mem_of_getElem? (i := 8) (by decide +kernel)))) dX10_odds_132 ?_
                                refine m_cv (m_rV S hW (c_X8_startFrom_x l G ad sh V1 q hXl) (cwV 1 hts (gCall [.methodLink RX10 201 yX8_startFrom, .instanceMethod yX8_startFrom, .selects RX8 yX8_startFrom yX8_startFrom, .initialized RX8] (List.forall_mem_cons.mpr ⟨(wa_30 _ (List.mem_of_getElem? (i := 5) (by decide +kernel))), (List.forall_mem_cons.mpr ⟨(wa_30 _ (List.mem_of_getElem? (i := 2) (by decide +kernel))), (List.forall_mem_cons.mpr ⟨(wa_30 _ (List.mem_of_getElem? (i := 3) (by decide +kernel))), (List.forall_mem_cons.mpr ⟨(wa_30 _ (List.mem_of_getElem? (i := 4) (by decide +kernel))), (List.forall_mem_cons.mpr ⟨(wa_2 _ (List.mem_of_getElem? (i := 12) (by decide +kernel))), (fun _ h => absurd h List.not_mem_nil)⟩)⟩)⟩)⟩)⟩)) rfl rfl rfl (by decide +kernel) ⟨by dsimp only; omega, by dsimp only; omega⟩) hX.sp.2.2.2.1 kX8 rfl hl.1 rfl (Nat.le_of_ble_eq_true rfl) dX10_odds_135 ⟨Nat.le_of_ble_eq_true rfl, Nat.le_of_ble_eq_true rfl⟩) hW (fun V_39 H locs hp_40 hW => ?_)
                                obtain ⟨hQ_42, hK_43, h51_44, h52_45⟩ := hp_40
                                have hKc := hKl.trans hK_43
                                have hXc := hX.k hKc
                                have hHc : ThOk sh V_39 (110 + 3 * gRl q) (gT q (gRl q)).2.1 (gT q (gRl q)).2.2 (gT q (gRl q)).1.length (gNe q) (gNg q) (gAsk q) (gZ q) := hXc.th hQ_42 hX.rl
                                refine lv_aload_n hx hb dX10_odds_138 rfl (lv_at hl 3 rfl) ?_
                                refine m_getr S hW hX.sp.1 6 rfl (j := 5) rfl kX10 (iW10 _) (by decide) (List.mem_cons_of_mem _ (wa_2 _ (List.mem_of_getElem? (i := 13) (by decide +kernel)))) dX10_odds_139 ?_
                                refine lv_iload_n hx hb dX10_odds_142 rfl (lv_at hl 4 rfl) ?_
                                refine m_top (y := nI nsd) hnsd ?_
                                refine lv_iload hx hb dX10_odds_143 (lv_at hl 10 rfl) ?_
                                refine lv_iadd hx hb dX10_odds_145 ?_
                                refine m_top (y := nI (nsd + k)) (nI_add nsd k) ?_
                                refine lv_iload hx hb dX10_odds_146 (lv_at hl 1 rfl) ?_
                                refine m_cv (m_rV S hW (c_X8_drawDay l G ad sh V_39 (110 + 3 * gRl q) ((gT q (gRl q)).2.1) ((gT q (gRl q)).2.2) ((gT q (gRl q)).1.length) (gNe q) (gNg q) (gAsk q) (gZ q) (nsd + k) (nnb / 100) hHc (by omega) (by omega) (by omega) (by omega)) (cwV 2 hts (gCall [.methodLink RX10 279 yX8_drawDay, .instanceMethod yX8_drawDay, .selects RX8 yX8_drawDay yX8_drawDay, .initialized RX8] (List.forall_mem_cons.mpr ⟨(wa_42 _ (List.mem_of_getElem? (i := 3) (by decide +kernel))), (List.forall_mem_cons.mpr ⟨(wa_42 _ (List.mem_of_getElem? (i := 0) (by decide +kernel))), (List.forall_mem_cons.mpr ⟨(wa_42 _ (List.mem_of_getElem? (i := 1) (by decide +kernel))), (List.forall_mem_cons.mpr ⟨(wa_42 _ (List.mem_of_getElem? (i := 2) (by decide +kernel))), (List.forall_mem_cons.mpr ⟨(wa_2 _ (List.mem_of_getElem? (i := 12) (by decide +kernel))), (fun _ h => absurd h List.not_mem_nil)⟩)⟩)⟩)⟩)⟩)) rfl rfl rfl (by decide +kernel) ⟨by dsimp only; omega, by dsimp only; omega⟩) hX.sp.2.2.2.1 kX8 rfl hl.1 rfl (Nat.le_of_ble_eq_true rfl) dX10_odds_148 ⟨Nat.le_of_ble_eq_true rfl, Nat.le_of_ble_eq_true rfl⟩) hW (fun V_46 H locs hp_47 hW => ?_)
                                obtain ⟨hH_49, hfd_50⟩ := hp_47
                                refine lv_aload hx hb dX10_odds_151 (lv_at hl 2 rfl) ?_
                                refine m_geti S hW (hH1.2.1.2.2.2.2.1 n_10 (Nat.lt_of_lt_of_le hn_12 hH1.2.2.1.2.2.1)) 4 rfl kX1 (iW1 _) (by decide) (List.mem_cons_of_mem _ (wa_23 _ (List.mem_of_getElem? (i := 15) (by decide +kernel)))) dX10_odds_153 ?_
                                refine lv_iload hx hb dX10_odds_156 (lv_at hl 7 rfl) ?_
                                refine lv_icmp_lt (tgt := 164) hx hb dX10_odds_158 (by decide) (fun c_51 => ?_) (fun c_51 => ?_)
                                · skip
                                  refine lv_iinc (v := nI (k + 1)) (lv' := [(10, .int (nI (k + 1))), (8, .int (nI (nnb % 100))), (7, .int (nI (nnb / 100))), (6, .ref (ad (80 + 4 + n_10))), (0, .ref (ad 0)), (1, .int sd), (2, .int nb), (3, .int x), (4, .int want), (5, .int pt), (9, .int (nI ab))]) hx hb dX10_odds_164 hl (k := 10) rfl (m_inc k 1) (by decide) rfl (fun ls hl => ?_)
                                  refine lv_goto (tgt := 120) hx hb dX10_odds_167 (by decide) ?_
                                  have hc9 := c_51
                                  rw [← (zv_e2 hH_49.2.2.2.2.2 hn_12 (show 4 < 5 by omega))] at hc9
                                  exact ih_120  ab (k + 1) V_46 _ _ _ (by omega) (by exact hKc.td hfd_50) (by rw [zAbove, if_pos hc9, ← hab]) (by omega) (by omega) hW (lv_sub hl [1, 2, 3, 4, 5, 6, 7, 8, 9, 10, 0] rfl)
                                · skip
                                  refine lv_iinc (v := nI (ab + 1)) (lv' := [(9, .int (nI (ab + 1))), (8, .int (nI (nnb % 100))), (7, .int (nI (nnb / 100))), (6, .ref (ad (80 + 4 + n_10))), (0, .ref (ad 0)), (1, .int sd), (2, .int nb), (3, .int x), (4, .int want), (5, .int pt), (10, .int (nI k))]) hx hb dX10_odds_161 hl (k := 9) rfl (m_inc ab 1) (by decide) rfl (fun ls hl => ?_)
                                  refine lv_iinc (v := nI (k + 1)) (lv' := [(10, .int (nI (k + 1))), (9, .int (nI (ab + 1))), (8, .int (nI (nnb % 100))), (7, .int (nI (nnb / 100))), (6, .ref (ad (80 + 4 + n_10))), (0, .ref (ad 0)), (1, .int sd), (2, .int nb), (3, .int x), (4, .int want), (5, .int pt)]) hx hb dX10_odds_164 hl (k := 10) rfl (m_inc k 1) (by decide) rfl (fun ls hl => ?_)
                                  refine lv_goto (tgt := 120) hx hb dX10_odds_167 (by decide) ?_
                                  have hc9 := c_51
                                  rw [← (zv_e2 hH_49.2.2.2.2.2 hn_12 (show 4 < 5 by omega))] at hc9
                                  exact ih_120  (ab + 1) (k + 1) V_46 _ _ _ (by omega) (by exact hKc.td hfd_50) (by rw [zAbove, if_neg hc9, ← hab]) (by omega) (by omega) hW (lv_sub hl [2, 3, 4, 5, 6, 7, 8, 9, 10, 1, 0] rfl)
                          exact loop_120 (nnb % 100 - 0 + 1) 0 0 V_1 _ _ _ (by omega) (by exact hK1) (by rfl) (by omega) (by omega) hW (lv_sub hl [2, 3, 4, 5, 6, 7, 8, 9, 10, 1, 0] rfl)
                        · exact absurd c_36 (by decide)
                      · skip
                        refine m_if_ne (tgt := 114) hx hb dX10_odds_107 (by decide) (fun c_52 => ?_) (fun c_52 => ?_)
                        · exact absurd c_52 (by decide)
                        · skip
                          refine lv_ldc2 (v := (-4611686018427387904)) hx hb hown (hts (.constantLong RX10 282 (-4611686018427387904)) (List.mem_cons_of_mem _ (wa_43 _ (List.mem_of_getElem? (i := 5) (by decide +kernel))))) dX10_odds_110 ?_
                          exact m_lret S hr hlk hW dX10_odds_113 (by exact ⟨by simp only [aOdds, if_pos hpx, hcx, if_pos w_16, hcsd, if_neg hnb0, hcnb, if_pos w_22, if_pos w_27, if_neg c_30, if_pos hl60, if_neg w_35]; try rfl, hK1⟩)
                  · skip
                    have c_30 : (gNg q) = 0 := (nI_eq (by omega) (by omega)).mp c_30
                    refine lv_ldc2 (v := (-4611686018427387904)) hx hb hown (hts (.constantLong RX10 282 (-4611686018427387904)) (List.mem_cons_of_mem _ (wa_43 _ (List.mem_of_getElem? (i := 5) (by decide +kernel))))) dX10_odds_76 ?_
                    exact m_lret S hr hlk hW dX10_odds_79 (by exact ⟨by simp only [aOdds, if_pos hpx, hcx, if_pos w_16, hcsd, if_neg hnb0, hcnb, if_pos w_22, if_pos w_27, if_pos c_30]; try rfl, hK1⟩)
              · skip
                refine m_if_eq (tgt := 76) hx hb dX10_odds_63 (by decide) (fun c_53 => ?_) (fun c_53 => ?_)
                · skip
                  refine lv_ldc2 (v := (-4611686018427387904)) hx hb hown (hts (.constantLong RX10 282 (-4611686018427387904)) (List.mem_cons_of_mem _ (wa_43 _ (List.mem_of_getElem? (i := 5) (by decide +kernel))))) dX10_odds_76 ?_
                  exact m_lret S hr hlk hW dX10_odds_79 (by exact ⟨by simp only [aOdds, if_pos hpx, hcx, if_pos w_16, hcsd, if_neg hnb0, hcnb, if_pos w_22, if_neg w_28]; try rfl, hK1⟩)
                · exact absurd c_53 (by decide)
          · skip
            refine m_if_eq (tgt := 76) hx hb dX10_odds_53 (by decide) (fun c_54 => ?_) (fun c_54 => ?_)
            · skip
              refine lv_ldc2 (v := (-4611686018427387904)) hx hb hown (hts (.constantLong RX10 282 (-4611686018427387904)) (List.mem_cons_of_mem _ (wa_43 _ (List.mem_of_getElem? (i := 5) (by decide +kernel))))) dX10_odds_76 ?_
              exact m_lret S hr hlk hW dX10_odds_79 (by exact ⟨by simp only [aOdds, if_pos hpx, hcx, if_pos w_16, hcsd, if_neg hnb0, hcnb, if_neg w_23]; try rfl, hK1⟩)
            · exact absurd c_54 (by decide)
    · skip
      refine m_if_eq (tgt := 76) hx hb dX10_odds_32 (by decide) (fun c_55 => ?_) (fun c_55 => ?_)
      · skip
        refine lv_ldc2 (v := (-4611686018427387904)) hx hb hown (hts (.constantLong RX10 282 (-4611686018427387904)) (List.mem_cons_of_mem _ (wa_43 _ (List.mem_of_getElem? (i := 5) (by decide +kernel))))) dX10_odds_76 ?_
        exact m_lret S hr hlk hW dX10_odds_79 (by exact ⟨by simp only [aOdds, if_pos hpx, hcx, if_neg w_17]; try rfl, hK1⟩)
      · exact absurd c_55 (by decide)
  · skip
    refine W.eq (g2 := F0 m 22 ls [.null]) rfl ?_
    refine lv_astoreN (lv' := [(6, .null), (0, .ref (ad 0)), (1, .int sd), (2, .int nb), (3, .int x), (4, .int want), (5, .int pt)]) hx hb dX10_odds_22 hl (by decide) rfl (fun ls hl => ?_)
    refine lv_iload_n hx hb dX10_odds_24 rfl (lv_at hl 2 rfl) ?_
    refine lv_iconst (v := nI 0) hx hb dX10_odds_25 (by decide) ?_
    refine lv_ldcw (v := nI 99999) hx hb hown (hts (.constant RX10 278 (99999)) (List.mem_cons_of_mem _ (wa_41 _ (List.mem_of_getElem? (i := 23) (by decide +kernel))))) dX10_odds_26 ?_
    refine m_cip (m_rS S hW (c_X10_within l G ad sh V_1 sd 0 99999 (by first | assumption | omega) (by first | assumption | omega)) (va_cwS 3 hts (gCall [.methodLink RX10 102 yX10_within, .static yX10_within, .initialized RX10] (List.forall_mem_cons.mpr ⟨(wa_8 _ (List.mem_of_getElem? (i := 17) (by decide +kernel))), (List.forall_mem_cons.mpr ⟨(wa_15 _ (List.mem_of_getElem? (i := 8) (by decide +kernel))), (List.forall_mem_cons.mpr ⟨(wa_8 _ (List.mem_of_getElem? (i := 16) (by decide +kernel))), (List.forall_mem_cons.mpr ⟨(wa_1 _ (List.mem_of_getElem? (i := 2) (by decide +kernel))), (fun _ h => absurd h List.not_mem_nil)⟩)⟩)⟩)⟩)) rfl rfl rfl (by decide +kernel) ⟨by dsimp only; omega, by dsimp only; omega⟩) rfl hl.1 rfl (Nat.le_of_ble_eq_true rfl) dX10_odds_29 ⟨Nat.le_of_ble_eq_true rfl, Nat.le_of_ble_eq_true rfl⟩) hW (fun r_57 H locs hp_56 hW => ?_)
    rcases hp_56 with ⟨rfl, w_58⟩ | ⟨rfl, w_59⟩
    · skip
      obtain ⟨nsd, hnsd, hwnsd, hlnsd⟩ := w_58.ex
      have hcsd : sd.toNatClampNeg = nsd := by rw [hnsd]; exact nI_clamp (by omega)
      refine m_if_eq (tgt := 76) hx hb dX10_odds_32 (by decide) (fun c_60 => ?_) (fun c_60 => ?_)
      · exact absurd c_60 (by decide)
      · skip
        refine lv_iload_n hx hb dX10_odds_35 rfl (lv_at hl 3 rfl) ?_
        refine m_if_lt (tgt := 76) hx hb dX10_odds_36 (by decide) (fun c_61 => ?_) (fun c_61 => ?_)
        · skip
          have hnb0 : nb < nI 0 := c_61
          refine lv_ldc2 (v := (-4611686018427387904)) hx hb hown (hts (.constantLong RX10 282 (-4611686018427387904)) (List.mem_cons_of_mem _ (wa_43 _ (List.mem_of_getElem? (i := 5) (by decide +kernel))))) dX10_odds_76 ?_
          exact m_lret S hr hlk hW dX10_odds_79 (by exact ⟨by simp only [aOdds, if_neg hx0_13, if_pos w_58, hcsd, if_pos hnb0]; try rfl, hK1⟩)
        · skip
          have hnb0 : ¬ nb < nI 0 := c_61
          obtain ⟨nnb, hlnb, hnb⟩ := nI_of hnb0
          have hcnb : nb.toNatClampNeg = nnb := by rw [hnb]; exact nI_clamp hlnb
          refine lv_aloadN hx hb dX10_odds_39 (lv_at hl 0 rfl) ?_
          refine lv_ifnullN (tgt := 76) hx hb dX10_odds_41 (by decide) ?_
          refine lv_ldc2 (v := (-4611686018427387904)) hx hb hown (hts (.constantLong RX10 282 (-4611686018427387904)) (List.mem_cons_of_mem _ (wa_43 _ (List.mem_of_getElem? (i := 5) (by decide +kernel))))) dX10_odds_76 ?_
          exact m_lret S hr hlk hW dX10_odds_79 (by exact ⟨by simp only [aOdds, if_neg hx0_13, if_pos w_58, hcsd, if_neg hnb0, hcnb]; try rfl, hK1⟩)
    · skip
      refine m_if_eq (tgt := 76) hx hb dX10_odds_32 (by decide) (fun c_62 => ?_) (fun c_62 => ?_)
      · skip
        refine lv_ldc2 (v := (-4611686018427387904)) hx hb hown (hts (.constantLong RX10 282 (-4611686018427387904)) (List.mem_cons_of_mem _ (wa_43 _ (List.mem_of_getElem? (i := 5) (by decide +kernel))))) dX10_odds_76 ?_
        exact m_lret S hr hlk hW dX10_odds_79 (by exact ⟨by simp only [aOdds, if_neg hx0_13, if_neg w_59]; try rfl, hK1⟩)
      · exact absurd c_62 (by decide)
