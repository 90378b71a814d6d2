/-! the rank of comparisons -/
set_option maxHeartbeats 4000000 in
set_option maxRecDepth 100000 in
theorem c_X6_readRank_20 (l : Launch) (G : mG) (ad : Nat → Nat) (sh : Nat → Option mSh) (V : mV) (sz : Nat) (B : Nat → Int32) (q : pS) (fn : pS → pS) (hT : TpOk sh V sz B q) (IHr : ∀ (V : mV) (q : pS), (TpOk sh V sz B q) → mM l yX6_readRank wsX6_readRank ({ frames := 13 + 8 * 0 + 2, cells := 0, slots := 0, locals := 425 + 200 * 0 + 26 * 2 } : Room) G ad sh V [.ref (ad 1), .int (nI 3), .int (nI 5)] 0 0 (mPv ad sh (fun V' => (TpOk sh V' sz B (fn q)) ∧ (TpFr V V')))) : mM l yX6_readRank wsX6_readRank ({ frames := 13 + 8 * 0 + 3, cells := 0, slots := 0, locals := 425 + 200 * 0 + 26 * 3 } : Room) G ad sh V [.ref (ad 1), .int (nI 2), .int (nI 5)] 0 0 (mPv ad sh (fun V' => (TpOk sh V' sz B (if q.2.1 = nI 13 then pFail q else pLoop (pJoin B sz fn) (nI 2) 1 (fn q))) ∧ (TpFr V V'))) := by
  refine mM.of (cc := cX6_readRank) (maxL := 6) (ret := none) (by decide) rfl (Nat.le_of_ble_eq_true rfl) ?_
  intro p e s m below meth c S hr hlk hnm hW ls hl
  obtain ⟨hx, hb, hml, hown, hts⟩ := id S
  have hl : lv_has ls 6 [(0, .ref (ad 1)), (1, .int (nI 2)), (2, .int (nI 5))] := hl
  have hS0 : True := trivial
  have hs1 := hT.s160
  have hn1 := hT.nxl
  have ha1 := hT.tal
  have hc1 := hT.scl
  refine lv_iload_n hx hb dX6_readRank_0 rfl (lv_at hl 1 rfl) ?_
  refine lv_iconst (v := nI 4) hx hb dX6_readRank_1 (by decide) ?_
  refine lv_icmp_le (tgt := 11) hx hb dX6_readRank_2 (by decide) (fun c_1 => ?_) (fun c_1 => ?_)
  · skip
    refine lv_iload_n hx hb dX6_readRank_11 rfl (lv_at hl 1 rfl) ?_
    refine lv_iconst (v := nI 2) hx hb dX6_readRank_12 (by decide) ?_
    refine lv_icmp_ne (tgt := 52) hx hb dX6_readRank_13 (by decide) (fun c_2 => ?_) (fun c_2 => ?_)
    · exact absurd c_2 (by decide)
    · skip
      refine lv_aload_n hx hb dX6_readRank_16 rfl (lv_at hl 0 rfl) ?_
      refine m_geti S hW hT.h1 3 rfl kX6 (iW6 _) (by decide) (List.mem_cons_of_mem _ (wa_6 _ (List.mem_of_getElem? (i := 7) (by decide +kernel)))) dX6_readRank_17 ?_
      refine m_top (y := q.2.1) hT.tk ?_
      refine lv_bipush (v := nI 13) hx hb dX6_readRank_20 (by decide) ?_
      refine lv_icmp_ne (tgt := 52) hx hb dX6_readRank_22 (by decide) (fun c_3 => ?_) (fun c_3 => ?_)
      · skip
        refine lv_aload_n hx hb dX6_readRank_52 rfl (lv_at hl 0 rfl) ?_
        refine lv_iload_n hx hb dX6_readRank_53 rfl (lv_at hl 1 rfl) ?_
        refine lv_iconst (v := nI 1) hx hb dX6_readRank_54 (by decide) ?_
        refine lv_iadd hx hb dX6_readRank_55 ?_
        refine m_top (y := nI 3) (nI_add 2 1) ?_
        refine lv_iload_n hx hb dX6_readRank_56 rfl (lv_at hl 2 rfl) ?_
        refine m_cv (m_rV S hW (IHr V q hT) (cwV 2 hts (gCall [.methodLink RX6 53 yX6_readRank, .instanceMethod yX6_readRank, .selects RX6 yX6_readRank yX6_readRank, .initialized RX6] (List.forall_mem_cons.mpr ⟨(wa_8 _ (List.mem_of_getElem? (i := 2) (by decide +kernel))), (List.forall_mem_cons.mpr ⟨(wa_7 _ (List.mem_of_getElem? (i := 23) (by decide +kernel))), (List.forall_mem_cons.mpr ⟨(wa_8 _ (List.mem_of_getElem? (i := 0) (by decide +kernel))), (List.forall_mem_cons.mpr ⟨(wa_8 _ (List.mem_of_getElem? (i := 1) (by decide +kernel))), (List.forall_mem_cons.mpr ⟨(wa_1 _ (List.mem_of_getElem? (i := 14) (by decide +kernel))), (fun _ h => absurd h List.not_mem_nil)⟩)⟩)⟩)⟩)⟩)) rfl rfl rfl (by decide +kernel) ⟨by dsimp only; omega, by dsimp only; omega⟩) hT.h1 kX6 rfl hl.1 rfl (Nat.le_of_ble_eq_true rfl) dX6_readRank_57 ⟨Nat.le_of_ble_eq_true rfl, Nat.le_of_ble_eq_true rfl⟩) hW (fun V_4 H locs hp_5 hW => ?_)
        obtain ⟨hT_7, hf_8⟩ := hp_5
        refine lv_iload_n hx hb dX6_readRank_60 rfl (lv_at hl 1 rfl) ?_
        refine lv_iconst (v := nI 2) hx hb dX6_readRank_61 (by decide) ?_
        refine lv_icmp_ne (tgt := 69) hx hb dX6_readRank_62 (by decide) (fun c_9 => ?_) (fun c_9 => ?_)
        · exact absurd c_9 (by decide)
        · skip
          refine lv_iconst (v := nI 1) hx hb dX6_readRank_65 (by decide) ?_
          refine lv_goto (tgt := 72) hx hb dX6_readRank_66 (by decide) ?_
          refine lv_istore_n (lv' := [(3, .int (nI 1)), (0, .ref (ad 1)), (1, .int (nI 2)), (2, .int (nI 5))]) hx hb dX6_readRank_72 rfl hl (by decide) rfl (fun ls hl => ?_)
          refine lv_iconst (v := nI 0) hx hb dX6_readRank_73 (by decide) ?_
          refine lv_istore (lv' := [(4, .int (nI 0)), (3, .int (nI 1)), (0, .ref (ad 1)), (1, .int (nI 2)), (2, .int (nI 5))]) hx hb dX6_readRank_74 hl (by decide) rfl (fun ls hl => ?_)
          have loop_76 : ∀ (n_76 : Nat) (q1 : pS) (k : Nat) (V1 : mV) (H : Heap) (locs : List Loc) (ls : Array Slot), (k ≤ 1) → (TpOk sh V1 sz B q1) → (TpFr V V1) → (pLoop (pJoin B sz fn) (nI 2) (1 - k) q1 = pLoop (pJoin B sz fn) (nI 2) 1 (fn q)) → (1 - k) < n_76 → mC (mA ad sh s.heap.size) s.heap s G ad sh V1 H locs → lv_has ls 6 [(0, .ref (ad 1)), (1, .int (nI 2)), (2, .int (nI 5)), (3, .int (nI 1)), (4, .int (nI k))] → W p l e ({ frames := 13 + 8 * 0 + 3, cells := 0, slots := 0, locals := 425 + 200 * 0 + 26 * 3 } : Room) s m ([.ref (ad 1), .int (nI 2), .int (nI 5)] : List Value).toArray below meth c H locs 0 0 (MQ below (mPost G ad sh s.heap.size (mPv ad sh (fun V' => (TpOk sh V' sz B (if q.2.1 = nI 13 then pFail q else pLoop (pJoin B sz fn) (nI 2) 1 (fn q))) ∧ (TpFr V V')))) ([.ref (ad 1), .int (nI 2), .int (nI 5)] : List Value).toArray s 0 0 (mA ad sh s.heap.size)) (F0 m 76 ls []) := by
            intro n_76
            induction n_76 with
            | zero => intro q1 k V1 H locs ls hk hT1 hf1 hres hM_ hW hl; omega
            | succ n_76 ih_76 =>
              intro q1 k V1 H locs ls hk hT1 hf1 hres hM_ hW hl
              refine lv_iload hx hb dX6_readRank_76 (lv_at hl 4 rfl) ?_
              refine lv_iload_n hx hb dX6_readRank_78 rfl (lv_at hl 3 rfl) ?_
              refine lv_icmp_ge (tgt := 124) hx hb dX6_readRank_79 (by decide) (fun c_10 => ?_) (fun c_10 => ?_)
              · skip
                have c_10 : 1 ≤ k := (nI_leI (by omega) (by omega)).mp c_10
                exact m_vret S hr hlk hW dX6_readRank_124 (by rw [if_neg c_3]; rw [show 1 - k = 0 by omega] at hres; rw [← hres]; exact ⟨hT1, hf1⟩)
              · skip
                have c_10 : ¬ 1 ≤ k := mt (nI_leI (by omega) (by omega)).mpr c_10
                refine lv_aload_n hx hb dX6_readRank_82 rfl (lv_at hl 0 rfl) ?_
                refine m_geti S hW hT.h1 3 rfl kX6 (iW6 _) (by decide) (List.mem_cons_of_mem _ (wa_6 _ (List.mem_of_getElem? (i := 7) (by decide +kernel)))) dX6_readRank_83 ?_
                refine m_top (y := q1.2.1) hT1.tk ?_
                refine m_cie (m_rS S hW (c_X9_rankOf l G ad sh V1 q1.2.1) (va_cwS 1 hts (gCall [.methodLink RX6 90 yX9_rankOf, .static yX9_rankOf, .initialized RX9] (List.forall_mem_cons.mpr ⟨(wa_7 _ (List.mem_of_getElem? (i := 14) (by decide +kernel))), (List.forall_mem_cons.mpr ⟨(wa_8 _ (List.mem_of_getElem? (i := 14) (by decide +kernel))), (List.forall_mem_cons.mpr ⟨(wa_7 _ (List.mem_of_getElem? (i := 13) (by decide +kernel))), (List.forall_mem_cons.mpr ⟨(wa_7 _ (List.mem_of_getElem? (i := 10) (by decide +kernel))), (fun _ h => absurd h List.not_mem_nil)⟩)⟩)⟩)⟩)) rfl rfl rfl (by decide +kernel) ⟨by dsimp only; omega, by dsimp only; omega⟩) rfl hl.1 rfl (Nat.le_of_ble_eq_true rfl) dX6_readRank_86 ⟨Nat.le_of_ble_eq_true rfl, Nat.le_of_ble_eq_true rfl⟩) hW (fun H locs hW => ?_)
                refine lv_iload_n hx hb dX6_readRank_89 rfl (lv_at hl 1 rfl) ?_
                refine lv_icmp_ne (tgt := 124) hx hb dX6_readRank_90 (by decide) (fun c_11 => ?_) (fun c_11 => ?_)
                · skip
                  exact m_vret S hr hlk hW dX6_readRank_124 (by rw [if_neg c_3]; rw [← hres, pLoop_n c_11]; exact ⟨hT1, hf1⟩)
                · skip
                  refine lv_aload_n hx hb dX6_readRank_93 rfl (lv_at hl 0 rfl) ?_
                  refine m_geti S hW hT.h1 3 rfl kX6 (iW6 _) (by decide) (List.mem_cons_of_mem _ (wa_6 _ (List.mem_of_getElem? (i := 7) (by decide +kernel)))) dX6_readRank_94 ?_
                  refine m_top (y := q1.2.1) hT1.tk ?_
                  refine lv_istore (lv' := [(5, .int q1.2.1), (0, .ref (ad 1)), (1, .int (nI 2)), (2, .int (nI 5)), (3, .int (nI 1)), (4, .int (nI k))]) hx hb dX6_readRank_97 hl (by decide) rfl (fun ls hl => ?_)
                  refine lv_aload_n hx hb dX6_readRank_99 rfl (lv_at hl 1 rfl) ?_
                  refine m_cv (m_rV S hW (c_X6_advance l G ad sh V1 sz B q1 hT1) (cwV 0 hts (gCall [.methodLink RX6 45 yX6_advance, .instanceMethod yX6_advance, .selects RX6 yX6_advance yX6_advance, .initialized RX6] (List.forall_mem_cons.mpr ⟨(wa_6 _ (List.mem_of_getElem? (i := 11) (by decide +kernel))), (List.forall_mem_cons.mpr ⟨(wa_6 _ (List.mem_of_getElem? (i := 8) (by decide +kernel))), (List.forall_mem_cons.mpr ⟨(wa_6 _ (List.mem_of_getElem? (i := 9) (by decide +kernel))), (List.forall_mem_cons.mpr ⟨(wa_6 _ (List.mem_of_getElem? (i := 10) (by decide +kernel))), (List.forall_mem_cons.mpr ⟨(wa_1 _ (List.mem_of_getElem? (i := 14) (by decide +kernel))), (fun _ h => absurd h List.not_mem_nil)⟩)⟩)⟩)⟩)⟩)) rfl rfl rfl (by decide +kernel) ⟨by dsimp only; omega, by dsimp only; omega⟩) hT.h1 kX6 rfl hl.1 rfl (Nat.le_of_ble_eq_true rfl) dX6_readRank_100 ⟨Nat.le_of_ble_eq_true rfl, Nat.le_of_ble_eq_true rfl⟩) hW (fun V_12 H locs hp_13 hW => ?_)
                  obtain ⟨hT_15, hf_16⟩ := hp_13
                  refine lv_aload_n hx hb dX6_readRank_103 rfl (lv_at hl 1 rfl) ?_
                  refine lv_iload_n hx hb dX6_readRank_104 rfl (lv_at hl 2 rfl) ?_
                  refine lv_iconst (v := nI 1) hx hb dX6_readRank_105 (by decide) ?_
                  refine lv_iadd hx hb dX6_readRank_106 ?_
                  refine m_top (y := nI 3) (nI_add 2 1) ?_
                  refine lv_iload_n hx hb dX6_readRank_107 rfl (lv_at hl 3 rfl) ?_
                  refine m_cv (m_rV S hW (IHr V_12 (pAdv B sz q1) hT_15) (cwV 2 hts (gCall [.methodLink RX6 53 yX6_readRank, .instanceMethod yX6_readRank, .selects RX6 yX6_readRank yX6_readRank, .initialized RX6] (List.forall_mem_cons.mpr ⟨(wa_8 _ (List.mem_of_getElem? (i := 2) (by decide +kernel))), (List.forall_mem_cons.mpr ⟨(wa_7 _ (List.mem_of_getElem? (i := 23) (by decide +kernel))), (List.forall_mem_cons.mpr ⟨(wa_8 _ (List.mem_of_getElem? (i := 0) (by decide +kernel))), (List.forall_mem_cons.mpr ⟨(wa_8 _ (List.mem_of_getElem? (i := 1) (by decide +kernel))), (List.forall_mem_cons.mpr ⟨(wa_1 _ (List.mem_of_getElem? (i := 14) (by decide +kernel))), (fun _ h => absurd h List.not_mem_nil)⟩)⟩)⟩)⟩)⟩)) rfl rfl rfl (by decide +kernel) ⟨by dsimp only; omega, by dsimp only; omega⟩) hT.h1 kX6 rfl hl.1 rfl (Nat.le_of_ble_eq_true rfl) dX6_readRank_108 ⟨Nat.le_of_ble_eq_true rfl, Nat.le_of_ble_eq_true rfl⟩) hW (fun V_17 H locs hp_18 hW => ?_)
                  obtain ⟨hT_20, hf_21⟩ := hp_18
                  refine lv_aload_n hx hb dX6_readRank_111 rfl (lv_at hl 1 rfl) ?_
                  refine lv_iload hx hb dX6_readRank_112 (lv_at hl 0 rfl) ?_
                  refine lv_ineg hx hb dX6_readRank_114 ?_
                  refine m_cv (m_rV S hW (c_X6_emit l G ad sh V_17 sz B (fn (pAdv B sz q1)) (-q1.2.1) hT_20) (cwV 1 hts (gCall [.methodLink RX6 87 yX6_emit, .instanceMethod yX6_emit, .selects RX6 yX6_emit yX6_emit, .initialized RX6] (List.forall_mem_cons.mpr ⟨(wa_8 _ (List.mem_of_getElem? (i := 13) (by decide +kernel))), (List.forall_mem_cons.mpr ⟨(wa_8 _ (List.mem_of_getElem? (i := 10) (by decide +kernel))), (List.forall_mem_cons.mpr ⟨(wa_8 _ (List.mem_of_getElem? (i := 11) (by decide +kernel))), (List.forall_mem_cons.mpr ⟨(wa_8 _ (List.mem_of_getElem? (i := 12) (by decide +kernel))), (List.forall_mem_cons.mpr ⟨(wa_1 _ (List.mem_of_getElem? (i := 14) (by decide +kernel))), (fun _ h => absurd h List.not_mem_nil)⟩)⟩)⟩)⟩)⟩)) rfl rfl rfl (by decide +kernel) ⟨by dsimp only; omega, by dsimp only; omega⟩) hT.h1 kX6 rfl hl.1 rfl (Nat.le_of_ble_eq_true rfl) dX6_readRank_115 ⟨Nat.le_of_ble_eq_true rfl, Nat.le_of_ble_eq_true rfl⟩) hW (fun V_22 H locs hp_23 hW => ?_)
                  obtain ⟨hT_25, hf_26⟩ := hp_23
                  refine lv_iinc (v := nI (k + 1)) (lv' := [(4, .int (nI (k + 1))), (5, .int q1.2.1), (0, .ref (ad 1)), (1, .int (nI 2)), (2, .int (nI 5)), (3, .int (nI 1))]) hx hb dX6_readRank_118 hl (k := 5) rfl (m_inc k 1) (by decide) rfl (fun ls hl => ?_)
                  refine lv_goto (tgt := 76) hx hb dX6_readRank_121 (by decide) ?_
                  exact ih_76  (pJoin B sz fn q1) (k + 1) V_22 _ _ _ (by omega) (by exact hT_25) (by exact ((hf1.trans hf_16).trans hf_21).trans hf_26) (by rw [← hres]; exact (pLoop_s (by omega) c_11).symm) (by omega) hW (lv_sub hl [2, 3, 4, 5, 0] rfl)
          exact loop_76 (1 - 0 + 1) (fn q) 0 V_4 _ _ _ (by omega) (by exact hT_7) (by exact hf_8) (by rfl) (by omega) hW (lv_sub hl [2, 3, 4, 1, 0] rfl)
      · skip
        refine lv_aload_n hx hb dX6_readRank_25 rfl (lv_at hl 0 rfl) ?_
        refine lv_iload_n hx hb dX6_readRank_26 rfl (lv_at hl 2 rfl) ?_
        refine m_ci (m_rV S hW (c_X6_mayOpen l G ad sh V sz B q 5 (by first | assumption | omega) (by first | assumption | omega)) (cwV 1 hts (gCall [.methodLink RX6 83 yX6_mayOpen, .instanceMethod yX6_mayOpen, .selects RX6 yX6_mayOpen yX6_mayOpen, .initialized RX6] (List.forall_mem_cons.mpr ⟨(wa_8 _ (List.mem_of_getElem? (i := 9) (by decide +kernel))), (List.forall_mem_cons.mpr ⟨(wa_8 _ (List.mem_of_getElem? (i := 6) (by decide +kernel))), (List.forall_mem_cons.mpr ⟨(wa_8 _ (List.mem_of_getElem? (i := 7) (by decide +kernel))), (List.forall_mem_cons.mpr ⟨(wa_8 _ (List.mem_of_getElem? (i := 8) (by decide +kernel))), (List.forall_mem_cons.mpr ⟨(wa_1 _ (List.mem_of_getElem? (i := 14) (by decide +kernel))), (fun _ h => absurd h List.not_mem_nil)⟩)⟩)⟩)⟩)⟩)) rfl rfl rfl (by decide +kernel) ⟨by dsimp only; omega, by dsimp only; omega⟩) hT.h1 kX6 rfl hl.1 rfl (Nat.le_of_ble_eq_true rfl) dX6_readRank_27 ⟨Nat.le_of_ble_eq_true rfl, Nat.le_of_ble_eq_true rfl⟩) hW (fun r_29 V_27 H locs hp_28 hW => ?_)
        rcases hp_28 with ⟨rfl, eV_27, w_30⟩ | ⟨rfl, w_31, hT_32, hf_33⟩
        · skip
          rw [eV_27] at hW
          refine m_if_eq (tgt := 51) hx hb dX6_readRank_30 (by decide) (fun c_34 => ?_) (fun c_34 => ?_)
          · exact absurd c_34 (by decide)
          · skip
            exfalso; omega
        · skip
          refine m_if_eq (tgt := 51) hx hb dX6_readRank_30 (by decide) (fun c_35 => ?_) (fun c_35 => ?_)
          · skip
            exact m_vret S hr hlk hW dX6_readRank_51 (by rw [if_pos c_3]; exact ⟨hT_32, hf_33⟩)
          · exact absurd c_35 (by decide)
  · exact absurd c_1 (by decide)
set_option maxHeartbeats 4000000 in
set_option maxRecDepth 100000 in
theorem c_X6_readRank_2s (l : Launch) (G : mG) (ad : Nat → Nat) (sh : Nat → Option mSh) (V : mV) (sz : Nat) (B : Nat → Int32) (q : pS) (d o : Nat) (fn : pS → pS) (hT : TpOk sh V sz B q) (ho : o + (d + 1) = 5) (IHn : ∀ (V : mV) (q : pS), (TpOk sh V sz B q) → mM l yX6_readRank wsX6_readRank ({ frames := 13 + 8 * d + 3, cells := 0, slots := 0, locals := 425 + 200 * d + 26 * 3 } : Room) G ad sh V [.ref (ad 1), .int (nI 2), .int (nI (o + 1))] 0 0 (mPv ad sh (fun V' => (TpOk sh V' sz B ((pD B sz d).2 3 q)) ∧ (TpFr V V')))) (IHr : ∀ (V : mV) (q : pS), (TpOk sh V sz B q) → mM l yX6_readRank wsX6_readRank ({ frames := 13 + 8 * (d + 1) + 2, cells := 0, slots := 0, locals := 425 + 200 * (d + 1) + 26 * 2 } : Room) G ad sh V [.ref (ad 1), .int (nI 3), .int (nI o)] 0 0 (mPv ad sh (fun V' => (TpOk sh V' sz B (fn q)) ∧ (TpFr V V')))) : mM l yX6_readRank wsX6_readRank ({ frames := 13 + 8 * (d + 1) + 3, cells := 0, slots := 0, locals := 425 + 200 * (d + 1) + 26 * 3 } : Room) G ad sh V [.ref (ad 1), .int (nI 2), .int (nI o)] 0 0 (mPv ad sh (fun V' => (TpOk sh V' sz B (if q.2.1 = nI 13 then pEmit (-13) ((pD B sz d).2 3 (pAdv B sz q)) else pLoop (pJoin B sz fn) (nI 2) 1 (fn q))) ∧ (TpFr V V'))) := by
  refine mM.of (cc := cX6_readRank) (maxL := 6) (ret := none) (by decide) rfl (Nat.le_of_ble_eq_true rfl) ?_
  intro p e s m below meth c S hr hlk hnm hW ls hl
  obtain ⟨hx, hb, hml, hown, hts⟩ := id S
  have hl : lv_has ls 6 [(0, .ref (ad 1)), (1, .int (nI 2)), (2, .int (nI o))] := hl
  have hS0 : True := trivial
  have hs1 := hT.s160
  have hn1 := hT.nxl
  have ha1 := hT.tal
  have hc1 := hT.scl
  refine lv_iload_n hx hb dX6_readRank_0 rfl (lv_at hl 1 rfl) ?_
  refine lv_iconst (v := nI 4) hx hb dX6_readRank_1 (by decide) ?_
  refine lv_icmp_le (tgt := 11) hx hb dX6_readRank_2 (by decide) (fun c_1 => ?_) (fun c_1 => ?_)
  · skip
    refine lv_iload_n hx hb dX6_readRank_11 rfl (lv_at hl 1 rfl) ?_
    refine lv_iconst (v := nI 2) hx hb dX6_readRank_12 (by decide) ?_
    refine lv_icmp_ne (tgt := 52) hx hb dX6_readRank_13 (by decide) (fun c_2 => ?_) (fun c_2 => ?_)
    · exact absurd c_2 (by decide)
    · skip
      refine lv_aload_n hx hb dX6_readRank_16 rfl (lv_at hl 0 rfl) ?_
      refine m_geti S hW hT.h1 3 rfl kX6 (iW6 _) (by decide) (List.mem_cons_of_mem _ (wa_6 _ (List.mem_of_getElem? (i := 7) (by decide +kernel)))) dX6_readRank_17 ?_
      refine m_top (y := q.2.1) hT.tk ?_
      refine lv_bipush (v := nI 13) hx hb dX6_readRank_20 (by decide) ?_
      refine lv_icmp_ne (tgt := 52) hx hb dX6_readRank_22 (by decide) (fun c_3 => ?_) (fun c_3 => ?_)
      · skip
        refine lv_aload_n hx hb dX6_readRank_52 rfl (lv_at hl 0 rfl) ?_
        refine lv_iload_n hx hb dX6_readRank_53 rfl (lv_at hl 1 rfl) ?_
        refine lv_iconst (v := nI 1) hx hb dX6_readRank_54 (by decide) ?_
        refine lv_iadd hx hb dX6_readRank_55 ?_
        refine m_top (y := nI 3) (nI_add 2 1) ?_
        refine lv_iload_n hx hb dX6_readRank_56 rfl (lv_at hl 2 rfl) ?_
        refine m_cv (m_rV S hW (IHr V q hT) (cwV 2 hts (gCall [.methodLink RX6 53 yX6_readRank, .instanceMethod yX6_readRank, .selects RX6 yX6_readRank yX6_readRank, .initialized RX6] (List.forall_mem_cons.mpr ⟨(wa_8 _ (List.mem_of_getElem? (i := 2) (by decide +kernel))), (List.forall_mem_cons.mpr ⟨(wa_7 _ (List.mem_of_getElem? (i := 23) (by decide +kernel))), (List.forall_mem_cons.mpr ⟨(wa_8 _ (List.mem_of_getElem? (i := 0) (by decide +kernel))), (List.forall_mem_cons.mpr ⟨(wa_8 _ (List.mem_of_getElem? (i := 1) (by decide +kernel))), (List.forall_mem_cons.mpr ⟨(wa_1 _ (List.mem_of_getElem? (i := 14) (by decide +kernel))), (fun _ h => absurd h List.not_mem_nil)⟩)⟩)⟩)⟩)⟩)) rfl rfl rfl (by decide +kernel) ⟨by dsimp only; omega, by dsimp only; omega⟩) hT.h1 kX6 rfl hl.1 rfl (Nat.le_of_ble_eq_true rfl) dX6_readRank_57 ⟨Nat.le_of_ble_eq_true rfl, Nat.le_of_ble_eq_true rfl⟩) hW (fun V_4 H locs hp_5 hW => ?_)
        obtain ⟨hT_7, hf_8⟩ := hp_5
        refine lv_iload_n hx hb dX6_readRank_60 rfl (lv_at hl 1 rfl) ?_
        refine lv_iconst (v := nI 2) hx hb dX6_readRank_61 (by decide) ?_
        refine lv_icmp_ne (tgt := 69) hx hb dX6_readRank_62 (by decide) (fun c_9 => ?_) (fun c_9 => ?_)
        · exact absurd c_9 (by decide)
        · skip
          refine lv_iconst (v := nI 1) hx hb dX6_readRank_65 (by decide) ?_
          refine lv_goto (tgt := 72) hx hb dX6_readRank_66 (by decide) ?_
          refine lv_istore_n (lv' := [(3, .int (nI 1)), (0, .ref (ad 1)), (1, .int (nI 2)), (2, .int (nI o))]) hx hb dX6_readRank_72 rfl hl (by decide) rfl (fun ls hl => ?_)
          refine lv_iconst (v := nI 0) hx hb dX6_readRank_73 (by decide) ?_
          refine lv_istore (lv' := [(4, .int (nI 0)), (3, .int (nI 1)), (0, .ref (ad 1)), (1, .int (nI 2)), (2, .int (nI o))]) hx hb dX6_readRank_74 hl (by decide) rfl (fun ls hl => ?_)
          have loop_76 : ∀ (n_76 : Nat) (q1 : pS) (k : Nat) (V1 : mV) (H : Heap) (locs : List Loc) (ls : Array Slot), (k ≤ 1) → (TpOk sh V1 sz B q1) → (TpFr V V1) → (pLoop (pJoin B sz fn) (nI 2) (1 - k) q1 = pLoop (pJoin B sz fn) (nI 2) 1 (fn q)) → (1 - k) < n_76 → mC (mA ad sh s.heap.size) s.heap s G ad sh V1 H locs → lv_has ls 6 [(0, .ref (ad 1)), (1, .int (nI 2)), (2, .int (nI o)), (3, .int (nI 1)), (4, .int (nI k))] → W p l e ({ frames := 13 + 8 * (d + 1) + 3, cells := 0, slots := 0, locals := 425 + 200 * (d + 1) + 26 * 3 } : Room) s m ([.ref (ad 1), .int (nI 2), .int (nI o)] : List Value).toArray below meth c H locs 0 0 (MQ below (mPost G ad sh s.heap.size (mPv ad sh (fun V' => (TpOk sh V' sz B (if q.2.1 = nI 13 then pEmit (-13) ((pD B sz d).2 3 (pAdv B sz q)) else pLoop (pJoin B sz fn) (nI 2) 1 (fn q))) ∧ (TpFr V V')))) ([.ref (ad 1), .int (nI 2), .int (nI o)] : List Value).toArray s 0 0 (mA ad sh s.heap.size)) (F0 m 76 ls []) := by
            intro n_76
            induction n_76 with
            | zero => intro q1 k V1 H locs ls hk hT1 hf1 hres hM_ hW hl; omega
            | succ n_76 ih_76 =>
              intro q1 k V1 H locs ls hk hT1 hf1 hres hM_ hW hl
              refine lv_iload hx hb dX6_readRank_76 (lv_at hl 4 rfl) ?_
              refine lv_iload_n hx hb dX6_readRank_78 rfl (lv_at hl 3 rfl) ?_
              refine lv_icmp_ge (tgt := 124) hx hb dX6_readRank_79 (by decide) (fun c_10 => ?_) (fun c_10 => ?_)
              · skip
                have c_10 : 1 ≤ k := (nI_leI (by omega) (by omega)).mp c_10
                exact m_vret S hr hlk hW dX6_readRank_124 (by rw [if_neg c_3]; rw [show 1 - k = 0 by omega] at hres; rw [← hres]; exact ⟨hT1, hf1⟩)
              · skip
                have c_10 : ¬ 1 ≤ k := mt (nI_leI (by omega) (by omega)).mpr c_10
                refine lv_aload_n hx hb dX6_readRank_82 rfl (lv_at hl 0 rfl) ?_
                refine m_geti S hW hT.h1 3 rfl kX6 (iW6 _) (by decide) (List.mem_cons_of_mem _ (wa_6 _ (List.mem_of_getElem? (i := 7) (by decide +kernel)))) dX6_readRank_83 ?_
                refine m_top (y := q1.2.1) hT1.tk ?_
                refine m_cie (m_rS S hW (c_X9_rankOf l G ad sh V1 q1.2.1) (va_cwS 1 hts (gCall [.methodLink RX6 90 yX9_rankOf, .static yX9_rankOf, .initialized RX9] (List.forall_mem_cons.mpr ⟨(wa_7 _ (List.mem_of_getElem? (i := 14) (by decide +kernel))), (List.forall_mem_cons.mpr ⟨(wa_8 _ (List.mem_of_getElem? (i := 14) (by decide +kernel))), (List.forall_mem_cons.mpr ⟨(wa_7 _ (List.mem_of_getElem? (i := 13) (by decide +kernel))), (List.forall_mem_cons.mpr ⟨(wa_7 _ (List.mem_of_getElem? (i := 10) (by decide +kernel))), (fun _ h => absurd h List.not_mem_nil)⟩)⟩)⟩)⟩)) rfl rfl rfl (by decide +kernel) ⟨by dsimp only; omega, by dsimp only; omega⟩) rfl hl.1 rfl (Nat.le_of_ble_eq_true rfl) dX6_readRank_86 ⟨Nat.le_of_ble_eq_true rfl, Nat.le_of_ble_eq_true rfl⟩) hW (fun H locs hW => ?_)
                refine lv_iload_n hx hb dX6_readRank_89 rfl (lv_at hl 1 rfl) ?_
                refine lv_icmp_ne (tgt := 124) hx hb dX6_readRank_90 (by decide) (fun c_11 => ?_) (fun c_11 => ?_)
                · skip
                  exact m_vret S hr hlk hW dX6_readRank_124 (by rw [if_neg c_3]; rw [← hres, pLoop_n c_11]; exact ⟨hT1, hf1⟩)
                · skip
                  refine lv_aload_n hx hb dX6_readRank_93 rfl (lv_at hl 0 rfl) ?_
                  refine m_geti S hW hT.h1 3 rfl kX6 (iW6 _) (by decide) (List.mem_cons_of_mem _ (wa_6 _ (List.mem_of_getElem? (i := 7) (by decide +kernel)))) dX6_readRank_94 ?_
                  refine m_top (y := q1.2.1) hT1.tk ?_
                  refine lv_istore (lv' := [(5, .int q1.2.1), (0, .ref (ad 1)), (1, .int (nI 2)), (2, .int (nI o)), (3, .int (nI 1)), (4, .int (nI k))]) hx hb dX6_readRank_97 hl (by decide) rfl (fun ls hl => ?_)
                  refine lv_aload_n hx hb dX6_readRank_99 rfl (lv_at hl 1 rfl) ?_
                  refine m_cv (m_rV S hW (c_X6_advance l G ad sh V1 sz B q1 hT1) (cwV 0 hts (gCall [.methodLink RX6 45 yX6_advance, .instanceMethod yX6_advance, .selects RX6 yX6_advance yX6_advance, .initialized RX6] (List.forall_mem_cons.mpr ⟨(wa_6 _ (List.mem_of_getElem? (i := 11) (by decide +kernel))), (List.forall_mem_cons.mpr ⟨(wa_6 _ (List.mem_of_getElem? (i := 8) (by decide +kernel))), (List.forall_mem_cons.mpr ⟨(wa_6 _ (List.mem_of_getElem? (i := 9) (by decide +kernel))), (List.forall_mem_cons.mpr ⟨(wa_6 _ (List.mem_of_getElem? (i := 10) (by decide +kernel))), (List.forall_mem_cons.mpr ⟨(wa_1 _ (List.mem_of_getElem? (i := 14) (by decide +kernel))), (fun _ h => absurd h List.not_mem_nil)⟩)⟩)⟩)⟩)⟩)) rfl rfl rfl (by decide +kernel) ⟨by dsimp only; omega, by dsimp only; omega⟩) hT.h1 kX6 rfl hl.1 rfl (Nat.le_of_ble_eq_true rfl) dX6_readRank_100 ⟨Nat.le_of_ble_eq_true rfl, Nat.le_of_ble_eq_true rfl⟩) hW (fun V_12 H locs hp_13 hW => ?_)
                  obtain ⟨hT_15, hf_16⟩ := hp_13
                  refine lv_aload_n hx hb dX6_readRank_103 rfl (lv_at hl 1 rfl) ?_
                  refine lv_iload_n hx hb dX6_readRank_104 rfl (lv_at hl 2 rfl) ?_
                  refine lv_iconst (v := nI 1) hx hb dX6_readRank_105 (by decide) ?_
                  refine lv_iadd hx hb dX6_readRank_106 ?_
                  refine m_top (y := nI 3) (nI_add 2 1) ?_
                  refine lv_iload_n hx hb dX6_readRank_107 rfl (lv_at hl 3 rfl) ?_
                  refine m_cv (m_rV S hW (IHr V_12 (pAdv B sz q1) hT_15) (cwV 2 hts (gCall [.methodLink RX6 53 yX6_readRank, .instanceMethod yX6_readRank, .selects RX6 yX6_readRank yX6_readRank, .initialized RX6] (List.forall_mem_cons.mpr ⟨(wa_8 _ (List.mem_of_getElem? (i := 2) (by decide +kernel))), (List.forall_mem_cons.mpr ⟨(wa_7 _ (List.mem_of_getElem? (i := 23) (by decide +kernel))), (List.forall_mem_cons.mpr ⟨(wa_8 _ (List.mem_of_getElem? (i := 0) (by decide +kernel))), (List.forall_mem_cons.mpr ⟨(wa_8 _ (List.mem_of_getElem? (i := 1) (by decide +kernel))), (List.forall_mem_cons.mpr ⟨(wa_1 _ (List.mem_of_getElem? (i := 14) (by decide +kernel))), (fun _ h => absurd h List.not_mem_nil)⟩)⟩)⟩)⟩)⟩)) rfl rfl rfl (by decide +kernel) ⟨by dsimp only; omega, by dsimp only; omega⟩) hT.h1 kX6 rfl hl.1 rfl (Nat.le_of_ble_eq_true rfl) dX6_readRank_108 ⟨Nat.le_of_ble_eq_true rfl, Nat.le_of_ble_eq_true rfl⟩) hW (fun V_17 H locs hp_18 hW => ?_)
                  obtain ⟨hT_20, hf_21⟩ := hp_18
                  refine lv_aload_n hx hb dX6_readRank_111 rfl (lv_at hl 1 rfl) ?_
                  refine lv_iload hx hb dX6_readRank_112 (lv_at hl 0 rfl) ?_
                  refine lv_ineg hx hb dX6_readRank_114 ?_
                  refine m_cv (m_rV S hW (c_X6_emit l G ad sh V_17 sz B (fn (pAdv B sz q1)) (-q1.2.1) hT_20) (cwV 1 hts (gCall [.methodLink RX6 87 yX6_emit, .instanceMethod yX6_emit, .selects RX6 yX6_emit yX6_emit, .initialized RX6] (List.forall_mem_cons.mpr ⟨(wa_8 _ (List.mem_of_getElem? (i := 13) (by decide +kernel))), (List.forall_mem_cons.mpr ⟨(wa_8 _ (List.mem_of_getElem? (i := 10) (by decide +kernel))), (List.forall_mem_cons.mpr ⟨(wa_8 _ (List.mem_of_getElem? (i := 11) (by decide +kernel))), (List.forall_mem_cons.mpr ⟨(wa_8 _ (List.mem_of_getElem? (i := 12) (by decide +kernel))), (List.forall_mem_cons.mpr ⟨(wa_1 _ (List.mem_of_getElem? (i := 14) (by decide +kernel))), (fun _ h => absurd h List.not_mem_nil)⟩)⟩)⟩)⟩)⟩)) rfl rfl rfl (by decide +kernel) ⟨by dsimp only; omega, by dsimp only; omega⟩) hT.h1 kX6 rfl hl.1 rfl (Nat.le_of_ble_eq_true rfl) dX6_readRank_115 ⟨Nat.le_of_ble_eq_true rfl, Nat.le_of_ble_eq_true rfl⟩) hW (fun V_22 H locs hp_23 hW => ?_)
                  obtain ⟨hT_25, hf_26⟩ := hp_23
                  refine lv_iinc (v := nI (k + 1)) (lv' := [(4, .int (nI (k + 1))), (5, .int q1.2.1), (0, .ref (ad 1)), (1, .int (nI 2)), (2, .int (nI o)), (3, .int (nI 1))]) hx hb dX6_readRank_118 hl (k := 5) rfl (m_inc k 1) (by decide) rfl (fun ls hl => ?_)
                  refine lv_goto (tgt := 76) hx hb dX6_readRank_121 (by decide) ?_
                  exact ih_76  (pJoin B sz fn q1) (k + 1) V_22 _ _ _ (by omega) (by exact hT_25) (by exact ((hf1.trans hf_16).trans hf_21).trans hf_26) (by rw [← hres]; exact (pLoop_s (by omega) c_11).symm) (by omega) hW (lv_sub hl [2, 3, 4, 5, 0] rfl)
          exact loop_76 (1 - 0 + 1) (fn q) 0 V_4 _ _ _ (by omega) (by exact hT_7) (by exact hf_8) (by rfl) (by omega) hW (lv_sub hl [2, 3, 4, 1, 0] rfl)
      · skip
        refine lv_aload_n hx hb dX6_readRank_25 rfl (lv_at hl 0 rfl) ?_
        refine lv_iload_n hx hb dX6_readRank_26 rfl (lv_at hl 2 rfl) ?_
        refine m_ci (m_rV S hW (c_X6_mayOpen l G ad sh V sz B q o (by first | assumption | omega) (by first | assumption | omega)) (cwV 1 hts (gCall [.methodLink RX6 83 yX6_mayOpen, .instanceMethod yX6_mayOpen, .selects RX6 yX6_mayOpen yX6_mayOpen, .initialized RX6] (List.forall_mem_cons.mpr ⟨(wa_8 _ (List.mem_of_getElem? (i := 9) (by decide +kernel))), (List.forall_mem_cons.mpr ⟨(wa_8 _ (List.mem_of_getElem? (i := 6) (by decide +kernel))), (List.forall_mem_cons.mpr ⟨(wa_8 _ (List.mem_of_getElem? (i := 7) (by decide +kernel))), (List.forall_mem_cons.mpr ⟨(wa_8 _ (List.mem_of_getElem? (i := 8) (by decide +kernel))), (List.forall_mem_cons.mpr ⟨(wa_1 _ (List.mem_of_getElem? (i := 14) (by decide +kernel))), (fun _ h => absurd h List.not_mem_nil)⟩)⟩)⟩)⟩)⟩)) rfl rfl rfl (by decide +kernel) ⟨by dsimp only; omega, by dsimp only; omega⟩) hT.h1 kX6 rfl hl.1 rfl (Nat.le_of_ble_eq_true rfl) dX6_readRank_27 ⟨Nat.le_of_ble_eq_true rfl, Nat.le_of_ble_eq_true rfl⟩) hW (fun r_29 V_27 H locs hp_28 hW => ?_)
        rcases hp_28 with ⟨rfl, eV_27, w_30⟩ | ⟨rfl, w_31, hT_32, hf_33⟩
        · skip
          rw [eV_27] at hW
          refine m_if_eq (tgt := 51) hx hb dX6_readRank_30 (by decide) (fun c_34 => ?_) (fun c_34 => ?_)
          · exact absurd c_34 (by decide)
          · skip
            refine lv_aload_n hx hb dX6_readRank_33 rfl (lv_at hl 0 rfl) ?_
            refine m_cv (m_rV S hW (c_X6_advance l G ad sh V sz B q hT) (cwV 0 hts (gCall [.methodLink RX6 45 yX6_advance, .instanceMethod yX6_advance, .selects RX6 yX6_advance yX6_advance, .initialized RX6] (List.forall_mem_cons.mpr ⟨(wa_6 _ (List.mem_of_getElem? (i := 11) (by decide +kernel))), (List.forall_mem_cons.mpr ⟨(wa_6 _ (List.mem_of_getElem? (i := 8) (by decide +kernel))), (List.forall_mem_cons.mpr ⟨(wa_6 _ (List.mem_of_getElem? (i := 9) (by decide +kernel))), (List.forall_mem_cons.mpr ⟨(wa_6 _ (List.mem_of_getElem? (i := 10) (by decide +kernel))), (List.forall_mem_cons.mpr ⟨(wa_1 _ (List.mem_of_getElem? (i := 14) (by decide +kernel))), (fun _ h => absurd h List.not_mem_nil)⟩)⟩)⟩)⟩)⟩)) rfl rfl rfl (by decide +kernel) ⟨by dsimp only; omega, by dsimp only; omega⟩) hT.h1 kX6 rfl hl.1 rfl (Nat.le_of_ble_eq_true rfl) dX6_readRank_34 ⟨Nat.le_of_ble_eq_true rfl, Nat.le_of_ble_eq_true rfl⟩) hW (fun V_35 H locs hp_36 hW => ?_)
            obtain ⟨hT_38, hf_39⟩ := hp_36
            refine lv_aload_n hx hb dX6_readRank_37 rfl (lv_at hl 0 rfl) ?_
            refine lv_iconst (v := nI 2) hx hb dX6_readRank_38 (by decide) ?_
            refine lv_iload_n hx hb dX6_readRank_39 rfl (lv_at hl 2 rfl) ?_
            refine lv_iconst (v := nI 1) hx hb dX6_readRank_40 (by decide) ?_
            refine lv_iadd hx hb dX6_readRank_41 ?_
            refine m_top (y := nI (o + 1)) (nI_add o 1) ?_
            refine m_cv (m_rV S hW (IHn V_35 (pAdv B sz q) hT_38) (cwV 2 hts (gCall [.methodLink RX6 53 yX6_readRank, .instanceMethod yX6_readRank, .selects RX6 yX6_readRank yX6_readRank, .initialized RX6] (List.forall_mem_cons.mpr ⟨(wa_8 _ (List.mem_of_getElem? (i := 2) (by decide +kernel))), (List.forall_mem_cons.mpr ⟨(wa_7 _ (List.mem_of_getElem? (i := 23) (by decide +kernel))), (List.forall_mem_cons.mpr ⟨(wa_8 _ (List.mem_of_getElem? (i := 0) (by decide +kernel))), (List.forall_mem_cons.mpr ⟨(wa_8 _ (List.mem_of_getElem? (i := 1) (by decide +kernel))), (List.forall_mem_cons.mpr ⟨(wa_1 _ (List.mem_of_getElem? (i := 14) (by decide +kernel))), (fun _ h => absurd h List.not_mem_nil)⟩)⟩)⟩)⟩)⟩)) rfl rfl rfl (by decide +kernel) ⟨by dsimp only; omega, by dsimp only; omega⟩) hT.h1 kX6 rfl hl.1 rfl (Nat.le_of_ble_eq_true rfl) dX6_readRank_42 ⟨Nat.le_of_ble_eq_true rfl, Nat.le_of_ble_eq_true rfl⟩) hW (fun V_40 H locs hp_41 hW => ?_)
            obtain ⟨hT_43, hf_44⟩ := hp_41
            refine lv_aload_n hx hb dX6_readRank_45 rfl (lv_at hl 0 rfl) ?_
            refine lv_bipush (v := -13) hx hb dX6_readRank_46 (by decide) ?_
            refine m_cv (m_rV S hW (c_X6_emit l G ad sh V_40 sz B ((pD B sz d).2 3 (pAdv B sz q)) (-13) hT_43) (cwV 1 hts (gCall [.methodLink RX6 87 yX6_emit, .instanceMethod yX6_emit, .selects RX6 yX6_emit yX6_emit, .initialized RX6] (List.forall_mem_cons.mpr ⟨(wa_8 _ (List.mem_of_getElem? (i := 13) (by decide +kernel))), (List.forall_mem_cons.mpr ⟨(wa_8 _ (List.mem_of_getElem? (i := 10) (by decide +kernel))), (List.forall_mem_cons.mpr ⟨(wa_8 _ (List.mem_of_getElem? (i := 11) (by decide +kernel))), (List.forall_mem_cons.mpr ⟨(wa_8 _ (List.mem_of_getElem? (i := 12) (by decide +kernel))), (List.forall_mem_cons.mpr ⟨(wa_1 _ (List.mem_of_getElem? (i := 14) (by decide +kernel))), (fun _ h => absurd h List.not_mem_nil)⟩)⟩)⟩)⟩)⟩)) rfl rfl rfl (by decide +kernel) ⟨by dsimp only; omega, by dsimp only; omega⟩) hT.h1 kX6 rfl hl.1 rfl (Nat.le_of_ble_eq_true rfl) dX6_readRank_48 ⟨Nat.le_of_ble_eq_true rfl, Nat.le_of_ble_eq_true rfl⟩) hW (fun V_45 H locs hp_46 hW => ?_)
            obtain ⟨hT_48, hf_49⟩ := hp_46
            exact m_vret S hr hlk hW dX6_readRank_51 (by rw [if_pos c_3]; exact ⟨hT_48, ((hf_39).trans hf_44).trans hf_49⟩)
        · skip
          refine m_if_eq (tgt := 51) hx hb dX6_readRank_30 (by decide) (fun c_50 => ?_) (fun c_50 => ?_)
          · skip
            exact m_vret S hr hlk hW dX6_readRank_51 (by exfalso; omega)
          · exact absurd c_50 (by decide)
  · exact absurd c_1 (by decide)
