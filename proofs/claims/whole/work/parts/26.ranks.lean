/-! the reading by ranks -/
def pLoop (F : pS → pS) (r : Int32) : Nat → pS → pS
  | 0, q => q
  | n + 1, q => if fRank q.2.1 = r then pLoop F r n (F q) else q
theorem pLoop_s {F : pS → pS} {r : Int32} {n k : Nat} {q : pS} (hk : k < n) (h : fRank q.2.1 = r) : pLoop F r (n - k) q = pLoop F r (n - (k + 1)) (F q) := by
  rw [show n - k = (n - (k + 1)) + 1 by omega, pLoop, if_pos h]
theorem pLoop_n {F : pS → pS} {r : Int32} {n : Nat} {q : pS} (h : ¬ fRank q.2.1 = r) : pLoop F r n q = q := by
  cases n with
  | zero => rfl
  | succ n => rw [pLoop, if_neg h]
/-- joining behind an operand -/
def pJoin (B : Nat → Int32) (sz : Nat) (f : pS → pS) (q : pS) : pS := pEmit (-q.2.1) (f (pAdv B sz q))
def pRk (B : Nat → Int32) (sz : Nat) (one nt : pS → pS) : Nat → pS → pS
  | 0, q => one q
  | j + 1, q => if j = 2 ∧ q.2.1 = nI 13 then nt q else pLoop (pJoin B sz (pRk B sz one nt j)) (nI (4 - j)) (if j = 2 then 1 else 160) (pRk B sz one nt j q)
def pOn (B : Nat → Int32) (sz : Nat) (mn op : pS → pS) (q : pS) : pS :=
  if q.2.1 = nI 1 then pAdv B sz (pEmit q.2.2.2.1 q) else if mIn q.2.1 2 8 then pAdv B sz (pEmit (-q.2.1) q) else if q.2.1 = nI 45 then mn q else if q.2.1 = nI 40 then op q else pFail q
/-- with so many that may be opened yet: one operand; what binds at rank 5 - j -/
def pD (B : Nat → Int32) (sz : Nat) : Nat → (pS → pS) × (Nat → pS → pS)
  | 0 => (pOn B sz pFail pFail, pRk B sz (pOn B sz pFail pFail) pFail)
  | d + 1 => (pOn B sz (fun q => pEmit (-14) ((pD B sz d).1 (pAdv B sz q))) (fun q => pExp (nI 41) B sz ((pD B sz d).2 5 (pAdv B sz q))),
      pRk B sz (pOn B sz (fun q => pEmit (-14) ((pD B sz d).1 (pAdv B sz q))) (fun q => pExp (nI 41) B sz ((pD B sz d).2 5 (pAdv B sz q)))) (fun q => pEmit (-13) ((pD B sz d).2 3 (pAdv B sz q))))
theorem pOn_1 {B : Nat → Int32} {sz : Nat} {mn op : pS → pS} {q : pS} (h : q.2.1 = nI 1) : pOn B sz mn op q = pAdv B sz (pEmit q.2.2.2.1 q) := by rw [pOn, if_pos h]
theorem pOn_2 {B : Nat → Int32} {sz : Nat} {mn op : pS → pS} {q : pS} (h : ¬ q.2.1 = nI 1) (h2 : mIn q.2.1 2 8) : pOn B sz mn op q = pAdv B sz (pEmit (-q.2.1) q) := by rw [pOn, if_neg h, if_pos h2]
theorem pOn_3 {B : Nat → Int32} {sz : Nat} {mn op : pS → pS} {q : pS} (h : ¬ q.2.1 = nI 1) (h2 : ¬ mIn q.2.1 2 8) (h3 : q.2.1 = nI 45) : pOn B sz mn op q = mn q := by rw [pOn, if_neg h, if_neg h2, if_pos h3]
theorem pOn_4 {B : Nat → Int32} {sz : Nat} {mn op : pS → pS} {q : pS} (h : ¬ q.2.1 = nI 1) (h2 : ¬ mIn q.2.1 2 8) (h3 : ¬ q.2.1 = nI 45) (h4 : q.2.1 = nI 40) : pOn B sz mn op q = op q := by rw [pOn, if_neg h, if_neg h2, if_neg h3, if_pos h4]
theorem pOn_5 {B : Nat → Int32} {sz : Nat} {mn op : pS → pS} {q : pS} (h : ¬ q.2.1 = nI 1) (h2 : ¬ mIn q.2.1 2 8) (h3 : ¬ q.2.1 = nI 45) (h4 : ¬ q.2.1 = nI 40) : pOn B sz mn op q = pFail q := by rw [pOn, if_neg h, if_neg h2, if_neg h3, if_neg h4]
set_option maxHeartbeats 4000000 in
set_option maxRecDepth 100000 in
theorem c_X6_readOne_0 (l : Launch) (G : mG) (ad : Nat → Nat) (sh : Nat → Option mSh) (V : mV) (sz : Nat) (B : Nat → Int32) (q : pS) (hT : TpOk sh V sz B q) : mM l yX6_readOne wsX6_readOne ({ frames := 12 + 8 * 0, cells := 0, slots := 0, locals := 400 + 200 * 0 } : Room) G ad sh V [.ref (ad 1), .int (nI 5)] 0 0 (mPv ad sh (fun V' => (TpOk sh V' sz B ((pD B sz 0).1 q)) ∧ (TpFr V V'))) := by
  refine mM.of (cc := cX6_readOne) (maxL := 2) (ret := none) (by decide) rfl (Nat.le_of_ble_eq_true rfl) ?_
  intro p e s m below meth c S hr hlk hnm hW ls hl
  obtain ⟨hx, hb, hml, hown, hts⟩ := id S
  have hl : lv_has ls 2 [(0, .ref (ad 1)), (1, .int (nI 5))] := hl
  have hS0 : True := trivial
  have hs1 := hT.s160
  have hn1 := hT.nxl
  have ha1 := hT.tal
  have hc1 := hT.scl
  refine lv_aload_n hx hb dX6_readOne_0 rfl (lv_at hl 0 rfl) ?_
  refine m_geti S hW hT.h1 3 rfl kX6 (iW6 _) (by decide) (List.mem_cons_of_mem _ (wa_6 _ (List.mem_of_getElem? (i := 7) (by decide +kernel)))) dX6_readOne_1 ?_
  refine m_top (y := q.2.1) hT.tk ?_
  refine lv_iconst (v := nI 1) hx hb dX6_readOne_4 (by decide) ?_
  refine lv_icmp_ne (tgt := 23) hx hb dX6_readOne_5 (by decide) (fun c_1 => ?_) (fun c_1 => ?_)
  · skip
    refine lv_aload_n hx hb dX6_readOne_23 rfl (lv_at hl 0 rfl) ?_
    refine m_geti S hW hT.h1 3 rfl kX6 (iW6 _) (by decide) (List.mem_cons_of_mem _ (wa_6 _ (List.mem_of_getElem? (i := 7) (by decide +kernel)))) dX6_readOne_24 ?_
    refine m_top (y := q.2.1) hT.tk ?_
    refine lv_iconst (v := nI 2) hx hb dX6_readOne_27 (by decide) ?_
    refine lv_bipush (v := nI 7) hx hb dX6_readOne_28 (by decide) ?_
    refine m_cip (m_rSN S hW (c_X10_within l G ad sh V q.2.1 2 7 (by first | assumption | omega) (by first | assumption | omega)) ⟨va_cnB 3 hts (gCall [] (List.forall_mem_cons.mpr ⟨(wa_8 _ (List.mem_of_getElem? (i := 17) (by decide +kernel))), (fun _ h => absurd h List.not_mem_nil)⟩)) rfl rfl rfl (hW.2.2.2.2.2.1 _ (List.mem_of_getElem? (i := 4) rfl)) (hts (.initialized RX10) (List.mem_cons_of_mem _ (wa_1 _ (List.mem_of_getElem? (i := 2) (by decide +kernel))))) (by decide +kernel) ⟨by dsimp only; omega, by dsimp only; omega⟩, hts (.static yX10_within) (List.mem_cons_of_mem _ (wa_8 _ (List.mem_of_getElem? (i := 16) (by decide +kernel)))), trivial⟩ rfl hl.1 rfl (Nat.le_of_ble_eq_true rfl) dX6_readOne_30 ⟨Nat.le_of_ble_eq_true rfl, Nat.le_of_ble_eq_true rfl⟩) hW (fun r_3 H locs hp_2 hW => ?_)
    rcases hp_2 with ⟨rfl, w_4⟩ | ⟨rfl, w_5⟩
    · skip
      refine m_if_eq (tgt := 52) hx hb dX6_readOne_33 (by decide) (fun c_6 => ?_) (fun c_6 => ?_)
      · exact absurd c_6 (by decide)
      · skip
        refine lv_aload_n hx hb dX6_readOne_36 rfl (lv_at hl 0 rfl) ?_
        refine lv_aload_n hx hb dX6_readOne_37 rfl (lv_at hl 0 rfl) ?_
        refine m_geti S hW hT.h1 3 rfl kX6 (iW6 _) (by decide) (List.mem_cons_of_mem _ (wa_6 _ (List.mem_of_getElem? (i := 7) (by decide +kernel)))) dX6_readOne_38 ?_
        refine m_top (y := q.2.1) hT.tk ?_
        refine lv_ineg hx hb dX6_readOne_41 ?_
        refine m_cv (m_rV S hW (c_X6_emit l G ad sh V sz B q (-q.2.1) (by first | assumption | omega)) (cwV 1 hts (gCall [.methodLink RX6 87 yX6_emit, .instanceMethod yX6_emit, .selects RX6 yX6_emit yX6_emit, .initialized RX6] (List.forall_mem_cons.mpr ⟨(wa_8 _ (List.mem_of_getElem? (i := 13) (by decide +kernel))), (List.forall_mem_cons.mpr ⟨(wa_8 _ (List.mem_of_getElem? (i := 10) (by decide +kernel))), (List.forall_mem_cons.mpr ⟨(wa_8 _ (List.mem_of_getElem? (i := 11) (by decide +kernel))), (List.forall_mem_cons.mpr ⟨(wa_8 _ (List.mem_of_getElem? (i := 12) (by decide +kernel))), (List.forall_mem_cons.mpr ⟨(wa_1 _ (List.mem_of_getElem? (i := 14) (by decide +kernel))), (fun _ h => absurd h List.not_mem_nil)⟩)⟩)⟩)⟩)⟩)) rfl rfl rfl (by decide +kernel) ⟨by dsimp only; omega, by dsimp only; omega⟩) hT.h1 kX6 rfl hl.1 rfl (Nat.le_of_ble_eq_true rfl) dX6_readOne_42 ⟨Nat.le_of_ble_eq_true rfl, Nat.le_of_ble_eq_true rfl⟩) hW (fun V_7 H locs hp_8 hW => ?_)
        obtain ⟨hT_10, hf_11⟩ := hp_8
        refine lv_aload_n hx hb dX6_readOne_45 rfl (lv_at hl 0 rfl) ?_
        refine m_cv (m_rV S hW (c_X6_advance l G ad sh V_7 sz B (pEmit (-q.2.1) q) hT_10) (cwV 0 hts (gCall [.methodLink RX6 45 yX6_advance, .instanceMethod yX6_advance, .selects RX6 yX6_advance yX6_advance, .initialized RX6] (List.forall_mem_cons.mpr ⟨(wa_6 _ (List.mem_of_getElem? (i := 11) (by decide +kernel))), (List.forall_mem_cons.mpr ⟨(wa_6 _ (List.mem_of_getElem? (i := 8) (by decide +kernel))), (List.forall_mem_cons.mpr ⟨(wa_6 _ (List.mem_of_getElem? (i := 9) (by decide +kernel))), (List.forall_mem_cons.mpr ⟨(wa_6 _ (List.mem_of_getElem? (i := 10) (by decide +kernel))), (List.forall_mem_cons.mpr ⟨(wa_1 _ (List.mem_of_getElem? (i := 14) (by decide +kernel))), (fun _ h => absurd h List.not_mem_nil)⟩)⟩)⟩)⟩)⟩)) rfl rfl rfl (by decide +kernel) ⟨by dsimp only; omega, by dsimp only; omega⟩) hT.h1 kX6 rfl hl.1 rfl (Nat.le_of_ble_eq_true rfl) dX6_readOne_46 ⟨Nat.le_of_ble_eq_true rfl, Nat.le_of_ble_eq_true rfl⟩) hW (fun V_12 H locs hp_13 hW => ?_)
        obtain ⟨hT_15, hf_16⟩ := hp_13
        refine lv_goto (tgt := 131) hx hb dX6_readOne_49 (by decide) ?_
        exact m_vret S hr hlk hW dX6_readOne_131 (by show TpOk _ _ _ _ (pOn B sz _ _ q) ∧ _; rw [pOn_2 c_1 w_4]; exact ⟨hT_15, (hf_11).trans hf_16⟩)
    · skip
      refine m_if_eq (tgt := 52) hx hb dX6_readOne_33 (by decide) (fun c_17 => ?_) (fun c_17 => ?_)
      · skip
        refine lv_aload_n hx hb dX6_readOne_52 rfl (lv_at hl 0 rfl) ?_
        refine m_geti S hW hT.h1 3 rfl kX6 (iW6 _) (by decide) (List.mem_cons_of_mem _ (wa_6 _ (List.mem_of_getElem? (i := 7) (by decide +kernel)))) dX6_readOne_53 ?_
        refine m_top (y := q.2.1) hT.tk ?_
        refine lv_bipush (v := nI 45) hx hb dX6_readOne_56 (by decide) ?_
        refine lv_icmp_ne (tgt := 89) hx hb dX6_readOne_58 (by decide) (fun c_18 => ?_) (fun c_18 => ?_)
        · skip
          refine lv_aload_n hx hb dX6_readOne_89 rfl (lv_at hl 0 rfl) ?_
          refine m_geti S hW hT.h1 3 rfl kX6 (iW6 _) (by decide) (List.mem_cons_of_mem _ (wa_6 _ (List.mem_of_getElem? (i := 7) (by decide +kernel)))) dX6_readOne_90 ?_
          refine m_top (y := q.2.1) hT.tk ?_
          refine lv_bipush (v := nI 40) hx hb dX6_readOne_93 (by decide) ?_
          refine lv_icmp_ne (tgt := 127) hx hb dX6_readOne_95 (by decide) (fun c_19 => ?_) (fun c_19 => ?_)
          · skip
            refine lv_aload_n hx hb dX6_readOne_127 rfl (lv_at hl 0 rfl) ?_
            refine m_cv (m_rV S hW (c_X6_fail l G ad sh V sz B q (by first | assumption | omega)) (cwV 0 hts (gCall [.methodLink RX6 66 yX6_fail, .instanceMethod yX6_fail, .selects RX6 yX6_fail yX6_fail, .initialized RX6] (List.forall_mem_cons.mpr ⟨(wa_7 _ (List.mem_of_getElem? (i := 22) (by decide +kernel))), (List.forall_mem_cons.mpr ⟨(wa_7 _ (List.mem_of_getElem? (i := 19) (by decide +kernel))), (List.forall_mem_cons.mpr ⟨(wa_7 _ (List.mem_of_getElem? (i := 20) (by decide +kernel))), (List.forall_mem_cons.mpr ⟨(wa_7 _ (List.mem_of_getElem? (i := 21) (by decide +kernel))), (List.forall_mem_cons.mpr ⟨(wa_1 _ (List.mem_of_getElem? (i := 14) (by decide +kernel))), (fun _ h => absurd h List.not_mem_nil)⟩)⟩)⟩)⟩)⟩)) rfl rfl rfl (by decide +kernel) ⟨by dsimp only; omega, by dsimp only; omega⟩) hT.h1 kX6 rfl hl.1 rfl (Nat.le_of_ble_eq_true rfl) dX6_readOne_128 ⟨Nat.le_of_ble_eq_true rfl, Nat.le_of_ble_eq_true rfl⟩) hW (fun V_20 H locs hp_21 hW => ?_)
            obtain ⟨hT_23, hf_24⟩ := hp_21
            exact m_vret S hr hlk hW dX6_readOne_131 (by show TpOk _ _ _ _ (pOn B sz _ _ q) ∧ _; rw [pOn_5 c_1 w_5 c_18 c_19]; exact ⟨hT_23, hf_24⟩)
          · skip
            refine lv_aload_n hx hb dX6_readOne_98 rfl (lv_at hl 0 rfl) ?_
            refine lv_iload_n hx hb dX6_readOne_99 rfl (lv_at hl 1 rfl) ?_
            refine m_ci (m_rV S hW (c_X6_mayOpen l G ad sh V sz B q 5 (by first | assumption | omega) (by first | assumption | omega)) (cwV 1 hts (gCall [.methodLink RX6 83 yX6_mayOpen, .instanceMethod yX6_mayOpen, .selects RX6 yX6_mayOpen yX6_mayOpen, .initialized RX6] (List.forall_mem_cons.mpr ⟨(wa_8 _ (List.mem_of_getElem? (i := 9) (by decide +kernel))), (List.forall_mem_cons.mpr ⟨(wa_8 _ (List.mem_of_getElem? (i := 6) (by decide +kernel))), (List.forall_mem_cons.mpr ⟨(wa_8 _ (List.mem_of_getElem? (i := 7) (by decide +kernel))), (List.forall_mem_cons.mpr ⟨(wa_8 _ (List.mem_of_getElem? (i := 8) (by decide +kernel))), (List.forall_mem_cons.mpr ⟨(wa_1 _ (List.mem_of_getElem? (i := 14) (by decide +kernel))), (fun _ h => absurd h List.not_mem_nil)⟩)⟩)⟩)⟩)⟩)) rfl rfl rfl (by decide +kernel) ⟨by dsimp only; omega, by dsimp only; omega⟩) hT.h1 kX6 rfl hl.1 rfl (Nat.le_of_ble_eq_true rfl) dX6_readOne_100 ⟨Nat.le_of_ble_eq_true rfl, Nat.le_of_ble_eq_true rfl⟩) hW (fun r_27 V_25 H locs hp_26 hW => ?_)
            rcases hp_26 with ⟨rfl, eV_25, w_28⟩ | ⟨rfl, w_29, hT_30, hf_31⟩
            · skip
              rw [eV_25] at hW
              refine m_if_eq (tgt := 131) hx hb dX6_readOne_103 (by decide) (fun c_32 => ?_) (fun c_32 => ?_)
              · exact absurd c_32 (by decide)
              · skip
                exfalso; omega
            · skip
              refine m_if_eq (tgt := 131) hx hb dX6_readOne_103 (by decide) (fun c_33 => ?_) (fun c_33 => ?_)
              · skip
                exact m_vret S hr hlk hW dX6_readOne_131 (by show TpOk _ _ _ _ (pOn B sz _ _ q) ∧ _; rw [pOn_4 c_1 w_5 c_18 c_19]; exact ⟨hT_30, hf_31⟩)
              · exact absurd c_33 (by decide)
        · skip
          refine lv_aload_n hx hb dX6_readOne_61 rfl (lv_at hl 0 rfl) ?_
          refine lv_iload_n hx hb dX6_readOne_62 rfl (lv_at hl 1 rfl) ?_
          refine m_ci (m_rV S hW (c_X6_mayOpen l G ad sh V sz B q 5 (by first | assumption | omega) (by first | assumption | omega)) (cwV 1 hts (gCall [.methodLink RX6 83 yX6_mayOpen, .instanceMethod yX6_mayOpen, .selects RX6 yX6_mayOpen yX6_mayOpen, .initialized RX6] (List.forall_mem_cons.mpr ⟨(wa_8 _ (List.mem_of_getElem? (i := 9) (by decide +kernel))), (List.forall_mem_cons.mpr ⟨(wa_8 _ (List.mem_of_getElem? (i := 6) (by decide +kernel))), (List.forall_mem_cons.mpr ⟨(wa_8 _ (List.mem_of_getElem? (i := 7) (by decide +kernel))), (List.forall_mem_cons.mpr ⟨(wa_8 _ (List.mem_of_getElem? (i := 8) (by decide +kernel))), (List.forall_mem_cons.mpr ⟨(wa_1 _ (List.mem_of_getElem? (i := 14) (by decide +kernel))), (fun _ h => absurd h List.not_mem_nil)⟩)⟩)⟩)⟩)⟩)) rfl rfl rfl (by decide +kernel) ⟨by dsimp only; omega, by dsimp only; omega⟩) hT.h1 kX6 rfl hl.1 rfl (Nat.le_of_ble_eq_true rfl) dX6_readOne_63 ⟨Nat.le_of_ble_eq_true rfl, Nat.le_of_ble_eq_true rfl⟩) hW (fun r_36 V_34 H locs hp_35 hW => ?_)
          rcases hp_35 with ⟨rfl, eV_34, w_37⟩ | ⟨rfl, w_38, hT_39, hf_40⟩
          · skip
            rw [eV_34] at hW
            refine m_if_eq (tgt := 131) hx hb dX6_readOne_66 (by decide) (fun c_41 => ?_) (fun c_41 => ?_)
            · exact absurd c_41 (by decide)
            · skip
              exfalso; omega
          · skip
            refine m_if_eq (tgt := 131) hx hb dX6_readOne_66 (by decide) (fun c_42 => ?_) (fun c_42 => ?_)
            · skip
              exact m_vret S hr hlk hW dX6_readOne_131 (by show TpOk _ _ _ _ (pOn B sz _ _ q) ∧ _; rw [pOn_3 c_1 w_5 c_18]; exact ⟨hT_39, hf_40⟩)
            · exact absurd c_42 (by decide)
      · exact absurd c_17 (by decide)
  · skip
    refine lv_aload_n hx hb dX6_readOne_8 rfl (lv_at hl 0 rfl) ?_
    refine lv_aload_n hx hb dX6_readOne_9 rfl (lv_at hl 0 rfl) ?_
    refine m_geti S hW hT.h1 5 rfl kX6 (iW6 _) (by decide) (List.mem_cons_of_mem _ (wa_7 _ (List.mem_of_getElem? (i := 7) (by decide +kernel)))) dX6_readOne_10 ?_
    refine m_top (y := q.2.2.2.1) hT.nm ?_
    refine m_cv (m_rV S hW (c_X6_emit l G ad sh V sz B q q.2.2.2.1 (by first | assumption | omega)) (cwV 1 hts (gCall [.methodLink RX6 87 yX6_emit, .instanceMethod yX6_emit, .selects RX6 yX6_emit yX6_emit, .initialized RX6] (List.forall_mem_cons.mpr ⟨(wa_8 _ (List.mem_of_getElem? (i := 13) (by decide +kernel))), (List.forall_mem_cons.mpr ⟨(wa_8 _ (List.mem_of_getElem? (i := 10) (by decide +kernel))), (List.forall_mem_cons.mpr ⟨(wa_8 _ (List.mem_of_getElem? (i := 11) (by decide +kernel))), (List.forall_mem_cons.mpr ⟨(wa_8 _ (List.mem_of_getElem? (i := 12) (by decide +kernel))), (List.forall_mem_cons.mpr ⟨(wa_1 _ (List.mem_of_getElem? (i := 14) (by decide +kernel))), (fun _ h => absurd h List.not_mem_nil)⟩)⟩)⟩)⟩)⟩)) rfl rfl rfl (by decide +kernel) ⟨by dsimp only; omega, by dsimp only; omega⟩) hT.h1 kX6 rfl hl.1 rfl (Nat.le_of_ble_eq_true rfl) dX6_readOne_13 ⟨Nat.le_of_ble_eq_true rfl, Nat.le_of_ble_eq_true rfl⟩) hW (fun V_43 H locs hp_44 hW => ?_)
    obtain ⟨hT_46, hf_47⟩ := hp_44
    refine lv_aload_n hx hb dX6_readOne_16 rfl (lv_at hl 0 rfl) ?_
    refine m_cv (m_rV S hW (c_X6_advance l G ad sh V_43 sz B (pEmit q.2.2.2.1 q) hT_46) (cwV 0 hts (gCall [.methodLink RX6 45 yX6_advance, .instanceMethod yX6_advance, .selects RX6 yX6_advance yX6_advance, .initialized RX6] (List.forall_mem_cons.mpr ⟨(wa_6 _ (List.mem_of_getElem? (i := 11) (by decide +kernel))), (List.forall_mem_cons.mpr ⟨(wa_6 _ (List.mem_of_getElem? (i := 8) (by decide +kernel))), (List.forall_mem_cons.mpr ⟨(wa_6 _ (List.mem_of_getElem? (i := 9) (by decide +kernel))), (List.forall_mem_cons.mpr ⟨(wa_6 _ (List.mem_of_getElem? (i := 10) (by decide +kernel))), (List.forall_mem_cons.mpr ⟨(wa_1 _ (List.mem_of_getElem? (i := 14) (by decide +kernel))), (fun _ h => absurd h List.not_mem_nil)⟩)⟩)⟩)⟩)⟩)) rfl rfl rfl (by decide +kernel) ⟨by dsimp only; omega, by dsimp only; omega⟩) hT.h1 kX6 rfl hl.1 rfl (Nat.le_of_ble_eq_true rfl) dX6_readOne_17 ⟨Nat.le_of_ble_eq_true rfl, Nat.le_of_ble_eq_true rfl⟩) hW (fun V_48 H locs hp_49 hW => ?_)
    obtain ⟨hT_51, hf_52⟩ := hp_49
    refine lv_goto (tgt := 131) hx hb dX6_readOne_20 (by decide) ?_
    exact m_vret S hr hlk hW dX6_readOne_131 (by show TpOk _ _ _ _ (pOn B sz _ _ q) ∧ _; rw [pOn_1 c_1]; exact ⟨hT_51, (hf_47).trans hf_52⟩)
set_option maxHeartbeats 4000000 in
set_option maxRecDepth 100000 in
theorem c_X6_readOne_s (l : Launch) (G : mG) (ad : Nat → Nat) (sh : Nat → Option mSh) (V : mV) (sz : Nat) (B : Nat → Int32) (q : pS) (d o : Nat) (hT : TpOk sh V sz B q) (ho : o + (d + 1) = 5) (IH1 : ∀ (V : mV) (q : pS), (TpOk sh V sz B q) → mM l yX6_readOne wsX6_readOne ({ frames := 12 + 8 * d, cells := 0, slots := 0, locals := 400 + 200 * d } : Room) G ad sh V [.ref (ad 1), .int (nI (o + 1))] 0 0 (mPv ad sh (fun V' => (TpOk sh V' sz B ((pD B sz d).1 q)) ∧ (TpFr V V')))) (IH2 : ∀ (V : mV) (q : pS), (TpOk sh V sz B q) → mM l yX6_readRank wsX6_readRank ({ frames := 13 + 8 * d + 5, cells := 0, slots := 0, locals := 425 + 200 * d + 26 * 5 } : Room) G ad sh V [.ref (ad 1), .int (nI 0), .int (nI (o + 1))] 0 0 (mPv ad sh (fun V' => (TpOk sh V' sz B ((pD B sz d).2 5 q)) ∧ (TpFr V V')))) : mM l yX6_readOne wsX6_readOne ({ frames := 12 + 8 * (d + 1), cells := 0, slots := 0, locals := 400 + 200 * (d + 1) } : Room) G ad sh V [.ref (ad 1), .int (nI o)] 0 0 (mPv ad sh (fun V' => (TpOk sh V' sz B ((pD B sz (d + 1)).1 q)) ∧ (TpFr V V'))) := by
  refine mM.of (cc := cX6_readOne) (maxL := 2) (ret := none) (by decide) rfl (Nat.le_of_ble_eq_true rfl) ?_
  intro p e s m below meth c S hr hlk hnm hW ls hl
  obtain ⟨hx, hb, hml, hown, hts⟩ := id S
  have hl : lv_has ls 2 [(0, .ref (ad 1)), (1, .int (nI o))] := hl
  have hS0 : True := trivial
  have hs1 := hT.s160
  have hn1 := hT.nxl
  have ha1 := hT.tal
  have hc1 := hT.scl
  refine lv_aload_n hx hb dX6_readOne_0 rfl (lv_at hl 0 rfl) ?_
  refine m_geti S hW hT.h1 3 rfl kX6 (iW6 _) (by decide) (List.mem_cons_of_mem _ (wa_6 _ (List.mem_of_getElem? (i := 7) (by decide +kernel)))) dX6_readOne_1 ?_
  refine m_top (y := q.2.1) hT.tk ?_
  refine lv_iconst (v := nI 1) hx hb dX6_readOne_4 (by decide) ?_
  refine lv_icmp_ne (tgt := 23) hx hb dX6_readOne_5 (by decide) (fun c_1 => ?_) (fun c_1 => ?_)
  · skip
    refine lv_aload_n hx hb dX6_readOne_23 rfl (lv_at hl 0 rfl) ?_
    refine m_geti S hW hT.h1 3 rfl kX6 (iW6 _) (by decide) (List.mem_cons_of_mem _ (wa_6 _ (List.mem_of_getElem? (i := 7) (by decide +kernel)))) dX6_readOne_24 ?_
    refine m_top (y := q.2.1) hT.tk ?_
    refine lv_iconst (v := nI 2) hx hb dX6_readOne_27 (by decide) ?_
    refine lv_bipush (v := nI 7) hx hb dX6_readOne_28 (by decide) ?_
    refine m_cip (m_rSN S hW (c_X10_within l G ad sh V q.2.1 2 7 (by first | assumption | omega) (by first | assumption | omega)) ⟨va_cnB 3 hts (gCall [] (List.forall_mem_cons.mpr ⟨(wa_8 _ (List.mem_of_getElem? (i := 17) (by decide +kernel))), (fun _ h => absurd h List.not_mem_nil)⟩)) rfl rfl rfl (hW.2.2.2.2.2.1 _ (List.mem_of_getElem? (i := 4) rfl)) (hts (.initialized RX10) (List.mem_cons_of_mem _ (wa_1 _ (List.mem_of_getElem? (i := 2) (by decide +kernel))))) (by decide +kernel) ⟨by dsimp only; omega, by dsimp only; omega⟩, hts (.static yX10_within) (List.mem_cons_of_mem _ (wa_8 _ (List.mem_of_getElem? (i := 16) (by decide +kernel)))), trivial⟩ rfl hl.1 rfl (Nat.le_of_ble_eq_true rfl) dX6_readOne_30 ⟨Nat.le_of_ble_eq_true rfl, Nat.le_of_ble_eq_true rfl⟩) hW (fun r_3 H locs hp_2 hW => ?_)
    rcases hp_2 with ⟨rfl, w_4⟩ | ⟨rfl, w_5⟩
    · skip
      refine m_if_eq (tgt := 52) hx hb dX6_readOne_33 (by decide) (fun c_6 => ?_) (fun c_6 => ?_)
      · exact absurd c_6 (by decide)
      · skip
        refine lv_aload_n hx hb dX6_readOne_36 rfl (lv_at hl 0 rfl) ?_
        refine lv_aload_n hx hb dX6_readOne_37 rfl (lv_at hl 0 rfl) ?_
        refine m_geti S hW hT.h1 3 rfl kX6 (iW6 _) (by decide) (List.mem_cons_of_mem _ (wa_6 _ (List.mem_of_getElem? (i := 7) (by decide +kernel)))) dX6_readOne_38 ?_
        refine m_top (y := q.2.1) hT.tk ?_
        refine lv_ineg hx hb dX6_readOne_41 ?_
        refine m_cv (m_rV S hW (c_X6_emit l G ad sh V sz B q (-q.2.1) (by first | assumption | omega)) (cwV 1 hts (gCall [.methodLink RX6 87 yX6_emit, .instanceMethod yX6_emit, .selects RX6 yX6_emit yX6_emit, .initialized RX6] (List.forall_mem_cons.mpr ⟨(wa_8 _ (List.mem_of_getElem? (i := 13) (by decide +kernel))), (List.forall_mem_cons.mpr ⟨(wa_8 _ (List.mem_of_getElem? (i := 10) (by decide +kernel))), (List.forall_mem_cons.mpr ⟨(wa_8 _ (List.mem_of_getElem? (i := 11) (by decide +kernel))), (List.forall_mem_cons.mpr ⟨(wa_8 _ (List.mem_of_getElem? (i := 12) (by decide +kernel))), (List.forall_mem_cons.mpr ⟨(wa_1 _ (List.mem_of_getElem? (i := 14) (by decide +kernel))), (fun _ h => absurd h List.not_mem_nil)⟩)⟩)⟩)⟩)⟩)) rfl rfl rfl (by decide +kernel) ⟨by dsimp only; omega, by dsimp only; omega⟩) hT.h1 kX6 rfl hl.1 rfl (Nat.le_of_ble_eq_true rfl) dX6_readOne_42 ⟨Nat.le_of_ble_eq_true rfl, Nat.le_of_ble_eq_true rfl⟩) hW (fun V_7 H locs hp_8 hW => ?_)
        obtain ⟨hT_10, hf_11⟩ := hp_8
        refine lv_aload_n hx hb dX6_readOne_45 rfl (lv_at hl 0 rfl) ?_
        refine m_cv (m_rV S hW (c_X6_advance l G ad sh V_7 sz B (pEmit (-q.2.1) q) hT_10) (cwV 0 hts (gCall [.methodLink RX6 45 yX6_advance, .instanceMethod yX6_advance, .selects RX6 yX6_advance yX6_advance, .initialized RX6] (List.forall_mem_cons.mpr ⟨(wa_6 _ (List.mem_of_getElem? (i := 11) (by decide +kernel))), (List.forall_mem_cons.mpr ⟨(wa_6 _ (List.mem_of_getElem? (i := 8) (by decide +kernel))), (List.forall_mem_cons.mpr ⟨(wa_6 _ (List.mem_of_getElem? (i := 9) (by decide +kernel))), (List.forall_mem_cons.mpr ⟨(wa_6 _ (List.mem_of_getElem? (i := 10) (by decide +kernel))), (List.forall_mem_cons.mpr ⟨(wa_1 _ (List.mem_of_getElem? (i := 14) (by decide +kernel))), (fun _ h => absurd h List.not_mem_nil)⟩)⟩)⟩)⟩)⟩)) rfl rfl rfl (by decide +kernel) ⟨by dsimp only; omega, by dsimp only; omega⟩) hT.h1 kX6 rfl hl.1 rfl (Nat.le_of_ble_eq_true rfl) dX6_readOne_46 ⟨Nat.le_of_ble_eq_true rfl, Nat.le_of_ble_eq_true rfl⟩) hW (fun V_12 H locs hp_13 hW => ?_)
        obtain ⟨hT_15, hf_16⟩ := hp_13
        refine lv_goto (tgt := 131) hx hb dX6_readOne_49 (by decide) ?_
        exact m_vret S hr hlk hW dX6_readOne_131 (by show TpOk _ _ _ _ (pOn B sz _ _ q) ∧ _; rw [pOn_2 c_1 w_4]; exact ⟨hT_15, (hf_11).trans hf_16⟩)
    · skip
      refine m_if_eq (tgt := 52) hx hb dX6_readOne_33 (by decide) (fun c_17 => ?_) (fun c_17 => ?_)
      · skip
        refine lv_aload_n hx hb dX6_readOne_52 rfl (lv_at hl 0 rfl) ?_
        refine m_geti S hW hT.h1 3 rfl kX6 (iW6 _) (by decide) (List.mem_cons_of_mem _ (wa_6 _ (List.mem_of_getElem? (i := 7) (by decide +kernel)))) dX6_readOne_53 ?_
        refine m_top (y := q.2.1) hT.tk ?_
        refine lv_bipush (v := nI 45) hx hb dX6_readOne_56 (by decide) ?_
        refine lv_icmp_ne (tgt := 89) hx hb dX6_readOne_58 (by decide) (fun c_18 => ?_) (fun c_18 => ?_)
        · skip
          refine lv_aload_n hx hb dX6_readOne_89 rfl (lv_at hl 0 rfl) ?_
          refine m_geti S hW hT.h1 3 rfl kX6 (iW6 _) (by decide) (List.mem_cons_of_mem _ (wa_6 _ (List.mem_of_getElem? (i := 7) (by decide +kernel)))) dX6_readOne_90 ?_
          refine m_top (y := q.2.1) hT.tk ?_
          refine lv_bipush (v := nI 40) hx hb dX6_readOne_93 (by decide) ?_
          refine lv_icmp_ne (tgt := 127) hx hb dX6_readOne_95 (by decide) (fun c_19 => ?_) (fun c_19 => ?_)
          · skip
            refine lv_aload_n hx hb dX6_readOne_127 rfl (lv_at hl 0 rfl) ?_
            refine m_cv (m_rV S hW (c_X6_fail l G ad sh V sz B q (by first | assumption | omega)) (cwV 0 hts (gCall [.methodLink RX6 66 yX6_fail, .instanceMethod yX6_fail, .selects RX6 yX6_fail yX6_fail, .initialized RX6] (List.forall_mem_cons.mpr ⟨(wa_7 _ (List.mem_of_getElem? (i := 22) (by decide +kernel))), (List.forall_mem_cons.mpr ⟨(wa_7 _ (List.mem_of_getElem? (i := 19) (by decide +kernel))), (List.forall_mem_cons.mpr ⟨(wa_7 _ (List.mem_of_getElem? (i := 20) (by decide +kernel))), (List.forall_mem_cons.mpr ⟨(wa_7 _ (List.mem_of_getElem? (i := 21) (by decide +kernel))), (List.forall_mem_cons.mpr ⟨(wa_1 _ (List.mem_of_getElem? (i := 14) (by decide +kernel))), (fun _ h => absurd h List.not_mem_nil)⟩)⟩)⟩)⟩)⟩)) rfl rfl rfl (by decide +kernel) ⟨by dsimp only; omega, by dsimp only; omega⟩) hT.h1 kX6 rfl hl.1 rfl (Nat.le_of_ble_eq_true rfl) dX6_readOne_128 ⟨Nat.le_of_ble_eq_true rfl, Nat.le_of_ble_eq_true rfl⟩) hW (fun V_20 H locs hp_21 hW => ?_)
            obtain ⟨hT_23, hf_24⟩ := hp_21
            exact m_vret S hr hlk hW dX6_readOne_131 (by show TpOk _ _ _ _ (pOn B sz _ _ q) ∧ _; rw [pOn_5 c_1 w_5 c_18 c_19]; exact ⟨hT_23, hf_24⟩)
          · skip
            refine lv_aload_n hx hb dX6_readOne_98 rfl (lv_at hl 0 rfl) ?_
            refine lv_iload_n hx hb dX6_readOne_99 rfl (lv_at hl 1 rfl) ?_
            refine m_ci (m_rV S hW (c_X6_mayOpen l G ad sh V sz B q o (by first | assumption | omega) (by first | assumption | omega)) (cwV 1 hts (gCall [.methodLink RX6 83 yX6_mayOpen, .instanceMethod yX6_mayOpen, .selects RX6 yX6_mayOpen yX6_mayOpen, .initialized RX6] (List.forall_mem_cons.mpr ⟨(wa_8 _ (List.mem_of_getElem? (i := 9) (by decide +kernel))), (List.forall_mem_cons.mpr ⟨(wa_8 _ (List.mem_of_getElem? (i := 6) (by decide +kernel))), (List.forall_mem_cons.mpr ⟨(wa_8 _ (List.mem_of_getElem? (i := 7) (by decide +kernel))), (List.forall_mem_cons.mpr ⟨(wa_8 _ (List.mem_of_getElem? (i := 8) (by decide +kernel))), (List.forall_mem_cons.mpr ⟨(wa_1 _ (List.mem_of_getElem? (i := 14) (by decide +kernel))), (fun _ h => absurd h List.not_mem_nil)⟩)⟩)⟩)⟩)⟩)) rfl rfl rfl (by decide +kernel) ⟨by dsimp only; omega, by dsimp only; omega⟩) hT.h1 kX6 rfl hl.1 rfl (Nat.le_of_ble_eq_true rfl) dX6_readOne_100 ⟨Nat.le_of_ble_eq_true rfl, Nat.le_of_ble_eq_true rfl⟩) hW (fun r_27 V_25 H locs hp_26 hW => ?_)
            rcases hp_26 with ⟨rfl, eV_25, w_28⟩ | ⟨rfl, w_29, hT_30, hf_31⟩
            · skip
              rw [eV_25] at hW
              refine m_if_eq (tgt := 131) hx hb dX6_readOne_103 (by decide) (fun c_32 => ?_) (fun c_32 => ?_)
              · exact absurd c_32 (by decide)
              · skip
                refine lv_aload_n hx hb dX6_readOne_106 rfl (lv_at hl 0 rfl) ?_
                refine m_cv (m_rV S hW (c_X6_advance l G ad sh V sz B q hT) (cwV 0 hts (gCall [.methodLink RX6 45 yX6_advance, .instanceMethod yX6_advance, .selects RX6 yX6_advance yX6_advance, .initialized RX6] (List.forall_mem_cons.mpr ⟨(wa_6 _ (List.mem_of_getElem? (i := 11) (by decide +kernel))), (List.forall_mem_cons.mpr ⟨(wa_6 _ (List.mem_of_getElem? (i := 8) (by decide +kernel))), (List.forall_mem_cons.mpr ⟨(wa_6 _ (List.mem_of_getElem? (i := 9) (by decide +kernel))), (List.forall_mem_cons.mpr ⟨(wa_6 _ (List.mem_of_getElem? (i := 10) (by decide +kernel))), (List.forall_mem_cons.mpr ⟨(wa_1 _ (List.mem_of_getElem? (i := 14) (by decide +kernel))), (fun _ h => absurd h List.not_mem_nil)⟩)⟩)⟩)⟩)⟩)) rfl rfl rfl (by decide +kernel) ⟨by dsimp only; omega, by dsimp only; omega⟩) hT.h1 kX6 rfl hl.1 rfl (Nat.le_of_ble_eq_true rfl) dX6_readOne_107 ⟨Nat.le_of_ble_eq_true rfl, Nat.le_of_ble_eq_true rfl⟩) hW (fun V_33 H locs hp_34 hW => ?_)
                obtain ⟨hT_36, hf_37⟩ := hp_34
                refine lv_aload_n hx hb dX6_readOne_110 rfl (lv_at hl 0 rfl) ?_
                refine lv_iconst (v := nI 0) hx hb dX6_readOne_111 (by decide) ?_
                refine lv_iload_n hx hb dX6_readOne_112 rfl (lv_at hl 1 rfl) ?_
                refine lv_iconst (v := nI 1) hx hb dX6_readOne_113 (by decide) ?_
                refine lv_iadd hx hb dX6_readOne_114 ?_
                refine m_top (y := nI (o + 1)) (nI_add o 1) ?_
                refine m_cv (m_rV S hW (IH2 V_33 (pAdv B sz q) hT_36) (cwV 2 hts (gCall [.methodLink RX6 53 yX6_readRank, .instanceMethod yX6_readRank, .selects RX6 yX6_readRank yX6_readRank, .initialized RX6] (List.forall_mem_cons.mpr ⟨(wa_8 _ (List.mem_of_getElem? (i := 2) (by decide +kernel))), (List.forall_mem_cons.mpr ⟨(wa_7 _ (List.mem_of_getElem? (i := 23) (by decide +kernel))), (List.forall_mem_cons.mpr ⟨(wa_8 _ (List.mem_of_getElem? (i := 0) (by decide +kernel))), (List.forall_mem_cons.mpr ⟨(wa_8 _ (List.mem_of_getElem? (i := 1) (by decide +kernel))), (List.forall_mem_cons.mpr ⟨(wa_1 _ (List.mem_of_getElem? (i := 14) (by decide +kernel))), (fun _ h => absurd h List.not_mem_nil)⟩)⟩)⟩)⟩)⟩)) rfl rfl rfl (by decide +kernel) ⟨by dsimp only; omega, by dsimp only; omega⟩) hT.h1 kX6 rfl hl.1 rfl (Nat.le_of_ble_eq_true rfl) dX6_readOne_115 ⟨Nat.le_of_ble_eq_true rfl, Nat.le_of_ble_eq_true rfl⟩) hW (fun V_38 H locs hp_39 hW => ?_)
                obtain ⟨hT_41, hf_42⟩ := hp_39
                refine lv_aload_n hx hb dX6_readOne_118 rfl (lv_at hl 0 rfl) ?_
                refine lv_bipush (v := nI 41) hx hb dX6_readOne_119 (by decide) ?_
                refine m_cv (m_rV S hW (c_X6_expect l G ad sh V_38 sz B ((pD B sz d).2 5 (pAdv B sz q)) (nI 41) hT_41) (cwV 1 hts (gCall [.methodLink RX6 50 yX6_expect, .instanceMethod yX6_expect, .selects RX6 yX6_expect yX6_expect, .initialized RX6] (List.forall_mem_cons.mpr ⟨(wa_7 _ (List.mem_of_getElem? (i := 18) (by decide +kernel))), (List.forall_mem_cons.mpr ⟨(wa_7 _ (List.mem_of_getElem? (i := 15) (by decide +kernel))), (List.forall_mem_cons.mpr ⟨(wa_7 _ (List.mem_of_getElem? (i := 16) (by decide +kernel))), (List.forall_mem_cons.mpr ⟨(wa_7 _ (List.mem_of_getElem? (i := 17) (by decide +kernel))), (List.forall_mem_cons.mpr ⟨(wa_1 _ (List.mem_of_getElem? (i := 14) (by decide +kernel))), (fun _ h => absurd h List.not_mem_nil)⟩)⟩)⟩)⟩)⟩)) rfl rfl rfl (by decide +kernel) ⟨by dsimp only; omega, by dsimp only; omega⟩) hT.h1 kX6 rfl hl.1 rfl (Nat.le_of_ble_eq_true rfl) dX6_readOne_121 ⟨Nat.le_of_ble_eq_true rfl, Nat.le_of_ble_eq_true rfl⟩) hW (fun V_43 H locs hp_44 hW => ?_)
                obtain ⟨hT_46, hf_47⟩ := hp_44
                refine lv_goto (tgt := 131) hx hb dX6_readOne_124 (by decide) ?_
                exact m_vret S hr hlk hW dX6_readOne_131 (by show TpOk _ _ _ _ (pOn B sz _ _ q) ∧ _; rw [pOn_4 c_1 w_5 c_18 c_19]; exact ⟨hT_46, ((hf_37).trans hf_42).trans hf_47⟩)
            · skip
              refine m_if_eq (tgt := 131) hx hb dX6_readOne_103 (by decide) (fun c_48 => ?_) (fun c_48 => ?_)
              · skip
                exact m_vret S hr hlk hW dX6_readOne_131 (by exfalso; omega)
              · exact absurd c_48 (by decide)
        · skip
          refine lv_aload_n hx hb dX6_readOne_61 rfl (lv_at hl 0 rfl) ?_
          refine lv_iload_n hx hb dX6_readOne_62 rfl (lv_at hl 1 rfl) ?_
          refine m_ci (m_rV S hW (c_X6_mayOpen l G ad sh V sz B q o (by first | assumption | omega) (by first | assumption | omega)) (cwV 1 hts (gCall [.methodLink RX6 83 yX6_mayOpen, .instanceMethod yX6_mayOpen, .selects RX6 yX6_mayOpen yX6_mayOpen, .initialized RX6] (List.forall_mem_cons.mpr ⟨(wa_8 _ (List.mem_of_getElem? (i := 9) (by decide +kernel))), (List.forall_mem_cons.mpr ⟨(wa_8 _ (List.mem_of_getElem? (i := 6) (by decide +kernel))), (List.forall_mem_cons.mpr ⟨(wa_8 _ (List.mem_of_getElem? (i := 7) (by decide +kernel))), (List.forall_mem_cons.mpr ⟨(wa_8 _ (List.mem_of_getElem? (i := 8) (by decide +kernel))), (List.forall_mem_cons.mpr ⟨(wa_1 _ (List.mem_of_getElem? (i := 14) (by decide +kernel))), (fun _ h => absurd h List.not_mem_nil)⟩)⟩)⟩)⟩)⟩)) rfl rfl rfl (by decide +kernel) ⟨by dsimp only; omega, by dsimp only; omega⟩) hT.h1 kX6 rfl hl.1 rfl (Nat.le_of_ble_eq_true rfl) dX6_readOne_63 ⟨Nat.le_of_ble_eq_true rfl, Nat.le_of_ble_eq_true rfl⟩) hW (fun r_51 V_49 H locs hp_50 hW => ?_)
          rcases hp_50 with ⟨rfl, eV_49, w_52⟩ | ⟨rfl, w_53, hT_54, hf_55⟩
          · skip
            rw [eV_49] at hW
            refine m_if_eq (tgt := 131) hx hb dX6_readOne_66 (by decide) (fun c_56 => ?_) (fun c_56 => ?_)
            · exact absurd c_56 (by decide)
            · skip
              refine lv_aload_n hx hb dX6_readOne_69 rfl (lv_at hl 0 rfl) ?_
              refine m_cv (m_rV S hW (c_X6_advance l G ad sh V sz B q hT) (cwV 0 hts (gCall [.methodLink RX6 45 yX6_advance, .instanceMethod yX6_advance, .selects RX6 yX6_advance yX6_advance, .initialized RX6] (List.forall_mem_cons.mpr ⟨(wa_6 _ (List.mem_of_getElem? (i := 11) (by decide +kernel))), (List.forall_mem_cons.mpr ⟨(wa_6 _ (List.mem_of_getElem? (i := 8) (by decide +kernel))), (List.forall_mem_cons.mpr ⟨(wa_6 _ (List.mem_of_getElem? (i := 9) (by decide +kernel))), (List.forall_mem_cons.mpr ⟨(wa_6 _ (List.mem_of_getElem? (i := 10) (by decide +kernel))), (List.forall_mem_cons.mpr ⟨(wa_1 _ (List.mem_of_getElem? (i := 14) (by decide +kernel))), (fun _ h => absurd h List.not_mem_nil)⟩)⟩)⟩)⟩)⟩)) rfl rfl rfl (by decide +kernel) ⟨by dsimp only; omega, by dsimp only; omega⟩) hT.h1 kX6 rfl hl.1 rfl (Nat.le_of_ble_eq_true rfl) dX6_readOne_70 ⟨Nat.le_of_ble_eq_true rfl, Nat.le_of_ble_eq_true rfl⟩) hW (fun V_57 H locs hp_58 hW => ?_)
              obtain ⟨hT_60, hf_61⟩ := hp_58
              refine lv_aload_n hx hb dX6_readOne_73 rfl (lv_at hl 0 rfl) ?_
              refine lv_iload_n hx hb dX6_readOne_74 rfl (lv_at hl 1 rfl) ?_
              refine lv_iconst (v := nI 1) hx hb dX6_readOne_75 (by decide) ?_
              refine lv_iadd hx hb dX6_readOne_76 ?_
              refine m_top (y := nI (o + 1)) (nI_add o 1) ?_
              refine m_cv (m_rV S hW (IH1 V_57 (pAdv B sz q) hT_60) (cwV 1 hts (gCall [.methodLink RX6 80 yX6_readOne, .instanceMethod yX6_readOne, .selects RX6 yX6_readOne yX6_readOne, .initialized RX6] (List.forall_mem_cons.mpr ⟨(wa_8 _ (List.mem_of_getElem? (i := 15) (by decide +kernel))), (List.forall_mem_cons.mpr ⟨(wa_8 _ (List.mem_of_getElem? (i := 3) (by decide +kernel))), (List.forall_mem_cons.mpr ⟨(wa_8 _ (List.mem_of_getElem? (i := 4) (by decide +kernel))), (List.forall_mem_cons.mpr ⟨(wa_8 _ (List.mem_of_getElem? (i := 5) (by decide +kernel))), (List.forall_mem_cons.mpr ⟨(wa_1 _ (List.mem_of_getElem? (i := 14) (by decide +kernel))), (fun _ h => absurd h List.not_mem_nil)⟩)⟩)⟩)⟩)⟩)) rfl rfl rfl (by decide +kernel) ⟨by dsimp only; omega, by dsimp only; omega⟩) hT.h1 kX6 rfl hl.1 rfl (Nat.le_of_ble_eq_true rfl) dX6_readOne_77 ⟨Nat.le_of_ble_eq_true rfl, Nat.le_of_ble_eq_true rfl⟩) hW (fun V_62 H locs hp_63 hW => ?_)
              obtain ⟨hT_65, hf_66⟩ := hp_63
              refine lv_aload_n hx hb dX6_readOne_80 rfl (lv_at hl 0 rfl) ?_
              refine lv_bipush (v := -14) hx hb dX6_readOne_81 (by decide) ?_
              refine m_cv (m_rV S hW (c_X6_emit l G ad sh V_62 sz B ((pD B sz d).1 (pAdv B sz q)) (-14) hT_65) (cwV 1 hts (gCall [.methodLink RX6 87 yX6_emit, .instanceMethod yX6_emit, .selects RX6 yX6_emit yX6_emit, .initialized RX6] (List.forall_mem_cons.mpr ⟨(wa_8 _ (List.mem_of_getElem? (i := 13) (by decide +kernel))), (List.forall_mem_cons.mpr ⟨(wa_8 _ (List.mem_of_getElem? (i := 10) (by decide +kernel))), (List.forall_mem_cons.mpr ⟨(wa_8 _ (List.mem_of_getElem? (i := 11) (by decide +kernel))), (List.forall_mem_cons.mpr ⟨(wa_8 _ (List.mem_of_getElem? (i := 12) (by decide +kernel))), (List.forall_mem_cons.mpr ⟨(wa_1 _ (List.mem_of_getElem? (i := 14) (by decide +kernel))), (fun _ h => absurd h List.not_mem_nil)⟩)⟩)⟩)⟩)⟩)) rfl rfl rfl (by decide +kernel) ⟨by dsimp only; omega, by dsimp only; omega⟩) hT.h1 kX6 rfl hl.1 rfl (Nat.le_of_ble_eq_true rfl) dX6_readOne_83 ⟨Nat.le_of_ble_eq_true rfl, Nat.le_of_ble_eq_true rfl⟩) hW (fun V_67 H locs hp_68 hW => ?_)
              obtain ⟨hT_70, hf_71⟩ := hp_68
              refine lv_goto (tgt := 131) hx hb dX6_readOne_86 (by decide) ?_
              exact m_vret S hr hlk hW dX6_readOne_131 (by show TpOk _ _ _ _ (pOn B sz _ _ q) ∧ _; rw [pOn_3 c_1 w_5 c_18]; exact ⟨hT_70, ((hf_61).trans hf_66).trans hf_71⟩)
          · skip
            refine m_if_eq (tgt := 131) hx hb dX6_readOne_66 (by decide) (fun c_72 => ?_) (fun c_72 => ?_)
            · skip
              exact m_vret S hr hlk hW dX6_readOne_131 (by exfalso; omega)
            · exact absurd c_72 (by decide)
      · exact absurd c_17 (by decide)
  · skip
    refine lv_aload_n hx hb dX6_readOne_8 rfl (lv_at hl 0 rfl) ?_
    refine lv_aload_n hx hb dX6_readOne_9 rfl (lv_at hl 0 rfl) ?_
    refine m_geti S hW hT.h1 5 rfl kX6 (iW6 _) (by decide) (List.mem_cons_of_mem _ (wa_7 _ (List.mem_of_getElem? (i := 7) (by decide +kernel)))) dX6_readOne_10 ?_
    refine m_top (y := q.2.2.2.1) hT.nm ?_
    refine m_cv (m_rV S hW (c_X6_emit l G ad sh V sz B q q.2.2.2.1 (by first | assumption | omega)) (cwV 1 hts (gCall [.methodLink RX6 87 yX6_emit, .instanceMethod yX6_emit, .selects RX6 yX6_emit yX6_emit, .initialized RX6] (List.forall_mem_cons.mpr ⟨(wa_8 _ (List.mem_of_getElem? (i := 13) (by decide +kernel))), (List.forall_mem_cons.mpr ⟨(wa_8 _ (List.mem_of_getElem? (i := 10) (by decide +kernel))), (List.forall_mem_cons.mpr ⟨(wa_8 _ (List.mem_of_getElem? (i := 11) (by decide +kernel))), (List.forall_mem_cons.mpr ⟨(wa_8 _ (List.mem_of_getElem? (i := 12) (by decide +kernel))), (List.forall_mem_cons.mpr ⟨(wa_1 _ (List.mem_of_getElem? (i := 14) (by decide +kernel))), (fun _ h => absurd h List.not_mem_nil)⟩)⟩)⟩)⟩)⟩)) rfl rfl rfl (by decide +kernel) ⟨by dsimp only; omega, by dsimp only; omega⟩) hT.h1 kX6 rfl hl.1 rfl (Nat.le_of_ble_eq_true rfl) dX6_readOne_13 ⟨Nat.le_of_ble_eq_true rfl, Nat.le_of_ble_eq_true rfl⟩) hW (fun V_73 H locs hp_74 hW => ?_)
    obtain ⟨hT_76, hf_77⟩ := hp_74
    refine lv_aload_n hx hb dX6_readOne_16 rfl (lv_at hl 0 rfl) ?_
    refine m_cv (m_rV S hW (c_X6_advance l G ad sh V_73 sz B (pEmit q.2.2.2.1 q) hT_76) (cwV 0 hts (gCall [.methodLink RX6 45 yX6_advance, .instanceMethod yX6_advance, .selects RX6 yX6_advance yX6_advance, .initialized RX6] (List.forall_mem_cons.mpr ⟨(wa_6 _ (List.mem_of_getElem? (i := 11) (by decide +kernel))), (List.forall_mem_cons.mpr ⟨(wa_6 _ (List.mem_of_getElem? (i := 8) (by decide +kernel))), (List.forall_mem_cons.mpr ⟨(wa_6 _ (List.mem_of_getElem? (i := 9) (by decide +kernel))), (List.forall_mem_cons.mpr ⟨(wa_6 _ (List.mem_of_getElem? (i := 10) (by decide +kernel))), (List.forall_mem_cons.mpr ⟨(wa_1 _ (List.mem_of_getElem? (i := 14) (by decide +kernel))), (fun _ h => absurd h List.not_mem_nil)⟩)⟩)⟩)⟩)⟩)) rfl rfl rfl (by decide +kernel) ⟨by dsimp only; omega, by dsimp only; omega⟩) hT.h1 kX6 rfl hl.1 rfl (Nat.le_of_ble_eq_true rfl) dX6_readOne_17 ⟨Nat.le_of_ble_eq_true rfl, Nat.le_of_ble_eq_true rfl⟩) hW (fun V_78 H locs hp_79 hW => ?_)
    obtain ⟨hT_81, hf_82⟩ := hp_79
    refine lv_goto (tgt := 131) hx hb dX6_readOne_20 (by decide) ?_
    exact m_vret S hr hlk hW dX6_readOne_131 (by show TpOk _ _ _ _ (pOn B sz _ _ q) ∧ _; rw [pOn_1 c_1]; exact ⟨hT_81, (hf_77).trans hf_82⟩)
set_option maxHeartbeats 4000000 in
set_option maxRecDepth 100000 in
theorem c_X6_readRank_4 (l : Launch) (G : mG) (ad : Nat → Nat) (sh : Nat → Option mSh) (V : mV) (sz : Nat) (B : Nat → Int32) (q : pS) (d o : Nat) (fn : pS → pS) (hT : TpOk sh V sz B q) (ho : o < 100) (IHr : ∀ (V : mV) (q : pS), (TpOk sh V sz B q) → mM l yX6_readRank wsX6_readRank ({ frames := 13 + 8 * d + 0, cells := 0, slots := 0, locals := 425 + 200 * d + 26 * 0 } : Room) G ad sh V [.ref (ad 1), .int (nI 5), .int (nI o)] 0 0 (mPv ad sh (fun V' => (TpOk sh V' sz B (fn q)) ∧ (TpFr V V')))) : mM l yX6_readRank wsX6_readRank ({ frames := 13 + 8 * d + 1, cells := 0, slots := 0, locals := 425 + 200 * d + 26 * 1 } : Room) G ad sh V [.ref (ad 1), .int (nI 4), .int (nI o)] 0 0 (mPv ad sh (fun V' => (TpOk sh V' sz B (pLoop (pJoin B sz fn) (nI 4) 160 (fn q))) ∧ (TpFr V V'))) := by
  refine mM.of (cc := cX6_readRank) (maxL := 6) (ret := none) (by decide) rfl (Nat.le_of_ble_eq_true rfl) ?_
  intro p e s m below meth c S hr hlk hnm hW ls hl
  obtain ⟨hx, hb, hml, hown, hts⟩ := id S
  have hl : lv_has ls 6 [(0, .ref (ad 1)), (1, .int (nI 4)), (2, .int (nI o))] := hl
  have hS0 : True := trivial
  have hs1 := hT.s160
  have hn1 := hT.nxl
  have ha1 := hT.tal
  have hc1 := hT.scl
  refine lv_iload_n hx hb dX6_readRank_0 rfl (lv_at hl 1 rfl) ?_
  refine lv_iconst (v := nI 4) hx hb dX6_readRank_1 (by decide) ?_
  refine lv_icmp_le (tgt := 11) hx hb dX6_readRank_2 (by decide) (fun c_1 => ?_) (fun c_1 => ?_)
  · skip
    refine lv_iload_n hx hb dX6_readRank_11 rfl (lv_at hl 1 rfl) ?_
    refine lv_iconst (v := nI 2) hx hb dX6_readRank_12 (by decide) ?_
    refine lv_icmp_ne (tgt := 52) hx hb dX6_readRank_13 (by decide) (fun c_2 => ?_) (fun c_2 => ?_)
    · skip
      refine lv_aload_n hx hb dX6_readRank_52 rfl (lv_at hl 0 rfl) ?_
      refine lv_iload_n hx hb dX6_readRank_53 rfl (lv_at hl 1 rfl) ?_
      refine lv_iconst (v := nI 1) hx hb dX6_readRank_54 (by decide) ?_
      refine lv_iadd hx hb dX6_readRank_55 ?_
      refine m_top (y := nI 5) (nI_add 4 1) ?_
      refine lv_iload_n hx hb dX6_readRank_56 rfl (lv_at hl 2 rfl) ?_
      refine m_cv (m_rV S hW (IHr V q hT) (cwV 2 hts (gCall [.methodLink RX6 53 yX6_readRank, .instanceMethod yX6_readRank, .selects RX6 yX6_readRank yX6_readRank, .initialized RX6] (List.forall_mem_cons.mpr ⟨(wa_8 _ (List.mem_of_getElem? (i := 2) (by decide +kernel))), (List.forall_mem_cons.mpr ⟨(wa_7 _ (List.mem_of_getElem? (i := 23) (by decide +kernel))), (List.forall_mem_cons.mpr ⟨(wa_8 _ (List.mem_of_getElem? (i := 0) (by decide +kernel))), (List.forall_mem_cons.mpr ⟨(wa_8 _ (List.mem_of_getElem? (i := 1) (by decide +kernel))), (List.forall_mem_cons.mpr ⟨(wa_1 _ (List.mem_of_getElem? (i := 14) (by decide +kernel))), (fun _ h => absurd h List.not_mem_nil)⟩)⟩)⟩)⟩)⟩)) rfl rfl rfl (by decide +kernel) ⟨by dsimp only; omega, by dsimp only; omega⟩) hT.h1 kX6 rfl hl.1 rfl (Nat.le_of_ble_eq_true rfl) dX6_readRank_57 ⟨Nat.le_of_ble_eq_true rfl, Nat.le_of_ble_eq_true rfl⟩) hW (fun V_3 H locs hp_4 hW => ?_)
      obtain ⟨hT_6, hf_7⟩ := hp_4
      refine lv_iload_n hx hb dX6_readRank_60 rfl (lv_at hl 1 rfl) ?_
      refine lv_iconst (v := nI 2) hx hb dX6_readRank_61 (by decide) ?_
      refine lv_icmp_ne (tgt := 69) hx hb dX6_readRank_62 (by decide) (fun c_8 => ?_) (fun c_8 => ?_)
      · skip
        refine lv_sipush (v := nI 160) hx hb dX6_readRank_69 (by decide) ?_
        refine lv_istore_n (lv' := [(3, .int (nI 160)), (0, .ref (ad 1)), (1, .int (nI 4)), (2, .int (nI o))]) hx hb dX6_readRank_72 rfl hl (by decide) rfl (fun ls hl => ?_)
        refine lv_iconst (v := nI 0) hx hb dX6_readRank_73 (by decide) ?_
        refine lv_istore (lv' := [(4, .int (nI 0)), (3, .int (nI 160)), (0, .ref (ad 1)), (1, .int (nI 4)), (2, .int (nI o))]) hx hb dX6_readRank_74 hl (by decide) rfl (fun ls hl => ?_)
        have loop_76 : ∀ (n_76 : Nat) (q1 : pS) (k : Nat) (V1 : mV) (H : Heap) (locs : List Loc) (ls : Array Slot), (k ≤ 160) → (TpOk sh V1 sz B q1) → (TpFr V V1) → (pLoop (pJoin B sz fn) (nI 4) (160 - k) q1 = pLoop (pJoin B sz fn) (nI 4) 160 (fn q)) → (160 - k) < n_76 → mC (mA ad sh s.heap.size) s.heap s G ad sh V1 H locs → lv_has ls 6 [(0, .ref (ad 1)), (1, .int (nI 4)), (2, .int (nI o)), (3, .int (nI 160)), (4, .int (nI k))] → W p l e ({ frames := 13 + 8 * d + 1, cells := 0, slots := 0, locals := 425 + 200 * d + 26 * 1 } : Room) s m ([.ref (ad 1), .int (nI 4), .int (nI o)] : List Value).toArray below meth c H locs 0 0 (MQ below (mPost G ad sh s.heap.size (mPv ad sh (fun V' => (TpOk sh V' sz B (pLoop (pJoin B sz fn) (nI 4) 160 (fn q))) ∧ (TpFr V V')))) ([.ref (ad 1), .int (nI 4), .int (nI o)] : List Value).toArray s 0 0 (mA ad sh s.heap.size)) (F0 m 76 ls []) := by
          intro n_76
          induction n_76 with
          | zero => intro q1 k V1 H locs ls hk hT1 hf1 hres hM_ hW hl; omega
          | succ n_76 ih_76 =>
            intro q1 k V1 H locs ls hk hT1 hf1 hres hM_ hW hl
            refine lv_iload hx hb dX6_readRank_76 (lv_at hl 4 rfl) ?_
            refine lv_iload_n hx hb dX6_readRank_78 rfl (lv_at hl 3 rfl) ?_
            refine lv_icmp_ge (tgt := 124) hx hb dX6_readRank_79 (by decide) (fun c_9 => ?_) (fun c_9 => ?_)
            · skip
              have c_9 : 160 ≤ k := (nI_leI (by omega) (by omega)).mp c_9
              exact m_vret S hr hlk hW dX6_readRank_124 (by rw [show 160 - k = 0 by omega] at hres; rw [← hres]; exact ⟨hT1, hf1⟩)
            · skip
              have c_9 : ¬ 160 ≤ k := mt (nI_leI (by omega) (by omega)).mpr c_9
              refine lv_aload_n hx hb dX6_readRank_82 rfl (lv_at hl 0 rfl) ?_
              refine m_geti S hW hT.h1 3 rfl kX6 (iW6 _) (by decide) (List.mem_cons_of_mem _ (wa_6 _ (List.mem_of_getElem? (i := 7) (by decide +kernel)))) dX6_readRank_83 ?_
              refine m_top (y := q1.2.1) hT1.tk ?_
              refine m_cie (m_rS S hW (c_X9_rankOf l G ad sh V1 q1.2.1) (va_cwS 1 hts (gCall [.methodLink RX6 90 yX9_rankOf, .static yX9_rankOf, .initialized RX9] (List.forall_mem_cons.mpr ⟨(wa_7 _ (List.mem_of_getElem? (i := 14) (by decide +kernel))), (List.forall_mem_cons.mpr ⟨(wa_8 _ (List.mem_of_getElem? (i := 14) (by decide +kernel))), (List.forall_mem_cons.mpr ⟨(wa_7 _ (List.mem_of_getElem? (i := 13) (by decide +kernel))), (List.forall_mem_cons.mpr ⟨(wa_7 _ (List.mem_of_getElem? (i := 10) (by decide +kernel))), (fun _ h => absurd h List.not_mem_nil)⟩)⟩)⟩)⟩)) rfl rfl rfl (by decide +kernel) ⟨by dsimp only; omega, by dsimp only; omega⟩) rfl hl.1 rfl (Nat.le_of_ble_eq_true rfl) dX6_readRank_86 ⟨Nat.le_of_ble_eq_true rfl, Nat.le_of_ble_eq_true rfl⟩) hW (fun H locs hW => ?_)
              refine lv_iload_n hx hb dX6_readRank_89 rfl (lv_at hl 1 rfl) ?_
              refine lv_icmp_ne (tgt := 124) hx hb dX6_readRank_90 (by decide) (fun c_10 => ?_) (fun c_10 => ?_)
              · skip
                exact m_vret S hr hlk hW dX6_readRank_124 (by rw [← hres, pLoop_n c_10]; exact ⟨hT1, hf1⟩)
              · skip
                refine lv_aload_n hx hb dX6_readRank_93 rfl (lv_at hl 0 rfl) ?_
                refine m_geti S hW hT.h1 3 rfl kX6 (iW6 _) (by decide) (List.mem_cons_of_mem _ (wa_6 _ (List.mem_of_getElem? (i := 7) (by decide +kernel)))) dX6_readRank_94 ?_
                refine m_top (y := q1.2.1) hT1.tk ?_
                refine lv_istore (lv' := [(5, .int q1.2.1), (0, .ref (ad 1)), (1, .int (nI 4)), (2, .int (nI o)), (3, .int (nI 160)), (4, .int (nI k))]) hx hb dX6_readRank_97 hl (by decide) rfl (fun ls hl => ?_)
                refine lv_aload_n hx hb dX6_readRank_99 rfl (lv_at hl 1 rfl) ?_
                refine m_cv (m_rV S hW (c_X6_advance l G ad sh V1 sz B q1 hT1) (cwV 0 hts (gCall [.methodLink RX6 45 yX6_advance, .instanceMethod yX6_advance, .selects RX6 yX6_advance yX6_advance, .initialized RX6] (List.forall_mem_cons.mpr ⟨(wa_6 _ (List.mem_of_getElem? (i := 11) (by decide +kernel))), (List.forall_mem_cons.mpr ⟨(wa_6 _ (List.mem_of_getElem? (i := 8) (by decide +kernel))), (List.forall_mem_cons.mpr ⟨(wa_6 _ (List.mem_of_getElem? (i := 9) (by decide +kernel))), (List.forall_mem_cons.mpr ⟨(wa_6 _ (List.mem_of_getElem? (i := 10) (by decide +kernel))), (List.forall_mem_cons.mpr ⟨(wa_1 _ (List.mem_of_getElem? (i := 14) (by decide +kernel))), (fun _ h => absurd h List.not_mem_nil)⟩)⟩)⟩)⟩)⟩)) rfl rfl rfl (by decide +kernel) ⟨by dsimp only; omega, by dsimp only; omega⟩) hT.h1 kX6 rfl hl.1 rfl (Nat.le_of_ble_eq_true rfl) dX6_readRank_100 ⟨Nat.le_of_ble_eq_true rfl, Nat.le_of_ble_eq_true rfl⟩) hW (fun V_11 H locs hp_12 hW => ?_)
                obtain ⟨hT_14, hf_15⟩ := hp_12
                refine lv_aload_n hx hb dX6_readRank_103 rfl (lv_at hl 1 rfl) ?_
                refine lv_iload_n hx hb dX6_readRank_104 rfl (lv_at hl 2 rfl) ?_
                refine lv_iconst (v := nI 1) hx hb dX6_readRank_105 (by decide) ?_
                refine lv_iadd hx hb dX6_readRank_106 ?_
                refine m_top (y := nI 5) (nI_add 4 1) ?_
                refine lv_iload_n hx hb dX6_readRank_107 rfl (lv_at hl 3 rfl) ?_
                refine m_cv (m_rV S hW (IHr V_11 (pAdv B sz q1) hT_14) (cwV 2 hts (gCall [.methodLink RX6 53 yX6_readRank, .instanceMethod yX6_readRank, .selects RX6 yX6_readRank yX6_readRank, .initialized RX6] (List.forall_mem_cons.mpr ⟨(wa_8 _ (List.mem_of_getElem? (i := 2) (by decide +kernel))), (List.forall_mem_cons.mpr ⟨(wa_7 _ (List.mem_of_getElem? (i := 23) (by decide +kernel))), (List.forall_mem_cons.mpr ⟨(wa_8 _ (List.mem_of_getElem? (i := 0) (by decide +kernel))), (List.forall_mem_cons.mpr ⟨(wa_8 _ (List.mem_of_getElem? (i := 1) (by decide +kernel))), (List.forall_mem_cons.mpr ⟨(wa_1 _ (List.mem_of_getElem? (i := 14) (by decide +kernel))), (fun _ h => absurd h List.not_mem_nil)⟩)⟩)⟩)⟩)⟩)) rfl rfl rfl (by decide +kernel) ⟨by dsimp only; omega, by dsimp only; omega⟩) hT.h1 kX6 rfl hl.1 rfl (Nat.le_of_ble_eq_true rfl) dX6_readRank_108 ⟨Nat.le_of_ble_eq_true rfl, Nat.le_of_ble_eq_true rfl⟩) hW (fun V_16 H locs hp_17 hW => ?_)
                obtain ⟨hT_19, hf_20⟩ := hp_17
                refine lv_aload_n hx hb dX6_readRank_111 rfl (lv_at hl 1 rfl) ?_
                refine lv_iload hx hb dX6_readRank_112 (lv_at hl 0 rfl) ?_
                refine lv_ineg hx hb dX6_readRank_114 ?_
                refine m_cv (m_rV S hW (c_X6_emit l G ad sh V_16 sz B (fn (pAdv B sz q1)) (-q1.2.1) hT_19) (cwV 1 hts (gCall [.methodLink RX6 87 yX6_emit, .instanceMethod yX6_emit, .selects RX6 yX6_emit yX6_emit, .initialized RX6] (List.forall_mem_cons.mpr ⟨(wa_8 _ (List.mem_of_getElem? (i := 13) (by decide +kernel))), (List.forall_mem_cons.mpr ⟨(wa_8 _ (List.mem_of_getElem? (i := 10) (by decide +kernel))), (List.forall_mem_cons.mpr ⟨(wa_8 _ (List.mem_of_getElem? (i := 11) (by decide +kernel))), (List.forall_mem_cons.mpr ⟨(wa_8 _ (List.mem_of_getElem? (i := 12) (by decide +kernel))), (List.forall_mem_cons.mpr ⟨(wa_1 _ (List.mem_of_getElem? (i := 14) (by decide +kernel))), (fun _ h => absurd h List.not_mem_nil)⟩)⟩)⟩)⟩)⟩)) rfl rfl rfl (by decide +kernel) ⟨by dsimp only; omega, by dsimp only; omega⟩) hT.h1 kX6 rfl hl.1 rfl (Nat.le_of_ble_eq_true rfl) dX6_readRank_115 ⟨Nat.le_of_ble_eq_true rfl, Nat.le_of_ble_eq_true rfl⟩) hW (fun V_21 H locs hp_22 hW => ?_)
                obtain ⟨hT_24, hf_25⟩ := hp_22
                refine lv_iinc (v := nI (k + 1)) (lv' := [(4, .int (nI (k + 1))), (5, .int q1.2.1), (0, .ref (ad 1)), (1, .int (nI 4)), (2, .int (nI o)), (3, .int (nI 160))]) hx hb dX6_readRank_118 hl (k := 5) rfl (m_inc k 1) (by decide) rfl (fun ls hl => ?_)
                refine lv_goto (tgt := 76) hx hb dX6_readRank_121 (by decide) ?_
                exact ih_76  (pJoin B sz fn q1) (k + 1) V_21 _ _ _ (by omega) (by exact hT_24) (by exact ((hf1.trans hf_15).trans hf_20).trans hf_25) (by rw [← hres]; exact (pLoop_s (by omega) c_10).symm) (by omega) hW (lv_sub hl [2, 3, 4, 5, 0] rfl)
        exact loop_76 (160 - 0 + 1) (fn q) 0 V_3 _ _ _ (by omega) (by exact hT_6) (by exact hf_7) (by rfl) (by omega) hW (lv_sub hl [2, 3, 4, 1, 0] rfl)
      · exact absurd c_8 (by decide)
    · exact absurd c_2 (by decide)
  · exact absurd c_1 (by decide)
set_option maxHeartbeats 4000000 in
set_option maxRecDepth 100000 in
theorem c_X6_readRank_3 (l : Launch) (G : mG) (ad : Nat → Nat) (sh : Nat → Option mSh) (V : mV) (sz : Nat) (B : Nat → Int32) (q : pS) (d o : Nat) (fn : pS → pS) (hT : TpOk sh V sz B q) (ho : o < 100) (IHr : ∀ (V : mV) (q : pS), (TpOk sh V sz B q) → mM l yX6_readRank wsX6_readRank ({ frames := 13 + 8 * d + 1, cells := 0, slots := 0, locals := 425 + 200 * d + 26 * 1 } : Room) G ad sh V [.ref (ad 1), .int (nI 4), .int (nI o)] 0 0 (mPv ad sh (fun V' => (TpOk sh V' sz B (fn q)) ∧ (TpFr V V')))) : mM l yX6_readRank wsX6_readRank ({ frames := 13 + 8 * d + 2, cells := 0, slots := 0, locals := 425 + 200 * d + 26 * 2 } : Room) G ad sh V [.ref (ad 1), .int (nI 3), .int (nI o)] 0 0 (mPv ad sh (fun V' => (TpOk sh V' sz B (pLoop (pJoin B sz fn) (nI 3) 160 (fn q))) ∧ (TpFr V V'))) := by
  refine mM.of (cc := cX6_readRank) (maxL := 6) (ret := none) (by decide) rfl (Nat.le_of_ble_eq_true rfl) ?_
  intro p e s m below meth c S hr hlk hnm hW ls hl
  obtain ⟨hx, hb, hml, hown, hts⟩ := id S
  have hl : lv_has ls 6 [(0, .ref (ad 1)), (1, .int (nI 3)), (2, .int (nI o))] := hl
  have hS0 : True := trivial
  have hs1 := hT.s160
  have hn1 := hT.nxl
  have ha1 := hT.tal
  have hc1 := hT.scl
  refine lv_iload_n hx hb dX6_readRank_0 rfl (lv_at hl 1 rfl) ?_
  refine lv_iconst (v := nI 4) hx hb dX6_readRank_1 (by decide) ?_
  refine lv_icmp_le (tgt := 11) hx hb dX6_readRank_2 (by decide) (fun c_1 => ?_) (fun c_1 => ?_)
  · skip
    refine lv_iload_n hx hb dX6_readRank_11 rfl (lv_at hl 1 rfl) ?_
    refine lv_iconst (v := nI 2) hx hb dX6_readRank_12 (by decide) ?_
    refine lv_icmp_ne (tgt := 52) hx hb dX6_readRank_13 (by decide) (fun c_2 => ?_) (fun c_2 => ?_)
    · skip
      refine lv_aload_n hx hb dX6_readRank_52 rfl (lv_at hl 0 rfl) ?_
      refine lv_iload_n hx hb dX6_readRank_53 rfl (lv_at hl 1 rfl) ?_
      refine lv_iconst (v := nI 1) hx hb dX6_readRank_54 (by decide) ?_
      refine lv_iadd hx hb dX6_readRank_55 ?_
      refine m_top (y := nI 4) (nI_add 3 1) ?_
      refine lv_iload_n hx hb dX6_readRank_56 rfl (lv_at hl 2 rfl) ?_
      refine m_cv (m_rV S hW (IHr V q hT) (cwV 2 hts (gCall [.methodLink RX6 53 yX6_readRank, .instanceMethod yX6_readRank, .selects RX6 yX6_readRank yX6_readRank, .initialized RX6] (List.forall_mem_cons.mpr ⟨(wa_8 _ (List.mem_of_getElem? (i := 2) (by decide +kernel))), (List.forall_mem_cons.mpr ⟨(wa_7 _ (List.mem_of_getElem? (i := 23) (by decide +kernel))), (List.forall_mem_cons.mpr ⟨(wa_8 _ (List.mem_of_getElem? (i := 0) (by decide +kernel))), (List.forall_mem_cons.mpr ⟨(wa_8 _ (List.mem_of_getElem? (i := 1) (by decide +kernel))), (List.forall_mem_cons.mpr ⟨(wa_1 _ (List.mem_of_getElem? (i := 14) (by decide +kernel))), (fun _ h => absurd h List.not_mem_nil)⟩)⟩)⟩)⟩)⟩)) rfl rfl rfl (by decide +kernel) ⟨by dsimp only; omega, by dsimp only; omega⟩) hT.h1 kX6 rfl hl.1 rfl (Nat.le_of_ble_eq_true rfl) dX6_readRank_57 ⟨Nat.le_of_ble_eq_true rfl, Nat.le_of_ble_eq_true rfl⟩) hW (fun V_3 H locs hp_4 hW => ?_)
      obtain ⟨hT_6, hf_7⟩ := hp_4
      refine lv_iload_n hx hb dX6_readRank_60 rfl (lv_at hl 1 rfl) ?_
      refine lv_iconst (v := nI 2) hx hb dX6_readRank_61 (by decide) ?_
      refine lv_icmp_ne (tgt := 69) hx hb dX6_readRank_62 (by decide) (fun c_8 => ?_) (fun c_8 => ?_)
      · skip
        refine lv_sipush (v := nI 160) hx hb dX6_readRank_69 (by decide) ?_
        refine lv_istore_n (lv' := [(3, .int (nI 160)), (0, .ref (ad 1)), (1, .int (nI 3)), (2, .int (nI o))]) hx hb dX6_readRank_72 rfl hl (by decide) rfl (fun ls hl => ?_)
        refine lv_iconst (v := nI 0) hx hb dX6_readRank_73 (by decide) ?_
        refine lv_istore (lv' := [(4, .int (nI 0)), (3, .int (nI 160)), (0, .ref (ad 1)), (1, .int (nI 3)), (2, .int (nI o))]) hx hb dX6_readRank_74 hl (by decide) rfl (fun ls hl => ?_)
        have loop_76 : ∀ (n_76 : Nat) (q1 : pS) (k : Nat) (V1 : mV) (H : Heap) (locs : List Loc) (ls : Array Slot), (k ≤ 160) → (TpOk sh V1 sz B q1) → (TpFr V V1) → (pLoop (pJoin B sz fn) (nI 3) (160 - k) q1 = pLoop (pJoin B sz fn) (nI 3) 160 (fn q)) → (160 - k) < n_76 → mC (mA ad sh s.heap.size) s.heap s G ad sh V1 H locs → lv_has ls 6 [(0, .ref (ad 1)), (1, .int (nI 3)), (2, .int (nI o)), (3, .int (nI 160)), (4, .int (nI k))] → W p l e ({ frames := 13 + 8 * d + 2, cells := 0, slots := 0, locals := 425 + 200 * d + 26 * 2 } : Room) s m ([.ref (ad 1), .int (nI 3), .int (nI o)] : List Value).toArray below meth c H locs 0 0 (MQ below (mPost G ad sh s.heap.size (mPv ad sh (fun V' => (TpOk sh V' sz B (pLoop (pJoin B sz fn) (nI 3) 160 (fn q))) ∧ (TpFr V V')))) ([.ref (ad 1), .int (nI 3), .int (nI o)] : List Value).toArray s 0 0 (mA ad sh s.heap.size)) (F0 m 76 ls []) := by
          intro n_76
          induction n_76 with
          | zero => intro q1 k V1 H locs ls hk hT1 hf1 hres hM_ hW hl; omega
          | succ n_76 ih_76 =>
            intro q1 k V1 H locs ls hk hT1 hf1 hres hM_ hW hl
            refine lv_iload hx hb dX6_readRank_76 (lv_at hl 4 rfl) ?_
            refine lv_iload_n hx hb dX6_readRank_78 rfl (lv_at hl 3 rfl) ?_
            refine lv_icmp_ge (tgt := 124) hx hb dX6_readRank_79 (by decide) (fun c_9 => ?_) (fun c_9 => ?_)
            · skip
              have c_9 : 160 ≤ k := (nI_leI (by omega) (by omega)).mp c_9
              exact m_vret S hr hlk hW dX6_readRank_124 (by rw [show 160 - k = 0 by omega] at hres; rw [← hres]; exact ⟨hT1, hf1⟩)
            · skip
              have c_9 : ¬ 160 ≤ k := mt (nI_leI (by omega) (by omega)).mpr c_9
              refine lv_aload_n hx hb dX6_readRank_82 rfl (lv_at hl 0 rfl) ?_
              refine m_geti S hW hT.h1 3 rfl kX6 (iW6 _) (by decide) (List.mem_cons_of_mem _ (wa_6 _ (List.mem_of_getElem? (i := 7) (by decide +kernel)))) dX6_readRank_83 ?_
              refine m_top (y := q1.2.1) hT1.tk ?_
              refine m_cie (m_rS S hW (c_X9_rankOf l G ad sh V1 q1.2.1) (va_cwS 1 hts (gCall [.methodLink RX6 90 yX9_rankOf, .static yX9_rankOf, .initialized RX9] (List.forall_mem_cons.mpr ⟨(wa_7 _ (List.mem_of_getElem? (i := 14) (by decide +kernel))), (List.forall_mem_cons.mpr ⟨(wa_8 _ (List.mem_of_getElem? (i := 14) (by decide +kernel))), (List.forall_mem_cons.mpr ⟨(wa_7 _ (List.mem_of_getElem? (i := 13) (by decide +kernel))), (List.forall_mem_cons.mpr ⟨(wa_7 _ (List.mem_of_getElem? (i := 10) (by decide +kernel))), (fun _ h => absurd h List.not_mem_nil)⟩)⟩)⟩)⟩)) rfl rfl rfl (by decide +kernel) ⟨by dsimp only; omega, by dsimp only; omega⟩) rfl hl.1 rfl (Nat.le_of_ble_eq_true rfl) dX6_readRank_86 ⟨Nat.le_of_ble_eq_true rfl, Nat.le_of_ble_eq_true rfl⟩) hW (fun H locs hW => ?_)
              refine lv_iload_n hx hb dX6_readRank_89 rfl (lv_at hl 1 rfl) ?_
              refine lv_icmp_ne (tgt := 124) hx hb dX6_readRank_90 (by decide) (fun c_10 => ?_) (fun c_10 => ?_)
              · skip
                exact m_vret S hr hlk hW dX6_readRank_124 (by rw [← hres, pLoop_n c_10]; exact ⟨hT1, hf1⟩)
              · skip
                refine lv_aload_n hx hb dX6_readRank_93 rfl (lv_at hl 0 rfl) ?_
                refine m_geti S hW hT.h1 3 rfl kX6 (iW6 _) (by decide) (List.mem_cons_of_mem _ (wa_6 _ (List.mem_of_getElem? (i := 7) (by decide +kernel)))) dX6_readRank_94 ?_
                refine m_top (y := q1.2.1) hT1.tk ?_
                refine lv_istore (lv' := [(5, .int q1.2.1), (0, .ref (ad 1)), (1, .int (nI 3)), (2, .int (nI o)), (3, .int (nI 160)), (4, .int (nI k))]) hx hb dX6_readRank_97 hl (by decide) rfl (fun ls hl => ?_)
                refine lv_aload_n hx hb dX6_readRank_99 rfl (lv_at hl 1 rfl) ?_
                refine m_cv (m_rV S hW (c_X6_advance l G ad sh V1 sz B q1 hT1) (cwV 0 hts (gCall [.methodLink RX6 45 yX6_advance, .instanceMethod yX6_advance, .selects RX6 yX6_advance yX6_advance, .initialized RX6] (List.forall_mem_cons.mpr ⟨(wa_6 _ (List.mem_of_getElem? (i := 11) (by decide +kernel))), (List.forall_mem_cons.mpr ⟨(wa_6 _ (List.mem_of_getElem? (i := 8) (by decide +kernel))), (List.forall_mem_cons.mpr ⟨(wa_6 _ (List.mem_of_getElem? (i := 9) (by decide +kernel))), (List.forall_mem_cons.mpr ⟨(wa_6 _ (List.mem_of_getElem? (i := 10) (by decide +kernel))), (List.forall_mem_cons.mpr ⟨(wa_1 _ (List.mem_of_getElem? (i := 14) (by decide +kernel))), (fun _ h => absurd h List.not_mem_nil)⟩)⟩)⟩)⟩)⟩)) rfl rfl rfl (by decide +kernel) ⟨by dsimp only; omega, by dsimp only; omega⟩) hT.h1 kX6 rfl hl.1 rfl (Nat.le_of_ble_eq_true rfl) dX6_readRank_100 ⟨Nat.le_of_ble_eq_true rfl, Nat.le_of_ble_eq_true rfl⟩) hW (fun V_11 H locs hp_12 hW => ?_)
                obtain ⟨hT_14, hf_15⟩ := hp_12
                refine lv_aload_n hx hb dX6_readRank_103 rfl (lv_at hl 1 rfl) ?_
                refine lv_iload_n hx hb dX6_readRank_104 rfl (lv_at hl 2 rfl) ?_
                refine lv_iconst (v := nI 1) hx hb dX6_readRank_105 (by decide) ?_
                refine lv_iadd hx hb dX6_readRank_106 ?_
                refine m_top (y := nI 4) (nI_add 3 1) ?_
                refine lv_iload_n hx hb dX6_readRank_107 rfl (lv_at hl 3 rfl) ?_
                refine m_cv (m_rV S hW (IHr V_11 (pAdv B sz q1) hT_14) (cwV 2 hts (gCall [.methodLink RX6 53 yX6_readRank, .instanceMethod yX6_readRank, .selects RX6 yX6_readRank yX6_readRank, .initialized RX6] (List.forall_mem_cons.mpr ⟨(wa_8 _ (List.mem_of_getElem? (i := 2) (by decide +kernel))), (List.forall_mem_cons.mpr ⟨(wa_7 _ (List.mem_of_getElem? (i := 23) (by decide +kernel))), (List.forall_mem_cons.mpr ⟨(wa_8 _ (List.mem_of_getElem? (i := 0) (by decide +kernel))), (List.forall_mem_cons.mpr ⟨(wa_8 _ (List.mem_of_getElem? (i := 1) (by decide +kernel))), (List.forall_mem_cons.mpr ⟨(wa_1 _ (List.mem_of_getElem? (i := 14) (by decide +kernel))), (fun _ h => absurd h List.not_mem_nil)⟩)⟩)⟩)⟩)⟩)) rfl rfl rfl (by decide +kernel) ⟨by dsimp only; omega, by dsimp only; omega⟩) hT.h1 kX6 rfl hl.1 rfl (Nat.le_of_ble_eq_true rfl) dX6_readRank_108 ⟨Nat.le_of_ble_eq_true rfl, Nat.le_of_ble_eq_true rfl⟩) hW (fun V_16 H locs hp_17 hW => ?_)
                obtain ⟨hT_19, hf_20⟩ := hp_17
                refine lv_aload_n hx hb dX6_readRank_111 rfl (lv_at hl 1 rfl) ?_
                refine lv_iload hx hb dX6_readRank_112 (lv_at hl 0 rfl) ?_
                refine lv_ineg hx hb dX6_readRank_114 ?_
                refine m_cv (m_rV S hW (c_X6_emit l G ad sh V_16 sz B (fn (pAdv B sz q1)) (-q1.2.1) hT_19) (cwV 1 hts (gCall [.methodLink RX6 87 yX6_emit, .instanceMethod yX6_emit, .selects RX6 yX6_emit yX6_emit, .initialized RX6] (List.forall_mem_cons.mpr ⟨(wa_8 _ (List.mem_of_getElem? (i := 13) (by decide +kernel))), (List.forall_mem_cons.mpr ⟨(wa_8 _ (List.mem_of_getElem? (i := 10) (by decide +kernel))), (List.forall_mem_cons.mpr ⟨(wa_8 _ (List.mem_of_getElem? (i := 11) (by decide +kernel))), (List.forall_mem_cons.mpr ⟨(wa_8 _ (List.mem_of_getElem? (i := 12) (by decide +kernel))), (List.forall_mem_cons.mpr ⟨(wa_1 _ (List.mem_of_getElem? (i := 14) (by decide +kernel))), (fun _ h => absurd h List.not_mem_nil)⟩)⟩)⟩)⟩)⟩)) rfl rfl rfl (by decide +kernel) ⟨by dsimp only; omega, by dsimp only; omega⟩) hT.h1 kX6 rfl hl.1 rfl (Nat.le_of_ble_eq_true rfl) dX6_readRank_115 ⟨Nat.le_of_ble_eq_true rfl, Nat.le_of_ble_eq_true rfl⟩) hW (fun V_21 H locs hp_22 hW => ?_)
                obtain ⟨hT_24, hf_25⟩ := hp_22
                refine lv_iinc (v := nI (k + 1)) (lv' := [(4, .int (nI (k + 1))), (5, .int q1.2.1), (0, .ref (ad 1)), (1, .int (nI 3)), (2, .int (nI o)), (3, .int (nI 160))]) hx hb dX6_readRank_118 hl (k := 5) rfl (m_inc k 1) (by decide) rfl (fun ls hl => ?_)
                refine lv_goto (tgt := 76) hx hb dX6_readRank_121 (by decide) ?_
                exact ih_76  (pJoin B sz fn q1) (k + 1) V_21 _ _ _ (by omega) (by exact hT_24) (by exact ((hf1.trans hf_15).trans hf_20).trans hf_25) (by rw [← hres]; exact (pLoop_s (by omega) c_10).symm) (by omega) hW (lv_sub hl [2, 3, 4, 5, 0] rfl)
        exact loop_76 (160 - 0 + 1) (fn q) 0 V_3 _ _ _ (by omega) (by exact hT_6) (by exact hf_7) (by rfl) (by omega) hW (lv_sub hl [2, 3, 4, 1, 0] rfl)
      · exact absurd c_8 (by decide)
    · exact absurd c_2 (by decide)
  · exact absurd c_1 (by decide)
set_option maxHeartbeats 4000000 in
set_option maxRecDepth 100000 in
theorem c_X6_readRank_1 (l : Launch) (G : mG) (ad : Nat → Nat) (sh : Nat → Option mSh) (V : mV) (sz : Nat) (B : Nat → Int32) (q : pS) (d o : Nat) (fn : pS → pS) (hT : TpOk sh V sz B q) (ho : o < 100) (IHr : ∀ (V : mV) (q : pS), (TpOk sh V sz B q) → mM l yX6_readRank wsX6_readRank ({ frames := 13 + 8 * d + 3, cells := 0, slots := 0, locals := 425 + 200 * d + 26 * 3 } : Room) G ad sh V [.ref (ad 1), .int (nI 2), .int (nI o)] 0 0 (mPv ad sh (fun V' => (TpOk sh V' sz B (fn q)) ∧ (TpFr V V')))) : mM l yX6_readRank wsX6_readRank ({ frames := 13 + 8 * d + 4, cells := 0, slots := 0, locals := 425 + 200 * d + 26 * 4 } : Room) G ad sh V [.ref (ad 1), .int (nI 1), .int (nI o)] 0 0 (mPv ad sh (fun V' => (TpOk sh V' sz B (pLoop (pJoin B sz fn) (nI 1) 160 (fn q))) ∧ (TpFr V V'))) := by
  refine mM.of (cc := cX6_readRank) (maxL := 6) (ret := none) (by decide) rfl (Nat.le_of_ble_eq_true rfl) ?_
  intro p e s m below meth c S hr hlk hnm hW ls hl
  obtain ⟨hx, hb, hml, hown, hts⟩ := id S
  have hl : lv_has ls 6 [(0, .ref (ad 1)), (1, .int (nI 1)), (2, .int (nI o))] := hl
  have hS0 : True := trivial
  have hs1 := hT.s160
  have hn1 := hT.nxl
  have ha1 := hT.tal
  have hc1 := hT.scl
  refine lv_iload_n hx hb dX6_readRank_0 rfl (lv_at hl 1 rfl) ?_
  refine lv_iconst (v := nI 4) hx hb dX6_readRank_1 (by decide) ?_
  refine lv_icmp_le (tgt := 11) hx hb dX6_readRank_2 (by decide) (fun c_1 => ?_) (fun c_1 => ?_)
  · skip
    refine lv_iload_n hx hb dX6_readRank_11 rfl (lv_at hl 1 rfl) ?_
    refine lv_iconst (v := nI 2) hx hb dX6_readRank_12 (by decide) ?_
    refine lv_icmp_ne (tgt := 52) hx hb dX6_readRank_13 (by decide) (fun c_2 => ?_) (fun c_2 => ?_)
    · skip
      refine lv_aload_n hx hb dX6_readRank_52 rfl (lv_at hl 0 rfl) ?_
      refine lv_iload_n hx hb dX6_readRank_53 rfl (lv_at hl 1 rfl) ?_
      refine lv_iconst (v := nI 1) hx hb dX6_readRank_54 (by decide) ?_
      refine lv_iadd hx hb dX6_readRank_55 ?_
      refine m_top (y := nI 2) (nI_add 1 1) ?_
      refine lv_iload_n hx hb dX6_readRank_56 rfl (lv_at hl 2 rfl) ?_
      refine m_cv (m_rV S hW (IHr V q hT) (cwV 2 hts (gCall [.methodLink RX6 53 yX6_readRank, .instanceMethod yX6_readRank, .selects RX6 yX6_readRank yX6_readRank, .initialized RX6] (List.forall_mem_cons.mpr ⟨(wa_8 _ (List.mem_of_getElem? (i := 2) (by decide +kernel))), (List.forall_mem_cons.mpr ⟨(wa_7 _ (List.mem_of_getElem? (i := 23) (by decide +kernel))), (List.forall_mem_cons.mpr ⟨(wa_8 _ (List.mem_of_getElem? (i := 0) (by decide +kernel))), (List.forall_mem_cons.mpr ⟨(wa_8 _ (List.mem_of_getElem? (i := 1) (by decide +kernel))), (List.forall_mem_cons.mpr ⟨(wa_1 _ (List.mem_of_getElem? (i := 14) (by decide +kernel))), (fun _ h => absurd h List.not_mem_nil)⟩)⟩)⟩)⟩)⟩)) rfl rfl rfl (by decide +kernel) ⟨by dsimp only; omega, by dsimp only; omega⟩) hT.h1 kX6 rfl hl.1 rfl (Nat.le_of_ble_eq_true rfl) dX6_readRank_57 ⟨Nat.le_of_ble_eq_true rfl, Nat.le_of_ble_eq_true rfl⟩) hW (fun V_3 H locs hp_4 hW => ?_)
      obtain ⟨hT_6, hf_7⟩ := hp_4
      refine lv_iload_n hx hb dX6_readRank_60 rfl (lv_at hl 1 rfl) ?_
      refine lv_iconst (v := nI 2) hx hb dX6_readRank_61 (by decide) ?_
      refine lv_icmp_ne (tgt := 69) hx hb dX6_readRank_62 (by decide) (fun c_8 => ?_) (fun c_8 => ?_)
      · skip
        refine lv_sipush (v := nI 160) hx hb dX6_readRank_69 (by decide) ?_
        refine lv_istore_n (lv' := [(3, .int (nI 160)), (0, .ref (ad 1)), (1, .int (nI 1)), (2, .int (nI o))]) hx hb dX6_readRank_72 rfl hl (by decide) rfl (fun ls hl => ?_)
        refine lv_iconst (v := nI 0) hx hb dX6_readRank_73 (by decide) ?_
        refine lv_istore (lv' := [(4, .int (nI 0)), (3, .int (nI 160)), (0, .ref (ad 1)), (1, .int (nI 1)), (2, .int (nI o))]) hx hb dX6_readRank_74 hl (by decide) rfl (fun ls hl => ?_)
        have loop_76 : ∀ (n_76 : Nat) (q1 : pS) (k : Nat) (V1 : mV) (H : Heap) (locs : List Loc) (ls : Array Slot), (k ≤ 160) → (TpOk sh V1 sz B q1) → (TpFr V V1) → (pLoop (pJoin B sz fn) (nI 1) (160 - k) q1 = pLoop (pJoin B sz fn) (nI 1) 160 (fn q)) → (160 - k) < n_76 → mC (mA ad sh s.heap.size) s.heap s G ad sh V1 H locs → lv_has ls 6 [(0, .ref (ad 1)), (1, .int (nI 1)), (2, .int (nI o)), (3, .int (nI 160)), (4, .int (nI k))] → W p l e ({ frames := 13 + 8 * d + 4, cells := 0, slots := 0, locals := 425 + 200 * d + 26 * 4 } : Room) s m ([.ref (ad 1), .int (nI 1), .int (nI o)] : List Value).toArray below meth c H locs 0 0 (MQ below (mPost G ad sh s.heap.size (mPv ad sh (fun V' => (TpOk sh V' sz B (pLoop (pJoin B sz fn) (nI 1) 160 (fn q))) ∧ (TpFr V V')))) ([.ref (ad 1), .int (nI 1), .int (nI o)] : List Value).toArray s 0 0 (mA ad sh s.heap.size)) (F0 m 76 ls []) := by
          intro n_76
          induction n_76 with
          | zero => intro q1 k V1 H locs ls hk hT1 hf1 hres hM_ hW hl; omega
          | succ n_76 ih_76 =>
            intro q1 k V1 H locs ls hk hT1 hf1 hres hM_ hW hl
            refine lv_iload hx hb dX6_readRank_76 (lv_at hl 4 rfl) ?_
            refine lv_iload_n hx hb dX6_readRank_78 rfl (lv_at hl 3 rfl) ?_
            refine lv_icmp_ge (tgt := 124) hx hb dX6_readRank_79 (by decide) (fun c_9 => ?_) (fun c_9 => ?_)
            · skip
              have c_9 : 160 ≤ k := (nI_leI (by omega) (by omega)).mp c_9
              exact m_vret S hr hlk hW dX6_readRank_124 (by rw [show 160 - k = 0 by omega] at hres; rw [← hres]; exact ⟨hT1, hf1⟩)
            · skip
              have c_9 : ¬ 160 ≤ k := mt (nI_leI (by omega) (by omega)).mpr c_9
              refine lv_aload_n hx hb dX6_readRank_82 rfl (lv_at hl 0 rfl) ?_
              refine m_geti S hW hT.h1 3 rfl kX6 (iW6 _) (by decide) (List.mem_cons_of_mem _ (wa_6 _ (List.mem_of_getElem? (i := 7) (by decide +kernel)))) dX6_readRank_83 ?_
              refine m_top (y := q1.2.1) hT1.tk ?_
              refine m_cie (m_rS S hW (c_X9_rankOf l G ad sh V1 q1.2.1) (va_cwS 1 hts (gCall [.methodLink RX6 90 yX9_rankOf, .static yX9_rankOf, .initialized RX9] (List.forall_mem_cons.mpr ⟨(wa_7 _ (List.mem_of_getElem? (i := 14) (by decide +kernel))), (List.forall_mem_cons.mpr ⟨(wa_8 _ (List.mem_of_getElem? (i := 14) (by decide +kernel))), (List.forall_mem_cons.mpr ⟨(wa_7 _ (List.mem_of_getElem? (i := 13) (by decide +kernel))), (List.forall_mem_cons.mpr ⟨(wa_7 _ (List.mem_of_getElem? (i := 10) (by decide +kernel))), (fun _ h => absurd h List.not_mem_nil)⟩)⟩)⟩)⟩)) rfl rfl rfl (by decide +kernel) ⟨by dsimp only; omega, by dsimp only; omega⟩) rfl hl.1 rfl (Nat.le_of_ble_eq_true rfl) dX6_readRank_86 ⟨Nat.le_of_ble_eq_true rfl, Nat.le_of_ble_eq_true rfl⟩) hW (fun H locs hW => ?_)
              refine lv_iload_n hx hb dX6_readRank_89 rfl (lv_at hl 1 rfl) ?_
              refine lv_icmp_ne (tgt := 124) hx hb dX6_readRank_90 (by decide) (fun c_10 => ?_) (fun c_10 => ?_)
              · skip
                exact m_vret S hr hlk hW dX6_readRank_124 (by rw [← hres, pLoop_n c_10]; exact ⟨hT1, hf1⟩)
              · skip
                refine lv_aload_n hx hb dX6_readRank_93 rfl (lv_at hl 0 rfl) ?_
                refine m_geti S hW hT.h1 3 rfl kX6 (iW6 _) (by decide) (List.mem_cons_of_mem _ (wa_6 _ (List.mem_of_getElem? (i := 7) (by decide +kernel)))) dX6_readRank_94 ?_
                refine m_top (y := q1.2.1) hT1.tk ?_
                refine lv_istore (lv' := [(5, .int q1.2.1), (0, .ref (ad 1)), (1, .int (nI 1)), (2, .int (nI o)), (3, .int (nI 160)), (4, .int (nI k))]) hx hb dX6_readRank_97 hl (by decide) rfl (fun ls hl => ?_)
                refine lv_aload_n hx hb dX6_readRank_99 rfl (lv_at hl 1 rfl) ?_
                refine m_cv (m_rV S hW (c_X6_advance l G ad sh V1 sz B q1 hT1) (cwV 0 hts (gCall [.methodLink RX6 45 yX6_advance, .instanceMethod yX6_advance, .selects RX6 yX6_advance yX6_advance, .initialized RX6] (List.forall_mem_cons.mpr ⟨(wa_6 _ (List.mem_of_getElem? (i := 11) (by decide +kernel))), (List.forall_mem_cons.mpr ⟨(wa_6 _ (List.mem_of_getElem? (i := 8) (by decide +kernel))), (List.forall_mem_cons.mpr ⟨(wa_6 _ (List.mem_of_getElem? (i := 9) (by decide +kernel))), (List.forall_mem_cons.mpr ⟨(wa_6 _ (List.mem_of_getElem? (i := 10) (by decide +kernel))), (List.forall_mem_cons.mpr ⟨(wa_1 _ (List.mem_of_getElem? (i := 14) (by decide +kernel))), (fun _ h => absurd h List.not_mem_nil)⟩)⟩)⟩)⟩)⟩)) rfl rfl rfl (by decide +kernel) ⟨by dsimp only; omega, by dsimp only; omega⟩) hT.h1 kX6 rfl hl.1 rfl (Nat.le_of_ble_eq_true rfl) dX6_readRank_100 ⟨Nat.le_of_ble_eq_true rfl, Nat.le_of_ble_eq_true rfl⟩) hW (fun V_11 H locs hp_12 hW => ?_)
                obtain ⟨hT_14, hf_15⟩ := hp_12
                refine lv_aload_n hx hb dX6_readRank_103 rfl (lv_at hl 1 rfl) ?_
                refine lv_iload_n hx hb dX6_readRank_104 rfl (lv_at hl 2 rfl) ?_
                refine lv_iconst (v := nI 1) hx hb dX6_readRank_105 (by decide) ?_
                refine lv_iadd hx hb dX6_readRank_106 ?_
                refine m_top (y := nI 2) (nI_add 1 1) ?_
                refine lv_iload_n hx hb dX6_readRank_107 rfl (lv_at hl 3 rfl) ?_
                refine m_cv (m_rV S hW (IHr V_11 (pAdv B sz q1) hT_14) (cwV 2 hts (gCall [.methodLink RX6 53 yX6_readRank, .instanceMethod yX6_readRank, .selects RX6 yX6_readRank yX6_readRank, .initialized RX6] (List.forall_mem_cons.mpr ⟨(wa_8 _ (List.mem_of_getElem? (i := 2) (by decide +kernel))), (List.forall_mem_cons.mpr ⟨(wa_7 _ (List.mem_of_getElem? (i := 23) (by decide +kernel))), (List.forall_mem_cons.mpr ⟨(wa_8 _ (List.mem_of_getElem? (i := 0) (by decide +kernel))), (List.forall_mem_cons.mpr ⟨(wa_8 _ (List.mem_of_getElem? (i := 1) (by decide +kernel))), (List.forall_mem_cons.mpr ⟨(wa_1 _ (List.mem_of_getElem? (i := 14) (by decide +kernel))), (fun _ h => absurd h List.not_mem_nil)⟩)⟩)⟩)⟩)⟩)) rfl rfl rfl (by decide +kernel) ⟨by dsimp only; omega, by dsimp only; omega⟩) hT.h1 kX6 rfl hl.1 rfl (Nat.le_of_ble_eq_true rfl) dX6_readRank_108 ⟨Nat.le_of_ble_eq_true rfl, Nat.le_of_ble_eq_true rfl⟩) hW (fun V_16 H locs hp_17 hW => ?_)
                obtain ⟨hT_19, hf_20⟩ := hp_17
                refine lv_aload_n hx hb dX6_readRank_111 rfl (lv_at hl 1 rfl) ?_
                refine lv_iload hx hb dX6_readRank_112 (lv_at hl 0 rfl) ?_
                refine lv_ineg hx hb dX6_readRank_114 ?_
                refine m_cv (m_rV S hW (c_X6_emit l G ad sh V_16 sz B (fn (pAdv B sz q1)) (-q1.2.1) hT_19) (cwV 1 hts (gCall [.methodLink RX6 87 yX6_emit, .instanceMethod yX6_emit, .selects RX6 yX6_emit yX6_emit, .initialized RX6] (List.forall_mem_cons.mpr ⟨(wa_8 _ (List.mem_of_getElem? (i := 13) (by decide +kernel))), (List.forall_mem_cons.mpr ⟨(wa_8 _ (List.mem_of_getElem? (i := 10) (by decide +kernel))), (List.forall_mem_cons.mpr ⟨(wa_8 _ (List.mem_of_getElem? (i := 11) (by decide +kernel))), (List.forall_mem_cons.mpr ⟨(wa_8 _ (List.mem_of_getElem? (i := 12) (by decide +kernel))), (List.forall_mem_cons.mpr ⟨(wa_1 _ (List.mem_of_getElem? (i := 14) (by decide +kernel))), (fun _ h => absurd h List.not_mem_nil)⟩)⟩)⟩)⟩)⟩)) rfl rfl rfl (by decide +kernel) ⟨by dsimp only; omega, by dsimp only; omega⟩) hT.h1 kX6 rfl hl.1 rfl (Nat.le_of_ble_eq_true rfl) dX6_readRank_115 ⟨Nat.le_of_ble_eq_true rfl, Nat.le_of_ble_eq_true rfl⟩) hW (fun V_21 H locs hp_22 hW => ?_)
                obtain ⟨hT_24, hf_25⟩ := hp_22
                refine lv_iinc (v := nI (k + 1)) (lv' := [(4, .int (nI (k + 1))), (5, .int q1.2.1), (0, .ref (ad 1)), (1, .int (nI 1)), (2, .int (nI o)), (3, .int (nI 160))]) hx hb dX6_readRank_118 hl (k := 5) rfl (m_inc k 1) (by decide) rfl (fun ls hl => ?_)
                refine lv_goto (tgt := 76) hx hb dX6_readRank_121 (by decide) ?_
                exact ih_76  (pJoin B sz fn q1) (k + 1) V_21 _ _ _ (by omega) (by exact hT_24) (by exact ((hf1.trans hf_15).trans hf_20).trans hf_25) (by rw [← hres]; exact (pLoop_s (by omega) c_10).symm) (by omega) hW (lv_sub hl [2, 3, 4, 5, 0] rfl)
        exact loop_76 (160 - 0 + 1) (fn q) 0 V_3 _ _ _ (by omega) (by exact hT_6) (by exact hf_7) (by rfl) (by omega) hW (lv_sub hl [2, 3, 4, 1, 0] rfl)
      · exact absurd c_8 (by decide)
    · exact absurd c_2 (by decide)
  · exact absurd c_1 (by decide)
set_option maxHeartbeats 4000000 in
set_option maxRecDepth 100000 in
theorem c_X6_readRank_0 (l : Launch) (G : mG) (ad : Nat → Nat) (sh : Nat → Option mSh) (V : mV) (sz : Nat) (B : Nat → Int32) (q : pS) (d o : Nat) (fn : pS → pS) (hT : TpOk sh V sz B q) (ho : o < 100) (IHr : ∀ (V : mV) (q : pS), (TpOk sh V sz B q) → mM l yX6_readRank wsX6_readRank ({ frames := 13 + 8 * d + 4, cells := 0, slots := 0, locals := 425 + 200 * d + 26 * 4 } : Room) G ad sh V [.ref (ad 1), .int (nI 1), .int (nI o)] 0 0 (mPv ad sh (fun V' => (TpOk sh V' sz B (fn q)) ∧ (TpFr V V')))) : mM l yX6_readRank wsX6_readRank ({ frames := 13 + 8 * d + 5, cells := 0, slots := 0, locals := 425 + 200 * d + 26 * 5 } : Room) G ad sh V [.ref (ad 1), .int (nI 0), .int (nI o)] 0 0 (mPv ad sh (fun V' => (TpOk sh V' sz B (pLoop (pJoin B sz fn) (nI 0) 160 (fn q))) ∧ (TpFr V V'))) := by
  refine mM.of (cc := cX6_readRank) (maxL := 6) (ret := none) (by decide) rfl (Nat.le_of_ble_eq_true rfl) ?_
  intro p e s m below meth c S hr hlk hnm hW ls hl
  obtain ⟨hx, hb, hml, hown, hts⟩ := id S
  have hl : lv_has ls 6 [(0, .ref (ad 1)), (1, .int (nI 0)), (2, .int (nI o))] := hl
  have hS0 : True := trivial
  have hs1 := hT.s160
  have hn1 := hT.nxl
  have ha1 := hT.tal
  have hc1 := hT.scl
  refine lv_iload_n hx hb dX6_readRank_0 rfl (lv_at hl 1 rfl) ?_
  refine lv_iconst (v := nI 4) hx hb dX6_readRank_1 (by decide) ?_
  refine lv_icmp_le (tgt := 11) hx hb dX6_readRank_2 (by decide) (fun c_1 => ?_) (fun c_1 => ?_)
  · skip
    refine lv_iload_n hx hb dX6_readRank_11 rfl (lv_at hl 1 rfl) ?_
    refine lv_iconst (v := nI 2) hx hb dX6_readRank_12 (by decide) ?_
    refine lv_icmp_ne (tgt := 52) hx hb dX6_readRank_13 (by decide) (fun c_2 => ?_) (fun c_2 => ?_)
    · skip
      refine lv_aload_n hx hb dX6_readRank_52 rfl (lv_at hl 0 rfl) ?_
      refine lv_iload_n hx hb dX6_readRank_53 rfl (lv_at hl 1 rfl) ?_
      refine lv_iconst (v := nI 1) hx hb dX6_readRank_54 (by decide) ?_
      refine lv_iadd hx hb dX6_readRank_55 ?_
      refine m_top (y := nI 1) (nI_add 0 1) ?_
      refine lv_iload_n hx hb dX6_readRank_56 rfl (lv_at hl 2 rfl) ?_
      refine m_cv (m_rV S hW (IHr V q hT) (cwV 2 hts (gCall [.methodLink RX6 53 yX6_readRank, .instanceMethod yX6_readRank, .selects RX6 yX6_readRank yX6_readRank, .initialized RX6] (List.forall_mem_cons.mpr ⟨(wa_8 _ (List.mem_of_getElem? (i := 2) (by decide +kernel))), (List.forall_mem_cons.mpr ⟨(wa_7 _ (List.mem_of_getElem? (i := 23) (by decide +kernel))), (List.forall_mem_cons.mpr ⟨(wa_8 _ (List.mem_of_getElem? (i := 0) (by decide +kernel))), (List.forall_mem_cons.mpr ⟨(wa_8 _ (List.mem_of_getElem? (i := 1) (by decide +kernel))), (List.forall_mem_cons.mpr ⟨(wa_1 _ (List.mem_of_getElem? (i := 14) (by decide +kernel))), (fun _ h => absurd h List.not_mem_nil)⟩)⟩)⟩)⟩)⟩)) rfl rfl rfl (by decide +kernel) ⟨by dsimp only; omega, by dsimp only; omega⟩) hT.h1 kX6 rfl hl.1 rfl (Nat.le_of_ble_eq_true rfl) dX6_readRank_57 ⟨Nat.le_of_ble_eq_true rfl, Nat.le_of_ble_eq_true rfl⟩) hW (fun V_3 H locs hp_4 hW => ?_)
      obtain ⟨hT_6, hf_7⟩ := hp_4
      refine lv_iload_n hx hb dX6_readRank_60 rfl (lv_at hl 1 rfl) ?_
      refine lv_iconst (v := nI 2) hx hb dX6_readRank_61 (by decide) ?_
      refine lv_icmp_ne (tgt := 69) hx hb dX6_readRank_62 (by decide) (fun c_8 => ?_) (fun c_8 => ?_)
      · skip
        refine lv_sipush (v := nI 160) hx hb dX6_readRank_69 (by decide) ?_
        refine lv_istore_n (lv' := [(3, .int (nI 160)), (0, .ref (ad 1)), (1, .int (nI 0)), (2, .int (nI o))]) hx hb dX6_readRank_72 rfl hl (by decide) rfl (fun ls hl => ?_)
        refine lv_iconst (v := nI 0) hx hb dX6_readRank_73 (by decide) ?_
        refine lv_istore (lv' := [(4, .int (nI 0)), (3, .int (nI 160)), (0, .ref (ad 1)), (1, .int (nI 0)), (2, .int (nI o))]) hx hb dX6_readRank_74 hl (by decide) rfl (fun ls hl => ?_)
        have loop_76 : ∀ (n_76 : Nat) (q1 : pS) (k : Nat) (V1 : mV) (H : Heap) (locs : List Loc) (ls : Array Slot), (k ≤ 160) → (TpOk sh V1 sz B q1) → (TpFr V V1) → (pLoop (pJoin B sz fn) (nI 0) (160 - k) q1 = pLoop (pJoin B sz fn) (nI 0) 160 (fn q)) → (160 - k) < n_76 → mC (mA ad sh s.heap.size) s.heap s G ad sh V1 H locs → lv_has ls 6 [(0, .ref (ad 1)), (1, .int (nI 0)), (2, .int (nI o)), (3, .int (nI 160)), (4, .int (nI k))] → W p l e ({ frames := 13 + 8 * d + 5, cells := 0, slots := 0, locals := 425 + 200 * d + 26 * 5 } : Room) s m ([.ref (ad 1), .int (nI 0), .int (nI o)] : List Value).toArray below meth c H locs 0 0 (MQ below (mPost G ad sh s.heap.size (mPv ad sh (fun V' => (TpOk sh V' sz B (pLoop (pJoin B sz fn) (nI 0) 160 (fn q))) ∧ (TpFr V V')))) ([.ref (ad 1), .int (nI 0), .int (nI o)] : List Value).toArray s 0 0 (mA ad sh s.heap.size)) (F0 m 76 ls []) := by
          intro n_76
          induction n_76 with
          | zero => intro q1 k V1 H locs ls hk hT1 hf1 hres hM_ hW hl; omega
          | succ n_76 ih_76 =>
            intro q1 k V1 H locs ls hk hT1 hf1 hres hM_ hW hl
            refine lv_iload hx hb dX6_readRank_76 (lv_at hl 4 rfl) ?_
            refine lv_iload_n hx hb dX6_readRank_78 rfl (lv_at hl 3 rfl) ?_
            refine lv_icmp_ge (tgt := 124) hx hb dX6_readRank_79 (by decide) (fun c_9 => ?_) (fun c_9 => ?_)
            · skip
              have c_9 : 160 ≤ k := (nI_leI (by omega) (by omega)).mp c_9
              exact m_vret S hr hlk hW dX6_readRank_124 (by rw [show 160 - k = 0 by omega] at hres; rw [← hres]; exact ⟨hT1, hf1⟩)
            · skip
              have c_9 : ¬ 160 ≤ k := mt (nI_leI (by omega) (by omega)).mpr c_9
              refine lv_aload_n hx hb dX6_readRank_82 rfl (lv_at hl 0 rfl) ?_
              refine m_geti S hW hT.h1 3 rfl kX6 (iW6 _) (by decide) (List.mem_cons_of_mem _ (wa_6 _ (List.mem_of_getElem? (i := 7) (by decide +kernel)))) dX6_readRank_83 ?_
              refine m_top (y := q1.2.1) hT1.tk ?_
              refine m_cie (m_rS S hW (c_X9_rankOf l G ad sh V1 q1.2.1) (va_cwS 1 hts (gCall [.methodLink RX6 90 yX9_rankOf, .static yX9_rankOf, .initialized RX9] (List.forall_mem_cons.mpr ⟨(wa_7 _ (List.mem_of_getElem? (i := 14) (by decide +kernel))), (List.forall_mem_cons.mpr ⟨(wa_8 _ (List.mem_of_getElem? (i := 14) (by decide +kernel))), (List.forall_mem_cons.mpr ⟨(wa_7 _ (List.mem_of_getElem? (i := 13) (by decide +kernel))), (List.forall_mem_cons.mpr ⟨(wa_7 _ (List.mem_of_getElem? (i := 10) (by decide +kernel))), (fun _ h => absurd h List.not_mem_nil)⟩)⟩)⟩)⟩)) rfl rfl rfl (by decide +kernel) ⟨by dsimp only; omega, by dsimp only; omega⟩) rfl hl.1 rfl (Nat.le_of_ble_eq_true rfl) dX6_readRank_86 ⟨Nat.le_of_ble_eq_true rfl, Nat.le_of_ble_eq_true rfl⟩) hW (fun H locs hW => ?_)
              refine lv_iload_n hx hb dX6_readRank_89 rfl (lv_at hl 1 rfl) ?_
              refine lv_icmp_ne (tgt := 124) hx hb dX6_readRank_90 (by decide) (fun c_10 => ?_) (fun c_10 => ?_)
              · skip
                exact m_vret S hr hlk hW dX6_readRank_124 (by rw [← hres, pLoop_n c_10]; exact ⟨hT1, hf1⟩)
              · skip
                refine lv_aload_n hx hb dX6_readRank_93 rfl (lv_at hl 0 rfl) ?_
                refine m_geti S hW hT.h1 3 rfl kX6 (iW6 _) (by decide) (List.mem_cons_of_mem _ (wa_6 _ (List.mem_of_getElem? (i := 7) (by decide +kernel)))) dX6_readRank_94 ?_
                refine m_top (y := q1.2.1) hT1.tk ?_
                refine lv_istore (lv' := [(5, .int q1.2.1), (0, .ref (ad 1)), (1, .int (nI 0)), (2, .int (nI o)), (3, .int (nI 160)), (4, .int (nI k))]) hx hb dX6_readRank_97 hl (by decide) rfl (fun ls hl => ?_)
                refine lv_aload_n hx hb dX6_readRank_99 rfl (lv_at hl 1 rfl) ?_
                refine m_cv (m_rV S hW (c_X6_advance l G ad sh V1 sz B q1 hT1) (cwV 0 hts (gCall [.methodLink RX6 45 yX6_advance, .instanceMethod yX6_advance, .selects RX6 yX6_advance yX6_advance, .initialized RX6] (List.forall_mem_cons.mpr ⟨(wa_6 _ (List.mem_of_getElem? (i := 11) (by decide +kernel))), (List.forall_mem_cons.mpr ⟨(wa_6 _ (List.mem_of_getElem? (i := 8) (by decide +kernel))), (List.forall_mem_cons.mpr ⟨(wa_6 _ (List.mem_of_getElem? (i := 9) (by decide +kernel))), (List.forall_mem_cons.mpr ⟨(wa_6 _ (List.mem_of_getElem? (i := 10) (by decide +kernel))), (List.forall_mem_cons.mpr ⟨(wa_1 _ (List.mem_of_getElem? (i := 14) (by decide +kernel))), (fun _ h => absurd h List.not_mem_nil)⟩)⟩)⟩)⟩)⟩)) rfl rfl rfl (by decide +kernel) ⟨by dsimp only; omega, by dsimp only; omega⟩) hT.h1 kX6 rfl hl.1 rfl (Nat.le_of_ble_eq_true rfl) dX6_readRank_100 ⟨Nat.le_of_ble_eq_true rfl, Nat.le_of_ble_eq_true rfl⟩) hW (fun V_11 H locs hp_12 hW => ?_)
                obtain ⟨hT_14, hf_15⟩ := hp_12
                refine lv_aload_n hx hb dX6_readRank_103 rfl (lv_at hl 1 rfl) ?_
                refine lv_iload_n hx hb dX6_readRank_104 rfl (lv_at hl 2 rfl) ?_
                refine lv_iconst (v := nI 1) hx hb dX6_readRank_105 (by decide) ?_
                refine lv_iadd hx hb dX6_readRank_106 ?_
                refine m_top (y := nI 1) (nI_add 0 1) ?_
                refine lv_iload_n hx hb dX6_readRank_107 rfl (lv_at hl 3 rfl) ?_
                refine m_cv (m_rV S hW (IHr V_11 (pAdv B sz q1) hT_14) (cwV 2 hts (gCall [.methodLink RX6 53 yX6_readRank, .instanceMethod yX6_readRank, .selects RX6 yX6_readRank yX6_readRank, .initialized RX6] (List.forall_mem_cons.mpr ⟨(wa_8 _ (List.mem_of_getElem? (i := 2) (by decide +kernel))), (List.forall_mem_cons.mpr ⟨(wa_7 _ (List.mem_of_getElem? (i := 23) (by decide +kernel))), (List.forall_mem_cons.mpr ⟨(wa_8 _ (List.mem_of_getElem? (i := 0) (by decide +kernel))), (List.forall_mem_cons.mpr ⟨(wa_8 _ (List.mem_of_getElem? (i := 1) (by decide +kernel))), (List.forall_mem_cons.mpr ⟨(wa_1 _ (List.mem_of_getElem? (i := 14) (by decide +kernel))), (fun _ h => absurd h List.not_mem_nil)⟩)⟩)⟩)⟩)⟩)) rfl rfl rfl (by decide +kernel) ⟨by dsimp only; omega, by dsimp only; omega⟩) hT.h1 kX6 rfl hl.1 rfl (Nat.le_of_ble_eq_true rfl) dX6_readRank_108 ⟨Nat.le_of_ble_eq_true rfl, Nat.le_of_ble_eq_true rfl⟩) hW (fun V_16 H locs hp_17 hW => ?_)
                obtain ⟨hT_19, hf_20⟩ := hp_17
                refine lv_aload_n hx hb dX6_readRank_111 rfl (lv_at hl 1 rfl) ?_
                refine lv_iload hx hb dX6_readRank_112 (lv_at hl 0 rfl) ?_
                refine lv_ineg hx hb dX6_readRank_114 ?_
                refine m_cv (m_rV S hW (c_X6_emit l G ad sh V_16 sz B (fn (pAdv B sz q1)) (-q1.2.1) hT_19) (cwV 1 hts (gCall [.methodLink RX6 87 yX6_emit, .instanceMethod yX6_emit, .selects RX6 yX6_emit yX6_emit, .initialized RX6] (List.forall_mem_cons.mpr ⟨(wa_8 _ (List.mem_of_getElem? (i := 13) (by decide +kernel))), (List.forall_mem_cons.mpr ⟨(wa_8 _ (List.mem_of_getElem? (i := 10) (by decide +kernel))), (List.forall_mem_cons.mpr ⟨(wa_8 _ (List.mem_of_getElem? (i := 11) (by decide +kernel))), (List.forall_mem_cons.mpr ⟨(wa_8 _ (List.mem_of_getElem? (i := 12) (by decide +kernel))), (List.forall_mem_cons.mpr ⟨(wa_1 _ (List.mem_of_getElem? (i := 14) (by decide +kernel))), (fun _ h => absurd h List.not_mem_nil)⟩)⟩)⟩)⟩)⟩)) rfl rfl rfl (by decide +kernel) ⟨by dsimp only; omega, by dsimp only; omega⟩) hT.h1 kX6 rfl hl.1 rfl (Nat.le_of_ble_eq_true rfl) dX6_readRank_115 ⟨Nat.le_of_ble_eq_true rfl, Nat.le_of_ble_eq_true rfl⟩) hW (fun V_21 H locs hp_22 hW => ?_)
                obtain ⟨hT_24, hf_25⟩ := hp_22
                refine lv_iinc (v := nI (k + 1)) (lv' := [(4, .int (nI (k + 1))), (5, .int q1.2.1), (0, .ref (ad 1)), (1, .int (nI 0)), (2, .int (nI o)), (3, .int (nI 160))]) hx hb dX6_readRank_118 hl (k := 5) rfl (m_inc k 1) (by decide) rfl (fun ls hl => ?_)
                refine lv_goto (tgt := 76) hx hb dX6_readRank_121 (by decide) ?_
                exact ih_76  (pJoin B sz fn q1) (k + 1) V_21 _ _ _ (by omega) (by exact hT_24) (by exact ((hf1.trans hf_15).trans hf_20).trans hf_25) (by rw [← hres]; exact (pLoop_s (by omega) c_10).symm) (by omega) hW (lv_sub hl [2, 3, 4, 5, 0] rfl)
        exact loop_76 (160 - 0 + 1) (fn q) 0 V_3 _ _ _ (by omega) (by exact hT_6) (by exact hf_7) (by rfl) (by omega) hW (lv_sub hl [2, 3, 4, 1, 0] rfl)
      · exact absurd c_8 (by decide)
    · exact absurd c_2 (by decide)
  · exact absurd c_1 (by decide)
set_option maxHeartbeats 4000000 in
set_option maxRecDepth 100000 in
theorem c_X6_readRank_5 (l : Launch) (G : mG) (ad : Nat → Nat) (sh : Nat → Option mSh) (V : mV) (sz : Nat) (B : Nat → Int32) (q : pS) (d o : Nat) (fn : pS → pS) (hT : TpOk sh V sz B q) (IHo : ∀ (V : mV) (q : pS), (TpOk sh V sz B q) → mM l yX6_readOne wsX6_readOne ({ frames := 12 + 8 * d, cells := 0, slots := 0, locals := 400 + 200 * d } : Room) G ad sh V [.ref (ad 1), .int (nI o)] 0 0 (mPv ad sh (fun V' => (TpOk sh V' sz B (fn q)) ∧ (TpFr V V')))) : mM l yX6_readRank wsX6_readRank ({ frames := 13 + 8 * d + 0, cells := 0, slots := 0, locals := 425 + 200 * d + 26 * 0 } : Room) G ad sh V [.ref (ad 1), .int (nI 5), .int (nI o)] 0 0 (mPv ad sh (fun V' => (TpOk sh V' sz B (fn q)) ∧ (TpFr V V'))) := by
  refine mM.of (cc := cX6_readRank) (maxL := 6) (ret := none) (by decide) rfl (Nat.le_of_ble_eq_true rfl) ?_
  intro p e s m below meth c S hr hlk hnm hW ls hl
  obtain ⟨hx, hb, hml, hown, hts⟩ := id S
  have hl : lv_has ls 6 [(0, .ref (ad 1)), (1, .int (nI 5)), (2, .int (nI o))] := hl
  have hS0 : True := trivial
  have hs1 := hT.s160
  have hn1 := hT.nxl
  have ha1 := hT.tal
  have hc1 := hT.scl
  refine lv_iload_n hx hb dX6_readRank_0 rfl (lv_at hl 1 rfl) ?_
  refine lv_iconst (v := nI 4) hx hb dX6_readRank_1 (by decide) ?_
  refine lv_icmp_le (tgt := 11) hx hb dX6_readRank_2 (by decide) (fun c_1 => ?_) (fun c_1 => ?_)
  · exact absurd c_1 (by decide)
  · skip
    refine lv_aload_n hx hb dX6_readRank_5 rfl (lv_at hl 0 rfl) ?_
    refine lv_iload_n hx hb dX6_readRank_6 rfl (lv_at hl 2 rfl) ?_
    refine m_cv (m_rV S hW (IHo V q hT) (cwV 1 hts (gCall [.methodLink RX6 80 yX6_readOne, .instanceMethod yX6_readOne, .selects RX6 yX6_readOne yX6_readOne, .initialized RX6] (List.forall_mem_cons.mpr ⟨(wa_8 _ (List.mem_of_getElem? (i := 15) (by decide +kernel))), (List.forall_mem_cons.mpr ⟨(wa_8 _ (List.mem_of_getElem? (i := 3) (by decide +kernel))), (List.forall_mem_cons.mpr ⟨(wa_8 _ (List.mem_of_getElem? (i := 4) (by decide +kernel))), (List.forall_mem_cons.mpr ⟨(wa_8 _ (List.mem_of_getElem? (i := 5) (by decide +kernel))), (List.forall_mem_cons.mpr ⟨(wa_1 _ (List.mem_of_getElem? (i := 14) (by decide +kernel))), (fun _ h => absurd h List.not_mem_nil)⟩)⟩)⟩)⟩)⟩)) rfl rfl rfl (by decide +kernel) ⟨by dsimp only; omega, by dsimp only; omega⟩) hT.h1 kX6 rfl hl.1 rfl (Nat.le_of_ble_eq_true rfl) dX6_readRank_7 ⟨Nat.le_of_ble_eq_true rfl, Nat.le_of_ble_eq_true rfl⟩) hW (fun V_2 H locs hp_3 hW => ?_)
    obtain ⟨hT_5, hf_6⟩ := hp_3
    exact m_vret S hr hlk hW dX6_readRank_10 (by exact ⟨hT_5, hf_6⟩)
