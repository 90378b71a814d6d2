/-! thoughts of the scene of now -/
theorem fBec_d (V : mV) (b b2 ne ng : Nat) (k : Nat) (hk : 2 ≤ k) (hk5 : k < 6) : fBec V b b2 ne ng b k = V b2 k := by
  match k, hk, hk5 with
  | 2, _, _ => simp [fBec, mU]
  | 3, _, _ => simp [fBec, mU]
  | 4, _, _ => simp [fBec, mU]
  | 5, _, _ => simp [fBec, mU]
theorem fBec_e (V : mV) {b b2 ne ng u k : Nat} (hu : u < ne) (h5 : ne ≤ 5) (hk : k < 5) : fBec V b b2 ne ng (b + 4 + u) k = V (b2 + 4 + u) k := by
  rw [fBec, mU_no _ _ (by omega), mU_no _ _ (by omega), mU_no _ _ (by omega), mU_no _ _ (by omega), fBecG, if_neg (by omega), fBecE, if_pos (by omega), show b + 4 + u - b + b2 = b2 + 4 + u by omega]
theorem fBec_g (V : mV) {b b2 ne ng g k : Nat} (hg : g < ng) (h5 : ne ≤ 5) (hk : k = 1 ∨ k = 2) (hd : b + 24 ≤ b2 ∨ b2 + 24 ≤ b) (h6 : ng ≤ 6) : fBec V b b2 ne ng (b + 10 + 2 * g) k = V (b2 + 10 + 2 * g) k := by
  rw [fBec, mU_no _ _ (by omega), mU_no _ _ (by omega), mU_no _ _ (by omega), mU_no _ _ (by omega), fBecG, if_pos (by omega), show b + 10 + 2 * g - b + b2 = b2 + 10 + 2 * g by omega, fBecE, if_neg (by omega)]
theorem fBec_w (V : mV) {b b2 ne ng g k : Nat} (hg : g < ng) (h5 : ne ≤ 5) (hk : k < 10) (hd : b + 24 ≤ b2 ∨ b2 + 24 ≤ b) (h6 : ng ≤ 6) : fBec V b b2 ne ng (b + 10 + 2 * g + 1) k = V (b2 + 10 + 2 * g + 1) k := by
  rw [fBec, mU_no _ _ (by omega), mU_no _ _ (by omega), mU_no _ _ (by omega), mU_no _ _ (by omega), fBecG, if_pos (by omega), show b + 10 + 2 * g + 1 - b + b2 = b2 + 10 + 2 * g + 1 by omega, fBecE, if_neg (by omega)]
theorem fBec_no (V : mV) {b b2 ne ng a : Nat} (h5 : ne ≤ 5) (h6 : ng ≤ 6) (ha : a < b ∨ b + 22 ≤ a) : fBec V b b2 ne ng a = V a := by
  funext k
  rw [fBec, mU_no _ _ (by omega), mU_no _ _ (by omega), mU_no _ _ (by omega), mU_no _ _ (by omega), fBecG, if_neg (by omega), fBecE, if_neg (by omega)]
theorem ScQ.bec {V : mV} {b2 : Nat} {s' : sQ} (h : ScQ V b2 s') (b : Nat) (hd : b + 24 ≤ b2 ∨ b2 + 24 ≤ b) : ScQ (fBec V b b2 s'.2.1 s'.2.2.1) b s' := by
  obtain ⟨a1, a2, a3, a4, a5, a6⟩ := h
  exact ⟨by rw [fBec_d _ _ _ _ _ _ (by omega) (by omega)]; exact a1, by rw [fBec_d _ _ _ _ _ _ (by omega) (by omega)]; exact a2, a3, a4, by rw [fBec_d _ _ _ _ _ _ (by omega) (by omega)]; exact a5, a6.trans (zv_congr (fBec_d _ _ _ _ _ 4 (by omega) (by omega)) (fun e k he hk => fBec_e V he a3 hk) (fun g k hg hk => fBec_g V hg a3 hk hd a4) (fun g k hg hk => fBec_w V hg a3 hk hd a4)).symm⟩
/-- a thought of q's scene, under text rl -/
theorem XI.th {sh : Nat → Option mSh} {V : mV} {q : Sg} (h : XI sh V q) {z : fZ} {ne ng rl : Nat} (hq : ScQ V 80 (z, ne, ng, rl)) (hr : rl < (gTxs q).length) : ThOk sh V (110 + 3 * rl) (gT q rl).2.1 (gT q rl).2.2 (gT q rl).1.length ne ng (askT (gT q rl)) z := ⟨h.sp.2.2.2.1, hq.sz h h.sp.2.2.2.2.2.2.2.1.2.2 hr⟩
section ZS
variable (l : Launch) (G : mG) (ad : Nat → Nat) (sh : Nat → Option mSh) (V : mV) (q : Sg)
theorem c_X8_startFrom_x (hX : XI sh V q) : mM l yX8_startFrom wsX8_startFrom ({ frames := 3, cells := 0, slots := 0, locals := 104 } : Room) G ad sh V [.ref (ad 5), .ref (ad 20)] 0 0 (mPv ad sh (fun V' => ScQ V' 80 q.1 ∧ XK V V' ∧ V' 5 1 = -1 ∧ V' 5 2 = nI 0)) := by
  have hn := hX.now
  have hne := hX.ne5
  have hng := hX.ng6
  have ht := hX.tn
  have hr := hX.rl
  have htx : sh (110 + 3 * (V 20 5).toNatClampNeg) ≠ none := by
    rw [hn.2.2.2.2.1]
    show sh (110 + 3 * (nI (gRl q)).toNatClampNeg) ≠ none
    rw [nI_clamp (by omega), (hX.txs hr).1]
    exact fun z => by cases z
  refine (c_X8_startFrom l G ad sh V 20 (gNe q) (gNg q) hX.sp.2.2.2.1 hX.sp.2.2.2.2.2.2.2.1.2.2 hX.sz.1 hn.1 hn.2.1 hne hng (Or.inr (by omega)) htx).weak (fun v ad' sh' V' => ?_)
  rintro ⟨h1, h2, h3, rfl⟩
  have hno : ∀ a, a ≠ 5 → (a < 80 ∨ 104 ≤ a) → mU (mU (fBec V 80 20 (gNe q) (gNg q)) 5 1 (-1)) 5 2 (nI 0) a = V a := fun a ha hb => by
    rw [mU_no _ _ ha, mU_no _ _ ha]
    exact fBec_no V hne hng (by omega)
  refine ⟨h1, h2, h3, (hn.bec 80 (Or.inr (by omega))).eq (fun a ha hb => by rw [mU_no _ _ (by omega), mU_no _ _ (by omega)]; rfl) (fun k hk => by rw [mU_no _ _ (by omega), mU_no _ _ (by omega)]; rfl), ⟨fun a _ a5 _ _ _ _ a80 => hno a a5 a80, fun k _ => by rw [hno 20 (by omega) (by omega)], by rw [hno 9 (by omega) (by omega)]⟩, by rw [mU_ne _ _ (by omega), mU_eq], by rw [mU_eq]⟩
end ZS
theorem XK.th {V V1 V2 : mV} (h : XK V V1) (hf : ThFr V1 V2) : XK V V2 := h.trans ⟨fun a _ a5 _ _ _ _ a80 => hf.1 a a5 (by omega), fun k _ => by rw [hf.1 20 (by omega) (by omega)], by rw [hf.1 9 (by omega) (by omega)]⟩
theorem XK.td {V V1 V2 : mV} (h : XK V V1) (hf : ThFd V1 V2) : XK V V2 := h.trans ⟨fun a _ _ _ _ _ _ a80 => hf a a80, fun k _ => by rw [hf 20 (by omega)], by rw [hf 9 (by omega)]⟩
/-! answers -/
def zOrdr (ask : fAsks) (z : fZ) (ne ng : Nat) : Int32 × Int32 := zOrd ask ne ng ne z (fun _ => false) (nI 0) (nI 0) (-1, nI 0)
def aOrderly (q : Sg) (w : Int32) : Int32 := if mIn w 0 2 then (if gNe q = 0 then (if w = nI 0 then -1 else nI 0) else if w = nI 0 then (zOrdr (gAsk q) (gZ q) (gNe q) (gNg q)).1 else (zOrdr (gAsk q) (gZ q) (gNe q) (gNg q)).2) else -2
def aDuel (q : Sg) (x y tn w : Int32) : Int32 := if mIn x 0 (gNe q) then (if mIn y 0 (gNe q) then (if x = y then -1000005 else if mIn tn 1 3 then (if mIn w 0 2 then (if w = nI 0 then (zDuel (gAsk q) (gNg q) tn.toNatClampNeg (gZ q) x.toNatClampNeg y.toNatClampNeg).1 else (zDuel (gAsk q) (gNg q) tn.toNatClampNeg (gZ q) x.toNatClampNeg y.toNatClampNeg).2) else -1000007) else -1000007) else -1000005) else -1000005
def aDrawn (q : Sg) (sd n x w : Int32) : Int32 := if mIn x 0 (gNe q) then (if mIn sd 0 100000 then (if mIn n 0 61 then (if mIn w 0 2 then (if gNg q = 0 then -3 else if w = nI 0 then zDraw (gAsk q) (gNe q) (gNg q) (sd.toNatClampNeg + 1) (gZ q) n.toNatClampNeg (4 + x.toNatClampNeg) 4 else zDraw (gAsk q) (gNe q) (gNg q) (sd.toNatClampNeg + 1) (gZ q) n.toNatClampNeg (4 + x.toNatClampNeg) 3) else -7) else -7) else -7) else -5
theorem zv_e2 {V : mV} {b ne ng u k : Nat} {z : fZ} (h : z = zv V b ne ng) (hu : u < ne) (hk : k < 5) : z (4 + u) k = V (b + 4 + u) k := by
  rw [h]
  exact zv_e V b ng k hu hk
set_option maxHeartbeats 4000000 in
set_option maxRecDepth 100000 in
theorem c_X10_orderly (l : Launch) (G : mG) (ad : Nat → Nat) (sh : Nat → Option mSh) (V : mV) (q : Sg) (w : Int32) (hX : XI sh V q) : mM l yX10_orderly wsX10_orderly ({ frames := 40, cells := 0, slots := 0, locals := 1200 } : Room) G ad sh V [.ref (ad 0), .int w] 0 0 (mPi ad sh (fun r V' => (aOrderly q w) = r ∧ (XK V V'))) := by
  refine mM.of (cc := cX10_orderly) (maxL := 2) (ret := (some .int)) (by decide) rfl (Nat.le_of_ble_eq_true rfl) ?_
  intro p e s m below meth c S hr hlk hnm hW ls hl
  obtain ⟨hx, hb, hml, hown, hts⟩ := id S
  have hl : lv_has ls 2 [(0, .ref (ad 0)), (1, .int w)] := hl
  have hS0 : True := trivial
  have hne5 := hX.ne5
  have hng6 := hX.ng6
  have htn := hX.tn
  refine lv_iload_n hx hb dX10_orderly_0 rfl (lv_at hl 1 rfl) ?_
  refine lv_iconst (v := nI 0) hx hb dX10_orderly_1 (by decide) ?_
  refine lv_iconst (v := nI 1) hx hb dX10_orderly_2 (by decide) ?_
  refine m_cip (m_rS S hW (c_X10_within l G ad sh V w 0 1 (by first | assumption | omega) (by first | assumption | omega)) (va_cwS 3 hts (gCall [.methodLink RX10 102 yX10_within, .static yX10_within, .initialized RX10] (List.forall_mem_cons.mpr ⟨(wa_8 _ (List.mem_of_getElem? (i := 17) (by decide +kernel))), (List.forall_mem_cons.mpr ⟨(wa_15 _ (List.mem_of_getElem? (i := 8) (by decide +kernel))), (List.forall_mem_cons.mpr ⟨(wa_8 _ (List.mem_of_getElem? (i := 16) (by decide +kernel))), (List.forall_mem_cons.mpr ⟨(wa_1 _ (List.mem_of_getElem? (i := 2) (by decide +kernel))), (fun _ h => absurd h List.not_mem_nil)⟩)⟩)⟩)⟩)) rfl rfl rfl (by decide +kernel) ⟨by dsimp only; omega, by dsimp only; omega⟩) rfl hl.1 rfl (Nat.le_of_ble_eq_true rfl) dX10_orderly_3 ⟨Nat.le_of_ble_eq_true rfl, Nat.le_of_ble_eq_true rfl⟩) hW (fun r_2 H locs hp_1 hW => ?_)
  rcases hp_1 with ⟨rfl, w_3⟩ | ⟨rfl, w_4⟩
  · skip
    refine m_if_ne (tgt := 12) hx hb dX10_orderly_6 (by decide) (fun c_5 => ?_) (fun c_5 => ?_)
    · skip
      refine lv_aload_n hx hb dX10_orderly_12 rfl (lv_at hl 0 rfl) ?_
      refine m_getr S hW hX.sp.1 3 rfl (j := 20) rfl kX10 (iW10 _) (by decide) (List.mem_cons_of_mem _ (wa_2 _ (List.mem_of_getElem? (i := 8) (by decide +kernel)))) dX10_orderly_13 ?_
      refine m_geti S hW hX.sz.1.1 2 rfl kX4 (iW4 _) (by decide) (List.mem_cons_of_mem _ (wa_14 _ (List.mem_of_getElem? (i := 11) (by decide +kernel)))) dX10_orderly_16 ?_
      refine m_top (y := nI (gNe q)) hX.now.1 ?_
      refine m_if_ne (tgt := 32) hx hb dX10_orderly_19 (by decide) (fun c_6 => ?_) (fun c_6 => ?_)
      · skip
        have c_6 : ¬ (gNe q) = 0 := mt (nI_eq (by omega) (by omega)).mpr c_6
        refine lv_aload_n hx hb dX10_orderly_32 rfl (lv_at hl 0 rfl) ?_
        refine m_getr S hW hX.sp.1 6 rfl (j := 5) rfl kX10 (iW10 _) (by decide) (List.mem_cons_of_mem _ (wa_2 _ (List.mem_of_getElem? (i := 13) (by decide +kernel)))) dX10_orderly_33 ?_
        refine lv_aload_n hx hb dX10_orderly_36 rfl (lv_at hl 0 rfl) ?_
        refine m_getr S hW hX.sp.1 3 rfl (j := 20) rfl kX10 (iW10 _) (by decide) (List.mem_cons_of_mem _ (wa_2 _ (List.mem_of_getElem? (i := 8) (by decide +kernel)))) dX10_orderly_37 ?_
        refine m_cv (m_rV S hW (c_X8_startFrom_x l G ad sh V q (by first | assumption | omega)) (cwV 1 hts (gCall [.methodLink RX10 201 yX8_startFrom, .instanceMethod yX8_startFrom, .selects RX8 yX8_startFrom yX8_startFrom, .initialized RX8] (List.forall_mem_cons.mpr ⟨(wa_30 _ (List.mem_of_getElem? (i := 5) (by decide +kernel))), (List.forall_mem_cons.mpr ⟨(wa_30 _ (List.mem_of_getElem? (i := 2) (by decide +kernel))), (List.forall_mem_cons.mpr ⟨(wa_30 _ (List.mem_of_getElem? (i := 3) (by decide +kernel))), (List.forall_mem_cons.mpr ⟨(wa_30 _ (List.mem_of_getElem? (i := 4) (by decide +kernel))), (List.forall_mem_cons.mpr ⟨(wa_2 _ (List.mem_of_getElem? (i := 12) (by decide +kernel))), (fun _ h => absurd h List.not_mem_nil)⟩)⟩)⟩)⟩)⟩)) rfl rfl rfl (by decide +kernel) ⟨by dsimp only; omega, by dsimp only; omega⟩) hX.sp.2.2.2.1 kX8 rfl hl.1 rfl (Nat.le_of_ble_eq_true rfl) dX10_orderly_40 ⟨Nat.le_of_ble_eq_true rfl, Nat.le_of_ble_eq_true rfl⟩) hW (fun V_7 H locs hp_8 hW => ?_)
        obtain ⟨hQ_10, hK_11, h51_12, h52_13⟩ := hp_8
        have hX1 := hX.k hK_11
        have hH1 : ThOk sh V_7 (110 + 3 * gRl q) (gT q (gRl q)).2.1 (gT q (gRl q)).2.2 (gT q (gRl q)).1.length (gNe q) (gNg q) (gAsk q) (gZ q) := hX1.th hQ_10 hX.rl
        have hK1 := hK_11
        refine lv_aload_n hx hb dX10_orderly_43 rfl (lv_at hl 0 rfl) ?_
        refine m_getr S hW hX.sp.1 6 rfl (j := 5) rfl kX10 (iW10 _) (by decide) (List.mem_cons_of_mem _ (wa_2 _ (List.mem_of_getElem? (i := 13) (by decide +kernel)))) dX10_orderly_44 ?_
        refine lv_iconst (v := nI 0) hx hb dX10_orderly_47 (by decide) ?_
        refine lv_iconst (v := nI 0) hx hb dX10_orderly_48 (by decide) ?_
        refine lv_iconst (v := nI 0) hx hb dX10_orderly_49 (by decide) ?_
        refine lv_iconst (v := nI 0) hx hb dX10_orderly_50 (by decide) ?_
        refine m_cv (m_rVN S hW (c_X8_tryOrders_all l G ad sh (110 + 3 * gRl q) (gT q (gRl q)).2.1 (gT q (gRl q)).2.2 (gT q (gRl q)).1.length (gNe q) (gNg q) (gAsk q) (gNe q) V_7 (gZ q) (fun _ => false) 0 0 (nI 0) (nI 0) hH1 (Nat.zero_add _) (by decide) (fun k _ => by simp)) ⟨va_cnB 4 hts (gCall [] (List.forall_mem_cons.mpr ⟨(wa_30 _ (List.mem_of_getElem? (i := 23) (by decide +kernel))), (fun _ h => absurd h List.not_mem_nil)⟩)) rfl rfl rfl (hW.2.2.2.2.2.1 _ (List.mem_of_getElem? (i := 11) rfl)) (hts (.initialized RX8) (List.mem_cons_of_mem _ (wa_2 _ (List.mem_of_getElem? (i := 12) (by decide +kernel))))) (by decide +kernel) ⟨by dsimp only; omega, by dsimp only; omega⟩, hts (.instanceMethod yX8_tryOrders) (List.mem_cons_of_mem _ (wa_30 _ (List.mem_of_getElem? (i := 21) (by decide +kernel)))), hts (.selects RX8 yX8_tryOrders yX8_tryOrders) (List.mem_cons_of_mem _ (wa_30 _ (List.mem_of_getElem? (i := 22) (by decide +kernel))))⟩ hX.sp.2.2.2.1 kX8 rfl hl.1 rfl (Nat.le_of_ble_eq_true rfl) dX10_orderly_51 ⟨Nat.le_of_ble_eq_true rfl, Nat.le_of_ble_eq_true rfl⟩) hW (fun V_14 H locs hp_15 hW => ?_)
        obtain ⟨hf_17, hq_18⟩ := hp_15
        refine lv_iload_n hx hb dX10_orderly_54 rfl (lv_at hl 1 rfl) ?_
        refine m_if_ne (tgt := 68) hx hb dX10_orderly_55 (by decide) (fun c_19 => ?_) (fun c_19 => ?_)
        · skip
          refine lv_aload_n hx hb dX10_orderly_68 rfl (lv_at hl 0 rfl) ?_
          refine m_getr S hW hX.sp.1 6 rfl (j := 5) rfl kX10 (iW10 _) (by decide) (List.mem_cons_of_mem _ (wa_2 _ (List.mem_of_getElem? (i := 13) (by decide +kernel)))) dX10_orderly_69 ?_
          refine m_geti S hW hX.sp.2.2.2.1 2 rfl kX8 (iW8 _) (by decide) (List.mem_cons_of_mem _ (wa_30 _ (List.mem_of_getElem? (i := 1) (by decide +kernel)))) dX10_orderly_72 ?_
          have hz := hq_18
          rw [h51_12, h52_13] at hz
          exact m_iret S hr hlk hW dX10_orderly_75 (by exact ⟨by simp only [aOrderly, if_pos w_3, if_neg c_6, if_neg c_19]; exact (congrArg Prod.snd hz).symm, hK1.th hf_17⟩)
        · skip
          refine lv_aload_n hx hb dX10_orderly_58 rfl (lv_at hl 0 rfl) ?_
          refine m_getr S hW hX.sp.1 6 rfl (j := 5) rfl kX10 (iW10 _) (by decide) (List.mem_cons_of_mem _ (wa_2 _ (List.mem_of_getElem? (i := 13) (by decide +kernel)))) dX10_orderly_59 ?_
          refine m_geti S hW hX.sp.2.2.2.1 1 rfl kX8 (iW8 _) (by decide) (List.mem_cons_of_mem _ (wa_30 _ (List.mem_of_getElem? (i := 0) (by decide +kernel)))) dX10_orderly_62 ?_
          refine lv_goto (tgt := 75) hx hb dX10_orderly_65 (by decide) ?_
          have hz := hq_18
          rw [h51_12, h52_13] at hz
          exact m_iret S hr hlk hW dX10_orderly_75 (by exact ⟨by simp only [aOrderly, if_pos w_3, if_neg c_6, if_pos c_19]; exact (congrArg Prod.fst hz).symm, hK1.th hf_17⟩)
      · skip
        have c_6 : (gNe q) = 0 := (nI_eq (by omega) (by omega)).mp c_6
        refine lv_iload_n hx hb dX10_orderly_22 rfl (lv_at hl 1 rfl) ?_
        refine m_if_ne (tgt := 30) hx hb dX10_orderly_23 (by decide) (fun c_20 => ?_) (fun c_20 => ?_)
        · skip
          refine lv_iconst (v := nI 0) hx hb dX10_orderly_30 (by decide) ?_
          exact m_iret S hr hlk hW dX10_orderly_31 (by exact ⟨by simp only [aOrderly, if_pos w_3, if_pos c_6, if_neg c_20]; try rfl, XK.rfl V⟩)
        · skip
          refine lv_iconst (v := -1) hx hb dX10_orderly_26 (by decide) ?_
          refine lv_goto (tgt := 31) hx hb dX10_orderly_27 (by decide) ?_
          exact m_iret S hr hlk hW dX10_orderly_31 (by exact ⟨by simp only [aOrderly, if_pos w_3, if_pos c_6, if_pos c_20]; try rfl, XK.rfl V⟩)
    · exact absurd c_5 (by decide)
  · skip
    refine m_if_ne (tgt := 12) hx hb dX10_orderly_6 (by decide) (fun c_21 => ?_) (fun c_21 => ?_)
    · exact absurd c_21 (by decide)
    · skip
      refine lv_bipush (v := -2) hx hb dX10_orderly_9 (by decide) ?_
      exact m_iret S hr hlk hW dX10_orderly_11 (by exact ⟨by simp only [aOrderly, if_neg w_4]; try rfl, XK.rfl V⟩)
set_option maxHeartbeats 4000000 in
set_option maxRecDepth 100000 in
theorem c_X10_duel (l : Launch) (G : mG) (ad : Nat → Nat) (sh : Nat → Option mSh) (V : mV) (q : Sg) (x y tn w : Int32) (hX : XI sh V q) : mM l yX10_duel wsX10_duel ({ frames := 40, cells := 0, slots := 0, locals := 1200 } : Room) G ad sh V [.ref (ad 0), .int x, .int y, .int tn, .int w] 0 0 (mPi ad sh (fun r V' => (aDuel q x y tn w) = r ∧ (XK V V'))) := by
  refine mM.of (cc := cX10_duel) (maxL := 8) (ret := (some .int)) (by decide) rfl (Nat.le_of_ble_eq_true rfl) ?_
  intro p e s m below meth c S hr hlk hnm hW ls hl
  obtain ⟨hx, hb, hml, hown, hts⟩ := id S
  have hl : lv_has ls 8 [(0, .ref (ad 0)), (1, .int x), (2, .int y), (3, .int tn), (4, .int w)] := hl
  have hS0 : True := trivial
  have hne5 := hX.ne5
  have hng6 := hX.ng6
  have htn := hX.tn
  refine lv_aload_n hx hb dX10_duel_0 rfl (lv_at hl 0 rfl) ?_
  refine m_getr S hW hX.sp.1 6 rfl (j := 5) rfl kX10 (iW10 _) (by decide) (List.mem_cons_of_mem _ (wa_2 _ (List.mem_of_getElem? (i := 13) (by decide +kernel)))) dX10_duel_1 ?_
  refine lv_aload_n hx hb dX10_duel_4 rfl (lv_at hl 0 rfl) ?_
  refine m_getr S hW hX.sp.1 3 rfl (j := 20) rfl kX10 (iW10 _) (by decide) (List.mem_cons_of_mem _ (wa_2 _ (List.mem_of_getElem? (i := 8) (by decide +kernel)))) dX10_duel_5 ?_
  refine m_cv (m_rV S hW (c_X8_startFrom_x l G ad sh V q (by first | assumption | omega)) (cwV 1 hts (gCall [.methodLink RX10 201 yX8_startFrom, .instanceMethod yX8_startFrom, .selects RX8 yX8_startFrom yX8_startFrom, .initialized RX8] (List.forall_mem_cons.mpr ⟨(wa_30 _ (List.mem_of_getElem? (i := 5) (by decide +kernel))), (List.forall_mem_cons.mpr ⟨(wa_30 _ (List.mem_of_getElem? (i := 2) (by decide +kernel))), (List.forall_mem_cons.mpr ⟨(wa_30 _ (List.mem_of_getElem? (i := 3) (by decide +kernel))), (List.forall_mem_cons.mpr ⟨(wa_30 _ (List.mem_of_getElem? (i := 4) (by decide +kernel))), (List.forall_mem_cons.mpr ⟨(wa_2 _ (List.mem_of_getElem? (i := 12) (by decide +kernel))), (fun _ h => absurd h List.not_mem_nil)⟩)⟩)⟩)⟩)⟩)) rfl rfl rfl (by decide +kernel) ⟨by dsimp only; omega, by dsimp only; omega⟩) hX.sp.2.2.2.1 kX8 rfl hl.1 rfl (Nat.le_of_ble_eq_true rfl) dX10_duel_8 ⟨Nat.le_of_ble_eq_true rfl, Nat.le_of_ble_eq_true rfl⟩) hW (fun V_1 H locs hp_2 hW => ?_)
  obtain ⟨hQ_4, hK_5, h51_6, h52_7⟩ := hp_2
  have hX1 := hX.k hK_5
  have hH1 : ThOk sh V_1 (110 + 3 * gRl q) (gT q (gRl q)).2.1 (gT q (gRl q)).2.2 (gT q (gRl q)).1.length (gNe q) (gNg q) (gAsk q) (gZ q) := hX1.th hQ_4 hX.rl
  have hK1 := hK_5
  refine lv_aload_n hx hb dX10_duel_11 rfl (lv_at hl 0 rfl) ?_
  refine m_getr S hW hX.sp.1 6 rfl (j := 5) rfl kX10 (iW10 _) (by decide) (List.mem_cons_of_mem _ (wa_2 _ (List.mem_of_getElem? (i := 13) (by decide +kernel)))) dX10_duel_12 ?_
  refine m_getr S hW hX.sp.2.2.2.1 0 rfl (j := 80) rfl kX8 (iW8 _) (by decide) (List.mem_cons_of_mem _ (wa_33 _ (List.mem_of_getElem? (i := 2) (by decide +kernel)))) dX10_duel_15 ?_
  refine lv_iload_n hx hb dX10_duel_18 rfl (lv_at hl 1 rfl) ?_
  refine m_crp (m_rV S hW (c_X4_eaterAt l G ad sh V_1 80 (110 + 3 * gRl q) ((gT q (gRl q)).2.1) ((gT q (gRl q)).2.2) ((gT q (gRl q)).1.length) (gNe q) (gNg q) x hH1.2.1 hH1.2.2.1) (cwV 1 hts (gCall [.methodLink RX10 120 yX4_eaterAt, .instanceMethod yX4_eaterAt, .selects RX4 yX4_eaterAt yX4_eaterAt, .initialized RX4] (List.forall_mem_cons.mpr ⟨(wa_17 _ (List.mem_of_getElem? (i := 8) (by decide +kernel))), (List.forall_mem_cons.mpr ⟨(wa_17 _ (List.mem_of_getElem? (i := 5) (by decide +kernel))), (List.forall_mem_cons.mpr ⟨(wa_17 _ (List.mem_of_getElem? (i := 6) (by decide +kernel))), (List.forall_mem_cons.mpr ⟨(wa_17 _ (List.mem_of_getElem? (i := 7) (by decide +kernel))), (List.forall_mem_cons.mpr ⟨(wa_2 _ (List.mem_of_getElem? (i := 7) (by decide +kernel))), (fun _ h => absurd h List.not_mem_nil)⟩)⟩)⟩)⟩)⟩)) rfl rfl rfl (by decide +kernel) ⟨by dsimp only; omega, by dsimp only; omega⟩) hX.sp.2.2.2.2.2.2.2.1.2.2.1 kX4 rfl hl.1 rfl (Nat.le_of_ble_eq_true rfl) dX10_duel_19 ⟨Nat.le_of_ble_eq_true rfl, Nat.le_of_ble_eq_true rfl⟩) hW (fun r_9 H locs hp_8 hW => ?_)
  rcases hp_8 with ⟨n_10, rfl, hxn_11, hn_12⟩ | ⟨rfl, hx0_13⟩
  · skip
    refine W.eq (g2 := F0 m 22 ls [.ref (ad (80 + 4 + n_10))]) rfl ?_
    have hpx : mIn x 0 (gNe q) := by rw [hxn_11]; exact (mIn_nI (by have := hX.ne5; have := hX.ng6; omega)).mpr ⟨Nat.zero_le _, hn_12⟩
    have hcx : x.toNatClampNeg = n_10 := by rw [hxn_11]; exact nI_clamp (by have := hX.ne5; have := hX.ng6; omega)
    refine lv_astore (lv' := [(5, .ref (ad (80 + 4 + n_10))), (0, .ref (ad 0)), (1, .int x), (2, .int y), (3, .int tn), (4, .int w)]) hx hb dX10_duel_22 hl (by decide) rfl (fun ls hl => ?_)
    refine lv_aload_n hx hb dX10_duel_24 rfl (lv_at hl 1 rfl) ?_
    refine m_getr S hW hX.sp.1 6 rfl (j := 5) rfl kX10 (iW10 _) (by decide) (List.mem_cons_of_mem _ (wa_2 _ (List.mem_of_getElem? (i := 13) (by decide +kernel)))) dX10_duel_25 ?_
    refine m_getr S hW hX.sp.2.2.2.1 0 rfl (j := 80) rfl kX8 (iW8 _) (by decide) (List.mem_cons_of_mem _ (wa_33 _ (List.mem_of_getElem? (i := 2) (by decide +kernel)))) dX10_duel_28 ?_
    refine lv_iload_n hx hb dX10_duel_31 rfl (lv_at hl 3 rfl) ?_
    refine m_crp (m_rV S hW (c_X4_eaterAt l G ad sh V_1 80 (110 + 3 * gRl q) ((gT q (gRl q)).2.1) ((gT q (gRl q)).2.2) ((gT q (gRl q)).1.length) (gNe q) (gNg q) y hH1.2.1 hH1.2.2.1) (cwV 1 hts (gCall [.methodLink RX10 120 yX4_eaterAt, .instanceMethod yX4_eaterAt, .selects RX4 yX4_eaterAt yX4_eaterAt, .initialized RX4] (List.forall_mem_cons.mpr ⟨(wa_17 _ (List.mem_of_getElem? (i := 8) (by decide +kernel))), (List.forall_mem_cons.mpr ⟨(wa_17 _ (List.mem_of_getElem? (i := 5) (by decide +kernel))), (List.forall_mem_cons.mpr ⟨(wa_17 _ (List.mem_of_getElem? (i := 6) (by decide +kernel))), (List.forall_mem_cons.mpr ⟨(wa_17 _ (List.mem_of_getElem? (i := 7) (by decide +kernel))), (List.forall_mem_cons.mpr ⟨(wa_2 _ (List.mem_of_getElem? (i := 7) (by decide +kernel))), (fun _ h => absurd h List.not_mem_nil)⟩)⟩)⟩)⟩)⟩)) rfl rfl rfl (by decide +kernel) ⟨by dsimp only; omega, by dsimp only; omega⟩) hX.sp.2.2.2.2.2.2.2.1.2.2.1 kX4 rfl hl.1 rfl (Nat.le_of_ble_eq_true rfl) dX10_duel_32 ⟨Nat.le_of_ble_eq_true rfl, Nat.le_of_ble_eq_true rfl⟩) hW (fun r_15 H locs hp_14 hW => ?_)
    rcases hp_14 with ⟨n_16, rfl, hxn_17, hn_18⟩ | ⟨rfl, hx0_19⟩
    · skip
      refine W.eq (g2 := F0 m 35 ls [.ref (ad (80 + 4 + n_16))]) rfl ?_
      have hpy : mIn y 0 (gNe q) := by rw [hxn_17]; exact (mIn_nI (by have := hX.ne5; have := hX.ng6; omega)).mpr ⟨Nat.zero_le _, hn_18⟩
      have hcy : y.toNatClampNeg = n_16 := by rw [hxn_17]; exact nI_clamp (by have := hX.ne5; have := hX.ng6; omega)
      refine lv_astore (lv' := [(6, .ref (ad (80 + 4 + n_16))), (5, .ref (ad (80 + 4 + n_10))), (0, .ref (ad 0)), (1, .int x), (2, .int y), (3, .int tn), (4, .int w)]) hx hb dX10_duel_35 hl (by decide) rfl (fun ls hl => ?_)
      refine lv_aload hx hb dX10_duel_37 (lv_at hl 1 rfl) ?_
      refine lv_ifnull hx hb dX10_duel_39 ?_
      refine lv_aload hx hb dX10_duel_42 (lv_at hl 0 rfl) ?_
      refine lv_ifnull hx hb dX10_duel_44 ?_
      refine lv_iload_n hx hb dX10_duel_47 rfl (lv_at hl 3 rfl) ?_
      refine m_top (y := nI n_10) hxn_11 ?_
      refine lv_iload_n hx hb dX10_duel_48 rfl (lv_at hl 4 rfl) ?_
      refine m_top (y := nI n_16) hxn_17 ?_
      refine lv_icmp_ne (tgt := 55) hx hb dX10_duel_49 (by decide) (fun c_20 => ?_) (fun c_20 => ?_)
      · skip
        have c_20 : ¬ n_10 = n_16 := mt (nI_eq (by omega) (by omega)).mpr c_20
        have hxy : ¬ x = y := by rw [hxn_11, hxn_17]; exact mt (nI_eq (by omega) (by omega)).mp c_20
        refine lv_iload_n hx hb dX10_duel_55 rfl (lv_at hl 5 rfl) ?_
        refine lv_iconst (v := nI 1) hx hb dX10_duel_56 (by decide) ?_
        refine lv_iconst (v := nI 2) hx hb dX10_duel_57 (by decide) ?_
        refine m_cip (m_rS S hW (c_X10_within l G ad sh V_1 tn 1 2 (by first | assumption | omega) (by first | assumption | omega)) (va_cwS 3 hts (gCall [.methodLink RX10 102 yX10_within, .static yX10_within, .initialized RX10] (List.forall_mem_cons.mpr ⟨(wa_8 _ (List.mem_of_getElem? (i := 17) (by decide +kernel))), (List.forall_mem_cons.mpr ⟨(wa_15 _ (List.mem_of_getElem? (i := 8) (by decide +kernel))), (List.forall_mem_cons.mpr ⟨(wa_8 _ (List.mem_of_getElem? (i := 16) (by decide +kernel))), (List.forall_mem_cons.mpr ⟨(wa_1 _ (List.mem_of_getElem? (i := 2) (by decide +kernel))), (fun _ h => absurd h List.not_mem_nil)⟩)⟩)⟩)⟩)) rfl rfl rfl (by decide +kernel) ⟨by dsimp only; omega, by dsimp only; omega⟩) rfl hl.1 rfl (Nat.le_of_ble_eq_true rfl) dX10_duel_58 ⟨Nat.le_of_ble_eq_true rfl, Nat.le_of_ble_eq_true rfl⟩) hW (fun r_22 H locs hp_21 hW => ?_)
        rcases hp_21 with ⟨rfl, w_23⟩ | ⟨rfl, w_24⟩
        · skip
          obtain ⟨ntn, hntn, hwntn, hlntn⟩ := w_23.ex
          have hctn : tn.toNatClampNeg = ntn := by rw [hntn]; exact nI_clamp (by omega)
          refine m_if_eq (tgt := 74) hx hb dX10_duel_61 (by decide) (fun c_25 => ?_) (fun c_25 => ?_)
          · exact absurd c_25 (by decide)
          · skip
            refine lv_iload hx hb dX10_duel_64 (lv_at hl 6 rfl) ?_
            refine lv_iconst (v := nI 0) hx hb dX10_duel_66 (by decide) ?_
            refine lv_iconst (v := nI 1) hx hb dX10_duel_67 (by decide) ?_
            refine m_cip (m_rS S hW (c_X10_within l G ad sh V_1 w 0 1 (by first | assumption | omega) (by first | assumption | omega)) (va_cwS 3 hts (gCall [.methodLink RX10 102 yX10_within, .static yX10_within, .initialized RX10] (List.forall_mem_cons.mpr ⟨(wa_8 _ (List.mem_of_getElem? (i := 17) (by decide +kernel))), (List.forall_mem_cons.mpr ⟨(wa_15 _ (List.mem_of_getElem? (i := 8) (by decide +kernel))), (List.forall_mem_cons.mpr ⟨(wa_8 _ (List.mem_of_getElem? (i := 16) (by decide +kernel))), (List.forall_mem_cons.mpr ⟨(wa_1 _ (List.mem_of_getElem? (i := 2) (by decide +kernel))), (fun _ h => absurd h List.not_mem_nil)⟩)⟩)⟩)⟩)) rfl rfl rfl (by decide +kernel) ⟨by dsimp only; omega, by dsimp only; omega⟩) rfl hl.1 rfl (Nat.le_of_ble_eq_true rfl) dX10_duel_68 ⟨Nat.le_of_ble_eq_true rfl, Nat.le_of_ble_eq_true rfl⟩) hW (fun r_27 H locs hp_26 hW => ?_)
            rcases hp_26 with ⟨rfl, w_28⟩ | ⟨rfl, w_29⟩
            · skip
              refine m_if_ne (tgt := 77) hx hb dX10_duel_71 (by decide) (fun c_30 => ?_) (fun c_30 => ?_)
              · skip
                refine lv_aload_n hx hb dX10_duel_77 rfl (lv_at hl 2 rfl) ?_
                refine m_getr S hW hX.sp.1 6 rfl (j := 5) rfl kX10 (iW10 _) (by decide) (List.mem_cons_of_mem _ (wa_2 _ (List.mem_of_getElem? (i := 13) (by decide +kernel)))) dX10_duel_78 ?_
                refine lv_aload hx hb dX10_duel_81 (lv_at hl 1 rfl) ?_
                refine lv_aload hx hb dX10_duel_83 (lv_at hl 0 rfl) ?_
                refine lv_iload_n hx hb dX10_duel_85 rfl (lv_at hl 5 rfl) ?_
                refine m_top (y := nI ntn) hntn ?_
                refine m_ci (m_rVN S hW (c_X8_tryDuel_all l G ad sh (110 + 3 * gRl q) (gT q (gRl q)).2.1 (gT q (gRl q)).2.2 (gT q (gRl q)).1.length (gNe q) (gNg q) (gAsk q) ntn (by omega) V_1 (gZ q) n_10 n_16 hH1 hn_12 hn_18) ⟨va_cnB 3 hts (gCall [] (List.forall_mem_cons.mpr ⟨(wa_33 _ (List.mem_of_getElem? (i := 8) (by decide +kernel))), (fun _ h => absurd h List.not_mem_nil)⟩)) rfl rfl rfl (hW.2.2.2.2.2.1 _ (List.mem_of_getElem? (i := 12) rfl)) (hts (.initialized RX8) (List.mem_cons_of_mem _ (wa_2 _ (List.mem_of_getElem? (i := 12) (by decide +kernel))))) (by decide +kernel) ⟨by dsimp only; omega, by dsimp only; omega⟩, hts (.instanceMethod yX8_tryDuel) (List.mem_cons_of_mem _ (wa_33 _ (List.mem_of_getElem? (i := 6) (by decide +kernel)))), hts (.selects RX8 yX8_tryDuel yX8_tryDuel) (List.mem_cons_of_mem _ (wa_33 _ (List.mem_of_getElem? (i := 7) (by decide +kernel))))⟩ hX.sp.2.2.2.1 kX8 rfl hl.1 rfl (Nat.le_of_ble_eq_true rfl) dX10_duel_86 ⟨Nat.le_of_ble_eq_true rfl, Nat.le_of_ble_eq_true rfl⟩) hW (fun r_33 V_31 H locs hp_32 hW => ?_)
                obtain ⟨rfl, hf_34, hb_35⟩ := hp_32
                refine lv_istore (lv' := [(7, .int ((zDuel (gAsk q) (gNg q) ntn (gZ q) n_10 n_16).1)), (6, .ref (ad (80 + 4 + n_16))), (5, .ref (ad (80 + 4 + n_10))), (0, .ref (ad 0)), (1, .int x), (2, .int y), (3, .int tn), (4, .int w)]) hx hb dX10_duel_89 hl (by decide) rfl (fun ls hl => ?_)
                refine lv_iload hx hb dX10_duel_91 (lv_at hl 7 rfl) ?_
                refine m_if_ne (tgt := 101) hx hb dX10_duel_93 (by decide) (fun c_36 => ?_) (fun c_36 => ?_)
                · skip
                  refine lv_aload_n hx hb dX10_duel_101 rfl (lv_at hl 3 rfl) ?_
                  refine m_getr S hW hX.sp.1 6 rfl (j := 5) rfl kX10 (iW10 _) (by decide) (List.mem_cons_of_mem _ (wa_2 _ (List.mem_of_getElem? (i := 13) (by decide +kernel)))) dX10_duel_102 ?_
                  refine m_geti S hW hX.sp.2.2.2.1 3 rfl kX8 (iW8 _) (by decide) (List.mem_cons_of_mem _ (wa_33 _ (List.mem_of_getElem? (i := 5) (by decide +kernel)))) dX10_duel_105 ?_
                  exact m_iret S hr hlk hW dX10_duel_108 (by exact ⟨by simp only [aDuel, if_pos hpx, hcx, if_pos hpy, hcy, if_neg hxy, if_pos w_23, hctn, if_pos w_28, if_neg c_36]; exact (hb_35 (by omega)).symm, hK1.th hf_34⟩)
                · skip
                  refine lv_iload hx hb dX10_duel_96 (lv_at hl 0 rfl) ?_
                  refine lv_goto (tgt := 108) hx hb dX10_duel_98 (by decide) ?_
                  exact m_iret S hr hlk hW dX10_duel_108 (by exact ⟨by simp only [aDuel, if_pos hpx, hcx, if_pos hpy, hcy, if_neg hxy, if_pos w_23, hctn, if_pos w_28, if_pos c_36], hK1.th hf_34⟩)
              · exact absurd c_30 (by decide)
            · skip
              refine m_if_ne (tgt := 77) hx hb dX10_duel_71 (by decide) (fun c_37 => ?_) (fun c_37 => ?_)
              · exact absurd c_37 (by decide)
              · skip
                refine lv_ldc (v := -1000007) hx hb hown (hts (.constant RX10 219 (-1000007)) (List.mem_cons_of_mem _ (wa_33 _ (List.mem_of_getElem? (i := 4) (by decide +kernel))))) dX10_duel_74 ?_
                exact m_iret S hr hlk hW dX10_duel_76 (by exact ⟨by simp only [aDuel, if_pos hpx, hcx, if_pos hpy, hcy, if_neg hxy, if_pos w_23, hctn, if_neg w_29]; try rfl, hK1⟩)
        · skip
          refine m_if_eq (tgt := 74) hx hb dX10_duel_61 (by decide) (fun c_38 => ?_) (fun c_38 => ?_)
          · skip
            refine lv_ldc (v := -1000007) hx hb hown (hts (.constant RX10 219 (-1000007)) (List.mem_cons_of_mem _ (wa_33 _ (List.mem_of_getElem? (i := 4) (by decide +kernel))))) dX10_duel_74 ?_
            exact m_iret S hr hlk hW dX10_duel_76 (by exact ⟨by simp only [aDuel, if_pos hpx, hcx, if_pos hpy, hcy, if_neg hxy, if_neg w_24]; try rfl, hK1⟩)
          · exact absurd c_38 (by decide)
      · skip
        have c_20 : n_10 = n_16 := (nI_eq (by omega) (by omega)).mp c_20
        have hxy : x = y := by rw [hxn_11, hxn_17, c_20]
        refine lv_ldc (v := -1000005) hx hb hown (hts (.constant RX10 218 (-1000005)) (List.mem_cons_of_mem _ (wa_33 _ (List.mem_of_getElem? (i := 3) (by decide +kernel))))) dX10_duel_52 ?_
        exact m_iret S hr hlk hW dX10_duel_54 (by exact ⟨by simp only [aDuel, if_pos hpx, hcx, if_pos hpy, hcy, if_pos hxy]; try rfl, hK1⟩)
    · skip
      refine W.eq (g2 := F0 m 35 ls [.null]) rfl ?_
      refine lv_astoreN (lv' := [(6, .null), (5, .ref (ad (80 + 4 + n_10))), (0, .ref (ad 0)), (1, .int x), (2, .int y), (3, .int tn), (4, .int w)]) hx hb dX10_duel_35 hl (by decide) rfl (fun ls hl => ?_)
      refine lv_aload hx hb dX10_duel_37 (lv_at hl 1 rfl) ?_
      refine lv_ifnull hx hb dX10_duel_39 ?_
      refine lv_aloadN hx hb dX10_duel_42 (lv_at hl 0 rfl) ?_
      refine lv_ifnullN (tgt := 52) hx hb dX10_duel_44 (by decide) ?_
      refine lv_ldc (v := -1000005) hx hb hown (hts (.constant RX10 218 (-1000005)) (List.mem_cons_of_mem _ (wa_33 _ (List.mem_of_getElem? (i := 3) (by decide +kernel))))) dX10_duel_52 ?_
      exact m_iret S hr hlk hW dX10_duel_54 (by exact ⟨by simp only [aDuel, if_pos hpx, hcx, if_neg hx0_19]; try rfl, hK1⟩)
  · skip
    refine W.eq (g2 := F0 m 22 ls [.null]) rfl ?_
    refine lv_astoreN (lv' := [(5, .null), (0, .ref (ad 0)), (1, .int x), (2, .int y), (3, .int tn), (4, .int w)]) hx hb dX10_duel_22 hl (by decide) rfl (fun ls hl => ?_)
    refine lv_aload_n hx hb dX10_duel_24 rfl (lv_at hl 1 rfl) ?_
    refine m_getr S hW hX.sp.1 6 rfl (j := 5) rfl kX10 (iW10 _) (by decide) (List.mem_cons_of_mem _ (wa_2 _ (List.mem_of_getElem? (i := 13) (by decide +kernel)))) dX10_duel_25 ?_
    refine m_getr S hW hX.sp.2.2.2.1 0 rfl (j := 80) rfl kX8 (iW8 _) (by decide) (List.mem_cons_of_mem _ (wa_33 _ (List.mem_of_getElem? (i := 2) (by decide +kernel)))) dX10_duel_28 ?_
    refine lv_iload_n hx hb dX10_duel_31 rfl (lv_at hl 3 rfl) ?_
    refine m_crp (m_rV S hW (c_X4_eaterAt l G ad sh V_1 80 (110 + 3 * gRl q) ((gT q (gRl q)).2.1) ((gT q (gRl q)).2.2) ((gT q (gRl q)).1.length) (gNe q) (gNg q) y hH1.2.1 hH1.2.2.1) (cwV 1 hts (gCall [.methodLink RX10 120 yX4_eaterAt, .instanceMethod yX4_eaterAt, .selects RX4 yX4_eaterAt yX4_eaterAt, .initialized RX4] (List.forall_mem_cons.mpr ⟨(wa_17 _ (List.mem_of_getElem? (i := 8) (by decide +kernel))), (List.forall_mem_cons.mpr ⟨(wa_17 _ (List.mem_of_getElem? (i := 5) (by decide +kernel))), (List.forall_mem_cons.mpr ⟨(wa_17 _ (List.mem_of_getElem? (i := 6) (by decide +kernel))), (List.forall_mem_cons.mpr ⟨(wa_17 _ (List.mem_of_getElem? (i := 7) (by decide +kernel))), (List.forall_mem_cons.mpr ⟨(wa_2 _ (List.mem_of_getElem? (i := 7) (by decide +kernel))), (fun _ h => absurd h List.not_mem_nil)⟩)⟩)⟩)⟩)⟩)) rfl rfl rfl (by decide +kernel) ⟨by dsimp only; omega, by dsimp only; omega⟩) hX.sp.2.2.2.2.2.2.2.1.2.2.1 kX4 rfl hl.1 rfl (Nat.le_of_ble_eq_true rfl) dX10_duel_32 ⟨Nat.le_of_ble_eq_true rfl, Nat.le_of_ble_eq_true rfl⟩) hW (fun r_40 H locs hp_39 hW => ?_)
    rcases hp_39 with ⟨n_41, rfl, hxn_42, hn_43⟩ | ⟨rfl, hx0_44⟩
    · skip
      refine W.eq (g2 := F0 m 35 ls [.ref (ad (80 + 4 + n_41))]) rfl ?_
      have hpy : mIn y 0 (gNe q) := by rw [hxn_42]; exact (mIn_nI (by have := hX.ne5; have := hX.ng6; omega)).mpr ⟨Nat.zero_le _, hn_43⟩
      have hcy : y.toNatClampNeg = n_41 := by rw [hxn_42]; exact nI_clamp (by have := hX.ne5; have := hX.ng6; omega)
      refine lv_astore (lv' := [(6, .ref (ad (80 + 4 + n_41))), (5, .null), (0, .ref (ad 0)), (1, .int x), (2, .int y), (3, .int tn), (4, .int w)]) hx hb dX10_duel_35 hl (by decide) rfl (fun ls hl => ?_)
      refine lv_aloadN hx hb dX10_duel_37 (lv_at hl 1 rfl) ?_
      refine lv_ifnullN (tgt := 52) hx hb dX10_duel_39 (by decide) ?_
      refine lv_ldc (v := -1000005) hx hb hown (hts (.constant RX10 218 (-1000005)) (List.mem_cons_of_mem _ (wa_33 _ (List.mem_of_getElem? (i := 3) (by decide +kernel))))) dX10_duel_52 ?_
      exact m_iret S hr hlk hW dX10_duel_54 (by exact ⟨by simp only [aDuel, if_neg hx0_13, if_pos hpy, hcy]; try rfl, hK1⟩)
    · skip
      refine W.eq (g2 := F0 m 35 ls [.null]) rfl ?_
      refine lv_astoreN (lv' := [(6, .null), (5, .null), (0, .ref (ad 0)), (1, .int x), (2, .int y), (3, .int tn), (4, .int w)]) hx hb dX10_duel_35 hl (by decide) rfl (fun ls hl => ?_)
      refine lv_aloadN hx hb dX10_duel_37 (lv_at hl 1 rfl) ?_
      refine lv_ifnullN (tgt := 52) hx hb dX10_duel_39 (by decide) ?_
      refine lv_ldc (v := -1000005) hx hb hown (hts (.constant RX10 218 (-1000005)) (List.mem_cons_of_mem _ (wa_33 _ (List.mem_of_getElem? (i := 3) (by decide +kernel))))) dX10_duel_52 ?_
      exact m_iret S hr hlk hW dX10_duel_54 (by exact ⟨by simp only [aDuel, if_neg hx0_13, if_neg hx0_44]; try rfl, hK1⟩)
set_option maxHeartbeats 4000000 in
set_option maxRecDepth 100000 in
theorem c_X10_drawn (l : Launch) (G : mG) (ad : Nat → Nat) (sh : Nat → Option mSh) (V : mV) (q : Sg) (sd n x w : Int32) (hX : XI sh V q) : mM l yX10_drawn wsX10_drawn ({ frames := 40, cells := 0, slots := 0, locals := 1200 } : Room) G ad sh V [.ref (ad 0), .int sd, .int n, .int x, .int w] 0 0 (mPi ad sh (fun r V' => (aDrawn q sd n x w) = r ∧ (XK V V'))) := by
  refine mM.of (cc := cX10_drawn) (maxL := 6) (ret := (some .int)) (by decide) rfl (Nat.le_of_ble_eq_true rfl) ?_
  intro p e s m below meth c S hr hlk hnm hW ls hl
  obtain ⟨hx, hb, hml, hown, hts⟩ := id S
  have hl : lv_has ls 6 [(0, .ref (ad 0)), (1, .int sd), (2, .int n), (3, .int x), (4, .int w)] := hl
  have hS0 : True := trivial
  have hne5 := hX.ne5
  have hng6 := hX.ng6
  have htn := hX.tn
  refine lv_aload_n hx hb dX10_drawn_0 rfl (lv_at hl 0 rfl) ?_
  refine m_getr S hW hX.sp.1 6 rfl (j := 5) rfl kX10 (iW10 _) (by decide) (List.mem_cons_of_mem _ (wa_2 _ (List.mem_of_getElem? (i := 13) (by decide +kernel)))) dX10_drawn_1 ?_
  refine lv_aload_n hx hb dX10_drawn_4 rfl (lv_at hl 0 rfl) ?_
  refine m_getr S hW hX.sp.1 3 rfl (j := 20) rfl kX10 (iW10 _) (by decide) (List.mem_cons_of_mem _ (wa_2 _ (List.mem_of_getElem? (i := 8) (by decide +kernel)))) dX10_drawn_5 ?_
  refine m_cv (m_rV S hW (c_X8_startFrom_x l G ad sh V q (by first | assumption | omega)) (cwV 1 hts (gCall [.methodLink RX10 201 yX8_startFrom, .instanceMethod yX8_startFrom, .selects RX8 yX8_startFrom yX8_startFrom, .initialized RX8] (List.forall_mem_cons.mpr ⟨(wa_30 _ (List.mem_of_getElem? (i := 5) (by decide +kernel))), (List.forall_mem_cons.mpr ⟨(wa_30 _ (List.mem_of_getElem? (i := 2) (by decide +kernel))), (List.forall_mem_cons.mpr ⟨(wa_30 _ (List.mem_of_getElem? (i := 3) (by decide +kernel))), (List.forall_mem_cons.mpr ⟨(wa_30 _ (List.mem_of_getElem? (i := 4) (by decide +kernel))), (List.forall_mem_cons.mpr ⟨(wa_2 _ (List.mem_of_getElem? (i := 12) (by decide +kernel))), (fun _ h => absurd h List.not_mem_nil)⟩)⟩)⟩)⟩)⟩)) rfl rfl rfl (by decide +kernel) ⟨by dsimp only; omega, by dsimp only; omega⟩) hX.sp.2.2.2.1 kX8 rfl hl.1 rfl (Nat.le_of_ble_eq_true rfl) dX10_drawn_8 ⟨Nat.le_of_ble_eq_true rfl, Nat.le_of_ble_eq_true rfl⟩) hW (fun V_1 H locs hp_2 hW => ?_)
  obtain ⟨hQ_4, hK_5, h51_6, h52_7⟩ := hp_2
  have hX1 := hX.k hK_5
  have hH1 : ThOk sh V_1 (110 + 3 * gRl q) (gT q (gRl q)).2.1 (gT q (gRl q)).2.2 (gT q (gRl q)).1.length (gNe q) (gNg q) (gAsk q) (gZ q) := hX1.th hQ_4 hX.rl
  have hK1 := hK_5
  refine lv_aload_n hx hb dX10_drawn_11 rfl (lv_at hl 0 rfl) ?_
  refine m_getr S hW hX.sp.1 6 rfl (j := 5) rfl kX10 (iW10 _) (by decide) (List.mem_cons_of_mem _ (wa_2 _ (List.mem_of_getElem? (i := 13) (by decide +kernel)))) dX10_drawn_12 ?_
  refine m_getr S hW hX.sp.2.2.2.1 0 rfl (j := 80) rfl kX8 (iW8 _) (by decide) (List.mem_cons_of_mem _ (wa_33 _ (List.mem_of_getElem? (i := 2) (by decide +kernel)))) dX10_drawn_15 ?_
  refine lv_iload_n hx hb dX10_drawn_18 rfl (lv_at hl 3 rfl) ?_
  refine m_crp (m_rV S hW (c_X4_eaterAt l G ad sh V_1 80 (110 + 3 * gRl q) ((gT q (gRl q)).2.1) ((gT q (gRl q)).2.2) ((gT q (gRl q)).1.length) (gNe q) (gNg q) x hH1.2.1 hH1.2.2.1) (cwV 1 hts (gCall [.methodLink RX10 120 yX4_eaterAt, .instanceMethod yX4_eaterAt, .selects RX4 yX4_eaterAt yX4_eaterAt, .initialized RX4] (List.forall_mem_cons.mpr ⟨(wa_17 _ (List.mem_of_getElem? (i := 8) (by decide +kernel))), (List.forall_mem_cons.mpr ⟨(wa_17 _ (List.mem_of_getElem? (i := 5) (by decide +kernel))), (List.forall_mem_cons.mpr ⟨(wa_17 _ (List.mem_of_getElem? (i := 6) (by decide +kernel))), (List.forall_mem_cons.mpr ⟨(wa_17 _ (List.mem_of_getElem? (i := 7) (by decide +kernel))), (List.forall_mem_cons.mpr ⟨(wa_2 _ (List.mem_of_getElem? (i := 7) (by decide +kernel))), (fun _ h => absurd h List.not_mem_nil)⟩)⟩)⟩)⟩)⟩)) rfl rfl rfl (by decide +kernel) ⟨by dsimp only; omega, by dsimp only; omega⟩) hX.sp.2.2.2.2.2.2.2.1.2.2.1 kX4 rfl hl.1 rfl (Nat.le_of_ble_eq_true rfl) dX10_drawn_19 ⟨Nat.le_of_ble_eq_true rfl, Nat.le_of_ble_eq_true rfl⟩) hW (fun r_9 H locs hp_8 hW => ?_)
  rcases hp_8 with ⟨n_10, rfl, hxn_11, hn_12⟩ | ⟨rfl, hx0_13⟩
  · skip
    refine W.eq (g2 := F0 m 22 ls [.ref (ad (80 + 4 + n_10))]) rfl ?_
    have hpx : mIn x 0 (gNe q) := by rw [hxn_11]; exact (mIn_nI (by have := hX.ne5; have := hX.ng6; omega)).mpr ⟨Nat.zero_le _, hn_12⟩
    have hcx : x.toNatClampNeg = n_10 := by rw [hxn_11]; exact nI_clamp (by have := hX.ne5; have := hX.ng6; omega)
    refine lv_astore (lv' := [(5, .ref (ad (80 + 4 + n_10))), (0, .ref (ad 0)), (1, .int sd), (2, .int n), (3, .int x), (4, .int w)]) hx hb dX10_drawn_22 hl (by decide) rfl (fun ls hl => ?_)
    refine lv_aload hx hb dX10_drawn_24 (lv_at hl 0 rfl) ?_
    refine lv_ifnonnull (tgt := 32) hx hb dX10_drawn_26 (by decide) ?_
    refine lv_iload_n hx hb dX10_drawn_32 rfl (lv_at hl 2 rfl) ?_
    refine lv_iconst (v := nI 0) hx hb dX10_drawn_33 (by decide) ?_
    refine lv_ldcw (v := nI 99999) hx hb hown (hts (.constant RX10 278 (99999)) (List.mem_cons_of_mem _ (wa_41 _ (List.mem_of_getElem? (i := 23) (by decide +kernel))))) dX10_drawn_34 ?_
    refine m_cip (m_rS S hW (c_X10_within l G ad sh V_1 sd 0 99999 (by first | assumption | omega) (by first | assumption | omega)) (va_cwS 3 hts (gCall [.methodLink RX10 102 yX10_within, .static yX10_within, .initialized RX10] (List.forall_mem_cons.mpr ⟨(wa_8 _ (List.mem_of_getElem? (i := 17) (by decide +kernel))), (List.forall_mem_cons.mpr ⟨(wa_15 _ (List.mem_of_getElem? (i := 8) (by decide +kernel))), (List.forall_mem_cons.mpr ⟨(wa_8 _ (List.mem_of_getElem? (i := 16) (by decide +kernel))), (List.forall_mem_cons.mpr ⟨(wa_1 _ (List.mem_of_getElem? (i := 2) (by decide +kernel))), (fun _ h => absurd h List.not_mem_nil)⟩)⟩)⟩)⟩)) rfl rfl rfl (by decide +kernel) ⟨by dsimp only; omega, by dsimp only; omega⟩) rfl hl.1 rfl (Nat.le_of_ble_eq_true rfl) dX10_drawn_37 ⟨Nat.le_of_ble_eq_true rfl, Nat.le_of_ble_eq_true rfl⟩) hW (fun r_15 H locs hp_14 hW => ?_)
    rcases hp_14 with ⟨rfl, w_16⟩ | ⟨rfl, w_17⟩
    · skip
      obtain ⟨nsd, hnsd, hwnsd, hlnsd⟩ := w_16.ex
      have hcsd : sd.toNatClampNeg = nsd := by rw [hnsd]; exact nI_clamp (by omega)
      refine m_if_eq (tgt := 63) hx hb dX10_drawn_40 (by decide) (fun c_18 => ?_) (fun c_18 => ?_)
      · exact absurd c_18 (by decide)
      · skip
        refine lv_iload_n hx hb dX10_drawn_43 rfl (lv_at hl 3 rfl) ?_
        refine lv_iconst (v := nI 0) hx hb dX10_drawn_44 (by decide) ?_
        refine lv_bipush (v := nI 60) hx hb dX10_drawn_45 (by decide) ?_
        refine m_cip (m_rS S hW (c_X10_within l G ad sh V_1 n 0 60 (by first | assumption | omega) (by first | assumption | omega)) (va_cwS 3 hts (gCall [.methodLink RX10 102 yX10_within, .static yX10_within, .initialized RX10] (List.forall_mem_cons.mpr ⟨(wa_8 _ (List.mem_of_getElem? (i := 17) (by decide +kernel))), (List.forall_mem_cons.mpr ⟨(wa_15 _ (List.mem_of_getElem? (i := 8) (by decide +kernel))), (List.forall_mem_cons.mpr ⟨(wa_8 _ (List.mem_of_getElem? (i := 16) (by decide +kernel))), (List.forall_mem_cons.mpr ⟨(wa_1 _ (List.mem_of_getElem? (i := 2) (by decide +kernel))), (fun _ h => absurd h List.not_mem_nil)⟩)⟩)⟩)⟩)) rfl rfl rfl (by decide +kernel) ⟨by dsimp only; omega, by dsimp only; omega⟩) rfl hl.1 rfl (Nat.le_of_ble_eq_true rfl) dX10_drawn_47 ⟨Nat.le_of_ble_eq_true rfl, Nat.le_of_ble_eq_true rfl⟩) hW (fun r_20 H locs hp_19 hW => ?_)
        rcases hp_19 with ⟨rfl, w_21⟩ | ⟨rfl, w_22⟩
        · skip
          obtain ⟨nn, hnn, hwnn, hlnn⟩ := w_21.ex
          have hcn : n.toNatClampNeg = nn := by rw [hnn]; exact nI_clamp (by omega)
          refine m_if_eq (tgt := 63) hx hb dX10_drawn_50 (by decide) (fun c_23 => ?_) (fun c_23 => ?_)
          · exact absurd c_23 (by decide)
          · skip
            refine lv_iload hx hb dX10_drawn_53 (lv_at hl 5 rfl) ?_
            refine lv_iconst (v := nI 0) hx hb dX10_drawn_55 (by decide) ?_
            refine lv_iconst (v := nI 1) hx hb dX10_drawn_56 (by decide) ?_
            refine m_cip (m_rS S hW (c_X10_within l G ad sh V_1 w 0 1 (by first | assumption | omega) (by first | assumption | omega)) (va_cwS 3 hts (gCall [.methodLink RX10 102 yX10_within, .static yX10_within, .initialized RX10] (List.forall_mem_cons.mpr ⟨(wa_8 _ (List.mem_of_getElem? (i := 17) (by decide +kernel))), (List.forall_mem_cons.mpr ⟨(wa_15 _ (List.mem_of_getElem? (i := 8) (by decide +kernel))), (List.forall_mem_cons.mpr ⟨(wa_8 _ (List.mem_of_getElem? (i := 16) (by decide +kernel))), (List.forall_mem_cons.mpr ⟨(wa_1 _ (List.mem_of_getElem? (i := 2) (by decide +kernel))), (fun _ h => absurd h List.not_mem_nil)⟩)⟩)⟩)⟩)) rfl rfl rfl (by decide +kernel) ⟨by dsimp only; omega, by dsimp only; omega⟩) rfl hl.1 rfl (Nat.le_of_ble_eq_true rfl) dX10_drawn_57 ⟨Nat.le_of_ble_eq_true rfl, Nat.le_of_ble_eq_true rfl⟩) hW (fun r_25 H locs hp_24 hW => ?_)
            rcases hp_24 with ⟨rfl, w_26⟩ | ⟨rfl, w_27⟩
            · skip
              refine m_if_ne (tgt := 66) hx hb dX10_drawn_60 (by decide) (fun c_28 => ?_) (fun c_28 => ?_)
              · skip
                refine lv_aload_n hx hb dX10_drawn_66 rfl (lv_at hl 1 rfl) ?_
                refine m_getr S hW hX.sp.1 3 rfl (j := 20) rfl kX10 (iW10 _) (by decide) (List.mem_cons_of_mem _ (wa_2 _ (List.mem_of_getElem? (i := 8) (by decide +kernel)))) dX10_drawn_67 ?_
                refine m_geti S hW hX.sz.1.1 3 rfl kX4 (iW4 _) (by decide) (List.mem_cons_of_mem _ (wa_14 _ (List.mem_of_getElem? (i := 12) (by decide +kernel)))) dX10_drawn_70 ?_
                refine m_top (y := nI (gNg q)) hX1.now.2.1 ?_
                refine m_if_ne (tgt := 79) hx hb dX10_drawn_73 (by decide) (fun c_29 => ?_) (fun c_29 => ?_)
                · skip
                  have c_29 : ¬ (gNg q) = 0 := mt (nI_eq (by omega) (by omega)).mpr c_29
                  refine lv_aload_n hx hb dX10_drawn_79 rfl (lv_at hl 1 rfl) ?_
                  refine m_getr S hW hX.sp.1 6 rfl (j := 5) rfl kX10 (iW10 _) (by decide) (List.mem_cons_of_mem _ (wa_2 _ (List.mem_of_getElem? (i := 13) (by decide +kernel)))) dX10_drawn_80 ?_
                  refine lv_iload_n hx hb dX10_drawn_83 rfl (lv_at hl 2 rfl) ?_
                  refine m_top (y := nI nsd) hnsd ?_
                  refine lv_iload_n hx hb dX10_drawn_84 rfl (lv_at hl 3 rfl) ?_
                  refine m_top (y := nI nn) hnn ?_
                  refine m_cv (m_rV S hW (c_X8_drawDay l G ad sh V_1 (110 + 3 * gRl q) ((gT q (gRl q)).2.1) ((gT q (gRl q)).2.2) ((gT q (gRl q)).1.length) (gNe q) (gNg q) (gAsk q) (gZ q) nsd nn hH1 (by omega) (by omega) (by omega) (by omega)) (cwV 2 hts (gCall [.methodLink RX10 279 yX8_drawDay, .instanceMethod yX8_drawDay, .selects RX8 yX8_drawDay yX8_drawDay, .initialized RX8] (List.forall_mem_cons.mpr ⟨(wa_42 _ (List.mem_of_getElem? (i := 3) (by decide +kernel))), (List.forall_mem_cons.mpr ⟨(wa_42 _ (List.mem_of_getElem? (i := 0) (by decide +kernel))), (List.forall_mem_cons.mpr ⟨(wa_42 _ (List.mem_of_getElem? (i := 1) (by decide +kernel))), (List.forall_mem_cons.mpr ⟨(wa_42 _ (List.mem_of_getElem? (i := 2) (by decide +kernel))), (List.forall_mem_cons.mpr ⟨(wa_2 _ (List.mem_of_getElem? (i := 12) (by decide +kernel))), (fun _ h => absurd h List.not_mem_nil)⟩)⟩)⟩)⟩)⟩)) rfl rfl rfl (by decide +kernel) ⟨by dsimp only; omega, by dsimp only; omega⟩) hX.sp.2.2.2.1 kX8 rfl hl.1 rfl (Nat.le_of_ble_eq_true rfl) dX10_drawn_85 ⟨Nat.le_of_ble_eq_true rfl, Nat.le_of_ble_eq_true rfl⟩) hW (fun V_30 H locs hp_31 hW => ?_)
                  obtain ⟨hH_33, hfd_34⟩ := hp_31
                  refine lv_iload hx hb dX10_drawn_88 (lv_at hl 5 rfl) ?_
                  refine m_if_ne (tgt := 101) hx hb dX10_drawn_90 (by decide) (fun c_35 => ?_) (fun c_35 => ?_)
                  · skip
                    refine lv_aload hx hb dX10_drawn_101 (lv_at hl 0 rfl) ?_
                    refine m_geti S hW (hH1.2.1.2.2.2.2.1 n_10 (Nat.lt_of_lt_of_le hn_12 hH1.2.2.1.2.2.1)) 3 rfl kX1 (iW1 _) (by decide) (List.mem_cons_of_mem _ (wa_23 _ (List.mem_of_getElem? (i := 14) (by decide +kernel)))) dX10_drawn_103 ?_
                    exact m_iret S hr hlk hW dX10_drawn_106 (by exact ⟨by simp only [aDrawn, if_pos hpx, hcx, if_pos w_16, hcsd, if_pos w_21, hcn, if_pos w_26, if_neg c_29, if_neg c_35]; exact zv_e2 hH_33.2.2.2.2.2 hn_12 (by omega), hK1.td hfd_34⟩)
                  · skip
                    refine lv_aload hx hb dX10_drawn_93 (lv_at hl 0 rfl) ?_
                    refine m_geti S hW (hH1.2.1.2.2.2.2.1 n_10 (Nat.lt_of_lt_of_le hn_12 hH1.2.2.1.2.2.1)) 4 rfl kX1 (iW1 _) (by decide) (List.mem_cons_of_mem _ (wa_23 _ (List.mem_of_getElem? (i := 15) (by decide +kernel)))) dX10_drawn_95 ?_
                    refine lv_goto (tgt := 106) hx hb dX10_drawn_98 (by decide) ?_
                    exact m_iret S hr hlk hW dX10_drawn_106 (by exact ⟨by simp only [aDrawn, if_pos hpx, hcx, if_pos w_16, hcsd, if_pos w_21, hcn, if_pos w_26, if_neg c_29, if_pos c_35]; exact zv_e2 hH_33.2.2.2.2.2 hn_12 (by omega), hK1.td hfd_34⟩)
                · skip
                  have c_29 : (gNg q) = 0 := (nI_eq (by omega) (by omega)).mp c_29
                  refine lv_bipush (v := -3) hx hb dX10_drawn_76 (by decide) ?_
                  exact m_iret S hr hlk hW dX10_drawn_78 (by exact ⟨by simp only [aDrawn, if_pos hpx, hcx, if_pos w_16, hcsd, if_pos w_21, hcn, if_pos w_26, if_pos c_29]; try rfl, hK1⟩)
              · exact absurd c_28 (by decide)
            · skip
              refine m_if_ne (tgt := 66) hx hb dX10_drawn_60 (by decide) (fun c_36 => ?_) (fun c_36 => ?_)
              · exact absurd c_36 (by decide)
              · skip
                refine lv_bipush (v := -7) hx hb dX10_drawn_63 (by decide) ?_
                exact m_iret S hr hlk hW dX10_drawn_65 (by exact ⟨by simp only [aDrawn, if_pos hpx, hcx, if_pos w_16, hcsd, if_pos w_21, hcn, if_neg w_27]; try rfl, hK1⟩)
        · skip
          refine m_if_eq (tgt := 63) hx hb dX10_drawn_50 (by decide) (fun c_37 => ?_) (fun c_37 => ?_)
          · skip
            refine lv_bipush (v := -7) hx hb dX10_drawn_63 (by decide) ?_
            exact m_iret S hr hlk hW dX10_drawn_65 (by exact ⟨by simp only [aDrawn, if_pos hpx, hcx, if_pos w_16, hcsd, if_neg w_22]; try rfl, hK1⟩)
          · exact absurd c_37 (by decide)
    · skip
      refine m_if_eq (tgt := 63) hx hb dX10_drawn_40 (by decide) (fun c_38 => ?_) (fun c_38 => ?_)
      · skip
        refine lv_bipush (v := -7) hx hb dX10_drawn_63 (by decide) ?_
        exact m_iret S hr hlk hW dX10_drawn_65 (by exact ⟨by simp only [aDrawn, if_pos hpx, hcx, if_neg w_17]; try rfl, hK1⟩)
      · exact absurd c_38 (by decide)
  · skip
    refine W.eq (g2 := F0 m 22 ls [.null]) rfl ?_
    refine lv_astoreN (lv' := [(5, .null), (0, .ref (ad 0)), (1, .int sd), (2, .int n), (3, .int x), (4, .int w)]) hx hb dX10_drawn_22 hl (by decide) rfl (fun ls hl => ?_)
    refine lv_aloadN hx hb dX10_drawn_24 (lv_at hl 0 rfl) ?_
    refine lv_ifnonnullN hx hb dX10_drawn_26 ?_
    refine lv_bipush (v := -5) hx hb dX10_drawn_29 (by decide) ?_
    exact m_iret S hr hlk hW dX10_drawn_31 (by exact ⟨by simp only [aDrawn, if_neg hx0_13]; try rfl, hK1⟩)
