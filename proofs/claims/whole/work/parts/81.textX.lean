/-! the class's text(), over the shared state -/
def qsV (V : mV) (ta : Nat) : pS := (0, V 1 3, ta, V 1 5, -1, [])
theorem qsV_ok (V : mV) (ta : Nat) : QsOk (qsV V ta) := ⟨rfl, rfl, rfl⟩
/-- what findFault leaves -/
def FaOk (V V' : mV) (q : Sg) (x : sT) : Prop := V' 1 1 = nI (gTp q).length ∧ (∃ ta, ta ≤ 160 ∧ V' 1 4 = nI ta) ∧ (V' 1 8 = nI x.1.length ∧ x.1.length ≤ 160) ∧ V' 1 9 = nI x.2.1 ∧ V' 1 10 = nI x.2.2 ∧ (∀ k, k < x.1.length → V' 3 k = x.1.getD k 0) ∧ (∀ a, (a ≠ 1 ∧ a ≠ 3) → V' a = V a)
theorem tpB_of {V : mV} {q : Sg} {o : Nat} (h : ∀ k x, (gTp q)[k]? = some x → V o k = x) : ∀ k, k < (gTp q).length → V o k = tpB q k := fun k hk => by
  rw [h k _ (List.getElem?_eq_getElem hk)]
  show _ = (gTp q).getD k 0
  rw [List.getD, List.getElem?_eq_getElem hk]
  rfl
theorem getD_of {c : List Int32} {f : Nat → Int32} (h : ∀ k x, c[k]? = some x → f k = x) : ∀ k, k < c.length → f k = c.getD k 0 := fun k hk => by
  rw [h k _ (List.getElem?_eq_getElem hk), List.getD, List.getElem?_eq_getElem hk]
  rfl
theorem fault_w {sh : Nat → Option mSh} {V V' : mV} {q : Sg} {ta : Nat} {rd : pS → pS} {r : Int32} (hA : pAdv (V 2) (gTp q).length = pAdv (tpB q) (gTp q).length) (h : (gTx rd (V 2) (gTp q).length (0, V 1 3, ta, V 1 5, -1, [])).2.2.2.2.1 = r ∧ (TpOk sh V' (gTp q).length (V 2) (gTx rd (V 2) (gTp q).length (0, V 1 3, ta, V 1 5, -1, []))) ∧ (V' 1 9 = nI (gT1 rd (V 2) (gTp q).length (0, V 1 3, ta, V 1 5, -1, [])).2.2.2.2.2.length) ∧ (V' 1 10 = nI (gT2 rd (V 2) (gTp q).length (0, V 1 3, ta, V 1 5, -1, [])).2.2.2.2.2.length) ∧ (∀ a, a ≠ 1 → a ≠ 3 → V' a = V a)) :
    flt (gTx rd (tpB q) (gTp q).length (qsV V ta)) = r ∧ FaOk V V' q (cdl (gTx rd (tpB q) (gTp q).length (qsV V ta)), (cdl (gT1 rd (tpB q) (gTp q).length (qsV V ta))).length, (cdl (gT2 rd (tpB q) (gTp q).length (qsV V ta))).length) := by
  obtain ⟨h1, h2, h3, h4, h5⟩ := h
  obtain ⟨g1, g2, g3⟩ := gT_B hA rd (0, V 1 3, ta, V 1 5, -1, [])
  rw [g3] at h1 h2
  rw [g1] at h3
  rw [g2] at h4
  obtain ⟨-, -, t1, t2, -, -, ⟨t3, t4⟩, -, -, t5, t6, t7⟩ := h2
  exact ⟨h1, t2, ⟨_, t4, t3⟩, ⟨t5, t6⟩, h3, h4, getD_of t7, fun a ha => h5 a ha.1 ha.2⟩
theorem c_X6_fault (l : Launch) (G : mG) (ad : Nat → Nat) (sh : Nat → Option mSh) (V : mV) (q : Sg) (ta : Nat) (hs : sh 1 = some sTape ∧ sh 2 = some (mI 160) ∧ sh 3 = some (mI 160)) (htp : V 1 1 = nI (gTp q).length ∧ (gTp q).length ≤ 160 ∧ ∀ k x, (gTp q)[k]? = some x → V 2 k = x) (hta : V 1 4 = nI ta) (hta4 : ta ≤ 160) : mM l yX6_findFault wsX6_findFault ({ frames := 60, cells := 0, slots := 0, locals := 1600 } : Room) G ad sh V [.ref (ad 1)] 0 0 (mPi ad sh (fun r V' => flt (gTq q (qsV V ta)) = r ∧ FaOk V V' q (nwT q (qsV V ta)))) := by
  have hA : pAdv (V 2) (gTp q).length = pAdv (tpB q) (gTp q).length := pAdv_B (tpB_of htp.2.2)
  have hrd : (pD (V 2) (gTp q).length 5).2 5 = rdT q := by rw [pD_B hA, rdT]
  have hread := (c_X6_read l G ad sh (gTp q).length (V 2) 5 0 rfl).2.2.2.2.2.2
  obtain ⟨rd, erd⟩ : ∃ rd : pS → pS, rd = (pD (V 2) (gTp q).length 5).2 5 := ⟨_, rfl⟩
  rw [← erd] at hread hrd
  refine (c_X6_findFault_g l G ad sh V (gTp q).length (V 2) (V 1 3) (V 1 5) ta rd hs.1 hs.2.1 hs.2.2 rfl htp.1 htp.2.1 rfl hta hta4 rfl hread).weak ?_
  rintro v ad' sh' V' ⟨e1, e2, r, e3, hp⟩
  refine ⟨e1, e2, r, e3, ?_⟩
  have eG : gTq q (qsV V ta) = gTx rd (tpB q) (gTp q).length (qsV V ta) := by rw [gTq, hrd]
  have eN : nwT q (qsV V ta) = (cdl (gTx rd (tpB q) (gTp q).length (qsV V ta)), (cdl (gT1 rd (tpB q) (gTp q).length (qsV V ta))).length, (cdl (gT2 rd (tpB q) (gTp q).length (qsV V ta))).length) := by rw [nwT, gTq, hrd]
  rw [eG, eN]
  clear eG eN hrd hread erd
  exact fault_w hA hp
theorem nwT_1 (q : Sg) (qs : pS) : (nwT q qs).1 = cdl (gTq q qs) := by
  unfold nwT gTq
  generalize rdT q = rd
  rfl
theorem tq_yes {q : Sg} {qs : pS} {r : Int32} (h160 : (gTp q).length ≤ 160) (hq : QsOk qs) (hr : flt (gTq q qs) = r) (hn : ¬ nI 0 ≤ r) : flt (gTq q qs) = -1 ∧ (nwT q qs).2.1 ≤ (nwT q qs).2.2 ∧ (nwT q qs).2.2 ≤ (nwT q qs).1.length := by
  rcases tq_all h160 hq with ⟨b, hb, -⟩ | ⟨h1, h2⟩
  · exact absurd (by rw [← hr, hb.2.1]; exact nI_pos' hb.2.2) hn
  · refine ⟨h1, ?_⟩
    rw [nwT_1]
    have hw := h2.wf
    exact ⟨hw.2.1, hw.2.2.1⟩
section XITX
variable {sh sh' : Nat → Option mSh} {V V' : mV} {q : Sg}
theorem XI.x8 (h : XI sh V q) {q' : Sg} (e1 : q'.1 = q.1) (e2 : gTp q' = []) (e3 : q'.2.2.2 = q.2.2.2) (hl : (gTxs q).length ≤ (gTxs q').length ∧ (gTxs q').length ≤ 6) (hsp : XSh sh' (gTxs q')) (h02 : V' 0 2 = nI (gTxs q').length) (h05 : V' 0 5 = V 0 5) (h11 : V' 1 1 = nI 0) (h14 : ∃ ta, ta ≤ 160 ∧ V' 1 4 = nI ta) (ht : ∀ t, t < (gTxs q').length → TxI V' t (gT q' t) ∧ V' 4 t = nI 1) (hf : ∀ a, 4 < a → a < 110 → V' a = V a) : XI sh' V' q' := by
  have z4 : gRl q' = gRl q := congrArg (fun z => z.2.2.2) e1
  have z5 : gHas q' = gHas q := congrArg (fun z => z.1.1) e3
  have z6 : gIm q' = gIm q := congrArg (fun z => z.1.2) e3
  have z7 : gSh q' = gSh q := congrArg (fun z => z.2) e3
  have hn := h.tn
  refine ⟨hsp, ⟨h02, by omega, hl.2⟩, by rw [h05, z5]; exact h.has, ⟨by rw [e1]; exact h.now.eq (fun a h1 h2 => hf a (by omega) (by omega)) (fun k _ => by rw [hf 20 (by omega) (by omega)]), by rw [z4]; exact Nat.lt_of_lt_of_le h.rl hl.1⟩, ⟨by rw [z6]; exact h.im.eq (fun a h1 h2 => hf a (by omega) (by omega)) (fun k _ => by rw [hf 50 (by omega) (by omega)]), by rw [z6]; exact Nat.lt_of_lt_of_le h.imr hl.1⟩, ht, ⟨by rw [e2]; exact h11, by rw [e2]; exact Nat.zero_le _, fun k x hk => by rw [e2] at hk; exact absurd hk (by simp)⟩, h14, by rw [hf 9 (by omega) (by omega)]; exact h.cov, fun i hi => ?_⟩
  rw [hf (11 + i) (by omega) (by omega), hf (15 + i) (by omega) (by omega), z7]
  exact h.shs i hi
theorem XI.textN (h : XI sh V q) {V1 : mV} {x : sT} (hF : FaOk V V1 q x) (hs : ∀ a, a < 200 → sh' a = sh a) (h1 : V' 1 1 = nI 0) (h2 : ∀ k, k ≠ 1 → V' 1 k = V1 1 k) (h3 : ∀ a, a ≠ 1 → V' a = V1 a) (hsp : XSh sh' (gTxs q)) : XI sh' V' (nTextN q) := by
  obtain ⟨-, ⟨ta, f1, f2⟩, -, -, -, -, f7⟩ := hF
  have k := fun a (h1 : a ≠ 1) (h2 : a ≠ 3) => (h3 a h1).trans (f7 a ⟨h1, h2⟩)
  refine h.x8 (q' := nTextN q) rfl rfl rfl ⟨Nat.le_refl _, h.tn.2.2⟩ hsp (by rw [k 0 (by omega) (by omega)]; exact h.tn.1) (by rw [k 0 (by omega) (by omega)]) h1 ⟨ta, f1, by rw [h2 4 (by omega)]; exact f2⟩ (fun t ht => ?_) (fun a h1 h2 => k a (by omega) (by omega))
  obtain ⟨⟨b1, b2, b3, b4, b5⟩, b6⟩ := h.tx t ht
  exact ⟨⟨by rw [k _ (by omega) (by omega)]; exact b1, by rw [k _ (by omega) (by omega)]; exact b2, by rw [k _ (by omega) (by omega)]; exact b3, by rw [k _ (by omega) (by omega)]; exact b4, b5⟩, by rw [k 4 (by omega) (by omega)]; exact b6⟩
theorem XSh.eq {tx : List sT} (h : XSh sh tx) (hs : ∀ a, a < 110 + 3 * tx.length → sh' a = sh a) : XSh sh' tx := by
  obtain ⟨h1, ⟨h2, h3, h4⟩, h5, h6, ⟨h7, h8⟩, ⟨h9, h10⟩, ⟨h11, h12⟩, ⟨h13, h14, h15⟩, h16⟩ := h
  refine ⟨(hs _ (by omega)).trans h1, ⟨(hs _ (by omega)).trans h2, (hs _ (by omega)).trans h3, (hs _ (by omega)).trans h4⟩, (hs _ (by omega)).trans h5, (hs _ (by omega)).trans h6, ⟨(hs _ (by omega)).trans h7, (hs _ (by omega)).trans h8⟩, ⟨(hs _ (by omega)).trans h9, (hs _ (by omega)).trans h10⟩, ⟨(hs _ (by omega)).trans h11, fun i hi => ⟨(hs _ (by omega)).trans (h12 i hi).1, (hs _ (by omega)).trans (h12 i hi).2⟩⟩, ⟨h13.eq (fun a _ _ => hs a (by omega)), h14.eq (fun a _ _ => hs a (by omega)), h15.eq (fun a _ _ => hs a (by omega))⟩, fun t ht => ?_⟩
  obtain ⟨g1, g2, g3⟩ := h16 t ht
  exact ⟨(hs _ (by omega)).trans g1, (hs _ (by omega)).trans g2, (hs _ (by omega)).trans g3⟩
theorem XSh.app {tx : List sT} {x : sT} (h : XSh sh tx) (hT : TxS sh (110 + 3 * tx.length) x.1.length) : XSh sh (tx ++ [x]) := by
  obtain ⟨h1, h2, h5, h6, h7, h9, h11, h13, h16⟩ := h
  refine ⟨h1, h2, h5, h6, h7, h9, h11, h13, fun t ht => ?_⟩
  rw [List.length_append] at ht
  have ht : t < tx.length + 1 := ht
  by_cases h : t < tx.length
  · rw [List.getD, List.getElem?_append_left h]
    exact h16 t h
  · obtain rfl : t = tx.length := by omega
    rw [List.getD, List.getElem?_append_right (Nat.le_refl _), Nat.sub_self]
    exact hT
theorem XI.textY (h : XI sh V q) {V1 : mV} {x : sT} {n : Nat} (hn : (gTxs q).length = n) (h6 : n < 6) (hF : FaOk V V1 q x) (hw : x.2.1 ≤ x.2.2 ∧ x.2.2 ≤ x.1.length) (hs : ∀ a, a < 110 + 3 * n → sh' a = sh a) (hT : TxS sh' (110 + 3 * n) x.1.length)
    (h1 : V' 1 1 = nI 0) (h2 : ∀ k, k ≠ 1 → V' 1 k = V1 1 k) (h02 : V' 0 2 = nI (n + 1)) (h05 : V' 0 5 = V1 0 5) (h4 : V' 4 n = 1) (h4' : ∀ t, t ≠ n → V' 4 t = V1 4 t) (h0 : V' (110 + 3 * n) 0 = nI n ∧ V' (110 + 3 * n) 2 = nI x.2.1 ∧ V' (110 + 3 * n) 3 = nI x.2.2) (hc : ∀ k, k < x.1.length → V' (111 + 3 * n) k = x.1.getD k 0) (h3 : ∀ a, (1 < a ∧ a ≠ 4 ∧ a < 110 + 3 * n) → V' a = V1 a) : XI sh' V' (nTextY q x) := by
  obtain ⟨-, ⟨ta, f1, f2⟩, ⟨-, f3⟩, -, -, -, f7⟩ := hF
  have hl : (gTxs (nTextY q x)).length = n + 1 := by
    show ((gTxs q) ++ [_]).length = _
    rw [List.length_append, hn]
    rfl
  have k := fun a (h1 : 3 < a) (h2 : a ≠ 4) (h4 : a < 110 + 3 * n) => (h3 a ⟨by omega, h2, h4⟩).trans (f7 a ⟨by omega, by omega⟩)
  subst hn
  refine h.x8 (q' := nTextY q x) rfl rfl rfl ⟨by omega, by omega⟩ (XSh.app (h.sp.eq hs) hT) (by rw [hl]; exact h02) (by rw [h05, f7 0 ⟨by omega, by omega⟩]) h1 ⟨ta, f1, by rw [h2 4 (by omega)]; exact f2⟩ (fun t ht => ?_) (fun a h1 h2 => k a (by omega) (by omega) (by omega))
  rw [hl] at ht
  by_cases hlt : t < (gTxs q).length
  · rw [gT_app hlt]
    obtain ⟨⟨b1, b2, b3, b4, b5⟩, b6⟩ := h.tx t hlt
    exact ⟨⟨by rw [k _ (by omega) (by omega) (by omega)]; exact b1, by rw [k _ (by omega) (by omega) (by omega)]; exact b2, by rw [k _ (by omega) (by omega) (by omega)]; exact b3, by rw [k _ (by omega) (by omega) (by omega)]; exact b4, b5⟩, by rw [h4' t (by omega), f7 4 ⟨by omega, by omega⟩]; exact b6⟩
  · obtain rfl : t = (gTxs q).length := by omega
    rw [gT_new]
    exact ⟨⟨h0.1, h0.2.1, h0.2.2, hc, hw.1, hw.2, f3⟩, h4⟩
end XITX
set_option maxHeartbeats 4000000 in
set_option maxRecDepth 100000 in
theorem c_X6_clear0 (l : Launch) (G : mG) (ad : Nat → Nat) (sh : Nat → Option mSh) (V : mV)  (h1 : sh 1 = some sTape) : mM l yX6_clear wsX6_clear ({ frames := 0, cells := 0, slots := 0, locals := 0 } : Room) G ad sh V [.ref (ad 1)] 0 0 (fun v ad' sh' V' => v = none ∧ (∀ a, 0 ≤ a → ad' a = ad a) ∧ (∀ a, 0 ≤ a → sh' a = sh a) ∧ (∀ a, a ≠ 1 → V' a = V a) ∧ (V' 1 1 = nI 0) ∧ (∀ k, k ≠ 1 → V' 1 k = V 1 k)) := by
  refine mM.of (cc := cX6_clear) (maxL := 1) (ret := none) (by decide) rfl (Nat.le_of_ble_eq_true rfl) ?_
  intro p e s m below meth c S hr hlk hnm hW ls hl
  obtain ⟨hx, hb, hml, hown, hts⟩ := id S
  have hl : lv_has ls 1 [(0, .ref (ad 1))] := hl
  skip
  refine lv_aload_n hx hb dX6_clear_0 rfl (lv_at hl 0 rfl) ?_
  refine lv_iconst (v := nI 0) hx hb dX6_clear_1 (by decide) ?_
  refine m_puti S hW h1 1 rfl kX6 (iW6 _) tyX6 tyX6_ok nmX6 (by decide) (List.mem_cons_of_mem _ (wa_5 _ (List.mem_of_getElem? (i := 21) (by decide +kernel)))) (Or.inl rfl) rfl rfl dX6_clear_2 (fun H locs hW => ?_)
  obtain ⟨V_1, eV_1⟩ : ∃ vv_ : mV, vv_ = mU V 1 1 (nI 0) := ⟨_, rfl⟩
  rw [← eV_1] at hW
  have fV_1 : ∀ a, a ≠ 1 → V_1 a = V a := fun a ha => by rw [eV_1]; exact mU_no _ _ ha
  refine W.widen (k := 0) (n := 0) (Nat.le_of_ble_eq_true rfl) (Nat.le_of_ble_eq_true rfl) ?_
  refine W.vret S.1 S.2.1 hr (m_post hW ?_) hW.2.2.1.2.2 dX6_clear_5 hlk
  exact ⟨rfl, fun _ _ => rfl, fun _ _ => rfl, fun a ha => fV_1 a (by omega), by rw [eV_1, mU_eq], fun k hk => by rw [eV_1, mU_ne _ _ (by omega)]⟩
set_option maxHeartbeats 4000000 in
set_option maxRecDepth 100000 in
theorem c_X10_text (l : Launch) (G : mG) (ad : Nat → Nat) (sh : Nat → Option mSh) (V : mV) (q : Sg) (ta n : Nat) (hI : XI sh V q) (hn : (gTxs q).length = n) (hta : V 1 4 = nI ta) (hta4 : ta ≤ 160) (hno : ∀ t, n ≤ t → t < 6 → sh (110 + 3 * t) = none ∧ sh (110 + 3 * t + 1) = none ∧ sh (110 + 3 * t + 2) = none) : mM l yX10_text wsX10_text ({ frames := 70, cells := 3, slots := 197, locals := 1800 } : Room) G ad sh V [.ref (ad 0)] 3 197 (fun v ad' sh' V' => v = some (.int (aText q (qsV V ta))) ∧ (∀ a, (a < 110 ∨ 200 ≤ a) → ad' a = ad a) ∧ (∀ a, (a < 110 ∨ 200 ≤ a) → sh' a = sh a) ∧ (∀ a, 200 ≤ a → V' a = V a) ∧ (XI sh' V' (nText q (qsV V ta))) ∧ (∀ t, (gTxs (nText q (qsV V ta))).length ≤ t → t < 6 → sh' (110 + 3 * t) = none ∧ sh' (110 + 3 * t + 1) = none ∧ sh' (110 + 3 * t + 2) = none)) := by
  refine mM.of (cc := cX10_text) (maxL := 2) (ret := (some .int)) (by decide) rfl (Nat.le_of_ble_eq_true rfl) ?_
  intro p e s m below meth c S hr hlk hnm hW ls hl
  obtain ⟨hx, hb, hml, hown, hts⟩ := id S
  have hl : lv_has ls 2 [(0, .ref (ad 0))] := hl
  skip
  have hsp := hI.sp
  have hn2 : V 0 2 = nI n := by rw [← hn]; exact hI.tn.1
  have hn6 : 1 ≤ n ∧ n ≤ 6 := by rw [← hn]; exact hI.tn.2
  refine lv_aload_n hx hb dX10_text_0 rfl (lv_at hl 0 rfl) ?_
  refine m_geti S hW hsp.1 2 rfl kX10 (iW10 _) (by decide) (List.mem_cons_of_mem _ (wa_2 _ (List.mem_of_getElem? (i := 4) (by decide +kernel)))) dX10_text_1 ?_
  refine m_top (y := nI n) (by rw [hn2]) ?_
  refine lv_bipush (v := nI 6) hx hb dX10_text_4 (by decide) ?_
  refine lv_icmp_lt (tgt := 12) hx hb dX10_text_6 (by decide) (fun c_1 => ?_) (fun c_1 => ?_)
  · skip
    have c_1 : n < 6 := (nI_ltI (by omega) (by omega)).mp c_1
    refine lv_aload_n hx hb dX10_text_12 rfl (lv_at hl 0 rfl) ?_
    refine m_getr S hW hsp.1 0 rfl (j := 1) rfl kX10 (iW10 _) (by decide) (List.mem_cons_of_mem _ (wa_1 _ (List.mem_of_getElem? (i := 15) (by decide +kernel)))) dX10_text_13 ?_
    refine m_ci (m_rV S hW (c_X6_fault l G ad sh V q ta ⟨hsp.2.1.1, hsp.2.1.2.1, hsp.2.1.2.2⟩ hI.tp hta hta4) (cwV 0 hts (gCall [.methodLink RX10 48 yX6_findFault, .instanceMethod yX6_findFault, .selects RX6 yX6_findFault yX6_findFault, .initialized RX6] (List.forall_mem_cons.mpr ⟨(wa_6 _ (List.mem_of_getElem? (i := 1) (by decide +kernel))), (List.forall_mem_cons.mpr ⟨(wa_5 _ (List.mem_of_getElem? (i := 22) (by decide +kernel))), (List.forall_mem_cons.mpr ⟨(wa_5 _ (List.mem_of_getElem? (i := 23) (by decide +kernel))), (List.forall_mem_cons.mpr ⟨(wa_6 _ (List.mem_of_getElem? (i := 0) (by decide +kernel))), (List.forall_mem_cons.mpr ⟨(wa_1 _ (List.mem_of_getElem? (i := 14) (by decide +kernel))), (fun _ h => absurd h List.not_mem_nil)⟩)⟩)⟩)⟩)⟩)) rfl rfl rfl (by decide +kernel) ⟨(Nat.le_of_ble_eq_true rfl), (Nat.le_of_ble_eq_true rfl)⟩) hsp.2.1.1 kX6 rfl hl.1 rfl (Nat.le_of_ble_eq_true rfl) dX10_text_16 ⟨(Nat.le_of_ble_eq_true rfl), (Nat.le_of_ble_eq_true rfl)⟩) hW (fun r0 V1 H locs hp hW => ?_)
    obtain ⟨hr1, hF⟩ := hp
    obtain ⟨x, hx9⟩ : ∃ vv_ : sT, vv_ = nwT q (qsV V ta) := ⟨_, rfl⟩
    rw [← hx9] at hF
    have fV1 := hF.2.2.2.2.2.2
    have hF8 := hF.2.2.1
    have hF9 := hF.2.2.2.1
    have hF10 := hF.2.2.2.2.1
    have hF3 := hF.2.2.2.2.2.1
    refine lv_istore_n (lv' := [(1, .int r0), (0, .ref (ad 0))]) hx hb dX10_text_19 rfl hl (by decide) rfl (fun ls hl => ?_)
    refine lv_iload_n hx hb dX10_text_20 rfl (lv_at hl 0 rfl) ?_
    refine m_if_ge (tgt := 54) hx hb dX10_text_21 (by decide) (fun c_2 => ?_) (fun c_2 => ?_)
    · skip
      have hno1 : ¬ flt (gTq q (qsV V ta)) = -1 := fun z => absurd c_2 (by rw [← hr1, z]; decide)
      refine lv_aload_n hx hb dX10_text_54 rfl (lv_at hl 1 rfl) ?_
      refine m_getr S hW hsp.1 0 rfl (j := 1) rfl kX10 (iW10 _) (by decide) (List.mem_cons_of_mem _ (wa_1 _ (List.mem_of_getElem? (i := 15) (by decide +kernel)))) dX10_text_55 ?_
      refine m_fin (m_rV S hW (c_X6_clear0 l G ad sh V1 hsp.2.1.1) (cwV 0 hts (gCall [.methodLink RX10 56 yX6_clear, .instanceMethod yX6_clear, .selects RX6 yX6_clear yX6_clear, .initialized RX6] (List.forall_mem_cons.mpr ⟨(wa_9 _ (List.mem_of_getElem? (i := 17) (by decide +kernel))), (List.forall_mem_cons.mpr ⟨(wa_9 _ (List.mem_of_getElem? (i := 14) (by decide +kernel))), (List.forall_mem_cons.mpr ⟨(wa_9 _ (List.mem_of_getElem? (i := 15) (by decide +kernel))), (List.forall_mem_cons.mpr ⟨(wa_9 _ (List.mem_of_getElem? (i := 16) (by decide +kernel))), (List.forall_mem_cons.mpr ⟨(wa_1 _ (List.mem_of_getElem? (i := 14) (by decide +kernel))), (fun _ h => absurd h List.not_mem_nil)⟩)⟩)⟩)⟩)⟩)) rfl rfl rfl (by decide +kernel) ⟨(Nat.le_of_ble_eq_true rfl), (Nat.le_of_ble_eq_true rfl)⟩) hsp.2.1.1 kX6 rfl hl.1 rfl (Nat.le_of_ble_eq_true rfl) dX10_text_58 ⟨(Nat.le_of_ble_eq_true rfl), (Nat.le_of_ble_eq_true rfl)⟩) hW (fun v_3 ad_4 sh_5 V_6 H locs hp_7 hW => ?_)
      obtain ⟨rfl, hA_8, hS_9, hV_10, h11_11, h1k_12⟩ := hp_7
      refine W.eq (g2 := F0 m 61 ls []) rfl ?_
      have hl : lv_has ls 2 [(1, .int r0), (0, .ref (ad_4 0))] := by rw [hA_8 0 (by omega)]; exact hl
      refine lv_iload_n hx hb dX10_text_61 rfl (lv_at hl 0 rfl) ?_
      refine m_if_ge (tgt := 74) hx hb dX10_text_62 (by decide) (fun c_13 => ?_) (fun c_13 => ?_)
      · skip
        refine lv_bipush (v := -100) hx hb dX10_text_74 (by decide) ?_
        refine lv_iload_n hx hb dX10_text_76 rfl (lv_at hl 0 rfl) ?_
        refine lv_isub hx hb dX10_text_77 ?_
        have hsh : ∀ a, 0 ≤ a → sh_5 a = sh a := fun a ha => hS_9 a (by omega)
        refine W.widen (k := 3) (n := 197) (Nat.le_of_ble_eq_true rfl) (Nat.le_of_ble_eq_true rfl) ?_
        refine W.iret S.1 S.2.1 hr (m_post hW ?_) hW.2.2.1.2.2 dX10_text_78 hlk
        exact ⟨congrArg (fun vv_ => some (Value.int vv_)) (by rw [aText, if_neg (by omega), if_neg hno1, hr1]), fun a ha => hA_8 a (by omega), fun a ha => hS_9 a (by omega), fun a ha => (hV_10 a (by omega)).trans (fV1 a (by omega)), by rw [nText, if_neg (by omega), if_neg hno1]; exact hI.textN hF (fun a _ => hsh a (Nat.zero_le a)) h11_11 h1k_12 (fun a ha => hV_10 a ha) (hI.sp.eq (fun a _ => hsh a (Nat.zero_le a))), by rw [nText, if_neg (by omega), if_neg hno1]; exact fun t h1 h2 => by rw [hsh _ (Nat.zero_le _), hsh _ (Nat.zero_le _), hsh _ (Nat.zero_le _)]; exact hno t (by rw [← hn]; exact h1) h2⟩
      · first | exact absurd c_13 c_2 | exact absurd c_2 c_13 | (exfalso; simp_all; done)
    · skip
      have hyes := tq_yes hI.tp.2.1 (qsV_ok V ta) hr1 c_2
      rw [← hx9] at hyes
      obtain ⟨hyf, hwf2⟩ := hyes
      refine lv_aload_n hx hb dX10_text_24 rfl (lv_at hl 1 rfl) ?_
      refine m_getr S hW hsp.1 1 rfl (j := 4) rfl kX10 (iW10 _) (by decide) (List.mem_cons_of_mem _ (wa_1 _ (List.mem_of_getElem? (i := 17) (by decide +kernel)))) dX10_text_25 ?_
      refine lv_aload_n hx hb dX10_text_28 rfl (lv_at hl 1 rfl) ?_
      refine m_geti S hW hsp.1 2 rfl kX10 (iW10 _) (by decide) (List.mem_cons_of_mem _ (wa_2 _ (List.mem_of_getElem? (i := 4) (by decide +kernel)))) dX10_text_29 ?_
      refine m_top (y := nI n) (by rw [fV1 0 (by omega), hn2]) ?_
      refine lv_aload_n hx hb dX10_text_32 rfl (lv_at hl 1 rfl) ?_
      refine m_getr S hW hsp.1 0 rfl (j := 1) rfl kX10 (iW10 _) (by decide) (List.mem_cons_of_mem _ (wa_1 _ (List.mem_of_getElem? (i := 15) (by decide +kernel)))) dX10_text_33 ?_
      refine lv_aload_n hx hb dX10_text_36 rfl (lv_at hl 1 rfl) ?_
      refine m_geti S hW hsp.1 2 rfl kX10 (iW10 _) (by decide) (List.mem_cons_of_mem _ (wa_2 _ (List.mem_of_getElem? (i := 4) (by decide +kernel)))) dX10_text_37 ?_
      refine m_top (y := nI n) (by rw [fV1 0 (by omega), hn2]) ?_
      refine m_fin (m_rV S hW (c_X6_made l G ad sh V1 (110 + 3 * n) x.1.length x.2.1 x.2.2 (nI n) hsp.2.1.1 hsp.2.1.2.2 ((hno n (Nat.le_refl n) (by omega)).2.1) ((hno n (Nat.le_refl n) (by omega)).1) ((hno n (Nat.le_refl n) (by omega)).2.2) (by first | assumption | omega) hF8.1 hF8.2 hF9 hF10) (cwV 1 hts (gCall [.methodLink RX10 52 yX6_made, .instanceMethod yX6_made, .selects RX6 yX6_made yX6_made, .initialized RX6] (List.forall_mem_cons.mpr ⟨(wa_8 _ (List.mem_of_getElem? (i := 21) (by decide +kernel))), (List.forall_mem_cons.mpr ⟨(wa_8 _ (List.mem_of_getElem? (i := 18) (by decide +kernel))), (List.forall_mem_cons.mpr ⟨(wa_8 _ (List.mem_of_getElem? (i := 19) (by decide +kernel))), (List.forall_mem_cons.mpr ⟨(wa_8 _ (List.mem_of_getElem? (i := 20) (by decide +kernel))), (List.forall_mem_cons.mpr ⟨(wa_1 _ (List.mem_of_getElem? (i := 14) (by decide +kernel))), (fun _ h => absurd h List.not_mem_nil)⟩)⟩)⟩)⟩)⟩)) rfl rfl rfl (by decide +kernel) ⟨(Nat.le_of_ble_eq_true rfl), (Nat.le_of_ble_eq_true rfl)⟩) hsp.2.1.1 kX6 rfl hl.1 rfl (Nat.le_of_ble_eq_true rfl) dX10_text_40 ⟨(Nat.le_of_ble_eq_true rfl), (Nat.le_of_ble_eq_true rfl)⟩) hW (fun v_14 ad_15 sh_16 V_17 H locs hp_18 hW => ?_)
      obtain ⟨rfl, hA_19, hS_20, hV_21, hT_22, h5_23, h6_24⟩ := hp_18
      refine W.eq (g2 := F0 m 43 ls [.ref (ad_15 (110 + 3 * n)), .int (nI n), .ref (ad_15 4)]) (by rw [hA_19 4 (by omega)]; rfl) ?_
      have hl : lv_has ls 2 [(1, .int r0), (0, .ref (ad_15 0))] := by rw [hA_19 0 (by omega)]; exact hl
      refine m_astR S hW 4 kX7 rfl ((hS_20 4 (by omega)).trans hsp.2.2.1) n (by omega) (by decide) hT_22.1 1 (if_pos ⟨by omega, rfl⟩) dX10_text_43 (fun H locs hW => ?_)
      obtain ⟨V_25, eV_25⟩ : ∃ vv_ : mV, vv_ = mU V_17 4 n 1 := ⟨_, rfl⟩
      rw [← eV_25] at hW
      have fV_25 : ∀ a, a ≠ 4 → V_25 a = V_17 a := fun a ha => by rw [eV_25]; exact mU_no _ _ ha
      refine lv_aload_n hx hb dX10_text_44 rfl (lv_at hl 1 rfl) ?_
      refine lv_dup hx hb dX10_text_45 rfl ?_
      refine m_geti S hW ((hS_20 0 (by omega)).trans hsp.1) 2 rfl kX10 (iW10 _) (by decide) (List.mem_cons_of_mem _ (wa_2 _ (List.mem_of_getElem? (i := 4) (by decide +kernel)))) dX10_text_46 ?_
      refine m_top (y := nI n) (by rw [fV_25 0 (by omega), hV_21 0 (by omega), fV1 0 (by omega), hn2]) ?_
      refine lv_iconst (v := nI 1) hx hb dX10_text_49 (by decide) ?_
      refine lv_iadd hx hb dX10_text_50 ?_
      refine m_top (y := nI (n + 1)) (nI_add n 1) ?_
      refine m_puti S hW ((hS_20 0 (by omega)).trans hsp.1) 2 rfl kX10 (iW10 _) tyX10 tyX10_ok nmX10 (by decide) (List.mem_cons_of_mem _ (wa_2 _ (List.mem_of_getElem? (i := 4) (by decide +kernel)))) (Or.inl rfl) rfl rfl dX10_text_51 (fun H locs hW => ?_)
      obtain ⟨V_26, eV_26⟩ : ∃ vv_ : mV, vv_ = mU V_25 0 2 (nI (n + 1)) := ⟨_, rfl⟩
      rw [← eV_26] at hW
      have fV_26 : ∀ a, a ≠ 0 → V_26 a = V_25 a := fun a ha => by rw [eV_26]; exact mU_no _ _ ha
      refine lv_aload_n hx hb dX10_text_54 rfl (lv_at hl 1 rfl) ?_
      refine m_getr S hW ((hS_20 0 (by omega)).trans hsp.1) 0 rfl (j := 1) rfl kX10 (iW10 _) (by decide) (List.mem_cons_of_mem _ (wa_1 _ (List.mem_of_getElem? (i := 15) (by decide +kernel)))) dX10_text_55 ?_
      refine m_fin (m_rV S hW (c_X6_clear0 l G ad_15 sh_16 V_26 ((hS_20 1 (by omega)).trans hsp.2.1.1)) (cwV 0 hts (gCall [.methodLink RX10 56 yX6_clear, .instanceMethod yX6_clear, .selects RX6 yX6_clear yX6_clear, .initialized RX6] (List.forall_mem_cons.mpr ⟨(wa_9 _ (List.mem_of_getElem? (i := 17) (by decide +kernel))), (List.forall_mem_cons.mpr ⟨(wa_9 _ (List.mem_of_getElem? (i := 14) (by decide +kernel))), (List.forall_mem_cons.mpr ⟨(wa_9 _ (List.mem_of_getElem? (i := 15) (by decide +kernel))), (List.forall_mem_cons.mpr ⟨(wa_9 _ (List.mem_of_getElem? (i := 16) (by decide +kernel))), (List.forall_mem_cons.mpr ⟨(wa_1 _ (List.mem_of_getElem? (i := 14) (by decide +kernel))), (fun _ h => absurd h List.not_mem_nil)⟩)⟩)⟩)⟩)⟩)) rfl rfl rfl (by decide +kernel) ⟨(Nat.le_of_ble_eq_true rfl), (Nat.le_of_ble_eq_true rfl)⟩) ((hS_20 1 (by omega)).trans hsp.2.1.1) kX6 rfl hl.1 rfl (Nat.le_of_ble_eq_true rfl) dX10_text_58 ⟨(Nat.le_of_ble_eq_true rfl), (Nat.le_of_ble_eq_true rfl)⟩) hW (fun v_27 ad_28 sh_29 V_30 H locs hp_31 hW => ?_)
      obtain ⟨rfl, hA_32, hS_33, hV_34, h11_35, h1k_36⟩ := hp_31
      refine W.eq (g2 := F0 m 61 ls []) rfl ?_
      have hl : lv_has ls 2 [(1, .int r0), (0, .ref (ad_28 0))] := by rw [hA_32 0 (by omega)]; exact hl
      refine lv_iload_n hx hb dX10_text_61 rfl (lv_at hl 0 rfl) ?_
      refine m_if_ge (tgt := 74) hx hb dX10_text_62 (by decide) (fun c_37 => ?_) (fun c_37 => ?_)
      · first | exact absurd c_37 c_2 | exact absurd c_2 c_37 | (exfalso; simp_all; done)
      · skip
        refine lv_aload_n hx hb dX10_text_65 rfl (lv_at hl 1 rfl) ?_
        refine m_geti S hW ((hS_33 0 (by omega)).trans ((hS_20 0 (by omega)).trans hsp.1)) 2 rfl kX10 (iW10 _) (by decide) (List.mem_cons_of_mem _ (wa_2 _ (List.mem_of_getElem? (i := 4) (by decide +kernel)))) dX10_text_66 ?_
        refine m_top (y := nI (n + 1)) (by rw [hV_34 0 (by omega), eV_26, mU_eq]) ?_
        refine lv_iconst (v := nI 1) hx hb dX10_text_69 (by decide) ?_
        refine lv_isub hx hb dX10_text_70 ?_
        refine m_top (y := nI ((n + 1) - 1)) (pk_sub (by omega)) ?_
        refine lv_goto (tgt := 78) hx hb dX10_text_71 (by decide) ?_
        have hsh : ∀ a, (a ≠ 110 + 3 * n ∧ a ≠ 110 + 3 * n + 1 ∧ a ≠ 110 + 3 * n + 2) → sh_29 a = sh a := fun a ha => (hS_33 a (by omega)).trans (hS_20 a (by omega))
        have y1 : V_30 1 1 = nI 0 := h11_35
        have y2 : ∀ k, k ≠ 1 → V_30 1 k = V1 1 k := fun k hk => by rw [h1k_36 k hk, fV_26 1 (by omega), fV_25 1 (by omega), hV_21 1 (by omega)]
        have y3 : V_30 0 2 = nI (n + 1) := by rw [hV_34 0 (by omega), eV_26, mU_eq]
        have y4 : V_30 0 5 = V1 0 5 := by rw [hV_34 0 (by omega), eV_26, mU_ne _ _ (by omega), fV_25 0 (by omega), hV_21 0 (by omega)]
        have y5 : V_30 4 n = 1 := by rw [hV_34 4 (by omega), fV_26 4 (by omega), eV_25, mU_eq]
        have y6 : ∀ t, t ≠ n → V_30 4 t = V1 4 t := fun t ht => by rw [hV_34 4 (by omega), fV_26 4 (by omega), eV_25, mU_ne _ _ (by omega), hV_21 4 (by omega)]
        have y7 : V_30 (110 + 3 * n) 0 = nI n ∧ V_30 (110 + 3 * n) 2 = nI x.2.1 ∧ V_30 (110 + 3 * n) 3 = nI x.2.2 := by rw [hV_34 (110 + 3 * n) (by omega), fV_26 (110 + 3 * n) (by omega), fV_25 (110 + 3 * n) (by omega)]; exact h5_23
        have y8 : ∀ k, k < x.1.length → V_30 (111 + 3 * n) k = x.1.getD k 0 := fun k hk => by rw [show 111 + 3 * n = 110 + 3 * n + 1 by omega, hV_34 (110 + 3 * n + 1) (by omega), fV_26 (110 + 3 * n + 1) (by omega), fV_25 (110 + 3 * n + 1) (by omega), h6_24 k hk]; exact hF3 k hk
        have y9 : ∀ a, (1 < a ∧ a ≠ 4 ∧ a < 110 + 3 * n) → V_30 a = V1 a := fun a ha => (hV_34 a (by omega)).trans ((fV_26 a (by omega)).trans ((fV_25 a (by omega)).trans (hV_21 a (by omega))))
        have yT : TxS sh_29 (110 + 3 * n) x.1.length := ⟨((hS_33 (110 + 3 * n) (by omega)).trans hT_22.1), ((hS_33 (110 + 3 * n + 1) (by omega)).trans hT_22.2.1), ((hS_33 (110 + 3 * n + 2) (by omega)).trans hT_22.2.2)⟩
        have yl : (gTxs (nTextY q x)).length = n + 1 := by show ((gTxs q) ++ [x]).length = n + 1; rw [List.length_append, hn]; rfl
        refine W.widen (k := 3) (n := 197) (Nat.le_of_ble_eq_true rfl) (Nat.le_of_ble_eq_true rfl) ?_
        refine W.iret S.1 S.2.1 hr (m_post hW ?_) hW.2.2.1.2.2 dX10_text_78 hlk
        exact ⟨congrArg (fun vv_ => some (Value.int vv_)) (by rw [aText, if_neg (by omega), if_pos hyf, hn, Nat.add_sub_cancel]), fun a ha => (hA_32 a (by omega)).trans (hA_19 a (by omega)), fun a ha => (hS_33 a (by omega)).trans (hS_20 a (by omega)), fun a ha => (hV_34 a (by omega)).trans ((fV_26 a (by omega)).trans ((fV_25 a (by omega)).trans ((hV_21 a (by omega)).trans (fV1 a (by omega))))), by rw [nText, if_neg (by omega), if_pos hyf, ← hx9]; exact hI.textY hn (by omega) hF hwf2 (fun a ha => hsh a (by omega)) yT y1 y2 y3 y4 y5 y6 y7 y8 y9, by rw [nText, if_neg (by omega), if_pos hyf, ← hx9, yl]; exact fun t h1 h2 => by rw [hsh _ (by omega), hsh _ (by omega), hsh _ (by omega)]; exact hno t (by omega) h2⟩
  · skip
    have c_1 : ¬ n < 6 := mt (nI_ltI (by omega) (by omega)).mpr c_1
    refine lv_bipush (v := -4) hx hb dX10_text_9 (by decide) ?_
    have hn6 : (gTxs q).length = 6 := by omega
    refine W.widen (k := 3) (n := 197) (Nat.le_of_ble_eq_true rfl) (Nat.le_of_ble_eq_true rfl) ?_
    refine W.iret S.1 S.2.1 hr (m_post hW ?_) hW.2.2.1.2.2 dX10_text_11 hlk
    exact ⟨congrArg (fun vv_ => some (Value.int vv_)) (by rw [aText, if_pos (by omega)]), fun _ _ => rfl, fun _ _ => rfl, fun _ _ => rfl, by rw [nText, if_pos hn6]; exact hI, by rw [nText, if_pos hn6, hn]; exact hno⟩
