/-! texts, the tape, sheets -/
def gTape (q : Sg) (t : List Int32) : Sg := (q.1, q.2.1, t, q.2.2.2)
def gSetS (q : Sg) (k : Nat) (s' : Int32 × Nat × (Nat → Int32)) : Sg := (q.1, q.2.1, q.2.2.1, q.2.2.2.1, fun j => if j = k then s' else gSh q j)
def aFeed (q : Sg) (n a b c d w : Int32) : Int32 := if mIn n 1 6 then (if mIn a 0 256 then (if mIn b 0 256 then (if mIn c 0 256 then (if mIn d 0 256 then (if mIn w 0 256 then (if n.toNatClampNeg ≤ 160 - (gTp q).length then nI ((gTp q).length + n.toNatClampNeg) else -4) else -2) else -2) else -2) else -2) else -2) else -2
def nFeed (q : Sg) (n a b c d w : Int32) : Sg := if mIn n 1 6 then (if mIn a 0 256 then (if mIn b 0 256 then (if mIn c 0 256 then (if mIn d 0 256 then (if mIn w 0 256 then (if n.toNatClampNeg ≤ 160 - (gTp q).length then gTape q (gTp q ++ [a, b, c, d, w].take n.toNatClampNeg) else q) else q) else q) else q) else q) else q) else q
def aSheet (q : Sg) (x so n : Int32) : Int32 := if mIn x 0 4 then (if so = -1 then nI 1 else if mIn so 0 3 then (if n ≤ nI 40 then (if n < nI 0 then -14 else nI 1) else -2) else -2) else -2
def nSheet (q : Sg) (x so n : Int32) : Sg := if mIn x 0 4 then (if so = -1 then gSetS q x.toNatClampNeg (-1, 0, fun _ => nI 0) else if mIn so 0 3 then (if n ≤ nI 40 then (if n < nI 0 then q else gSetS q x.toNatClampNeg (so, n.toNatClampNeg, fun _ => nI 0)) else q) else q) else q
def aCell (q : Sg) (x y v : Int32) : Int32 := if mIn x 0 4 then (if gSo q x.toNatClampNeg = -1 then -11 else if mIn y 0 (gSz q x.toNatClampNeg) then nI 1 else -12) else -2
def nCell (q : Sg) (x y v : Int32) : Sg := if mIn x 0 4 then (if gSo q x.toNatClampNeg = -1 then q else if mIn y 0 (gSz q x.toNatClampNeg) then gSetS q x.toNatClampNeg (gSo q x.toNatClampNeg, gSz q x.toNatClampNeg, upd (gCl q x.toNatClampNeg) y.toNatClampNeg (fNar (gSo q x.toNatClampNeg) v)) else q) else q
def aFilm (q : Sg) (x n : Int32) : Int32 := if mIn x 0 4 then (if mIn n 0 14 then (if gNe q = 0 then nI 0 else nI (zFilm (gAsk q) (gNe q) (gNg q) (gZ q) n.toNatClampNeg).2.2) else -2) else -2
def nFilm (q : Sg) (x n : Int32) : Sg := if mIn x 0 4 then (if mIn n 0 14 then (if gNe q = 0 then gSetS q x.toNatClampNeg (nI 0, 0, fun _ => nI 0) else gSetS q x.toNatClampNeg (nI 0, 3 * (zFilm (gAsk q) (gNe q) (gNg q) (gZ q) n.toNatClampNeg).2.2, (zFilm (gAsk q) (gNe q) (gNg q) (gZ q) n.toNatClampNeg).2.1)) else q) else q
def aTaken (q : Sg) (x k : Int32) : Int32 := if mIn k 0 7 then (if mIn x 0 11 then (if mIn x 0 (gNe q) then (if k < nI 6 then (if fUnder (gZ q (4 + x.toNatClampNeg) 0) k = true then x else -13) else -13) else if mIn (x - nI 5) 0 (gNg q) then (if k = nI 6 then gZ q (10 + 2 * (x - nI 5).toNatClampNeg) 2 else -13) else -11) else -12) else -2
section XTS
variable {sh : Nat → Option mSh} {V V' : mV} {q : Sg}
theorem XI.add1 (h : XI sh V q) (x : Int32) (hl : (gTp q).length < 160) : XI sh (mU (mU V 1 1 (nI ((gTp q).length + 1))) 2 (gTp q).length x) (gTape q (gTp q ++ [x])) := by
  have hn := h.tn
  have hk : ∀ a, a ≠ 1 → a ≠ 2 → mU (mU V 1 1 (nI ((gTp q).length + 1))) 2 (gTp q).length x a = V a := fun a h1 h2 => by rw [mU_no _ _ h2, mU_no _ _ h1]
  obtain ⟨t1, t2, t3⟩ := h.tp
  refine ⟨h.sp, ⟨by rw [hk 0 (by omega) (by omega)]; exact h.tn.1, h.tn.2⟩, by rw [hk 0 (by omega) (by omega)]; exact h.has, ⟨h.now.eq (fun a h1 h2 => hk a (by omega) (by omega)) (fun j _ => by rw [hk 20 (by omega) (by omega)]), h.rl⟩, ⟨h.im.eq (fun a h1 h2 => hk a (by omega) (by omega)) (fun j _ => by rw [hk 50 (by omega) (by omega)]), h.imr⟩, fun t ht => ?_, ⟨?_, ?_, fun k y hy => ?_⟩, ?_, by rw [hk 9 (by omega) (by omega)]; exact h.cov, fun i hi => by rw [hk (11 + i) (by omega) (by omega), hk (15 + i) (by omega) (by omega)]; exact h.shs i hi⟩
  · obtain ⟨⟨b1, b2, b3, b4, b5⟩, b6⟩ := h.tx t ht
    exact ⟨⟨by rw [hk _ (by omega) (by omega)]; exact b1, by rw [hk _ (by omega) (by omega)]; exact b2, by rw [hk _ (by omega) (by omega)]; exact b3, by rw [hk _ (by omega) (by omega)]; exact b4, b5⟩, by rw [hk 4 (by omega) (by omega)]; exact b6⟩
  · rw [mU_no _ _ (by omega), mU_eq]
    show _ = nI (gTp q ++ [x]).length
    simp
  · show (gTp q ++ [x]).length ≤ 160
    simp
    omega
  · have hy' : (gTp q ++ [x])[k]? = some y := hy
    by_cases hkl : k = (gTp q).length
    · subst hkl
      rw [mU_eq]
      simp at hy'
      exact hy'
    · rw [mU_ne _ _ (by omega), mU_no _ _ (by omega)]
      refine t3 k y ?_
      have := (List.getElem?_eq_some_iff.mp hy').1
      simp at this
      rw [List.getElem?_append_left (by omega)] at hy'
      exact hy'
  · obtain ⟨ta, c1, c2⟩ := h.ta
    exact ⟨ta, c1, by rw [mU_no _ _ (by omega), mU_ne _ _ (by omega)]; exact c2⟩
theorem XI.setS (h : XI sh V q) {k : Nat} (hk : k < 4) {so : Int32} {n : Nat} {c : Nat → Int32} (h0 : V' (11 + k) 0 = so) (h1 : V' (11 + k) 1 = nI n) (hn4 : n ≤ 40) (hc : ∀ j, j < 40 → V' (15 + k) j = c j) (hf : ∀ a, a ≠ 11 + k → a ≠ 15 + k → V' a = V a) : XI sh V' (gSetS q k (so, n, c)) := by
  have hn := h.tn
  refine ⟨h.sp, ⟨by rw [hf 0 (by omega) (by omega)]; exact h.tn.1, h.tn.2⟩, by rw [hf 0 (by omega) (by omega)]; exact h.has, ⟨h.now.eq (fun a h1 h2 => hf a (by omega) (by omega)) (fun j _ => by rw [hf 20 (by omega) (by omega)]), h.rl⟩, ⟨h.im.eq (fun a h1 h2 => hf a (by omega) (by omega)) (fun j _ => by rw [hf 50 (by omega) (by omega)]), h.imr⟩, fun t ht => ?_, by rw [hf 1 (by omega) (by omega), hf 2 (by omega) (by omega)]; exact h.tp, by rw [hf 1 (by omega) (by omega)]; exact h.ta, by rw [hf 9 (by omega) (by omega)]; exact h.cov, fun i hi => ?_⟩
  · obtain ⟨⟨b1, b2, b3, b4, b5⟩, b6⟩ := h.tx t ht
    exact ⟨⟨by rw [hf _ (by omega) (by omega)]; exact b1, by rw [hf _ (by omega) (by omega)]; exact b2, by rw [hf _ (by omega) (by omega)]; exact b3, by rw [hf _ (by omega) (by omega)]; exact b4, b5⟩, by rw [hf 4 (by omega) (by omega)]; exact b6⟩
  · by_cases hik : i = k
    · subst hik
      have e : gSh (gSetS q i (so, n, c)) i = (so, n, c) := if_pos rfl
      rw [e]
      exact ⟨h0, h1, hn4, hc⟩
    · have e : gSh (gSetS q k (so, n, c)) i = gSh q i := if_neg hik
      rw [e, hf (11 + i) (by omega) (by omega), hf (15 + i) (by omega) (by omega)]
      exact h.shs i hi
end XTS
set_option maxHeartbeats 4000000 in
set_option maxRecDepth 100000 in
theorem c_X10_textAt (l : Launch) (G : mG) (ad : Nat → Nat) (sh : Nat → Option mSh) (V : mV) (q : Sg) (x : Int32) (hX : XI sh V q) : mM l yX10_textAt wsX10_textAt ({ frames := 1, cells := 0, slots := 0, locals := 22 } : Room) G ad sh V [.ref (ad 0), .int x] 0 0 (mPrp ad sh V (fun r => (∃ (k : Nat), some (110 + 3 * k) = r ∧ (x = nI k) ∧ (k < (gTxs q).length)) ∨ (none = r ∧ (¬ mIn x 0 (gTxs q).length)))) := by
  refine mM.of (cc := cX10_textAt) (maxL := 2) (ret := (some (.object "BiteFirst$Text"))) (by decide) rfl (Nat.le_of_ble_eq_true rfl) ?_
  intro p e s m below meth c S hr hlk hnm hW ls hl
  obtain ⟨hx, hb, hml, hown, hts⟩ := id S
  have hl : lv_has ls 2 [(0, .ref (ad 0)), (1, .int x)] := hl
  have hS0 : True := trivial
  have hne5 := hX.ne5
  have hng6 := hX.ng6
  have htn := hX.tn
  refine lv_iload_n hx hb dX10_textAt_0 rfl (lv_at hl 1 rfl) ?_
  refine lv_iconst (v := nI 0) hx hb dX10_textAt_1 (by decide) ?_
  refine lv_aload_n hx hb dX10_textAt_2 rfl (lv_at hl 0 rfl) ?_
  refine m_geti S hW hX.sp.1 2 rfl kX10 (iW10 _) (by decide) (List.mem_cons_of_mem _ (wa_2 _ (List.mem_of_getElem? (i := 4) (by decide +kernel)))) dX10_textAt_3 ?_
  refine m_top (y := nI ((gTxs q).length)) hX.tn.1 ?_
  refine lv_iconst (v := nI 1) hx hb dX10_textAt_6 (by decide) ?_
  refine lv_isub hx hb dX10_textAt_7 ?_
  refine m_cip (m_rS S hW (c_X10_within_c l G ad sh V x ((nI ((gTxs q).length)) - (nI 1)) ((gTxs q).length) (by exact pk_sub_toInt (by omega) (by decide))) (va_cwS 3 hts (gCall [.methodLink RX10 102 yX10_within, .static yX10_within, .initialized RX10] (List.forall_mem_cons.mpr ⟨(wa_8 _ (List.mem_of_getElem? (i := 17) (by decide +kernel))), (List.forall_mem_cons.mpr ⟨(wa_15 _ (List.mem_of_getElem? (i := 8) (by decide +kernel))), (List.forall_mem_cons.mpr ⟨(wa_8 _ (List.mem_of_getElem? (i := 16) (by decide +kernel))), (List.forall_mem_cons.mpr ⟨(wa_1 _ (List.mem_of_getElem? (i := 2) (by decide +kernel))), (fun _ h => absurd h List.not_mem_nil)⟩)⟩)⟩)⟩)) rfl rfl rfl (by decide +kernel) ⟨Nat.le_of_ble_eq_true rfl, Nat.le_of_ble_eq_true rfl⟩) rfl hl.1 rfl (Nat.le_of_ble_eq_true rfl) dX10_textAt_8 ⟨Nat.le_of_ble_eq_true rfl, Nat.le_of_ble_eq_true rfl⟩) hW (fun r_2 H locs hp_1 hW => ?_)
  rcases hp_1 with ⟨rfl, w_3⟩ | ⟨rfl, w_4⟩
  · skip
    refine m_if_eq (tgt := 23) hx hb dX10_textAt_11 (by decide) (fun c_5 => ?_) (fun c_5 => ?_)
    · exact absurd c_5 (by decide)
    · skip
      refine lv_aload_n hx hb dX10_textAt_14 rfl (lv_at hl 0 rfl) ?_
      refine m_getr S hW hX.sp.1 1 rfl (j := 4) rfl kX10 (iW10 _) (by decide) (List.mem_cons_of_mem _ (wa_1 _ (List.mem_of_getElem? (i := 17) (by decide +kernel)))) dX10_textAt_15 ?_
      refine lv_iload_n hx hb dX10_textAt_18 rfl (lv_at hl 1 rfl) ?_
      obtain ⟨ix, eix, -, hix⟩ := w_3.ex
      refine m_aald S hW 4 rfl hX.sp.2.2.1 ix eix (by omega) (by decide) (j := (110 + 3 * ix)) (if_pos ⟨(by omega), ((hX.tx ix (by omega)).2).trans (by decide)⟩) dX10_textAt_19 ?_
      refine lv_goto (tgt := 24) hx hb dX10_textAt_20 (by decide) ?_
      refine W.eq (g2 := F0 m 24 ls [va_rf (Option.map ad (some (110 + 3 * ix)))]) rfl ?_
      exact m_aret S hr hlk hW dX10_textAt_24 ⟨rfl, (by exact Or.inl ⟨ix, rfl, eix, hix⟩)⟩
  · skip
    refine m_if_eq (tgt := 23) hx hb dX10_textAt_11 (by decide) (fun c_6 => ?_) (fun c_6 => ?_)
    · skip
      refine lv_null hx hb dX10_textAt_23 ?_
      refine W.eq (g2 := F0 m 24 ls [va_rf (Option.map ad (none))]) rfl ?_
      exact m_aret S hr hlk hW dX10_textAt_24 ⟨rfl, (by exact Or.inr ⟨rfl, w_4⟩)⟩
    · exact absurd c_6 (by decide)
set_option maxHeartbeats 4000000 in
set_option maxRecDepth 100000 in
theorem c_X10_force (l : Launch) (G : mG) (ad : Nat → Nat) (sh : Nat → Option mSh) (V : mV) (q : Sg) (x : Int32) (hX : XI sh V q) : mM l yX10_force wsX10_force ({ frames := 2, cells := 0, slots := 0, locals := 43 } : Room) G ad sh V [.ref (ad 0), .int x] 0 0 (mPi ad sh (fun r V' => (aForce q x) = r ∧ (XI sh V' (nForce q x)) ∧ (XF V V'))) := by
  refine mM.of (cc := cX10_force) (maxL := 4) (ret := (some .int)) (by decide) rfl (Nat.le_of_ble_eq_true rfl) ?_
  intro p e s m below meth c S hr hlk hnm hW ls hl
  obtain ⟨hx, hb, hml, hown, hts⟩ := id S
  have hl : lv_has ls 4 [(0, .ref (ad 0)), (1, .int x)] := hl
  have hS0 : True := trivial
  have hne5 := hX.ne5
  have hng6 := hX.ng6
  have htn := hX.tn
  refine lv_aload_n hx hb dX10_force_0 rfl (lv_at hl 0 rfl) ?_
  refine lv_iload_n hx hb dX10_force_1 rfl (lv_at hl 1 rfl) ?_
  refine m_crp (m_rV S hW (c_X10_textAt l G ad sh V q x hX) (cwV 1 hts (gCall [.methodLink RX10 117 yX10_textAt, .instanceMethod yX10_textAt, .selects RX10 yX10_textAt yX10_textAt, .initialized RX10] (List.forall_mem_cons.mpr ⟨(wa_16 _ (List.mem_of_getElem? (i := 20) (by decide +kernel))), (List.forall_mem_cons.mpr ⟨(wa_16 _ (List.mem_of_getElem? (i := 17) (by decide +kernel))), (List.forall_mem_cons.mpr ⟨(wa_16 _ (List.mem_of_getElem? (i := 18) (by decide +kernel))), (List.forall_mem_cons.mpr ⟨(wa_16 _ (List.mem_of_getElem? (i := 19) (by decide +kernel))), (List.forall_mem_cons.mpr ⟨(wa_1 _ (List.mem_of_getElem? (i := 2) (by decide +kernel))), (fun _ h => absurd h List.not_mem_nil)⟩)⟩)⟩)⟩)⟩)) rfl rfl rfl (by decide +kernel) ⟨Nat.le_of_ble_eq_true rfl, Nat.le_of_ble_eq_true rfl⟩) hX.sp.1 kX10 rfl hl.1 rfl (Nat.le_of_ble_eq_true rfl) dX10_force_2 ⟨Nat.le_of_ble_eq_true rfl, Nat.le_of_ble_eq_true rfl⟩) hW (fun r_2 H locs hp_1 hW => ?_)
  rcases hp_1 with ⟨k_3, rfl, hxk_4, hk_5⟩ | ⟨rfl, hx0_6⟩
  · skip
    refine W.eq (g2 := F0 m 5 ls [.ref (ad (110 + 3 * k_3))]) rfl ?_
    have hpx : mIn x 0 (gTxs q).length := by rw [hxk_4]; exact (mIn_nI (by omega)).mpr ⟨Nat.zero_le _, hk_5⟩
    have hcx : x.toNatClampNeg = k_3 := by rw [hxk_4]; exact nI_clamp (by omega)
    refine lv_astore_n (lv' := [(2, .ref (ad (110 + 3 * k_3))), (0, .ref (ad 0)), (1, .int x)]) hx hb dX10_force_5 rfl hl (by decide) rfl (fun ls hl => ?_)
    refine lv_aload_n hx hb dX10_force_6 rfl (lv_at hl 0 rfl) ?_
    refine lv_ifnonnull (tgt := 13) hx hb dX10_force_7 (by decide) ?_
    refine lv_aload_n hx hb dX10_force_13 rfl (lv_at hl 1 rfl) ?_
    refine m_getr S hW hX.sp.1 3 rfl (j := 20) rfl kX10 (iW10 _) (by decide) (List.mem_cons_of_mem _ (wa_2 _ (List.mem_of_getElem? (i := 8) (by decide +kernel)))) dX10_force_14 ?_
    refine m_getr S hW hX.sz.1.1 5 rfl (j := (110 + 3 * gRl q)) (congrArg some hX.sz.2.1.2.2.2.2.1) kX4 (iW4 _) (by decide) (List.mem_cons_of_mem _ (wa_14 _ (List.mem_of_getElem? (i := 14) (by decide +kernel)))) dX10_force_17 ?_
    refine m_geti S hW hX.sz.2.2.1.1 0 rfl kX7 (iW7 _) (by decide) (List.mem_cons_of_mem _ (wa_14 _ (List.mem_of_getElem? (i := 15) (by decide +kernel)))) dX10_force_20 ?_
    refine m_top (y := nI (gRl q)) (hX.tx _ hX.rl).1.1 ?_
    refine lv_istore_n (lv' := [(3, .int (nI (gRl q))), (2, .ref (ad (110 + 3 * k_3))), (0, .ref (ad 0)), (1, .int x)]) hx hb dX10_force_23 rfl hl (by decide) rfl (fun ls hl => ?_)
    refine lv_aload_n hx hb dX10_force_24 rfl (lv_at hl 2 rfl) ?_
    refine m_getr S hW hX.sp.1 3 rfl (j := 20) rfl kX10 (iW10 _) (by decide) (List.mem_cons_of_mem _ (wa_2 _ (List.mem_of_getElem? (i := 8) (by decide +kernel)))) dX10_force_25 ?_
    refine lv_aload_n hx hb dX10_force_28 rfl (lv_at hl 1 rfl) ?_
    refine m_putr S hW (nI k_3) hX.sz.1.1 5 rfl (show some (110 + 3 * (nI k_3).toNatClampNeg) = some (110 + 3 * k_3) by rw [nI_clamp (by omega)]) (by rw [(hX.txs hk_5).1]; exact fun z => by cases z) kX4 (iW4 _) tyX4 tyX4_ok nmX4 (by decide) (List.mem_cons_of_mem _ (wa_14 _ (List.mem_of_getElem? (i := 14) (by decide +kernel)))) (Or.inl rfl) (fun _ => rfl) (fun _ => rfl) dX10_force_29 (fun H locs hW => ?_)
    obtain ⟨V_7, eV_7⟩ : ∃ z : mV, z = mU V 20 5 (nI k_3) := ⟨_, rfl⟩
    rw [← eV_7] at hW
    refine lv_iload_n hx hb dX10_force_32 rfl (lv_at hl 0 rfl) ?_
    exact m_iret S hr hlk hW dX10_force_33 (by exact ⟨by simp only [aForce, if_pos hpx, hcx], by simp only [nForce, if_pos hpx, hcx]; rw [eV_7]; exact hX.force hk_5, by rw [eV_7]; exact (XF.rfl V).u _ _ (by omega)⟩)
  · skip
    refine W.eq (g2 := F0 m 5 ls [.null]) rfl ?_
    refine lv_astore_nN (lv' := [(2, .null), (0, .ref (ad 0)), (1, .int x)]) hx hb dX10_force_5 rfl hl (by decide) rfl (fun ls hl => ?_)
    refine lv_aload_nN hx hb dX10_force_6 rfl (lv_at hl 0 rfl) ?_
    refine lv_ifnonnullN hx hb dX10_force_7 ?_
    refine lv_bipush (v := -2) hx hb dX10_force_10 (by decide) ?_
    exact m_iret S hr hlk hW dX10_force_12 (by exact ⟨by simp only [aForce, if_neg hx0_6]; try rfl, by simp only [nForce, if_neg hx0_6]; exact hX, XF.rfl V⟩)
set_option maxHeartbeats 4000000 in
set_option maxRecDepth 100000 in
theorem c_X6_room_x (l : Launch) (G : mG) (ad : Nat → Nat) (sh : Nat → Option mSh) (V : mV) (n : Nat) (h1 : sh 1 = some sTape) (hsz : V 1 1 = nI n) (hn : n ≤ 160) : mM l yX6_room wsX6_room ({ frames := 0, cells := 0, slots := 0, locals := 0 } : Room) G ad sh V [.ref (ad 1)] 0 0 (mPe ad sh V (nI (160 - n))) := by
  refine mM.of (cc := cX6_room) (maxL := 1) (ret := (some .int)) (by decide) rfl (Nat.le_of_ble_eq_true rfl) ?_
  intro p e s m below meth c S hr hlk hnm hW ls hl
  obtain ⟨hx, hb, hml, hown, hts⟩ := id S
  have hl : lv_has ls 1 [(0, .ref (ad 1))] := hl
  have hS0 : True := trivial
  refine lv_sipush (v := nI 160) hx hb dX6_room_0 (by decide) ?_
  refine lv_aload_n hx hb dX6_room_3 rfl (lv_at hl 0 rfl) ?_
  refine m_geti S hW h1 1 rfl kX6 (iW6 _) (by decide) (List.mem_cons_of_mem _ (wa_5 _ (List.mem_of_getElem? (i := 21) (by decide +kernel)))) dX6_room_4 ?_
  refine m_top (y := nI n) hsz ?_
  refine lv_isub hx hb dX6_room_7 ?_
  refine m_top (y := nI (160 - n)) (pk_sub (by omega)) ?_
  exact m_iret S hr hlk hW dX6_room_8 ⟨rfl, (by rfl)⟩
set_option maxHeartbeats 4000000 in
set_option maxRecDepth 100000 in
theorem c_X10_feed (l : Launch) (G : mG) (ad : Nat → Nat) (sh : Nat → Option mSh) (V : mV) (q : Sg) (x a b c0 d w : Int32) (hX : XI sh V q) : mM l yX10_feed wsX10_feed ({ frames := 2, cells := 0, slots := 0, locals := 42 } : Room) G ad sh V [.ref (ad 0), .int x, .int a, .int b, .int c0, .int d, .int w] 0 0 (mPi ad sh (fun r V' => (aFeed q x a b c0 d w) = r ∧ (XI sh V' (nFeed q x a b c0 d w)) ∧ (XF V V'))) := by
  refine mM.of (cc := cX10_feed) (maxL := 7) (ret := (some .int)) (by decide) rfl (Nat.le_of_ble_eq_true rfl) ?_
  intro p e s m below meth c S hr hlk hnm hW ls hl
  obtain ⟨hx, hb, hml, hown, hts⟩ := id S
  have hl : lv_has ls 7 [(0, .ref (ad 0)), (1, .int x), (2, .int a), (3, .int b), (4, .int c0), (5, .int d), (6, .int w)] := hl
  have hS0 : True := trivial
  have hne5 := hX.ne5
  have hng6 := hX.ng6
  have htn := hX.tn
  have htp := hX.tp.2.1
  refine lv_iload_n hx hb dX10_feed_0 rfl (lv_at hl 1 rfl) ?_
  refine lv_iconst (v := nI 1) hx hb dX10_feed_1 (by decide) ?_
  refine lv_iconst (v := nI 5) hx hb dX10_feed_2 (by decide) ?_
  refine m_cip (m_rS S hW (c_X10_within l G ad sh V x 1 5 (by first | assumption | omega) (by first | assumption | omega)) (va_cwS 3 hts (gCall [.methodLink RX10 102 yX10_within, .static yX10_within, .initialized RX10] (List.forall_mem_cons.mpr ⟨(wa_8 _ (List.mem_of_getElem? (i := 17) (by decide +kernel))), (List.forall_mem_cons.mpr ⟨(wa_15 _ (List.mem_of_getElem? (i := 8) (by decide +kernel))), (List.forall_mem_cons.mpr ⟨(wa_8 _ (List.mem_of_getElem? (i := 16) (by decide +kernel))), (List.forall_mem_cons.mpr ⟨(wa_1 _ (List.mem_of_getElem? (i := 2) (by decide +kernel))), (fun _ h => absurd h List.not_mem_nil)⟩)⟩)⟩)⟩)) rfl rfl rfl (by decide +kernel) ⟨Nat.le_of_ble_eq_true rfl, Nat.le_of_ble_eq_true rfl⟩) rfl hl.1 rfl (Nat.le_of_ble_eq_true rfl) dX10_feed_3 ⟨Nat.le_of_ble_eq_true rfl, Nat.le_of_ble_eq_true rfl⟩) hW (fun r_2 H locs hp_1 hW => ?_)
  rcases hp_1 with ⟨rfl, w_3⟩ | ⟨rfl, w_4⟩
  · skip
    obtain ⟨nn, hnn, hwnn, hlnn⟩ := w_3.ex
    have hcx : x.toNatClampNeg = nn := by rw [hnn]; exact nI_clamp (by omega)
    refine m_if_eq (tgt := 47) hx hb dX10_feed_6 (by decide) (fun c_5 => ?_) (fun c_5 => ?_)
    · exact absurd c_5 (by decide)
    · skip
      refine lv_iload_n hx hb dX10_feed_9 rfl (lv_at hl 2 rfl) ?_
      refine m_cip (m_rS S hW (c_X10_isByte l G ad sh V a) (va_cwS 1 hts (gCall [.methodLink RX10 106 yX10_isByte, .static yX10_isByte, .initialized RX10] (List.forall_mem_cons.mpr ⟨(wa_15 _ (List.mem_of_getElem? (i := 19) (by decide +kernel))), (List.forall_mem_cons.mpr ⟨(wa_15 _ (List.mem_of_getElem? (i := 17) (by decide +kernel))), (List.forall_mem_cons.mpr ⟨(wa_15 _ (List.mem_of_getElem? (i := 18) (by decide +kernel))), (List.forall_mem_cons.mpr ⟨(wa_1 _ (List.mem_of_getElem? (i := 2) (by decide +kernel))), (fun _ h => absurd h List.not_mem_nil)⟩)⟩)⟩)⟩)) rfl rfl rfl (by decide +kernel) ⟨Nat.le_of_ble_eq_true rfl, Nat.le_of_ble_eq_true rfl⟩) rfl hl.1 rfl (Nat.le_of_ble_eq_true rfl) dX10_feed_10 ⟨Nat.le_of_ble_eq_true rfl, Nat.le_of_ble_eq_true rfl⟩) hW (fun r_7 H locs hp_6 hW => ?_)
      rcases hp_6 with ⟨rfl, w_8⟩ | ⟨rfl, w_9⟩
      · skip
        refine m_if_eq (tgt := 47) hx hb dX10_feed_13 (by decide) (fun c_10 => ?_) (fun c_10 => ?_)
        · exact absurd c_10 (by decide)
        · skip
          refine lv_iload_n hx hb dX10_feed_16 rfl (lv_at hl 3 rfl) ?_
          refine m_cip (m_rS S hW (c_X10_isByte l G ad sh V b) (va_cwS 1 hts (gCall [.methodLink RX10 106 yX10_isByte, .static yX10_isByte, .initialized RX10] (List.forall_mem_cons.mpr ⟨(wa_15 _ (List.mem_of_getElem? (i := 19) (by decide +kernel))), (List.forall_mem_cons.mpr ⟨(wa_15 _ (List.mem_of_getElem? (i := 17) (by decide +kernel))), (List.forall_mem_cons.mpr ⟨(wa_15 _ (List.mem_of_getElem? (i := 18) (by decide +kernel))), (List.forall_mem_cons.mpr ⟨(wa_1 _ (List.mem_of_getElem? (i := 2) (by decide +kernel))), (fun _ h => absurd h List.not_mem_nil)⟩)⟩)⟩)⟩)) rfl rfl rfl (by decide +kernel) ⟨Nat.le_of_ble_eq_true rfl, Nat.le_of_ble_eq_true rfl⟩) rfl hl.1 rfl (Nat.le_of_ble_eq_true rfl) dX10_feed_17 ⟨Nat.le_of_ble_eq_true rfl, Nat.le_of_ble_eq_true rfl⟩) hW (fun r_12 H locs hp_11 hW => ?_)
          rcases hp_11 with ⟨rfl, w_13⟩ | ⟨rfl, w_14⟩
          · skip
            refine m_if_eq (tgt := 47) hx hb dX10_feed_20 (by decide) (fun c_15 => ?_) (fun c_15 => ?_)
            · exact absurd c_15 (by decide)
            · skip
              refine lv_iload hx hb dX10_feed_23 (lv_at hl 4 rfl) ?_
              refine m_cip (m_rS S hW (c_X10_isByte l G ad sh V c0) (va_cwS 1 hts (gCall [.methodLink RX10 106 yX10_isByte, .static yX10_isByte, .initialized RX10] (List.forall_mem_cons.mpr ⟨(wa_15 _ (List.mem_of_getElem? (i := 19) (by decide +kernel))), (List.forall_mem_cons.mpr ⟨(wa_15 _ (List.mem_of_getElem? (i := 17) (by decide +kernel))), (List.forall_mem_cons.mpr ⟨(wa_15 _ (List.mem_of_getElem? (i := 18) (by decide +kernel))), (List.forall_mem_cons.mpr ⟨(wa_1 _ (List.mem_of_getElem? (i := 2) (by decide +kernel))), (fun _ h => absurd h List.not_mem_nil)⟩)⟩)⟩)⟩)) rfl rfl rfl (by decide +kernel) ⟨Nat.le_of_ble_eq_true rfl, Nat.le_of_ble_eq_true rfl⟩) rfl hl.1 rfl (Nat.le_of_ble_eq_true rfl) dX10_feed_25 ⟨Nat.le_of_ble_eq_true rfl, Nat.le_of_ble_eq_true rfl⟩) hW (fun r_17 H locs hp_16 hW => ?_)
              rcases hp_16 with ⟨rfl, w_18⟩ | ⟨rfl, w_19⟩
              · skip
                refine m_if_eq (tgt := 47) hx hb dX10_feed_28 (by decide) (fun c_20 => ?_) (fun c_20 => ?_)
                · exact absurd c_20 (by decide)
                · skip
                  refine lv_iload hx hb dX10_feed_31 (lv_at hl 5 rfl) ?_
                  refine m_cip (m_rS S hW (c_X10_isByte l G ad sh V d) (va_cwS 1 hts (gCall [.methodLink RX10 106 yX10_isByte, .static yX10_isByte, .initialized RX10] (List.forall_mem_cons.mpr ⟨(wa_15 _ (List.mem_of_getElem? (i := 19) (by decide +kernel))), (List.forall_mem_cons.mpr ⟨(wa_15 _ (List.mem_of_getElem? (i := 17) (by decide +kernel))), (List.forall_mem_cons.mpr ⟨(wa_15 _ (List.mem_of_getElem? (i := 18) (by decide +kernel))), (List.forall_mem_cons.mpr ⟨(wa_1 _ (List.mem_of_getElem? (i := 2) (by decide +kernel))), (fun _ h => absurd h List.not_mem_nil)⟩)⟩)⟩)⟩)) rfl rfl rfl (by decide +kernel) ⟨Nat.le_of_ble_eq_true rfl, Nat.le_of_ble_eq_true rfl⟩) rfl hl.1 rfl (Nat.le_of_ble_eq_true rfl) dX10_feed_33 ⟨Nat.le_of_ble_eq_true rfl, Nat.le_of_ble_eq_true rfl⟩) hW (fun r_22 H locs hp_21 hW => ?_)
                  rcases hp_21 with ⟨rfl, w_23⟩ | ⟨rfl, w_24⟩
                  · skip
                    refine m_if_eq (tgt := 47) hx hb dX10_feed_36 (by decide) (fun c_25 => ?_) (fun c_25 => ?_)
                    · exact absurd c_25 (by decide)
                    · skip
                      refine lv_iload hx hb dX10_feed_39 (lv_at hl 6 rfl) ?_
                      refine m_cip (m_rS S hW (c_X10_isByte l G ad sh V w) (va_cwS 1 hts (gCall [.methodLink RX10 106 yX10_isByte, .static yX10_isByte, .initialized RX10] (List.forall_mem_cons.mpr ⟨(wa_15 _ (List.mem_of_getElem? (i := 19) (by decide +kernel))), (List.forall_mem_cons.mpr ⟨(wa_15 _ (List.mem_of_getElem? (i := 17) (by decide +kernel))), (List.forall_mem_cons.mpr ⟨(wa_15 _ (List.mem_of_getElem? (i := 18) (by decide +kernel))), (List.forall_mem_cons.mpr ⟨(wa_1 _ (List.mem_of_getElem? (i := 2) (by decide +kernel))), (fun _ h => absurd h List.not_mem_nil)⟩)⟩)⟩)⟩)) rfl rfl rfl (by decide +kernel) ⟨Nat.le_of_ble_eq_true rfl, Nat.le_of_ble_eq_true rfl⟩) rfl hl.1 rfl (Nat.le_of_ble_eq_true rfl) dX10_feed_41 ⟨Nat.le_of_ble_eq_true rfl, Nat.le_of_ble_eq_true rfl⟩) hW (fun r_27 H locs hp_26 hW => ?_)
                      rcases hp_26 with ⟨rfl, w_28⟩ | ⟨rfl, w_29⟩
                      · skip
                        refine m_if_ne (tgt := 50) hx hb dX10_feed_44 (by decide) (fun c_30 => ?_) (fun c_30 => ?_)
                        · skip
                          refine lv_iload_n hx hb dX10_feed_50 rfl (lv_at hl 1 rfl) ?_
                          refine m_top (y := nI nn) hnn ?_
                          refine lv_aload_n hx hb dX10_feed_51 rfl (lv_at hl 0 rfl) ?_
                          refine m_getr S hW hX.sp.1 0 rfl (j := 1) rfl kX10 (iW10 _) (by decide) (List.mem_cons_of_mem _ (wa_1 _ (List.mem_of_getElem? (i := 15) (by decide +kernel)))) dX10_feed_52 ?_
                          refine m_cie (m_rV S hW (c_X6_room_x l G ad sh V ((gTp q).length) hX.sp.2.1.1 hX.tp.1 hX.tp.2.1) (cwV 0 hts (gCall [.methodLink RX10 110 yX6_room, .instanceMethod yX6_room, .selects RX6 yX6_room yX6_room, .initialized RX6] (List.forall_mem_cons.mpr ⟨(wa_15 _ (List.mem_of_getElem? (i := 23) (by decide +kernel))), (List.forall_mem_cons.mpr ⟨(wa_15 _ (List.mem_of_getElem? (i := 20) (by decide +kernel))), (List.forall_mem_cons.mpr ⟨(wa_15 _ (List.mem_of_getElem? (i := 21) (by decide +kernel))), (List.forall_mem_cons.mpr ⟨(wa_15 _ (List.mem_of_getElem? (i := 22) (by decide +kernel))), (List.forall_mem_cons.mpr ⟨(wa_1 _ (List.mem_of_getElem? (i := 14) (by decide +kernel))), (fun _ h => absurd h List.not_mem_nil)⟩)⟩)⟩)⟩)⟩)) rfl rfl rfl (by decide +kernel) ⟨Nat.le_of_ble_eq_true rfl, Nat.le_of_ble_eq_true rfl⟩) hX.sp.2.1.1 kX6 rfl hl.1 rfl (Nat.le_of_ble_eq_true rfl) dX10_feed_55 ⟨Nat.le_of_ble_eq_true rfl, Nat.le_of_ble_eq_true rfl⟩) hW (fun H locs hW => ?_)
                          refine lv_icmp_le (tgt := 64) hx hb dX10_feed_58 (by decide) (fun c_31 => ?_) (fun c_31 => ?_)
                          · skip
                            have c_31 : nn ≤ (160 - ((gTp q).length)) := (nI_leI (by omega) (by omega)).mp c_31
                            refine lv_aload_n hx hb dX10_feed_64 rfl (lv_at hl 0 rfl) ?_
                            refine m_getr S hW hX.sp.1 0 rfl (j := 1) rfl kX10 (iW10 _) (by decide) (List.mem_cons_of_mem _ (wa_1 _ (List.mem_of_getElem? (i := 15) (by decide +kernel)))) dX10_feed_65 ?_
                            refine lv_iload_n hx hb dX10_feed_68 rfl (lv_at hl 2 rfl) ?_
                            refine m_cv (m_rV S hW (c_X6_add l G ad sh V ((gTp q).length) a hX.sp.2.1.1 hX.sp.2.1.2.1 hX.sp.2.1.2.2 hX.tp.1 (by first | omega | (simp only [gTape, gTp, List.length_append, List.length_cons, List.length_nil] at *; omega))) (cwV 1 hts (gCall [.methodLink RX10 113 yX6_add, .instanceMethod yX6_add, .selects RX6 yX6_add yX6_add, .initialized RX6] (List.forall_mem_cons.mpr ⟨(wa_5 _ (List.mem_of_getElem? (i := 20) (by decide +kernel))), (List.forall_mem_cons.mpr ⟨(wa_16 _ (List.mem_of_getElem? (i := 0) (by decide +kernel))), (List.forall_mem_cons.mpr ⟨(wa_5 _ (List.mem_of_getElem? (i := 18) (by decide +kernel))), (List.forall_mem_cons.mpr ⟨(wa_5 _ (List.mem_of_getElem? (i := 19) (by decide +kernel))), (List.forall_mem_cons.mpr ⟨(wa_1 _ (List.mem_of_getElem? (i := 14) (by decide +kernel))), (fun _ h => absurd h List.not_mem_nil)⟩)⟩)⟩)⟩)⟩)) rfl rfl rfl (by decide +kernel) ⟨Nat.le_of_ble_eq_true rfl, Nat.le_of_ble_eq_true rfl⟩) hX.sp.2.1.1 kX6 rfl hl.1 rfl (Nat.le_of_ble_eq_true rfl) dX10_feed_69 ⟨Nat.le_of_ble_eq_true rfl, Nat.le_of_ble_eq_true rfl⟩) hW (fun V_32 H locs hp_33 hW => ?_)
                            have eV_32 : V_32 = mU (mU V 1 1 (nI (((gTp q).length) + 1))) 2 ((gTp q).length) a := hp_33
                            have hX1 : XI sh V_32 (gTape q (gTp q ++ [a])) := by rw [eV_32]; exact hX.add1 _ (by omega)
                            have hle1 : (gTp (gTape q (gTp q ++ [a]))).length = (gTp q).length + 1 := by simp only [gTape, gTp, List.length_append, List.length_cons, List.length_nil]
                            have hF1 : XF V V_32 := by rw [eV_32]; exact ((XF.rfl V).u _ _ (by omega)).u _ _ (by omega)
                            refine lv_iload_n hx hb dX10_feed_72 rfl (lv_at hl 1 rfl) ?_
                            refine m_top (y := nI nn) hnn ?_
                            refine lv_iconst (v := nI 1) hx hb dX10_feed_73 (by decide) ?_
                            refine lv_icmp_le (tgt := 85) hx hb dX10_feed_74 (by decide) (fun c_35 => ?_) (fun c_35 => ?_)
                            · skip
                              have c_35 : nn ≤ 1 := (nI_leI (by omega) (by omega)).mp c_35
                              refine lv_iload_n hx hb dX10_feed_85 rfl (lv_at hl 1 rfl) ?_
                              refine m_top (y := nI nn) hnn ?_
                              refine lv_iconst (v := nI 2) hx hb dX10_feed_86 (by decide) ?_
                              refine lv_icmp_le (tgt := 99) hx hb dX10_feed_87 (by decide) (fun c_36 => ?_) (fun c_36 => ?_)
                              · skip
                                have c_36 : nn ≤ 2 := (nI_leI (by omega) (by omega)).mp c_36
                                refine lv_iload_n hx hb dX10_feed_99 rfl (lv_at hl 1 rfl) ?_
                                refine m_top (y := nI nn) hnn ?_
                                refine lv_iconst (v := nI 3) hx hb dX10_feed_100 (by decide) ?_
                                refine lv_icmp_le (tgt := 113) hx hb dX10_feed_101 (by decide) (fun c_37 => ?_) (fun c_37 => ?_)
                                · skip
                                  have c_37 : nn ≤ 3 := (nI_leI (by omega) (by omega)).mp c_37
                                  refine lv_iload_n hx hb dX10_feed_113 rfl (lv_at hl 1 rfl) ?_
                                  refine m_top (y := nI nn) hnn ?_
                                  refine lv_iconst (v := nI 4) hx hb dX10_feed_114 (by decide) ?_
                                  refine lv_icmp_le (tgt := 127) hx hb dX10_feed_115 (by decide) (fun c_38 => ?_) (fun c_38 => ?_)
                                  · skip
                                    have c_38 : nn ≤ 4 := (nI_leI (by omega) (by omega)).mp c_38
                                    refine lv_aload_n hx hb dX10_feed_127 rfl (lv_at hl 0 rfl) ?_
                                    refine m_getr S hW hX.sp.1 0 rfl (j := 1) rfl kX10 (iW10 _) (by decide) (List.mem_cons_of_mem _ (wa_1 _ (List.mem_of_getElem? (i := 15) (by decide +kernel)))) dX10_feed_128 ?_
                                    refine m_cie (m_rV S hW (c_X6_size_x l G ad sh V_32 ((gTp (gTape q (gTp q ++ [a]))).length) hX.sp.2.1.1 hX1.tp.1) (cwV 0 hts (gCall [.methodLink RX10 99 yX6_size, .instanceMethod yX6_size, .selects RX6 yX6_size yX6_size, .initialized RX6] (List.forall_mem_cons.mpr ⟨(wa_14 _ (List.mem_of_getElem? (i := 19) (by decide +kernel))), (List.forall_mem_cons.mpr ⟨(wa_14 _ (List.mem_of_getElem? (i := 16) (by decide +kernel))), (List.forall_mem_cons.mpr ⟨(wa_14 _ (List.mem_of_getElem? (i := 17) (by decide +kernel))), (List.forall_mem_cons.mpr ⟨(wa_14 _ (List.mem_of_getElem? (i := 18) (by decide +kernel))), (List.forall_mem_cons.mpr ⟨(wa_1 _ (List.mem_of_getElem? (i := 14) (by decide +kernel))), (fun _ h => absurd h List.not_mem_nil)⟩)⟩)⟩)⟩)⟩)) rfl rfl rfl (by decide +kernel) ⟨Nat.le_of_ble_eq_true rfl, Nat.le_of_ble_eq_true rfl⟩) hX.sp.2.1.1 kX6 rfl hl.1 rfl (Nat.le_of_ble_eq_true rfl) dX10_feed_131 ⟨Nat.le_of_ble_eq_true rfl, Nat.le_of_ble_eq_true rfl⟩) hW (fun H locs hW => ?_)
                                    obtain rfl : nn = 1 := by omega
                                    exact m_iret S hr hlk hW dX10_feed_134 (by exact ⟨by simp only [aFeed, if_pos w_3, hcx, if_pos w_8, if_pos w_13, if_pos w_18, if_pos w_23, if_pos w_28, if_pos c_31]; rw [hle1], by simp only [nFeed, if_pos w_3, hcx, if_pos w_8, if_pos w_13, if_pos w_18, if_pos w_23, if_pos w_28, if_pos c_31]; simp only [List.take, List.append_assoc, List.cons_append, List.nil_append]; have hz := hX1; simp only [gTape, gTp, List.append_assoc, List.cons_append, List.nil_append] at hz ⊢; exact hz, hF1⟩)
                                  · skip
                                    have c_38 : ¬ nn ≤ 4 := mt (nI_leI (by omega) (by omega)).mpr c_38
                                    exfalso; omega
                                · skip
                                  have c_37 : ¬ nn ≤ 3 := mt (nI_leI (by omega) (by omega)).mpr c_37
                                  exfalso; omega
                              · skip
                                have c_36 : ¬ nn ≤ 2 := mt (nI_leI (by omega) (by omega)).mpr c_36
                                exfalso; omega
                            · skip
                              have c_35 : ¬ nn ≤ 1 := mt (nI_leI (by omega) (by omega)).mpr c_35
                              have hlen1 : (gTp (gTape q (gTp q ++ [a]))).length < 160 := by rw [hle1]; omega
                              refine lv_aload_n hx hb dX10_feed_77 rfl (lv_at hl 0 rfl) ?_
                              refine m_getr S hW hX.sp.1 0 rfl (j := 1) rfl kX10 (iW10 _) (by decide) (List.mem_cons_of_mem _ (wa_1 _ (List.mem_of_getElem? (i := 15) (by decide +kernel)))) dX10_feed_78 ?_
                              refine lv_iload_n hx hb dX10_feed_81 rfl (lv_at hl 3 rfl) ?_
                              refine m_cv (m_rV S hW (c_X6_add l G ad sh V_32 ((gTp (gTape q (gTp q ++ [a]))).length) b hX.sp.2.1.1 hX.sp.2.1.2.1 hX.sp.2.1.2.2 hX1.tp.1 (by first | omega | (simp only [gTape, gTp, List.length_append, List.length_cons, List.length_nil] at *; omega))) (cwV 1 hts (gCall [.methodLink RX10 113 yX6_add, .instanceMethod yX6_add, .selects RX6 yX6_add yX6_add, .initialized RX6] (List.forall_mem_cons.mpr ⟨(wa_5 _ (List.mem_of_getElem? (i := 20) (by decide +kernel))), (List.forall_mem_cons.mpr ⟨(wa_16 _ (List.mem_of_getElem? (i := 0) (by decide +kernel))), (List.forall_mem_cons.mpr ⟨(wa_5 _ (List.mem_of_getElem? (i := 18) (by decide +kernel))), (List.forall_mem_cons.mpr ⟨(wa_5 _ (List.mem_of_getElem? (i := 19) (by decide +kernel))), (List.forall_mem_cons.mpr ⟨(wa_1 _ (List.mem_of_getElem? (i := 14) (by decide +kernel))), (fun _ h => absurd h List.not_mem_nil)⟩)⟩)⟩)⟩)⟩)) rfl rfl rfl (by decide +kernel) ⟨Nat.le_of_ble_eq_true rfl, Nat.le_of_ble_eq_true rfl⟩) hX.sp.2.1.1 kX6 rfl hl.1 rfl (Nat.le_of_ble_eq_true rfl) dX10_feed_82 ⟨Nat.le_of_ble_eq_true rfl, Nat.le_of_ble_eq_true rfl⟩) hW (fun V_39 H locs hp_40 hW => ?_)
                              have eV_39 : V_39 = mU (mU V_32 1 1 (nI (((gTp (gTape q (gTp q ++ [a]))).length) + 1))) 2 ((gTp (gTape q (gTp q ++ [a]))).length) b := hp_40
                              have hX2 : XI sh V_39 (gTape (gTape q (gTp q ++ [a])) (gTp (gTape q (gTp q ++ [a])) ++ [b])) := by rw [eV_39]; exact hX1.add1 _ (by exact hlen1)
                              have hle2 : (gTp (gTape (gTape q (gTp q ++ [a])) (gTp (gTape q (gTp q ++ [a])) ++ [b]))).length = (gTp q).length + 2 := by simp only [gTape, gTp, List.length_append, List.length_cons, List.length_nil]
                              have hF2 : XF V V_39 := by rw [eV_39]; exact (hF1.u _ _ (by omega)).u _ _ (by omega)
                              refine lv_iload_n hx hb dX10_feed_85 rfl (lv_at hl 1 rfl) ?_
                              refine m_top (y := nI nn) hnn ?_
                              refine lv_iconst (v := nI 2) hx hb dX10_feed_86 (by decide) ?_
                              refine lv_icmp_le (tgt := 99) hx hb dX10_feed_87 (by decide) (fun c_42 => ?_) (fun c_42 => ?_)
                              · skip
                                have c_42 : nn ≤ 2 := (nI_leI (by omega) (by omega)).mp c_42
                                refine lv_iload_n hx hb dX10_feed_99 rfl (lv_at hl 1 rfl) ?_
                                refine m_top (y := nI nn) hnn ?_
                                refine lv_iconst (v := nI 3) hx hb dX10_feed_100 (by decide) ?_
                                refine lv_icmp_le (tgt := 113) hx hb dX10_feed_101 (by decide) (fun c_43 => ?_) (fun c_43 => ?_)
                                · skip
                                  have c_43 : nn ≤ 3 := (nI_leI (by omega) (by omega)).mp c_43
                                  refine lv_iload_n hx hb dX10_feed_113 rfl (lv_at hl 1 rfl) ?_
                                  refine m_top (y := nI nn) hnn ?_
                                  refine lv_iconst (v := nI 4) hx hb dX10_feed_114 (by decide) ?_
                                  refine lv_icmp_le (tgt := 127) hx hb dX10_feed_115 (by decide) (fun c_44 => ?_) (fun c_44 => ?_)
                                  · skip
                                    have c_44 : nn ≤ 4 := (nI_leI (by omega) (by omega)).mp c_44
                                    refine lv_aload_n hx hb dX10_feed_127 rfl (lv_at hl 0 rfl) ?_
                                    refine m_getr S hW hX.sp.1 0 rfl (j := 1) rfl kX10 (iW10 _) (by decide) (List.mem_cons_of_mem _ (wa_1 _ (List.mem_of_getElem? (i := 15) (by decide +kernel)))) dX10_feed_128 ?_
                                    refine m_cie (m_rV S hW (c_X6_size_x l G ad sh V_39 ((gTp (gTape (gTape q (gTp q ++ [a])) (gTp (gTape q (gTp q ++ [a])) ++ [b]))).length) hX.sp.2.1.1 hX2.tp.1) (cwV 0 hts (gCall [.methodLink RX10 99 yX6_size, .instanceMethod yX6_size, .selects RX6 yX6_size yX6_size, .initialized RX6] (List.forall_mem_cons.mpr ⟨(wa_14 _ (List.mem_of_getElem? (i := 19) (by decide +kernel))), (List.forall_mem_cons.mpr ⟨(wa_14 _ (List.mem_of_getElem? (i := 16) (by decide +kernel))), (List.forall_mem_cons.mpr ⟨(wa_14 _ (List.mem_of_getElem? (i := 17) (by decide +kernel))), (List.forall_mem_cons.mpr ⟨(wa_14 _ (List.mem_of_getElem? (i := 18) (by decide +kernel))), (List.forall_mem_cons.mpr ⟨(wa_1 _ (List.mem_of_getElem? (i := 14) (by decide +kernel))), (fun _ h => absurd h List.not_mem_nil)⟩)⟩)⟩)⟩)⟩)) rfl rfl rfl (by decide +kernel) ⟨Nat.le_of_ble_eq_true rfl, Nat.le_of_ble_eq_true rfl⟩) hX.sp.2.1.1 kX6 rfl hl.1 rfl (Nat.le_of_ble_eq_true rfl) dX10_feed_131 ⟨Nat.le_of_ble_eq_true rfl, Nat.le_of_ble_eq_true rfl⟩) hW (fun H locs hW => ?_)
                                    obtain rfl : nn = 2 := by omega
                                    exact m_iret S hr hlk hW dX10_feed_134 (by exact ⟨by simp only [aFeed, if_pos w_3, hcx, if_pos w_8, if_pos w_13, if_pos w_18, if_pos w_23, if_pos w_28, if_pos c_31]; rw [hle2], by simp only [nFeed, if_pos w_3, hcx, if_pos w_8, if_pos w_13, if_pos w_18, if_pos w_23, if_pos w_28, if_pos c_31]; simp only [List.take, List.append_assoc, List.cons_append, List.nil_append]; have hz := hX2; simp only [gTape, gTp, List.append_assoc, List.cons_append, List.nil_append] at hz ⊢; exact hz, hF2⟩)
                                  · skip
                                    have c_44 : ¬ nn ≤ 4 := mt (nI_leI (by omega) (by omega)).mpr c_44
                                    exfalso; omega
                                · skip
                                  have c_43 : ¬ nn ≤ 3 := mt (nI_leI (by omega) (by omega)).mpr c_43
                                  exfalso; omega
                              · skip
                                have c_42 : ¬ nn ≤ 2 := mt (nI_leI (by omega) (by omega)).mpr c_42
                                have hlen2 : (gTp (gTape (gTape q (gTp q ++ [a])) (gTp (gTape q (gTp q ++ [a])) ++ [b]))).length < 160 := by rw [hle2]; omega
                                refine lv_aload_n hx hb dX10_feed_90 rfl (lv_at hl 0 rfl) ?_
                                refine m_getr S hW hX.sp.1 0 rfl (j := 1) rfl kX10 (iW10 _) (by decide) (List.mem_cons_of_mem _ (wa_1 _ (List.mem_of_getElem? (i := 15) (by decide +kernel)))) dX10_feed_91 ?_
                                refine lv_iload hx hb dX10_feed_94 (lv_at hl 4 rfl) ?_
                                refine m_cv (m_rV S hW (c_X6_add l G ad sh V_39 ((gTp (gTape (gTape q (gTp q ++ [a])) (gTp (gTape q (gTp q ++ [a])) ++ [b]))).length) c0 hX.sp.2.1.1 hX.sp.2.1.2.1 hX.sp.2.1.2.2 hX2.tp.1 (by first | omega | (simp only [gTape, gTp, List.length_append, List.length_cons, List.length_nil] at *; omega))) (cwV 1 hts (gCall [.methodLink RX10 113 yX6_add, .instanceMethod yX6_add, .selects RX6 yX6_add yX6_add, .initialized RX6] (List.forall_mem_cons.mpr ⟨(wa_5 _ (List.mem_of_getElem? (i := 20) (by decide +kernel))), (List.forall_mem_cons.mpr ⟨(wa_16 _ (List.mem_of_getElem? (i := 0) (by decide +kernel))), (List.forall_mem_cons.mpr ⟨(wa_5 _ (List.mem_of_getElem? (i := 18) (by decide +kernel))), (List.forall_mem_cons.mpr ⟨(wa_5 _ (List.mem_of_getElem? (i := 19) (by decide +kernel))), (List.forall_mem_cons.mpr ⟨(wa_1 _ (List.mem_of_getElem? (i := 14) (by decide +kernel))), (fun _ h => absurd h List.not_mem_nil)⟩)⟩)⟩)⟩)⟩)) rfl rfl rfl (by decide +kernel) ⟨Nat.le_of_ble_eq_true rfl, Nat.le_of_ble_eq_true rfl⟩) hX.sp.2.1.1 kX6 rfl hl.1 rfl (Nat.le_of_ble_eq_true rfl) dX10_feed_96 ⟨Nat.le_of_ble_eq_true rfl, Nat.le_of_ble_eq_true rfl⟩) hW (fun V_45 H locs hp_46 hW => ?_)
                                have eV_45 : V_45 = mU (mU V_39 1 1 (nI (((gTp (gTape (gTape q (gTp q ++ [a])) (gTp (gTape q (gTp q ++ [a])) ++ [b]))).length) + 1))) 2 ((gTp (gTape (gTape q (gTp q ++ [a])) (gTp (gTape q (gTp q ++ [a])) ++ [b]))).length) c0 := hp_46
                                have hX3 : XI sh V_45 (gTape (gTape (gTape q (gTp q ++ [a])) (gTp (gTape q (gTp q ++ [a])) ++ [b])) (gTp (gTape (gTape q (gTp q ++ [a])) (gTp (gTape q (gTp q ++ [a])) ++ [b])) ++ [c0])) := by rw [eV_45]; exact hX2.add1 _ (by exact hlen2)
                                have hle3 : (gTp (gTape (gTape (gTape q (gTp q ++ [a])) (gTp (gTape q (gTp q ++ [a])) ++ [b])) (gTp (gTape (gTape q (gTp q ++ [a])) (gTp (gTape q (gTp q ++ [a])) ++ [b])) ++ [c0]))).length = (gTp q).length + 3 := by simp only [gTape, gTp, List.length_append, List.length_cons, List.length_nil]
                                have hF3 : XF V V_45 := by rw [eV_45]; exact (hF2.u _ _ (by omega)).u _ _ (by omega)
                                refine lv_iload_n hx hb dX10_feed_99 rfl (lv_at hl 1 rfl) ?_
                                refine m_top (y := nI nn) hnn ?_
                                refine lv_iconst (v := nI 3) hx hb dX10_feed_100 (by decide) ?_
                                refine lv_icmp_le (tgt := 113) hx hb dX10_feed_101 (by decide) (fun c_48 => ?_) (fun c_48 => ?_)
                                · skip
                                  have c_48 : nn ≤ 3 := (nI_leI (by omega) (by omega)).mp c_48
                                  refine lv_iload_n hx hb dX10_feed_113 rfl (lv_at hl 1 rfl) ?_
                                  refine m_top (y := nI nn) hnn ?_
                                  refine lv_iconst (v := nI 4) hx hb dX10_feed_114 (by decide) ?_
                                  refine lv_icmp_le (tgt := 127) hx hb dX10_feed_115 (by decide) (fun c_49 => ?_) (fun c_49 => ?_)
                                  · skip
                                    have c_49 : nn ≤ 4 := (nI_leI (by omega) (by omega)).mp c_49
                                    refine lv_aload_n hx hb dX10_feed_127 rfl (lv_at hl 0 rfl) ?_
                                    refine m_getr S hW hX.sp.1 0 rfl (j := 1) rfl kX10 (iW10 _) (by decide) (List.mem_cons_of_mem _ (wa_1 _ (List.mem_of_getElem? (i := 15) (by decide +kernel)))) dX10_feed_128 ?_
                                    refine m_cie (m_rV S hW (c_X6_size_x l G ad sh V_45 ((gTp (gTape (gTape (gTape q (gTp q ++ [a])) (gTp (gTape q (gTp q ++ [a])) ++ [b])) (gTp (gTape (gTape q (gTp q ++ [a])) (gTp (gTape q (gTp q ++ [a])) ++ [b])) ++ [c0]))).length) hX.sp.2.1.1 hX3.tp.1) (cwV 0 hts (gCall [.methodLink RX10 99 yX6_size, .instanceMethod yX6_size, .selects RX6 yX6_size yX6_size, .initialized RX6] (List.forall_mem_cons.mpr ⟨(wa_14 _ (List.mem_of_getElem? (i := 19) (by decide +kernel))), (List.forall_mem_cons.mpr ⟨(wa_14 _ (List.mem_of_getElem? (i := 16) (by decide +kernel))), (List.forall_mem_cons.mpr ⟨(wa_14 _ (List.mem_of_getElem? (i := 17) (by decide +kernel))), (List.forall_mem_cons.mpr ⟨(wa_14 _ (List.mem_of_getElem? (i := 18) (by decide +kernel))), (List.forall_mem_cons.mpr ⟨(wa_1 _ (List.mem_of_getElem? (i := 14) (by decide +kernel))), (fun _ h => absurd h List.not_mem_nil)⟩)⟩)⟩)⟩)⟩)) rfl rfl rfl (by decide +kernel) ⟨Nat.le_of_ble_eq_true rfl, Nat.le_of_ble_eq_true rfl⟩) hX.sp.2.1.1 kX6 rfl hl.1 rfl (Nat.le_of_ble_eq_true rfl) dX10_feed_131 ⟨Nat.le_of_ble_eq_true rfl, Nat.le_of_ble_eq_true rfl⟩) hW (fun H locs hW => ?_)
                                    obtain rfl : nn = 3 := by omega
                                    exact m_iret S hr hlk hW dX10_feed_134 (by exact ⟨by simp only [aFeed, if_pos w_3, hcx, if_pos w_8, if_pos w_13, if_pos w_18, if_pos w_23, if_pos w_28, if_pos c_31]; rw [hle3], by simp only [nFeed, if_pos w_3, hcx, if_pos w_8, if_pos w_13, if_pos w_18, if_pos w_23, if_pos w_28, if_pos c_31]; simp only [List.take, List.append_assoc, List.cons_append, List.nil_append]; have hz := hX3; simp only [gTape, gTp, List.append_assoc, List.cons_append, List.nil_append] at hz ⊢; exact hz, hF3⟩)
                                  · skip
                                    have c_49 : ¬ nn ≤ 4 := mt (nI_leI (by omega) (by omega)).mpr c_49
                                    exfalso; omega
                                · skip
                                  have c_48 : ¬ nn ≤ 3 := mt (nI_leI (by omega) (by omega)).mpr c_48
                                  have hlen3 : (gTp (gTape (gTape (gTape q (gTp q ++ [a])) (gTp (gTape q (gTp q ++ [a])) ++ [b])) (gTp (gTape (gTape q (gTp q ++ [a])) (gTp (gTape q (gTp q ++ [a])) ++ [b])) ++ [c0]))).length < 160 := by rw [hle3]; omega
                                  refine lv_aload_n hx hb dX10_feed_104 rfl (lv_at hl 0 rfl) ?_
                                  refine m_getr S hW hX.sp.1 0 rfl (j := 1) rfl kX10 (iW10 _) (by decide) (List.mem_cons_of_mem _ (wa_1 _ (List.mem_of_getElem? (i := 15) (by decide +kernel)))) dX10_feed_105 ?_
                                  refine lv_iload hx hb dX10_feed_108 (lv_at hl 5 rfl) ?_
                                  refine m_cv (m_rV S hW (c_X6_add l G ad sh V_45 ((gTp (gTape (gTape (gTape q (gTp q ++ [a])) (gTp (gTape q (gTp q ++ [a])) ++ [b])) (gTp (gTape (gTape q (gTp q ++ [a])) (gTp (gTape q (gTp q ++ [a])) ++ [b])) ++ [c0]))).length) d hX.sp.2.1.1 hX.sp.2.1.2.1 hX.sp.2.1.2.2 hX3.tp.1 (by first | omega | (simp only [gTape, gTp, List.length_append, List.length_cons, List.length_nil] at *; omega))) (cwV 1 hts (gCall [.methodLink RX10 113 yX6_add, .instanceMethod yX6_add, .selects RX6 yX6_add yX6_add, .initialized RX6] (List.forall_mem_cons.mpr ⟨(wa_5 _ (List.mem_of_getElem? (i := 20) (by decide +kernel))), (List.forall_mem_cons.mpr ⟨(wa_16 _ (List.mem_of_getElem? (i := 0) (by decide +kernel))), (List.forall_mem_cons.mpr ⟨(wa_5 _ (List.mem_of_getElem? (i := 18) (by decide +kernel))), (List.forall_mem_cons.mpr ⟨(wa_5 _ (List.mem_of_getElem? (i := 19) (by decide +kernel))), (List.forall_mem_cons.mpr ⟨(wa_1 _ (List.mem_of_getElem? (i := 14) (by decide +kernel))), (fun _ h => absurd h List.not_mem_nil)⟩)⟩)⟩)⟩)⟩)) rfl rfl rfl (by decide +kernel) ⟨Nat.le_of_ble_eq_true rfl, Nat.le_of_ble_eq_true rfl⟩) hX.sp.2.1.1 kX6 rfl hl.1 rfl (Nat.le_of_ble_eq_true rfl) dX10_feed_110 ⟨Nat.le_of_ble_eq_true rfl, Nat.le_of_ble_eq_true rfl⟩) hW (fun V_50 H locs hp_51 hW => ?_)
                                  have eV_50 : V_50 = mU (mU V_45 1 1 (nI (((gTp (gTape (gTape (gTape q (gTp q ++ [a])) (gTp (gTape q (gTp q ++ [a])) ++ [b])) (gTp (gTape (gTape q (gTp q ++ [a])) (gTp (gTape q (gTp q ++ [a])) ++ [b])) ++ [c0]))).length) + 1))) 2 ((gTp (gTape (gTape (gTape q (gTp q ++ [a])) (gTp (gTape q (gTp q ++ [a])) ++ [b])) (gTp (gTape (gTape q (gTp q ++ [a])) (gTp (gTape q (gTp q ++ [a])) ++ [b])) ++ [c0]))).length) d := hp_51
                                  have hX4 : XI sh V_50 (gTape (gTape (gTape (gTape q (gTp q ++ [a])) (gTp (gTape q (gTp q ++ [a])) ++ [b])) (gTp (gTape (gTape q (gTp q ++ [a])) (gTp (gTape q (gTp q ++ [a])) ++ [b])) ++ [c0])) (gTp (gTape (gTape (gTape q (gTp q ++ [a])) (gTp (gTape q (gTp q ++ [a])) ++ [b])) (gTp (gTape (gTape q (gTp q ++ [a])) (gTp (gTape q (gTp q ++ [a])) ++ [b])) ++ [c0])) ++ [d])) := by rw [eV_50]; exact hX3.add1 _ (by exact hlen3)
                                  have hle4 : (gTp (gTape (gTape (gTape (gTape q (gTp q ++ [a])) (gTp (gTape q (gTp q ++ [a])) ++ [b])) (gTp (gTape (gTape q (gTp q ++ [a])) (gTp (gTape q (gTp q ++ [a])) ++ [b])) ++ [c0])) (gTp (gTape (gTape (gTape q (gTp q ++ [a])) (gTp (gTape q (gTp q ++ [a])) ++ [b])) (gTp (gTape (gTape q (gTp q ++ [a])) (gTp (gTape q (gTp q ++ [a])) ++ [b])) ++ [c0])) ++ [d]))).length = (gTp q).length + 4 := by simp only [gTape, gTp, List.length_append, List.length_cons, List.length_nil]
                                  have hF4 : XF V V_50 := by rw [eV_50]; exact (hF3.u _ _ (by omega)).u _ _ (by omega)
                                  refine lv_iload_n hx hb dX10_feed_113 rfl (lv_at hl 1 rfl) ?_
                                  refine m_top (y := nI nn) hnn ?_
                                  refine lv_iconst (v := nI 4) hx hb dX10_feed_114 (by decide) ?_
                                  refine lv_icmp_le (tgt := 127) hx hb dX10_feed_115 (by decide) (fun c_53 => ?_) (fun c_53 => ?_)
                                  · skip
                                    have c_53 : nn ≤ 4 := (nI_leI (by omega) (by omega)).mp c_53
                                    refine lv_aload_n hx hb dX10_feed_127 rfl (lv_at hl 0 rfl) ?_
                                    refine m_getr S hW hX.sp.1 0 rfl (j := 1) rfl kX10 (iW10 _) (by decide) (List.mem_cons_of_mem _ (wa_1 _ (List.mem_of_getElem? (i := 15) (by decide +kernel)))) dX10_feed_128 ?_
                                    refine m_cie (m_rV S hW (c_X6_size_x l G ad sh V_50 ((gTp (gTape (gTape (gTape (gTape q (gTp q ++ [a])) (gTp (gTape q (gTp q ++ [a])) ++ [b])) (gTp (gTape (gTape q (gTp q ++ [a])) (gTp (gTape q (gTp q ++ [a])) ++ [b])) ++ [c0])) (gTp (gTape (gTape (gTape q (gTp q ++ [a])) (gTp (gTape q (gTp q ++ [a])) ++ [b])) (gTp (gTape (gTape q (gTp q ++ [a])) (gTp (gTape q (gTp q ++ [a])) ++ [b])) ++ [c0])) ++ [d]))).length) hX.sp.2.1.1 hX4.tp.1) (cwV 0 hts (gCall [.methodLink RX10 99 yX6_size, .instanceMethod yX6_size, .selects RX6 yX6_size yX6_size, .initialized RX6] (List.forall_mem_cons.mpr ⟨(wa_14 _ (List.mem_of_getElem? (i := 19) (by decide +kernel))), (List.forall_mem_cons.mpr ⟨(wa_14 _ (List.mem_of_getElem? (i := 16) (by decide +kernel))), (List.forall_mem_cons.mpr ⟨(wa_14 _ (List.mem_of_getElem? (i := 17) (by decide +kernel))), (List.forall_mem_cons.mpr ⟨(wa_14 _ (List.mem_of_getElem? (i := 18) (by decide +kernel))), (List.forall_mem_cons.mpr ⟨(wa_1 _ (List.mem_of_getElem? (i := 14) (by decide +kernel))), (fun _ h => absurd h List.not_mem_nil)⟩)⟩)⟩)⟩)⟩)) rfl rfl rfl (by decide +kernel) ⟨Nat.le_of_ble_eq_true rfl, Nat.le_of_ble_eq_true rfl⟩) hX.sp.2.1.1 kX6 rfl hl.1 rfl (Nat.le_of_ble_eq_true rfl) dX10_feed_131 ⟨Nat.le_of_ble_eq_true rfl, Nat.le_of_ble_eq_true rfl⟩) hW (fun H locs hW => ?_)
                                    obtain rfl : nn = 4 := by omega
                                    exact m_iret S hr hlk hW dX10_feed_134 (by exact ⟨by simp only [aFeed, if_pos w_3, hcx, if_pos w_8, if_pos w_13, if_pos w_18, if_pos w_23, if_pos w_28, if_pos c_31]; rw [hle4], by simp only [nFeed, if_pos w_3, hcx, if_pos w_8, if_pos w_13, if_pos w_18, if_pos w_23, if_pos w_28, if_pos c_31]; simp only [List.take, List.append_assoc, List.cons_append, List.nil_append]; have hz := hX4; simp only [gTape, gTp, List.append_assoc, List.cons_append, List.nil_append] at hz ⊢; exact hz, hF4⟩)
                                  · skip
                                    have c_53 : ¬ nn ≤ 4 := mt (nI_leI (by omega) (by omega)).mpr c_53
                                    have hlen4 : (gTp (gTape (gTape (gTape (gTape q (gTp q ++ [a])) (gTp (gTape q (gTp q ++ [a])) ++ [b])) (gTp (gTape (gTape q (gTp q ++ [a])) (gTp (gTape q (gTp q ++ [a])) ++ [b])) ++ [c0])) (gTp (gTape (gTape (gTape q (gTp q ++ [a])) (gTp (gTape q (gTp q ++ [a])) ++ [b])) (gTp (gTape (gTape q (gTp q ++ [a])) (gTp (gTape q (gTp q ++ [a])) ++ [b])) ++ [c0])) ++ [d]))).length < 160 := by rw [hle4]; omega
                                    refine lv_aload_n hx hb dX10_feed_118 rfl (lv_at hl 0 rfl) ?_
                                    refine m_getr S hW hX.sp.1 0 rfl (j := 1) rfl kX10 (iW10 _) (by decide) (List.mem_cons_of_mem _ (wa_1 _ (List.mem_of_getElem? (i := 15) (by decide +kernel)))) dX10_feed_119 ?_
                                    refine lv_iload hx hb dX10_feed_122 (lv_at hl 6 rfl) ?_
                                    refine m_cv (m_rV S hW (c_X6_add l G ad sh V_50 ((gTp (gTape (gTape (gTape (gTape q (gTp q ++ [a])) (gTp (gTape q (gTp q ++ [a])) ++ [b])) (gTp (gTape (gTape q (gTp q ++ [a])) (gTp (gTape q (gTp q ++ [a])) ++ [b])) ++ [c0])) (gTp (gTape (gTape (gTape q (gTp q ++ [a])) (gTp (gTape q (gTp q ++ [a])) ++ [b])) (gTp (gTape (gTape q (gTp q ++ [a])) (gTp (gTape q (gTp q ++ [a])) ++ [b])) ++ [c0])) ++ [d]))).length) w hX.sp.2.1.1 hX.sp.2.1.2.1 hX.sp.2.1.2.2 hX4.tp.1 (by first | omega | (simp only [gTape, gTp, List.length_append, List.length_cons, List.length_nil] at *; omega))) (cwV 1 hts (gCall [.methodLink RX10 113 yX6_add, .instanceMethod yX6_add, .selects RX6 yX6_add yX6_add, .initialized RX6] (List.forall_mem_cons.mpr ⟨(wa_5 _ (List.mem_of_getElem? (i := 20) (by decide +kernel))), (List.forall_mem_cons.mpr ⟨(wa_16 _ (List.mem_of_getElem? (i := 0) (by decide +kernel))), (List.forall_mem_cons.mpr ⟨(wa_5 _ (List.mem_of_getElem? (i := 18) (by decide +kernel))), (List.forall_mem_cons.mpr ⟨(wa_5 _ (List.mem_of_getElem? (i := 19) (by decide +kernel))), (List.forall_mem_cons.mpr ⟨(wa_1 _ (List.mem_of_getElem? (i := 14) (by decide +kernel))), (fun _ h => absurd h List.not_mem_nil)⟩)⟩)⟩)⟩)⟩)) rfl rfl rfl (by decide +kernel) ⟨Nat.le_of_ble_eq_true rfl, Nat.le_of_ble_eq_true rfl⟩) hX.sp.2.1.1 kX6 rfl hl.1 rfl (Nat.le_of_ble_eq_true rfl) dX10_feed_124 ⟨Nat.le_of_ble_eq_true rfl, Nat.le_of_ble_eq_true rfl⟩) hW (fun V_54 H locs hp_55 hW => ?_)
                                    have eV_54 : V_54 = mU (mU V_50 1 1 (nI (((gTp (gTape (gTape (gTape (gTape q (gTp q ++ [a])) (gTp (gTape q (gTp q ++ [a])) ++ [b])) (gTp (gTape (gTape q (gTp q ++ [a])) (gTp (gTape q (gTp q ++ [a])) ++ [b])) ++ [c0])) (gTp (gTape (gTape (gTape q (gTp q ++ [a])) (gTp (gTape q (gTp q ++ [a])) ++ [b])) (gTp (gTape (gTape q (gTp q ++ [a])) (gTp (gTape q (gTp q ++ [a])) ++ [b])) ++ [c0])) ++ [d]))).length) + 1))) 2 ((gTp (gTape (gTape (gTape (gTape q (gTp q ++ [a])) (gTp (gTape q (gTp q ++ [a])) ++ [b])) (gTp (gTape (gTape q (gTp q ++ [a])) (gTp (gTape q (gTp q ++ [a])) ++ [b])) ++ [c0])) (gTp (gTape (gTape (gTape q (gTp q ++ [a])) (gTp (gTape q (gTp q ++ [a])) ++ [b])) (gTp (gTape (gTape q (gTp q ++ [a])) (gTp (gTape q (gTp q ++ [a])) ++ [b])) ++ [c0])) ++ [d]))).length) w := hp_55
                                    have hX5 : XI sh V_54 (gTape (gTape (gTape (gTape (gTape q (gTp q ++ [a])) (gTp (gTape q (gTp q ++ [a])) ++ [b])) (gTp (gTape (gTape q (gTp q ++ [a])) (gTp (gTape q (gTp q ++ [a])) ++ [b])) ++ [c0])) (gTp (gTape (gTape (gTape q (gTp q ++ [a])) (gTp (gTape q (gTp q ++ [a])) ++ [b])) (gTp (gTape (gTape q (gTp q ++ [a])) (gTp (gTape q (gTp q ++ [a])) ++ [b])) ++ [c0])) ++ [d])) (gTp (gTape (gTape (gTape (gTape q (gTp q ++ [a])) (gTp (gTape q (gTp q ++ [a])) ++ [b])) (gTp (gTape (gTape q (gTp q ++ [a])) (gTp (gTape q (gTp q ++ [a])) ++ [b])) ++ [c0])) (gTp (gTape (gTape (gTape q (gTp q ++ [a])) (gTp (gTape q (gTp q ++ [a])) ++ [b])) (gTp (gTape (gTape q (gTp q ++ [a])) (gTp (gTape q (gTp q ++ [a])) ++ [b])) ++ [c0])) ++ [d])) ++ [w])) := by rw [eV_54]; exact hX4.add1 _ (by exact hlen4)
                                    have hle5 : (gTp (gTape (gTape (gTape (gTape (gTape q (gTp q ++ [a])) (gTp (gTape q (gTp q ++ [a])) ++ [b])) (gTp (gTape (gTape q (gTp q ++ [a])) (gTp (gTape q (gTp q ++ [a])) ++ [b])) ++ [c0])) (gTp (gTape (gTape (gTape q (gTp q ++ [a])) (gTp (gTape q (gTp q ++ [a])) ++ [b])) (gTp (gTape (gTape q (gTp q ++ [a])) (gTp (gTape q (gTp q ++ [a])) ++ [b])) ++ [c0])) ++ [d])) (gTp (gTape (gTape (gTape (gTape q (gTp q ++ [a])) (gTp (gTape q (gTp q ++ [a])) ++ [b])) (gTp (gTape (gTape q (gTp q ++ [a])) (gTp (gTape q (gTp q ++ [a])) ++ [b])) ++ [c0])) (gTp (gTape (gTape (gTape q (gTp q ++ [a])) (gTp (gTape q (gTp q ++ [a])) ++ [b])) (gTp (gTape (gTape q (gTp q ++ [a])) (gTp (gTape q (gTp q ++ [a])) ++ [b])) ++ [c0])) ++ [d])) ++ [w]))).length = (gTp q).length + 5 := by simp only [gTape, gTp, List.length_append, List.length_cons, List.length_nil]
                                    have hF5 : XF V V_54 := by rw [eV_54]; exact (hF4.u _ _ (by omega)).u _ _ (by omega)
                                    refine lv_aload_n hx hb dX10_feed_127 rfl (lv_at hl 0 rfl) ?_
                                    refine m_getr S hW hX.sp.1 0 rfl (j := 1) rfl kX10 (iW10 _) (by decide) (List.mem_cons_of_mem _ (wa_1 _ (List.mem_of_getElem? (i := 15) (by decide +kernel)))) dX10_feed_128 ?_
                                    refine m_cie (m_rV S hW (c_X6_size_x l G ad sh V_54 ((gTp (gTape (gTape (gTape (gTape (gTape q (gTp q ++ [a])) (gTp (gTape q (gTp q ++ [a])) ++ [b])) (gTp (gTape (gTape q (gTp q ++ [a])) (gTp (gTape q (gTp q ++ [a])) ++ [b])) ++ [c0])) (gTp (gTape (gTape (gTape q (gTp q ++ [a])) (gTp (gTape q (gTp q ++ [a])) ++ [b])) (gTp (gTape (gTape q (gTp q ++ [a])) (gTp (gTape q (gTp q ++ [a])) ++ [b])) ++ [c0])) ++ [d])) (gTp (gTape (gTape (gTape (gTape q (gTp q ++ [a])) (gTp (gTape q (gTp q ++ [a])) ++ [b])) (gTp (gTape (gTape q (gTp q ++ [a])) (gTp (gTape q (gTp q ++ [a])) ++ [b])) ++ [c0])) (gTp (gTape (gTape (gTape q (gTp q ++ [a])) (gTp (gTape q (gTp q ++ [a])) ++ [b])) (gTp (gTape (gTape q (gTp q ++ [a])) (gTp (gTape q (gTp q ++ [a])) ++ [b])) ++ [c0])) ++ [d])) ++ [w]))).length) hX.sp.2.1.1 hX5.tp.1) (cwV 0 hts (gCall [.methodLink RX10 99 yX6_size, .instanceMethod yX6_size, .selects RX6 yX6_size yX6_size, .initialized RX6] (List.forall_mem_cons.mpr ⟨(wa_14 _ (List.mem_of_getElem? (i := 19) (by decide +kernel))), (List.forall_mem_cons.mpr ⟨(wa_14 _ (List.mem_of_getElem? (i := 16) (by decide +kernel))), (List.forall_mem_cons.mpr ⟨(wa_14 _ (List.mem_of_getElem? (i := 17) (by decide +kernel))), (List.forall_mem_cons.mpr ⟨(wa_14 _ (List.mem_of_getElem? (i := 18) (by decide +kernel))), (List.forall_mem_cons.mpr ⟨(wa_1 _ (List.mem_of_getElem? (i := 14) (by decide +kernel))), (fun _ h => absurd h List.not_mem_nil)⟩)⟩)⟩)⟩)⟩)) rfl rfl rfl (by decide +kernel) ⟨Nat.le_of_ble_eq_true rfl, Nat.le_of_ble_eq_true rfl⟩) hX.sp.2.1.1 kX6 rfl hl.1 rfl (Nat.le_of_ble_eq_true rfl) dX10_feed_131 ⟨Nat.le_of_ble_eq_true rfl, Nat.le_of_ble_eq_true rfl⟩) hW (fun H locs hW => ?_)
                                    obtain rfl : nn = 5 := by omega
                                    exact m_iret S hr hlk hW dX10_feed_134 (by exact ⟨by simp only [aFeed, if_pos w_3, hcx, if_pos w_8, if_pos w_13, if_pos w_18, if_pos w_23, if_pos w_28, if_pos c_31]; rw [hle5], by simp only [nFeed, if_pos w_3, hcx, if_pos w_8, if_pos w_13, if_pos w_18, if_pos w_23, if_pos w_28, if_pos c_31]; simp only [List.take, List.append_assoc, List.cons_append, List.nil_append]; have hz := hX5; simp only [gTape, gTp, List.append_assoc, List.cons_append, List.nil_append] at hz ⊢; exact hz, hF5⟩)
                          · skip
                            have c_31 : ¬ nn ≤ (160 - ((gTp q).length)) := mt (nI_leI (by omega) (by omega)).mpr c_31
                            refine lv_bipush (v := -4) hx hb dX10_feed_61 (by decide) ?_
                            exact m_iret S hr hlk hW dX10_feed_63 (by exact ⟨by simp only [aFeed, if_pos w_3, hcx, if_pos w_8, if_pos w_13, if_pos w_18, if_pos w_23, if_pos w_28, if_neg c_31]; try rfl, by simp only [nFeed, if_pos w_3, hcx, if_pos w_8, if_pos w_13, if_pos w_18, if_pos w_23, if_pos w_28, if_neg c_31]; exact hX, XF.rfl V⟩)
                        · exact absurd c_30 (by decide)
                      · skip
                        refine m_if_ne (tgt := 50) hx hb dX10_feed_44 (by decide) (fun c_57 => ?_) (fun c_57 => ?_)
                        · exact absurd c_57 (by decide)
                        · skip
                          refine lv_bipush (v := -2) hx hb dX10_feed_47 (by decide) ?_
                          exact m_iret S hr hlk hW dX10_feed_49 (by exact ⟨by simp only [aFeed, if_pos w_3, hcx, if_pos w_8, if_pos w_13, if_pos w_18, if_pos w_23, if_neg w_29]; try rfl, by simp only [nFeed, if_pos w_3, hcx, if_pos w_8, if_pos w_13, if_pos w_18, if_pos w_23, if_neg w_29]; exact hX, XF.rfl V⟩)
                  · skip
                    refine m_if_eq (tgt := 47) hx hb dX10_feed_36 (by decide) (fun c_58 => ?_) (fun c_58 => ?_)
                    · skip
                      refine lv_bipush (v := -2) hx hb dX10_feed_47 (by decide) ?_
                      exact m_iret S hr hlk hW dX10_feed_49 (by exact ⟨by simp only [aFeed, if_pos w_3, hcx, if_pos w_8, if_pos w_13, if_pos w_18, if_neg w_24]; try rfl, by simp only [nFeed, if_pos w_3, hcx, if_pos w_8, if_pos w_13, if_pos w_18, if_neg w_24]; exact hX, XF.rfl V⟩)
                    · exact absurd c_58 (by decide)
              · skip
                refine m_if_eq (tgt := 47) hx hb dX10_feed_28 (by decide) (fun c_59 => ?_) (fun c_59 => ?_)
                · skip
                  refine lv_bipush (v := -2) hx hb dX10_feed_47 (by decide) ?_
                  exact m_iret S hr hlk hW dX10_feed_49 (by exact ⟨by simp only [aFeed, if_pos w_3, hcx, if_pos w_8, if_pos w_13, if_neg w_19]; try rfl, by simp only [nFeed, if_pos w_3, hcx, if_pos w_8, if_pos w_13, if_neg w_19]; exact hX, XF.rfl V⟩)
                · exact absurd c_59 (by decide)
          · skip
            refine m_if_eq (tgt := 47) hx hb dX10_feed_20 (by decide) (fun c_60 => ?_) (fun c_60 => ?_)
            · skip
              refine lv_bipush (v := -2) hx hb dX10_feed_47 (by decide) ?_
              exact m_iret S hr hlk hW dX10_feed_49 (by exact ⟨by simp only [aFeed, if_pos w_3, hcx, if_pos w_8, if_neg w_14]; try rfl, by simp only [nFeed, if_pos w_3, hcx, if_pos w_8, if_neg w_14]; exact hX, XF.rfl V⟩)
            · exact absurd c_60 (by decide)
      · skip
        refine m_if_eq (tgt := 47) hx hb dX10_feed_13 (by decide) (fun c_61 => ?_) (fun c_61 => ?_)
        · skip
          refine lv_bipush (v := -2) hx hb dX10_feed_47 (by decide) ?_
          exact m_iret S hr hlk hW dX10_feed_49 (by exact ⟨by simp only [aFeed, if_pos w_3, hcx, if_neg w_9]; try rfl, by simp only [nFeed, if_pos w_3, hcx, if_neg w_9]; exact hX, XF.rfl V⟩)
        · exact absurd c_61 (by decide)
  · skip
    refine m_if_eq (tgt := 47) hx hb dX10_feed_6 (by decide) (fun c_62 => ?_) (fun c_62 => ?_)
    · skip
      refine lv_bipush (v := -2) hx hb dX10_feed_47 (by decide) ?_
      exact m_iret S hr hlk hW dX10_feed_49 (by exact ⟨by simp only [aFeed, if_neg w_4]; try rfl, by simp only [nFeed, if_neg w_4]; exact hX, XF.rfl V⟩)
    · exact absurd c_62 (by decide)
