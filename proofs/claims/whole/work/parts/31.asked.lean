/-! the class's own methods: lemmas -/
abbrev zM (ne ng a k : Nat) : Prop := (a = 0 ∧ k = 4) ∨ (4 ≤ a ∧ a < 4 + ne ∧ k < 5) ∨ (10 ≤ a ∧ a < 10 + 2 * ng ∧ ((a % 2 = 0 ∧ (k = 1 ∨ k = 2)) ∨ (a % 2 = 1 ∧ k < 10)))
theorem zv_mU {V : mV} {b ne ng a k : Nat} (x : Int32) (h : zM ne ng a k) : zv (mU V (b + a) k x) b ne ng = mU (zv V b ne ng) a k x := by
  funext c j
  by_cases hc : c = a ∧ j = k
  · obtain ⟨rfl, rfl⟩ := hc
    rw [mU_eq, zv, if_pos h, mU_eq]
  · rw [mU_ne _ _ hc]
    by_cases hm : (c = 0 ∧ j = 4) ∨ (4 ≤ c ∧ c < 4 + ne ∧ j < 5) ∨ (10 ≤ c ∧ c < 10 + 2 * ng ∧ ((c % 2 = 0 ∧ (j = 1 ∨ j = 2)) ∨ (c % 2 = 1 ∧ j < 10)))
    · rw [zv, zv, if_pos hm, if_pos hm, mU_ne _ _ (by omega)]
    · rw [zv, zv, if_neg hm, if_neg hm]
/-- what a call of the class leaves alone: the reference's objects, the law's -/
def XF (V V' : mV) : Prop := ∀ a, 200 ≤ a → V' a = V a
theorem XK.f {V V' : mV} (h : XK V V') : XF V V' := fun a ha => h.1 a (by omega) (by omega) (by omega) (by omega) (by omega) (by omega) (by omega)
theorem XF.rfl (V : mV) : XF V V := fun _ _ => Eq.refl _
theorem XF.trans {V V1 V2 : mV} (h : XF V V1) (h' : XF V1 V2) : XF V V2 := fun a ha => (h' a ha).trans (h a ha)
theorem XF.u {V V' : mV} (h : XF V V') {a : Nat} (k : Nat) (x : Int32) (ha : a < 200) : XF V (mU V' a k x) := fun c hc => by rw [mU_no _ _ (by omega)]; exact h c hc
/-- the scene of now has become otherwise -/
theorem XI.scene {sh : Nat → Option mSh} {V V' : mV} {q : Sg} (h : XI sh V q) {s' : sQ} (hs : ScQ V' 20 s') (hr : s'.2.2.2 < (gTxs q).length) (hk : ∀ a, a < 20 ∨ 44 ≤ a → V' a = V a) : XI sh V' (s', q.2) := by
  have hn := h.tn
  refine ⟨h.sp, ⟨by rw [hk 0 (by omega)]; exact h.tn.1, h.tn.2⟩, by rw [hk 0 (by omega)]; exact h.has, ⟨hs, hr⟩, ⟨h.im.eq (fun a h1 h2 => hk a (by omega)) (fun j _ => by rw [hk 50 (by omega)]), h.imr⟩, fun t ht => ?_, by rw [hk 1 (by omega), hk 2 (by omega)]; exact h.tp, by rw [hk 1 (by omega)]; exact h.ta, by rw [hk 9 (by omega)]; exact h.cov, fun i hi => by rw [hk (11 + i) (by omega), hk (15 + i) (by omega)]; exact h.shs i hi⟩
  obtain ⟨⟨b1, b2, b3, b4, b5⟩, b6⟩ := h.tx t ht
  exact ⟨⟨by rw [hk _ (by omega)]; exact b1, by rw [hk _ (by omega)]; exact b2, by rw [hk _ (by omega)]; exact b3, by rw [hk _ (by omega)]; exact b4, b5⟩, by rw [hk 4 (by omega)]; exact b6⟩
section XIZ
variable {sh : Nat → Option mSh} {V : mV} {q : Sg}
theorem XI.ne5 (h : XI sh V q) : gNe q ≤ 5 := h.sz.ne5
theorem XI.ng6 (h : XI sh V q) : gNg q ≤ 6 := h.sz.ng6
theorem XI.zE (h : XI sh V q) {u : Nat} (k : Nat) (hu : u < gNe q) (hk : k < 5) : gZ q (4 + u) k = V (20 + 4 + u) k := by
  rw [show gZ q = zv V 20 (gNe q) (gNg q) from h.sz.2.2.2.2]
  exact zv_e V 20 (gNg q) k hu hk
theorem XI.zG (h : XI sh V q) {g : Nat} (k : Nat) (hg : g < gNg q) (hk : k = 1 ∨ k = 2) : gZ q (10 + 2 * g) k = V (20 + 10 + 2 * g) k := by
  rw [show gZ q = zv V 20 (gNe q) (gNg q) from h.sz.2.2.2.2]
  exact zv_g V 20 (gNe q) k hg hk
theorem XI.zW (h : XI sh V q) {g : Nat} (k : Nat) (hg : g < gNg q) (hk : k < 10) : gZ q (11 + 2 * g) k = V (20 + 10 + 2 * g + 1) k := by
  rw [show gZ q = zv V 20 (gNe q) (gNg q) from h.sz.2.2.2.2]
  exact zv_w V 20 (gNe q) k hg hk
theorem XI.zD (h : XI sh V q) : gZ q 0 4 = V 20 4 := by
  rw [show gZ q = zv V 20 (gNe q) (gNg q) from h.sz.2.2.2.2]
  exact zv_d V 20 _ _
theorem XI.vMk (h : XI sh V q) {u g : Nat} (hu : u < gNe q) (hg : g < gNg q) (p : Nat) : fMark (fShape (V (20 + 4 + u) 0) (V (20 + 4 + u) 1) (V (20 + 4 + u) 2) (V (20 + 10 + 2 * g) 1)) (V (20 + 10 + 2 * g) 2) (nI p) = zMk (gZ q) u g p := by
  rw [show gZ q = zv V 20 (gNe q) (gNg q) from h.sz.2.2.2.2, zMk_v V 20 hu hg]
theorem XI.vSp (h : XI sh V q) {u g : Nat} (hu : u < gNe q) (hg : g < gNg q) : fShape (V (20 + 4 + u) 0) (V (20 + 4 + u) 1) (V (20 + 4 + u) 2) (V (20 + 10 + 2 * g) 1) = zSp (gZ q) u g := by
  rw [zSp, h.zE 0 hu (by omega), h.zE 1 hu (by omega), h.zE 2 hu (by omega), h.zG 1 hg (Or.inl rfl)]
theorem XI.vCo (h : XI sh V q) {u g : Nat} (hu : u < gNe q) (hg : g < gNg q) (x : Int32) : fCost (fAsk (V (110 + 3 * gRl q + 1)) (gT q (gRl q)).2.1 (gT q (gRl q)).2.2 (gT q (gRl q)).1.length) (V (20 + 4 + u) 0) (V (20 + 4 + u) 1) (V (20 + 10 + 2 * g) 1) (V (20 + 10 + 2 * g) 2) (V 20 4) (V (20 + 10 + 2 * g + 1)) x = zCo (gAsk q) (gZ q) u g x := by
  rw [show gZ q = zv V 20 (gNe q) (gNg q) from h.sz.2.2.2.2, zCo_v _ V 20 hu hg, h.sz.2.2.2.1]
theorem XI.vLi (h : XI sh V q) {u g : Nat} (hu : u < gNe q) (hg : g < gNg q) (x : Int32) : fLikes (fAsk (V (110 + 3 * gRl q + 1)) (gT q (gRl q)).2.1 (gT q (gRl q)).2.2 (gT q (gRl q)).1.length) (V (20 + 4 + u) 0) (V (20 + 4 + u) 1) (V (20 + 10 + 2 * g) 1) (V (20 + 10 + 2 * g) 2) (V 20 4) (V (20 + 10 + 2 * g + 1)) x 10 = zLi (gAsk q) (gZ q) u g x := by
  rw [show gZ q = zv V 20 (gNe q) (gNg q) from h.sz.2.2.2.2, zLi_v _ V 20 hu hg, h.sz.2.2.2.1]
theorem XI.vAs (h : XI sh V q) {u g : Nat} (hu : u < gNe q) (hg : g < gNg q) (pt : Nat) (x y : Int32) : fAsk (V (110 + 3 * gRl q + 1)) (gT q (gRl q)).2.1 (gT q (gRl q)).2.2 (gT q (gRl q)).1.length pt (fNm x y (V (20 + 10 + 2 * g) 1) (V (20 + 4 + u) 1) (V (20 + 10 + 2 * g) 2) (V 20 4)) = gAsk q pt (fNm x y (gZ q (10 + 2 * g) 1) (gZ q (4 + u) 1) (gZ q (10 + 2 * g) 2) (gZ q 0 4)) := by
  rw [h.zG 1 hg (Or.inl rfl), h.zG 2 hg (Or.inr rfl), h.zE 1 hu (by omega), h.zD, h.sz.2.2.2.1]
theorem XI.vPart (h : XI sh V q) {g k : Nat} (hg : g < gNg q) (hk : k < 12) : zPart (gZ q) g k = fPart V (20 + 10 + 2 * g) k := by
  rw [zPart, fPart]
  by_cases h1 : k = 10
  · rw [if_pos h1, if_pos h1, h.zG 1 hg (Or.inl rfl)]
  · by_cases h2 : k = 11
    · rw [if_neg h1, if_neg h1, if_pos h2, if_pos h2, h.zG 2 hg (Or.inr rfl)]
    · rw [if_neg h1, if_neg h1, if_neg h2, if_neg h2, h.zW k hg (by omega)]
end XIZ
/-! answers -/
def aMark (q : Sg) (x y p w : Int32) : Int32 := if mIn x 0 (gNe q) then (if mIn y 0 (gNg q) then (if mIn p 0 16 then (if mIn w 0 3 then (if w = nI 0 then zMk (gZ q) x.toNatClampNeg y.toNatClampNeg p.toNatClampNeg else if w = nI 1 then zCo (gAsk q) (gZ q) x.toNatClampNeg y.toNatClampNeg (zMk (gZ q) x.toNatClampNeg y.toNatClampNeg p.toNatClampNeg) else zLi (gAsk q) (gZ q) x.toNatClampNeg y.toNatClampNeg (zMk (gZ q) x.toNatClampNeg y.toNatClampNeg p.toNatClampNeg)) else -7) else -7) else -5) else -5
def aBest (q : Sg) (x w : Int32) : Int32 := if mIn x 0 (gNe q) then (if mIn w 0 2 then (if w = nI 0 then (zBest (gAsk q) (gZ q) x.toNatClampNeg (gNg q * 16)).1 else (zBest (gAsk q) (gZ q) x.toNatClampNeg (gNg q * 16)).2) else -7) else -5
def aAsks (q : Sg) (pt x y cw : Int32) : Int32 := if mIn pt 0 3 then (if mIn x 0 (gNe q) then (if mIn y 0 (gNg q) then (if mIn cw 0 1100 then gAsk q pt.toNatClampNeg (fNm (nI (cw.toNatClampNeg / 100)) (nI (cw.toNatClampNeg % 100)) (gZ q (10 + 2 * y.toNatClampNeg) 1) (gZ q (4 + x.toNatClampNeg) 1) (gZ q (10 + 2 * y.toNatClampNeg) 2) (gZ q 0 4)) else -2) else -2) else -2) else -2
set_option maxHeartbeats 4000000 in
set_option maxRecDepth 100000 in
theorem c_X6_size_x (l : Launch) (G : mG) (ad : Nat → Nat) (sh : Nat → Option mSh) (V : mV) (n : Nat) (h1 : sh 1 = some sTape) (hsz : V 1 1 = nI n) : mM l yX6_size wsX6_size ({ frames := 0, cells := 0, slots := 0, locals := 0 } : Room) G ad sh V [.ref (ad 1)] 0 0 (mPe ad sh V (nI n)) := by
  refine mM.of (cc := cX6_size) (maxL := 1) (ret := (some .int)) (by decide) rfl (Nat.le_of_ble_eq_true rfl) ?_
  intro p e s m below meth c S hr hlk hnm hW ls hl
  obtain ⟨hx, hb, hml, hown, hts⟩ := id S
  have hl : lv_has ls 1 [(0, .ref (ad 1))] := hl
  have hS0 : True := trivial
  refine lv_aload_n hx hb dX6_size_0 rfl (lv_at hl 0 rfl) ?_
  refine m_geti S hW h1 1 rfl kX6 (iW6 _) (by decide) (List.mem_cons_of_mem _ (wa_5 _ (List.mem_of_getElem? (i := 21) (by decide +kernel)))) dX6_size_1 ?_
  refine m_top (y := nI n) hsz ?_
  exact m_iret S hr hlk hW dX6_size_4 ⟨rfl, (by rfl)⟩
set_option maxHeartbeats 4000000 in
set_option maxRecDepth 100000 in
theorem c_X10_count (l : Launch) (G : mG) (ad : Nat → Nat) (sh : Nat → Option mSh) (V : mV) (q : Sg) (x : Int32) (hX : XI sh V q) : mM l yX10_count wsX10_count ({ frames := 1, cells := 0, slots := 0, locals := 20 } : Room) G ad sh V [.ref (ad 0), .int x] 0 0 (mPe ad sh V (aCount q x)) := by
  refine mM.of (cc := cX10_count) (maxL := 2) (ret := (some .int)) (by decide) rfl (Nat.le_of_ble_eq_true rfl) ?_
  intro p e s m below meth c S hr hlk hnm hW ls hl
  obtain ⟨hx, hb, hml, hown, hts⟩ := id S
  have hl : lv_has ls 2 [(0, .ref (ad 0)), (1, .int x)] := hl
  have hS0 : True := trivial
  have hne5 := hX.ne5
  have hng6 := hX.ng6
  have htn := hX.tn
  refine lv_iload_n hx hb dX10_count_0 rfl (lv_at hl 1 rfl) ?_
  by_cases c_1 : x = nI 0
  · skip
    refine lv_tableIn (off := 39) (tgt := 40) hx hb dX10_count_1 (by rw [c_1]; decide) (by rw [c_1]; decide) (by rw [c_1]; decide +kernel) (by decide) ?_
    refine lv_aload_n hx hb dX10_count_40 rfl (lv_at hl 0 rfl) ?_
    refine m_getr S hW hX.sp.1 3 rfl (j := 20) rfl kX10 (iW10 _) (by decide) (List.mem_cons_of_mem _ (wa_2 _ (List.mem_of_getElem? (i := 8) (by decide +kernel)))) dX10_count_41 ?_
    refine m_geti S hW hX.sz.1.1 2 rfl kX4 (iW4 _) (by decide) (List.mem_cons_of_mem _ (wa_14 _ (List.mem_of_getElem? (i := 11) (by decide +kernel)))) dX10_count_44 ?_
    refine m_top (y := nI (gNe q)) hX.now.1 ?_
    exact m_iret S hr hlk hW dX10_count_47 ⟨rfl, (by simp only [aCount, if_pos c_1])⟩
  by_cases c_2 : x = nI 1
  · skip
    refine lv_tableIn (off := 47) (tgt := 48) hx hb dX10_count_1 (by rw [c_2]; decide) (by rw [c_2]; decide) (by rw [c_2]; decide +kernel) (by decide) ?_
    refine lv_aload_n hx hb dX10_count_48 rfl (lv_at hl 0 rfl) ?_
    refine m_getr S hW hX.sp.1 3 rfl (j := 20) rfl kX10 (iW10 _) (by decide) (List.mem_cons_of_mem _ (wa_2 _ (List.mem_of_getElem? (i := 8) (by decide +kernel)))) dX10_count_49 ?_
    refine m_geti S hW hX.sz.1.1 3 rfl kX4 (iW4 _) (by decide) (List.mem_cons_of_mem _ (wa_14 _ (List.mem_of_getElem? (i := 12) (by decide +kernel)))) dX10_count_52 ?_
    refine m_top (y := nI (gNg q)) hX.now.2.1 ?_
    exact m_iret S hr hlk hW dX10_count_55 ⟨rfl, (by simp only [aCount, if_neg c_1, if_pos c_2])⟩
  by_cases c_3 : x = nI 2
  · skip
    refine lv_tableIn (off := 55) (tgt := 56) hx hb dX10_count_1 (by rw [c_3]; decide) (by rw [c_3]; decide) (by rw [c_3]; decide +kernel) (by decide) ?_
    refine lv_aload_n hx hb dX10_count_56 rfl (lv_at hl 0 rfl) ?_
    refine m_getr S hW hX.sp.1 3 rfl (j := 20) rfl kX10 (iW10 _) (by decide) (List.mem_cons_of_mem _ (wa_2 _ (List.mem_of_getElem? (i := 8) (by decide +kernel)))) dX10_count_57 ?_
    refine m_geti S hW hX.sz.1.1 4 rfl kX4 (iW4 _) (by decide) (List.mem_cons_of_mem _ (wa_14 _ (List.mem_of_getElem? (i := 13) (by decide +kernel)))) dX10_count_60 ?_
    exact m_iret S hr hlk hW dX10_count_63 ⟨rfl, (by simp only [aCount, if_neg c_1, if_neg c_2, if_pos c_3]; exact hX.zD)⟩
  by_cases c_4 : x = nI 3
  · skip
    refine lv_tableIn (off := 63) (tgt := 64) hx hb dX10_count_1 (by rw [c_4]; decide) (by rw [c_4]; decide) (by rw [c_4]; decide +kernel) (by decide) ?_
    refine lv_aload_n hx hb dX10_count_64 rfl (lv_at hl 0 rfl) ?_
    refine m_geti S hW hX.sp.1 2 rfl kX10 (iW10 _) (by decide) (List.mem_cons_of_mem _ (wa_2 _ (List.mem_of_getElem? (i := 4) (by decide +kernel)))) dX10_count_65 ?_
    refine m_top (y := nI ((gTxs q).length)) hX.tn.1 ?_
    exact m_iret S hr hlk hW dX10_count_68 ⟨rfl, (by simp only [aCount, if_neg c_1, if_neg c_2, if_neg c_3, if_pos c_4])⟩
  by_cases c_5 : x = nI 4
  · skip
    refine lv_tableIn (off := 68) (tgt := 69) hx hb dX10_count_1 (by rw [c_5]; decide) (by rw [c_5]; decide) (by rw [c_5]; decide +kernel) (by decide) ?_
    refine lv_aload_n hx hb dX10_count_69 rfl (lv_at hl 0 rfl) ?_
    refine m_getr S hW hX.sp.1 3 rfl (j := 20) rfl kX10 (iW10 _) (by decide) (List.mem_cons_of_mem _ (wa_2 _ (List.mem_of_getElem? (i := 8) (by decide +kernel)))) dX10_count_70 ?_
    refine m_getr S hW hX.sz.1.1 5 rfl (j := (110 + 3 * gRl q)) (congrArg some hX.sz.2.1.2.2.2.2.1) kX4 (iW4 _) (by decide) (List.mem_cons_of_mem _ (wa_14 _ (List.mem_of_getElem? (i := 14) (by decide +kernel)))) dX10_count_73 ?_
    refine m_geti S hW hX.sz.2.2.1.1 0 rfl kX7 (iW7 _) (by decide) (List.mem_cons_of_mem _ (wa_14 _ (List.mem_of_getElem? (i := 15) (by decide +kernel)))) dX10_count_76 ?_
    refine m_top (y := nI (gRl q)) (hX.tx _ hX.rl).1.1 ?_
    exact m_iret S hr hlk hW dX10_count_79 ⟨rfl, (by simp only [aCount, if_neg c_1, if_neg c_2, if_neg c_3, if_neg c_4, if_pos c_5])⟩
  by_cases c_6 : x = nI 5
  · skip
    refine lv_tableIn (off := 79) (tgt := 80) hx hb dX10_count_1 (by rw [c_6]; decide) (by rw [c_6]; decide) (by rw [c_6]; decide +kernel) (by decide) ?_
    refine lv_aload_n hx hb dX10_count_80 rfl (lv_at hl 0 rfl) ?_
    refine m_getr S hW hX.sp.1 0 rfl (j := 1) rfl kX10 (iW10 _) (by decide) (List.mem_cons_of_mem _ (wa_1 _ (List.mem_of_getElem? (i := 15) (by decide +kernel)))) dX10_count_81 ?_
    refine m_cie (m_rV S hW (c_X6_size_x l G ad sh V ((gTp q).length) hX.sp.2.1.1 hX.tp.1) (cwV 0 hts (gCall [.methodLink RX10 99 yX6_size, .instanceMethod yX6_size, .selects RX6 yX6_size yX6_size, .initialized RX6] (List.forall_mem_cons.mpr ⟨(wa_14 _ (List.mem_of_getElem? (i := 19) (by decide +kernel))), (List.forall_mem_cons.mpr ⟨(wa_14 _ (List.mem_of_getElem? (i := 16) (by decide +kernel))), (List.forall_mem_cons.mpr ⟨(wa_14 _ (List.mem_of_getElem? (i := 17) (by decide +kernel))), (List.forall_mem_cons.mpr ⟨(wa_14 _ (List.mem_of_getElem? (i := 18) (by decide +kernel))), (List.forall_mem_cons.mpr ⟨(wa_1 _ (List.mem_of_getElem? (i := 14) (by decide +kernel))), (fun _ h => absurd h List.not_mem_nil)⟩)⟩)⟩)⟩)⟩)) rfl rfl rfl (by decide +kernel) ⟨Nat.le_of_ble_eq_true rfl, Nat.le_of_ble_eq_true rfl⟩) hX.sp.2.1.1 kX6 rfl hl.1 rfl (Nat.le_of_ble_eq_true rfl) dX10_count_84 ⟨Nat.le_of_ble_eq_true rfl, Nat.le_of_ble_eq_true rfl⟩) hW (fun H locs hW => ?_)
    exact m_iret S hr hlk hW dX10_count_87 ⟨rfl, (by simp only [aCount, if_neg c_1, if_neg c_2, if_neg c_3, if_neg c_4, if_neg c_5, if_pos c_6])⟩
  refine lv_tableOut (tgt := 88) hx hb dX10_count_1 (by have a0 := lv_neT c_1 (show (nI 0 : Int32).toInt = 0 by decide); have a1 := lv_neT c_2 (show (nI 1 : Int32).toInt = 1 by decide); have a2 := lv_neT c_3 (show (nI 2 : Int32).toInt = 2 by decide); have a3 := lv_neT c_4 (show (nI 3 : Int32).toInt = 3 by decide); have a4 := lv_neT c_5 (show (nI 4 : Int32).toInt = 4 by decide); have a5 := lv_neT c_6 (show (nI 5 : Int32).toInt = 5 by decide); omega) (by decide) ?_
  refine lv_bipush (v := -2) hx hb dX10_count_88 (by decide) ?_
  exact m_iret S hr hlk hW dX10_count_90 ⟨rfl, (by simp only [aCount, if_neg c_1, if_neg c_2, if_neg c_3, if_neg c_4, if_neg c_5, if_neg c_6])⟩
set_option maxHeartbeats 4000000 in
set_option maxRecDepth 100000 in
theorem c_X10_part (l : Launch) (G : mG) (ad : Nat → Nat) (sh : Nat → Option mSh) (V : mV) (q : Sg) (x y : Int32) (hX : XI sh V q) : mM l yX10_part wsX10_part ({ frames := 2, cells := 0, slots := 0, locals := 43 } : Room) G ad sh V [.ref (ad 0), .int x, .int y] 0 0 (mPe ad sh V (aPart q x y)) := by
  refine mM.of (cc := cX10_part) (maxL := 4) (ret := (some .int)) (by decide) rfl (Nat.le_of_ble_eq_true rfl) ?_
  intro p e s m below meth c S hr hlk hnm hW ls hl
  obtain ⟨hx, hb, hml, hown, hts⟩ := id S
  have hl : lv_has ls 4 [(0, .ref (ad 0)), (1, .int x), (2, .int y)] := hl
  have hS0 : True := trivial
  have hne5 := hX.ne5
  have hng6 := hX.ng6
  have htn := hX.tn
  refine lv_aload_n hx hb dX10_part_0 rfl (lv_at hl 0 rfl) ?_
  refine m_getr S hW hX.sp.1 3 rfl (j := 20) rfl kX10 (iW10 _) (by decide) (List.mem_cons_of_mem _ (wa_2 _ (List.mem_of_getElem? (i := 8) (by decide +kernel)))) dX10_part_1 ?_
  refine lv_iload_n hx hb dX10_part_4 rfl (lv_at hl 1 rfl) ?_
  refine m_crp (m_rV S hW (c_X4_goodAt l G ad sh V 20 (110 + 3 * gRl q) ((gT q (gRl q)).2.1) ((gT q (gRl q)).2.2) ((gT q (gRl q)).1.length) (gNe q) (gNg q) x hX.sz.1 hX.sz.2.1) (cwV 1 hts (gCall [.methodLink RX10 124 yX4_goodAt, .instanceMethod yX4_goodAt, .selects RX4 yX4_goodAt yX4_goodAt, .initialized RX4] (List.forall_mem_cons.mpr ⟨(wa_17 _ (List.mem_of_getElem? (i := 13) (by decide +kernel))), (List.forall_mem_cons.mpr ⟨(wa_17 _ (List.mem_of_getElem? (i := 10) (by decide +kernel))), (List.forall_mem_cons.mpr ⟨(wa_17 _ (List.mem_of_getElem? (i := 11) (by decide +kernel))), (List.forall_mem_cons.mpr ⟨(wa_17 _ (List.mem_of_getElem? (i := 12) (by decide +kernel))), (List.forall_mem_cons.mpr ⟨(wa_2 _ (List.mem_of_getElem? (i := 7) (by decide +kernel))), (fun _ h => absurd h List.not_mem_nil)⟩)⟩)⟩)⟩)⟩)) rfl rfl rfl (by decide +kernel) ⟨Nat.le_of_ble_eq_true rfl, Nat.le_of_ble_eq_true rfl⟩) hX.sz.1.1 kX4 rfl hl.1 rfl (Nat.le_of_ble_eq_true rfl) dX10_part_5 ⟨Nat.le_of_ble_eq_true rfl, Nat.le_of_ble_eq_true rfl⟩) hW (fun r_2 H locs hp_1 hW => ?_)
  rcases hp_1 with ⟨n_3, rfl, hxn_4, hn_5⟩ | ⟨rfl, hx0_6⟩
  · skip
    refine W.eq (g2 := F0 m 8 ls [.ref (ad (20 + 10 + 2 * n_3))]) rfl ?_
    have hpx : mIn x 0 (gNg q) := by rw [hxn_4]; exact (mIn_nI (by have := hX.ne5; have := hX.ng6; omega)).mpr ⟨Nat.zero_le _, hn_5⟩
    have hcx : x.toNatClampNeg = n_3 := by rw [hxn_4]; exact nI_clamp (by have := hX.ne5; have := hX.ng6; omega)
    refine lv_astore_n (lv' := [(3, .ref (ad (20 + 10 + 2 * n_3))), (0, .ref (ad 0)), (1, .int x), (2, .int y)]) hx hb dX10_part_8 rfl hl (by decide) rfl (fun ls hl => ?_)
    refine lv_aload_n hx hb dX10_part_9 rfl (lv_at hl 0 rfl) ?_
    refine lv_ifnonnull (tgt := 16) hx hb dX10_part_10 (by decide) ?_
    refine lv_iload_n hx hb dX10_part_16 rfl (lv_at hl 3 rfl) ?_
    refine lv_iconst (v := nI 0) hx hb dX10_part_17 (by decide) ?_
    refine lv_bipush (v := nI 11) hx hb dX10_part_18 (by decide) ?_
    refine m_cip (m_rS S hW (c_X10_within l G ad sh V y 0 11 (by first | assumption | omega) (by first | assumption | omega)) (va_cwS 3 hts (gCall [.methodLink RX10 102 yX10_within, .static yX10_within, .initialized RX10] (List.forall_mem_cons.mpr ⟨(wa_8 _ (List.mem_of_getElem? (i := 17) (by decide +kernel))), (List.forall_mem_cons.mpr ⟨(wa_15 _ (List.mem_of_getElem? (i := 8) (by decide +kernel))), (List.forall_mem_cons.mpr ⟨(wa_8 _ (List.mem_of_getElem? (i := 16) (by decide +kernel))), (List.forall_mem_cons.mpr ⟨(wa_1 _ (List.mem_of_getElem? (i := 2) (by decide +kernel))), (fun _ h => absurd h List.not_mem_nil)⟩)⟩)⟩)⟩)) rfl rfl rfl (by decide +kernel) ⟨Nat.le_of_ble_eq_true rfl, Nat.le_of_ble_eq_true rfl⟩) rfl hl.1 rfl (Nat.le_of_ble_eq_true rfl) dX10_part_20 ⟨Nat.le_of_ble_eq_true rfl, Nat.le_of_ble_eq_true rfl⟩) hW (fun r_8 H locs hp_7 hW => ?_)
    rcases hp_7 with ⟨rfl, w_9⟩ | ⟨rfl, w_10⟩
    · skip
      obtain ⟨ny, hny, -, hlny⟩ := w_9.ex
      have hcy : y.toNatClampNeg = ny := by rw [hny]; exact nI_clamp (by omega)
      refine m_if_eq (tgt := 34) hx hb dX10_part_23 (by decide) (fun c_11 => ?_) (fun c_11 => ?_)
      · exact absurd c_11 (by decide)
      · skip
        refine lv_aload_n hx hb dX10_part_26 rfl (lv_at hl 0 rfl) ?_
        refine lv_iload_n hx hb dX10_part_27 rfl (lv_at hl 3 rfl) ?_
        refine m_top (y := nI ny) hny ?_
        refine m_cie (m_rV S hW (c_X3_readPart l G ad sh V (20 + 10 + 2 * n_3) ny (hX.sz.1.2.2.2.2.2.1 n_3 (Nat.lt_of_lt_of_le hn_5 hX.sz.2.1.2.2.2.1)) (hX.sz.1.2.2.2.2.2.2 n_3 (Nat.lt_of_lt_of_le hn_5 hX.sz.2.1.2.2.2.1)) (by first | assumption | omega)) (cwV 1 hts (gCall [.methodLink RX10 142 yX3_readPart, .instanceMethod yX3_readPart, .selects RX3 yX3_readPart yX3_readPart, .initialized RX3] (List.forall_mem_cons.mpr ⟨(wa_21 _ (List.mem_of_getElem? (i := 13) (by decide +kernel))), (List.forall_mem_cons.mpr ⟨(wa_21 _ (List.mem_of_getElem? (i := 10) (by decide +kernel))), (List.forall_mem_cons.mpr ⟨(wa_21 _ (List.mem_of_getElem? (i := 11) (by decide +kernel))), (List.forall_mem_cons.mpr ⟨(wa_21 _ (List.mem_of_getElem? (i := 12) (by decide +kernel))), (List.forall_mem_cons.mpr ⟨(wa_10 _ (List.mem_of_getElem? (i := 5) (by decide +kernel))), (fun _ h => absurd h List.not_mem_nil)⟩)⟩)⟩)⟩)⟩)) rfl rfl rfl (by decide +kernel) ⟨Nat.le_of_ble_eq_true rfl, Nat.le_of_ble_eq_true rfl⟩) (hX.sz.1.2.2.2.2.2.1 n_3 (Nat.lt_of_lt_of_le hn_5 hX.sz.2.1.2.2.2.1)) kX3 rfl hl.1 rfl (Nat.le_of_ble_eq_true rfl) dX10_part_28 ⟨Nat.le_of_ble_eq_true rfl, Nat.le_of_ble_eq_true rfl⟩) hW (fun H locs hW => ?_)
        refine lv_goto (tgt := 36) hx hb dX10_part_31 (by decide) ?_
        exact m_iret S hr hlk hW dX10_part_36 ⟨rfl, (by simp only [aPart, if_pos hpx, hcx, if_pos w_9, hcy]; exact hX.vPart hn_5 hlny)⟩
    · skip
      refine m_if_eq (tgt := 34) hx hb dX10_part_23 (by decide) (fun c_12 => ?_) (fun c_12 => ?_)
      · skip
        refine lv_bipush (v := -7) hx hb dX10_part_34 (by decide) ?_
        exact m_iret S hr hlk hW dX10_part_36 ⟨rfl, (by simp only [aPart, if_pos hpx, hcx, if_neg w_10])⟩
      · exact absurd c_12 (by decide)
  · skip
    refine W.eq (g2 := F0 m 8 ls [.null]) rfl ?_
    refine lv_astore_nN (lv' := [(3, .null), (0, .ref (ad 0)), (1, .int x), (2, .int y)]) hx hb dX10_part_8 rfl hl (by decide) rfl (fun ls hl => ?_)
    refine lv_aload_nN hx hb dX10_part_9 rfl (lv_at hl 0 rfl) ?_
    refine lv_ifnonnullN hx hb dX10_part_10 ?_
    refine lv_bipush (v := -5) hx hb dX10_part_13 (by decide) ?_
    exact m_iret S hr hlk hW dX10_part_15 ⟨rfl, (by simp only [aPart, if_neg hx0_6])⟩
set_option maxHeartbeats 4000000 in
set_option maxRecDepth 100000 in
theorem c_X10_told (l : Launch) (G : mG) (ad : Nat → Nat) (sh : Nat → Option mSh) (V : mV) (q : Sg) (x y : Int32) (hX : XI sh V q) : mM l yX10_told wsX10_told ({ frames := 2, cells := 0, slots := 0, locals := 43 } : Room) G ad sh V [.ref (ad 0), .int x, .int y] 0 0 (mPe ad sh V (aTold q x y)) := by
  refine mM.of (cc := cX10_told) (maxL := 4) (ret := (some .int)) (by decide) rfl (Nat.le_of_ble_eq_true rfl) ?_
  intro p e s m below meth c S hr hlk hnm hW ls hl
  obtain ⟨hx, hb, hml, hown, hts⟩ := id S
  have hl : lv_has ls 4 [(0, .ref (ad 0)), (1, .int x), (2, .int y)] := hl
  have hS0 : True := trivial
  have hne5 := hX.ne5
  have hng6 := hX.ng6
  have htn := hX.tn
  refine lv_aload_n hx hb dX10_told_0 rfl (lv_at hl 0 rfl) ?_
  refine m_getr S hW hX.sp.1 3 rfl (j := 20) rfl kX10 (iW10 _) (by decide) (List.mem_cons_of_mem _ (wa_2 _ (List.mem_of_getElem? (i := 8) (by decide +kernel)))) dX10_told_1 ?_
  refine lv_iload_n hx hb dX10_told_4 rfl (lv_at hl 1 rfl) ?_
  refine m_crp (m_rV S hW (c_X4_eaterAt l G ad sh V 20 (110 + 3 * gRl q) ((gT q (gRl q)).2.1) ((gT q (gRl q)).2.2) ((gT q (gRl q)).1.length) (gNe q) (gNg q) x hX.sz.1 hX.sz.2.1) (cwV 1 hts (gCall [.methodLink RX10 120 yX4_eaterAt, .instanceMethod yX4_eaterAt, .selects RX4 yX4_eaterAt yX4_eaterAt, .initialized RX4] (List.forall_mem_cons.mpr ⟨(wa_17 _ (List.mem_of_getElem? (i := 8) (by decide +kernel))), (List.forall_mem_cons.mpr ⟨(wa_17 _ (List.mem_of_getElem? (i := 5) (by decide +kernel))), (List.forall_mem_cons.mpr ⟨(wa_17 _ (List.mem_of_getElem? (i := 6) (by decide +kernel))), (List.forall_mem_cons.mpr ⟨(wa_17 _ (List.mem_of_getElem? (i := 7) (by decide +kernel))), (List.forall_mem_cons.mpr ⟨(wa_2 _ (List.mem_of_getElem? (i := 7) (by decide +kernel))), (fun _ h => absurd h List.not_mem_nil)⟩)⟩)⟩)⟩)⟩)) rfl rfl rfl (by decide +kernel) ⟨Nat.le_of_ble_eq_true rfl, Nat.le_of_ble_eq_true rfl⟩) hX.sz.1.1 kX4 rfl hl.1 rfl (Nat.le_of_ble_eq_true rfl) dX10_told_5 ⟨Nat.le_of_ble_eq_true rfl, Nat.le_of_ble_eq_true rfl⟩) hW (fun r_2 H locs hp_1 hW => ?_)
  rcases hp_1 with ⟨n_3, rfl, hxn_4, hn_5⟩ | ⟨rfl, hx0_6⟩
  · skip
    refine W.eq (g2 := F0 m 8 ls [.ref (ad (20 + 4 + n_3))]) rfl ?_
    have hpx : mIn x 0 (gNe q) := by rw [hxn_4]; exact (mIn_nI (by have := hX.ne5; have := hX.ng6; omega)).mpr ⟨Nat.zero_le _, hn_5⟩
    have hcx : x.toNatClampNeg = n_3 := by rw [hxn_4]; exact nI_clamp (by have := hX.ne5; have := hX.ng6; omega)
    refine lv_astore_n (lv' := [(3, .ref (ad (20 + 4 + n_3))), (0, .ref (ad 0)), (1, .int x), (2, .int y)]) hx hb dX10_told_8 rfl hl (by decide) rfl (fun ls hl => ?_)
    refine lv_aload_n hx hb dX10_told_9 rfl (lv_at hl 0 rfl) ?_
    refine lv_ifnonnull (tgt := 16) hx hb dX10_told_10 (by decide) ?_
    refine lv_iload_n hx hb dX10_told_16 rfl (lv_at hl 3 rfl) ?_
    by_cases c_7 : y = nI 0
    · skip
      refine lv_tableIn (off := 35) (tgt := 52) hx hb dX10_told_17 (by rw [c_7]; decide) (by rw [c_7]; decide) (by rw [c_7]; decide +kernel) (by decide) ?_
      have hp : mIn y 0 5 := by rw [c_7]; decide
      have hcy : y.toNatClampNeg = 0 := by rw [c_7]; decide
      refine lv_aload_n hx hb dX10_told_52 rfl (lv_at hl 0 rfl) ?_
      refine m_geti S hW (hX.sz.1.2.2.2.2.1 n_3 (Nat.lt_of_lt_of_le hn_5 hX.sz.2.1.2.2.1)) 0 rfl kX1 (iW1 _) (by decide) (List.mem_cons_of_mem _ (wa_23 _ (List.mem_of_getElem? (i := 11) (by decide +kernel)))) dX10_told_53 ?_
      exact m_iret S hr hlk hW dX10_told_56 ⟨rfl, (by simp only [aTold, if_pos hpx, hcx, if_pos hp, hcy]; exact hX.zE _ hn_5 (by decide))⟩
    by_cases c_8 : y = nI 1
    · skip
      refine lv_tableIn (off := 40) (tgt := 57) hx hb dX10_told_17 (by rw [c_8]; decide) (by rw [c_8]; decide) (by rw [c_8]; decide +kernel) (by decide) ?_
      have hp : mIn y 0 5 := by rw [c_8]; decide
      have hcy : y.toNatClampNeg = 1 := by rw [c_8]; decide
      refine lv_aload_n hx hb dX10_told_57 rfl (lv_at hl 0 rfl) ?_
      refine m_geti S hW (hX.sz.1.2.2.2.2.1 n_3 (Nat.lt_of_lt_of_le hn_5 hX.sz.2.1.2.2.1)) 1 rfl kX1 (iW1 _) (by decide) (List.mem_cons_of_mem _ (wa_23 _ (List.mem_of_getElem? (i := 12) (by decide +kernel)))) dX10_told_58 ?_
      exact m_iret S hr hlk hW dX10_told_61 ⟨rfl, (by simp only [aTold, if_pos hpx, hcx, if_pos hp, hcy]; exact hX.zE _ hn_5 (by decide))⟩
    by_cases c_9 : y = nI 2
    · skip
      refine lv_tableIn (off := 45) (tgt := 62) hx hb dX10_told_17 (by rw [c_9]; decide) (by rw [c_9]; decide) (by rw [c_9]; decide +kernel) (by decide) ?_
      have hp : mIn y 0 5 := by rw [c_9]; decide
      have hcy : y.toNatClampNeg = 2 := by rw [c_9]; decide
      refine lv_aload_n hx hb dX10_told_62 rfl (lv_at hl 0 rfl) ?_
      refine m_geti S hW (hX.sz.1.2.2.2.2.1 n_3 (Nat.lt_of_lt_of_le hn_5 hX.sz.2.1.2.2.1)) 2 rfl kX1 (iW1 _) (by decide) (List.mem_cons_of_mem _ (wa_23 _ (List.mem_of_getElem? (i := 13) (by decide +kernel)))) dX10_told_63 ?_
      exact m_iret S hr hlk hW dX10_told_66 ⟨rfl, (by simp only [aTold, if_pos hpx, hcx, if_pos hp, hcy]; exact hX.zE _ hn_5 (by decide))⟩
    by_cases c_10 : y = nI 3
    · skip
      refine lv_tableIn (off := 50) (tgt := 67) hx hb dX10_told_17 (by rw [c_10]; decide) (by rw [c_10]; decide) (by rw [c_10]; decide +kernel) (by decide) ?_
      have hp : mIn y 0 5 := by rw [c_10]; decide
      have hcy : y.toNatClampNeg = 3 := by rw [c_10]; decide
      refine lv_aload_n hx hb dX10_told_67 rfl (lv_at hl 0 rfl) ?_
      refine m_geti S hW (hX.sz.1.2.2.2.2.1 n_3 (Nat.lt_of_lt_of_le hn_5 hX.sz.2.1.2.2.1)) 3 rfl kX1 (iW1 _) (by decide) (List.mem_cons_of_mem _ (wa_23 _ (List.mem_of_getElem? (i := 14) (by decide +kernel)))) dX10_told_68 ?_
      exact m_iret S hr hlk hW dX10_told_71 ⟨rfl, (by simp only [aTold, if_pos hpx, hcx, if_pos hp, hcy]; exact hX.zE _ hn_5 (by decide))⟩
    by_cases c_11 : y = nI 4
    · skip
      refine lv_tableIn (off := 55) (tgt := 72) hx hb dX10_told_17 (by rw [c_11]; decide) (by rw [c_11]; decide) (by rw [c_11]; decide +kernel) (by decide) ?_
      have hp : mIn y 0 5 := by rw [c_11]; decide
      have hcy : y.toNatClampNeg = 4 := by rw [c_11]; decide
      refine lv_aload_n hx hb dX10_told_72 rfl (lv_at hl 0 rfl) ?_
      refine m_geti S hW (hX.sz.1.2.2.2.2.1 n_3 (Nat.lt_of_lt_of_le hn_5 hX.sz.2.1.2.2.1)) 4 rfl kX1 (iW1 _) (by decide) (List.mem_cons_of_mem _ (wa_23 _ (List.mem_of_getElem? (i := 15) (by decide +kernel)))) dX10_told_73 ?_
      exact m_iret S hr hlk hW dX10_told_76 ⟨rfl, (by simp only [aTold, if_pos hpx, hcx, if_pos hp, hcy]; exact hX.zE _ hn_5 (by decide))⟩
    refine lv_tableOut (tgt := 77) hx hb dX10_told_17 (by have a0 := lv_neT c_7 (show (nI 0 : Int32).toInt = 0 by decide); have a1 := lv_neT c_8 (show (nI 1 : Int32).toInt = 1 by decide); have a2 := lv_neT c_9 (show (nI 2 : Int32).toInt = 2 by decide); have a3 := lv_neT c_10 (show (nI 3 : Int32).toInt = 3 by decide); have a4 := lv_neT c_11 (show (nI 4 : Int32).toInt = 4 by decide); omega) (by decide) ?_
    have hno : ¬ mIn y 0 5 := fun z => by obtain ⟨n, e1, -, e2⟩ := z.ex; rw [e1] at c_7 c_8 c_9 c_10 c_11; rcases (show n = 0 ∨ n = 1 ∨ n = 2 ∨ n = 3 ∨ n = 4 by omega) with e3 | e3 | e3 | e3 | e3 <;> subst e3 <;> contradiction
    refine lv_bipush (v := -7) hx hb dX10_told_77 (by decide) ?_
    exact m_iret S hr hlk hW dX10_told_79 ⟨rfl, (by simp only [aTold, if_pos hpx, hcx, if_neg hno])⟩
  · skip
    refine W.eq (g2 := F0 m 8 ls [.null]) rfl ?_
    refine lv_astore_nN (lv' := [(3, .null), (0, .ref (ad 0)), (1, .int x), (2, .int y)]) hx hb dX10_told_8 rfl hl (by decide) rfl (fun ls hl => ?_)
    refine lv_aload_nN hx hb dX10_told_9 rfl (lv_at hl 0 rfl) ?_
    refine lv_ifnonnullN hx hb dX10_told_10 ?_
    refine lv_bipush (v := -5) hx hb dX10_told_13 (by decide) ?_
    exact m_iret S hr hlk hW dX10_told_15 ⟨rfl, (by simp only [aTold, if_neg hx0_6])⟩
set_option maxHeartbeats 4000000 in
set_option maxRecDepth 100000 in
theorem c_X10_shape (l : Launch) (G : mG) (ad : Nat → Nat) (sh : Nat → Option mSh) (V : mV) (q : Sg) (x y : Int32) (hX : XI sh V q) : mM l yX10_shape wsX10_shape ({ frames := 2, cells := 0, slots := 0, locals := 43 } : Room) G ad sh V [.ref (ad 0), .int x, .int y] 0 0 (mPe ad sh V (aShape q x y)) := by
  refine mM.of (cc := cX10_shape) (maxL := 5) (ret := (some .int)) (by decide) rfl (Nat.le_of_ble_eq_true rfl) ?_
  intro p e s m below meth c S hr hlk hnm hW ls hl
  obtain ⟨hx, hb, hml, hown, hts⟩ := id S
  have hl : lv_has ls 5 [(0, .ref (ad 0)), (1, .int x), (2, .int y)] := hl
  have hS0 : True := trivial
  have hne5 := hX.ne5
  have hng6 := hX.ng6
  have htn := hX.tn
  refine lv_aload_n hx hb dX10_shape_0 rfl (lv_at hl 0 rfl) ?_
  refine m_getr S hW hX.sp.1 3 rfl (j := 20) rfl kX10 (iW10 _) (by decide) (List.mem_cons_of_mem _ (wa_2 _ (List.mem_of_getElem? (i := 8) (by decide +kernel)))) dX10_shape_1 ?_
  refine lv_iload_n hx hb dX10_shape_4 rfl (lv_at hl 1 rfl) ?_
  refine m_crp (m_rV S hW (c_X4_eaterAt l G ad sh V 20 (110 + 3 * gRl q) ((gT q (gRl q)).2.1) ((gT q (gRl q)).2.2) ((gT q (gRl q)).1.length) (gNe q) (gNg q) x hX.sz.1 hX.sz.2.1) (cwV 1 hts (gCall [.methodLink RX10 120 yX4_eaterAt, .instanceMethod yX4_eaterAt, .selects RX4 yX4_eaterAt yX4_eaterAt, .initialized RX4] (List.forall_mem_cons.mpr ⟨(wa_17 _ (List.mem_of_getElem? (i := 8) (by decide +kernel))), (List.forall_mem_cons.mpr ⟨(wa_17 _ (List.mem_of_getElem? (i := 5) (by decide +kernel))), (List.forall_mem_cons.mpr ⟨(wa_17 _ (List.mem_of_getElem? (i := 6) (by decide +kernel))), (List.forall_mem_cons.mpr ⟨(wa_17 _ (List.mem_of_getElem? (i := 7) (by decide +kernel))), (List.forall_mem_cons.mpr ⟨(wa_2 _ (List.mem_of_getElem? (i := 7) (by decide +kernel))), (fun _ h => absurd h List.not_mem_nil)⟩)⟩)⟩)⟩)⟩)) rfl rfl rfl (by decide +kernel) ⟨Nat.le_of_ble_eq_true rfl, Nat.le_of_ble_eq_true rfl⟩) hX.sz.1.1 kX4 rfl hl.1 rfl (Nat.le_of_ble_eq_true rfl) dX10_shape_5 ⟨Nat.le_of_ble_eq_true rfl, Nat.le_of_ble_eq_true rfl⟩) hW (fun r_2 H locs hp_1 hW => ?_)
  rcases hp_1 with ⟨n_3, rfl, hxn_4, hn_5⟩ | ⟨rfl, hx0_6⟩
  · skip
    refine W.eq (g2 := F0 m 8 ls [.ref (ad (20 + 4 + n_3))]) rfl ?_
    have hpx : mIn x 0 (gNe q) := by rw [hxn_4]; exact (mIn_nI (by have := hX.ne5; have := hX.ng6; omega)).mpr ⟨Nat.zero_le _, hn_5⟩
    have hcx : x.toNatClampNeg = n_3 := by rw [hxn_4]; exact nI_clamp (by have := hX.ne5; have := hX.ng6; omega)
    refine lv_astore_n (lv' := [(3, .ref (ad (20 + 4 + n_3))), (0, .ref (ad 0)), (1, .int x), (2, .int y)]) hx hb dX10_shape_8 rfl hl (by decide) rfl (fun ls hl => ?_)
    refine lv_aload_n hx hb dX10_shape_9 rfl (lv_at hl 1 rfl) ?_
    refine m_getr S hW hX.sp.1 3 rfl (j := 20) rfl kX10 (iW10 _) (by decide) (List.mem_cons_of_mem _ (wa_2 _ (List.mem_of_getElem? (i := 8) (by decide +kernel)))) dX10_shape_10 ?_
    refine lv_iload_n hx hb dX10_shape_13 rfl (lv_at hl 3 rfl) ?_
    refine m_crp (m_rV S hW (c_X4_goodAt l G ad sh V 20 (110 + 3 * gRl q) ((gT q (gRl q)).2.1) ((gT q (gRl q)).2.2) ((gT q (gRl q)).1.length) (gNe q) (gNg q) y hX.sz.1 hX.sz.2.1) (cwV 1 hts (gCall [.methodLink RX10 124 yX4_goodAt, .instanceMethod yX4_goodAt, .selects RX4 yX4_goodAt yX4_goodAt, .initialized RX4] (List.forall_mem_cons.mpr ⟨(wa_17 _ (List.mem_of_getElem? (i := 13) (by decide +kernel))), (List.forall_mem_cons.mpr ⟨(wa_17 _ (List.mem_of_getElem? (i := 10) (by decide +kernel))), (List.forall_mem_cons.mpr ⟨(wa_17 _ (List.mem_of_getElem? (i := 11) (by decide +kernel))), (List.forall_mem_cons.mpr ⟨(wa_17 _ (List.mem_of_getElem? (i := 12) (by decide +kernel))), (List.forall_mem_cons.mpr ⟨(wa_2 _ (List.mem_of_getElem? (i := 7) (by decide +kernel))), (fun _ h => absurd h List.not_mem_nil)⟩)⟩)⟩)⟩)⟩)) rfl rfl rfl (by decide +kernel) ⟨Nat.le_of_ble_eq_true rfl, Nat.le_of_ble_eq_true rfl⟩) hX.sz.1.1 kX4 rfl hl.1 rfl (Nat.le_of_ble_eq_true rfl) dX10_shape_14 ⟨Nat.le_of_ble_eq_true rfl, Nat.le_of_ble_eq_true rfl⟩) hW (fun r_8 H locs hp_7 hW => ?_)
    rcases hp_7 with ⟨n_9, rfl, hxn_10, hn_11⟩ | ⟨rfl, hx0_12⟩
    · skip
      refine W.eq (g2 := F0 m 17 ls [.ref (ad (20 + 10 + 2 * n_9))]) rfl ?_
      have hpy : mIn y 0 (gNg q) := by rw [hxn_10]; exact (mIn_nI (by have := hX.ne5; have := hX.ng6; omega)).mpr ⟨Nat.zero_le _, hn_11⟩
      have hcy : y.toNatClampNeg = n_9 := by rw [hxn_10]; exact nI_clamp (by have := hX.ne5; have := hX.ng6; omega)
      refine lv_astore (lv' := [(4, .ref (ad (20 + 10 + 2 * n_9))), (3, .ref (ad (20 + 4 + n_3))), (0, .ref (ad 0)), (1, .int x), (2, .int y)]) hx hb dX10_shape_17 hl (by decide) rfl (fun ls hl => ?_)
      refine lv_aload_n hx hb dX10_shape_19 rfl (lv_at hl 1 rfl) ?_
      refine lv_ifnull hx hb dX10_shape_20 ?_
      refine lv_aload hx hb dX10_shape_23 (lv_at hl 0 rfl) ?_
      refine lv_ifnonnull (tgt := 31) hx hb dX10_shape_25 (by decide) ?_
      refine lv_aload_n hx hb dX10_shape_31 rfl (lv_at hl 1 rfl) ?_
      refine lv_aload hx hb dX10_shape_32 (lv_at hl 0 rfl) ?_
      refine m_cie (m_rV S hW (c_X1_shapeIn l G ad sh V (20 + 4 + n_3) (20 + 10 + 2 * n_9) (hX.sz.1.2.2.2.2.1 n_3 (Nat.lt_of_lt_of_le hn_5 hX.sz.2.1.2.2.1)) (hX.sz.1.2.2.2.2.2.1 n_9 (Nat.lt_of_lt_of_le hn_11 hX.sz.2.1.2.2.2.1)) (hX.sz.1.2.2.2.2.2.2 n_9 (Nat.lt_of_lt_of_le hn_11 hX.sz.2.1.2.2.2.1))) (cwV 1 hts (gCall [.methodLink RX10 169 yX1_shapeIn, .instanceMethod yX1_shapeIn, .selects RX1 yX1_shapeIn yX1_shapeIn, .initialized RX1] (List.forall_mem_cons.mpr ⟨(wa_24 _ (List.mem_of_getElem? (i := 11) (by decide +kernel))), (List.forall_mem_cons.mpr ⟨(wa_24 _ (List.mem_of_getElem? (i := 8) (by decide +kernel))), (List.forall_mem_cons.mpr ⟨(wa_24 _ (List.mem_of_getElem? (i := 9) (by decide +kernel))), (List.forall_mem_cons.mpr ⟨(wa_24 _ (List.mem_of_getElem? (i := 10) (by decide +kernel))), (List.forall_mem_cons.mpr ⟨(wa_3 _ (List.mem_of_getElem? (i := 3) (by decide +kernel))), (fun _ h => absurd h List.not_mem_nil)⟩)⟩)⟩)⟩)⟩)) rfl rfl rfl (by decide +kernel) ⟨Nat.le_of_ble_eq_true rfl, Nat.le_of_ble_eq_true rfl⟩) (hX.sz.1.2.2.2.2.1 n_3 (Nat.lt_of_lt_of_le hn_5 hX.sz.2.1.2.2.1)) kX1 rfl hl.1 rfl (Nat.le_of_ble_eq_true rfl) dX10_shape_34 ⟨Nat.le_of_ble_eq_true rfl, Nat.le_of_ble_eq_true rfl⟩) hW (fun H locs hW => ?_)
      exact m_iret S hr hlk hW dX10_shape_37 ⟨rfl, (by simp only [aShape, if_pos hpx, hcx, if_pos hpy, hcy]; exact (hX.vSp hn_5 hn_11).symm)⟩
    · skip
      refine W.eq (g2 := F0 m 17 ls [.null]) rfl ?_
      refine lv_astoreN (lv' := [(4, .null), (3, .ref (ad (20 + 4 + n_3))), (0, .ref (ad 0)), (1, .int x), (2, .int y)]) hx hb dX10_shape_17 hl (by decide) rfl (fun ls hl => ?_)
      refine lv_aload_n hx hb dX10_shape_19 rfl (lv_at hl 1 rfl) ?_
      refine lv_ifnull hx hb dX10_shape_20 ?_
      refine lv_aloadN hx hb dX10_shape_23 (lv_at hl 0 rfl) ?_
      refine lv_ifnonnullN hx hb dX10_shape_25 ?_
      refine lv_bipush (v := -5) hx hb dX10_shape_28 (by decide) ?_
      exact m_iret S hr hlk hW dX10_shape_30 ⟨rfl, (by simp only [aShape, if_pos hpx, hcx, if_neg hx0_12]; try rfl)⟩
  · skip
    refine W.eq (g2 := F0 m 8 ls [.null]) rfl ?_
    refine lv_astore_nN (lv' := [(3, .null), (0, .ref (ad 0)), (1, .int x), (2, .int y)]) hx hb dX10_shape_8 rfl hl (by decide) rfl (fun ls hl => ?_)
    refine lv_aload_n hx hb dX10_shape_9 rfl (lv_at hl 1 rfl) ?_
    refine m_getr S hW hX.sp.1 3 rfl (j := 20) rfl kX10 (iW10 _) (by decide) (List.mem_cons_of_mem _ (wa_2 _ (List.mem_of_getElem? (i := 8) (by decide +kernel)))) dX10_shape_10 ?_
    refine lv_iload_n hx hb dX10_shape_13 rfl (lv_at hl 3 rfl) ?_
    refine m_crp (m_rV S hW (c_X4_goodAt l G ad sh V 20 (110 + 3 * gRl q) ((gT q (gRl q)).2.1) ((gT q (gRl q)).2.2) ((gT q (gRl q)).1.length) (gNe q) (gNg q) y hX.sz.1 hX.sz.2.1) (cwV 1 hts (gCall [.methodLink RX10 124 yX4_goodAt, .instanceMethod yX4_goodAt, .selects RX4 yX4_goodAt yX4_goodAt, .initialized RX4] (List.forall_mem_cons.mpr ⟨(wa_17 _ (List.mem_of_getElem? (i := 13) (by decide +kernel))), (List.forall_mem_cons.mpr ⟨(wa_17 _ (List.mem_of_getElem? (i := 10) (by decide +kernel))), (List.forall_mem_cons.mpr ⟨(wa_17 _ (List.mem_of_getElem? (i := 11) (by decide +kernel))), (List.forall_mem_cons.mpr ⟨(wa_17 _ (List.mem_of_getElem? (i := 12) (by decide +kernel))), (List.forall_mem_cons.mpr ⟨(wa_2 _ (List.mem_of_getElem? (i := 7) (by decide +kernel))), (fun _ h => absurd h List.not_mem_nil)⟩)⟩)⟩)⟩)⟩)) rfl rfl rfl (by decide +kernel) ⟨Nat.le_of_ble_eq_true rfl, Nat.le_of_ble_eq_true rfl⟩) hX.sz.1.1 kX4 rfl hl.1 rfl (Nat.le_of_ble_eq_true rfl) dX10_shape_14 ⟨Nat.le_of_ble_eq_true rfl, Nat.le_of_ble_eq_true rfl⟩) hW (fun r_14 H locs hp_13 hW => ?_)
    rcases hp_13 with ⟨n_15, rfl, hxn_16, hn_17⟩ | ⟨rfl, hx0_18⟩
    · skip
      refine W.eq (g2 := F0 m 17 ls [.ref (ad (20 + 10 + 2 * n_15))]) rfl ?_
      have hpy : mIn y 0 (gNg q) := by rw [hxn_16]; exact (mIn_nI (by have := hX.ne5; have := hX.ng6; omega)).mpr ⟨Nat.zero_le _, hn_17⟩
      have hcy : y.toNatClampNeg = n_15 := by rw [hxn_16]; exact nI_clamp (by have := hX.ne5; have := hX.ng6; omega)
      refine lv_astore (lv' := [(4, .ref (ad (20 + 10 + 2 * n_15))), (3, .null), (0, .ref (ad 0)), (1, .int x), (2, .int y)]) hx hb dX10_shape_17 hl (by decide) rfl (fun ls hl => ?_)
      refine lv_aload_nN hx hb dX10_shape_19 rfl (lv_at hl 1 rfl) ?_
      refine lv_ifnullN (tgt := 28) hx hb dX10_shape_20 (by decide) ?_
      refine lv_bipush (v := -5) hx hb dX10_shape_28 (by decide) ?_
      exact m_iret S hr hlk hW dX10_shape_30 ⟨rfl, (by simp only [aShape, if_neg hx0_6, if_pos hpy, hcy]; try rfl)⟩
    · skip
      refine W.eq (g2 := F0 m 17 ls [.null]) rfl ?_
      refine lv_astoreN (lv' := [(4, .null), (3, .null), (0, .ref (ad 0)), (1, .int x), (2, .int y)]) hx hb dX10_shape_17 hl (by decide) rfl (fun ls hl => ?_)
      refine lv_aload_nN hx hb dX10_shape_19 rfl (lv_at hl 1 rfl) ?_
      refine lv_ifnullN (tgt := 28) hx hb dX10_shape_20 (by decide) ?_
      refine lv_bipush (v := -5) hx hb dX10_shape_28 (by decide) ?_
      exact m_iret S hr hlk hW dX10_shape_30 ⟨rfl, (by simp only [aShape, if_neg hx0_6, if_neg hx0_18]; try rfl)⟩
