/-! more that is asked -/
def aFewest (q : Sg) (x y : Int32) : Int32 := if mIn x 0 (gNe q) then (if mIn y 0 (gNg q) then fFew (zSp (gZ q) x.toNatClampNeg y.toNatClampNeg).toNatClampNeg (gZ q (10 + 2 * y.toNatClampNeg) 2).toNatClampNeg else -5) else -5
def zTeeth (ask : fAsks) (z : fZ) (ng i : Nat) : Int32 × Int32 := fHire (zBest ask z i (ng * 16)).2 (fun t => (zBest ask (mU (mU z (4 + i) 0 (nI 5)) (4 + i) 1 (nI (2 * t - 2))) i (ng * 16)).2) 5
def aHire (q : Sg) (x w : Int32) : Int32 := if mIn x 0 (gNe q) then (if mIn w 0 2 then (if w = nI 0 then (zTeeth (gAsk q) (gZ q) (gNg q) x.toNatClampNeg).1 else (zTeeth (gAsk q) (gZ q) (gNg q) x.toNatClampNeg).2) else -7) else -5
/-- bounds of what a scene holds -/
def ZOk (z : fZ) (ne ng : Nat) : Prop := (∃ d, d < 100 ∧ z 0 4 = nI d) ∧ (∀ u, u < ne → (∃ k, k < 6 ∧ z (4 + u) 0 = nI k) ∧ (∃ k, k < 10 ∧ z (4 + u) 1 = nI k) ∧ (∃ k, 1 ≤ k ∧ k < 64 ∧ z (4 + u) 2 = nI k) ∧ (∃ k, k < 10000 ∧ z (4 + u) 3 = nI k) ∧ (∃ k, k < 10000 ∧ z (4 + u) 4 = nI k)) ∧ (∀ g, g < ng → (∃ k, k < 10 ∧ z (10 + 2 * g) 1 = nI k) ∧ (∃ k, k < 1024 ∧ z (10 + 2 * g) 2 = nI k) ∧ (∀ c, c < 10 → ∃ k, k < 100 ∧ z (11 + 2 * g) c = nI k))
def fShN (k mo j so : Nat) : Nat := if k = 1 then j ||| (j * 2) else if k = 2 then (if 5 ≤ so then j else 0) else if k = 3 then 2 ^ fLow j else if k = 4 then (if 5 ≤ so then j else 0) else if k = 5 then 2 ^ (mo / 2 + 1) - 1 else j
theorem fShape_all : ∀ j, j < 64 → 1 ≤ j → (nI j ||| (nI j <<< (nI 1 &&& 31))) = nI (j ||| (j * 2)) ∧ (nI j ||| (nI j <<< (nI 1 &&& 31))) &&& (-(nI j ||| (nI j <<< (nI 1 &&& 31)))) = nI (2 ^ fLow j) ∧ j ||| (j * 2) < 128 ∧ 2 ^ fLow j < 128 := by decide +kernel
theorem fShape_nat {k mo j so : Nat} (hmo : mo < 10) (hj : 1 ≤ j) (hj2 : j < 64) (hk : k < 6) (hso : so < 10) : fShape (nI k) (nI mo) (nI j) (nI so) = nI (fShN k mo j so) ∧ fShN k mo j so < 128 := by
  obtain ⟨a1, a2, a3, a4⟩ := fShape_all j hj2 hj
  rw [fShape, a2, a1]
  rw [fShN]
  match k, hk with
  | 0, _ => exact ⟨rfl, by simp; omega⟩
  | 1, _ => exact ⟨rfl, a3⟩
  | 2, _ =>
    rw [if_neg (show ¬ nI 2 = nI 1 by decide), if_pos (show nI 2 = nI 2 from rfl), if_neg (show ¬ (2 : Nat) = 1 by decide), if_pos (show (2 : Nat) = 2 from rfl)]
    by_cases h : 5 ≤ so
    · rw [if_pos h, if_pos ((nI_leI (by omega) (by omega)).mpr h)]
      exact ⟨rfl, by omega⟩
    · rw [if_neg h, if_neg (mt (nI_leI (by omega) (by omega)).mp h)]
      exact ⟨rfl, by omega⟩
  | 3, _ => exact ⟨rfl, a4⟩
  | 4, _ =>
    rw [if_neg (show ¬ nI 4 = nI 1 by decide), if_neg (show ¬ nI 4 = nI 2 by decide), if_neg (show ¬ nI 4 = nI 3 by decide), if_pos (show nI 4 = nI 4 from rfl), if_neg (show ¬ (4 : Nat) = 1 by decide), if_neg (show ¬ (4 : Nat) = 2 by decide), if_neg (show ¬ (4 : Nat) = 3 by decide), if_pos (show (4 : Nat) = 4 from rfl)]
    by_cases h : 5 ≤ so
    · rw [if_pos h, if_pos ((nI_leI (by omega) (by omega)).mpr h)]
      exact ⟨rfl, by omega⟩
    · rw [if_neg h, if_neg (mt (nI_leI (by omega) (by omega)).mp h)]
      exact ⟨rfl, by omega⟩
  | 5, _ => exact (show ∀ mo, mo < 10 → _ by decide +kernel : ∀ mo : Nat, mo < 10 → (nI 2 <<< ((nI mo / nI 2) &&& 31)) - nI 1 = nI (2 ^ (mo / 2 + 1) - 1) ∧ 2 ^ (mo / 2 + 1) - 1 < 128) mo hmo
theorem ZOk.sp {z : fZ} {ne ng : Nat} (h : ZOk z ne ng) {u g : Nat} (hu : u < ne) (hg : g < ng) : ∃ n, n < 128 ∧ zSp z u g = nI n := by
  obtain ⟨⟨k, hk, e1⟩, ⟨mo, hmo, e2⟩, ⟨j, hj, hj2, e3⟩, -⟩ := h.2.1 u hu
  obtain ⟨⟨so, hso, e4⟩, -⟩ := h.2.2 g hg
  have := fShape_nat hmo hj hj2 hk hso
  exact ⟨_, this.2, by rw [zSp, e1, e2, e3, e4]; exact this.1⟩
theorem XI.vTeeth {sh : Nat → Option mSh} {V : mV} {q : Sg} (h : XI sh V q) {u : Nat} (hu : u < gNe q) : fHire (fBsc (fAsk (V (110 + 3 * gRl q + 1)) (gT q (gRl q)).2.1 (gT q (gRl q)).2.2 (gT q (gRl q)).1.length) V 20 (gNg q) (V (20 + 4 + u) 0) (V (20 + 4 + u) 1) (V (20 + 4 + u) 2) (V (20 + 4 + u) 3)).2 (fTeeth (fAsk (V (110 + 3 * gRl q + 1)) (gT q (gRl q)).2.1 (gT q (gRl q)).2.2 (gT q (gRl q)).1.length) V 20 (gNg q) (V (20 + 4 + u) 2) (V (20 + 4 + u) 3)) 5 = zTeeth (gAsk q) (gZ q) (gNg q) u := by
  have hne := h.ne5
  rw [zTeeth, ← h.sz.2.2.2.1]
  have e0 : (fBsc (gAsk q) V 20 (gNg q) (V (20 + 4 + u) 0) (V (20 + 4 + u) 1) (V (20 + 4 + u) 2) (V (20 + 4 + u) 3)) = zBest (gAsk q) (gZ q) u (gNg q * 16) := by
    rw [show gZ q = zv V 20 (gNe q) (gNg q) from h.sz.2.2.2.2, zBest_v _ V 20 hu _ (Nat.le_refl _)]
    rfl
  have e1 : fTeeth (gAsk q) V 20 (gNg q) (V (20 + 4 + u) 2) (V (20 + 4 + u) 3) = (fun t => (zBest (gAsk q) (mU (mU (gZ q) (4 + u) 0 (nI 5)) (4 + u) 1 (nI (2 * t - 2))) u (gNg q * 16)).2) := by
    funext t
    have hz : mU (mU (gZ q) (4 + u) 0 (nI 5)) (4 + u) 1 (nI (2 * t - 2)) = zv (mU (mU V (20 + (4 + u)) 0 (nI 5)) (20 + (4 + u)) 1 (nI (2 * t - 2))) 20 (gNe q) (gNg q) := by
      rw [zv_mU _ (Or.inr (Or.inl (by omega))), zv_mU _ (Or.inr (Or.inl (by omega))), ← h.sz.2.2.2.2]
    rw [hz, zBest_v _ _ 20 hu _ (Nat.le_refl _), fTeeth, fBsc]
    have ha : ∀ a, a ≠ 20 + (4 + u) → mU (mU V (20 + (4 + u)) 0 (nI 5)) (20 + (4 + u)) 1 (nI (2 * t - 2)) a = V a := fun a h => by rw [mU_no _ _ h, mU_no _ _ h]
    have g1 : (fun g => mU (mU V (20 + (4 + u)) 0 (nI 5)) (20 + (4 + u)) 1 (nI (2 * t - 2)) (20 + 10 + 2 * g) 1) = (fun g => V (20 + 10 + 2 * g) 1) := funext (fun g => by rw [ha _ (by omega)])
    have g2 : (fun g => mU (mU V (20 + (4 + u)) 0 (nI 5)) (20 + (4 + u)) 1 (nI (2 * t - 2)) (20 + 10 + 2 * g) 2) = (fun g => V (20 + 10 + 2 * g) 2) := funext (fun g => by rw [ha _ (by omega)])
    have g3 : (fun g => mU (mU V (20 + (4 + u)) 0 (nI 5)) (20 + (4 + u)) 1 (nI (2 * t - 2)) (20 + 10 + 2 * g + 1)) = (fun g => V (20 + 10 + 2 * g + 1)) := funext (fun g => by rw [ha _ (by omega)])
    rw [g1, g2, g3, ha 20 (by omega), show 20 + 4 + u = 20 + (4 + u) by omega, mU_ne _ _ (by omega), mU_eq, mU_eq, mU_ne _ _ (by omega), mU_ne _ _ (by omega), mU_ne _ _ (by omega), mU_ne _ _ (by omega)]
  rw [e0, e1]
set_option maxHeartbeats 4000000 in
set_option maxRecDepth 100000 in
theorem c_X10_best (l : Launch) (G : mG) (ad : Nat → Nat) (sh : Nat → Option mSh) (V : mV) (q : Sg) (x w : Int32) (hX : XI sh V q) : mM l yX10_best wsX10_best ({ frames := 5, cells := 0, slots := 0, locals := 166 } : Room) G ad sh V [.ref (ad 0), .int x, .int w] 0 0 (mPi ad sh (fun r V' => (aBest q x w) = r ∧ (XK V V'))) := by
  refine mM.of (cc := cX10_best) (maxL := 4) (ret := (some .int)) (by decide) rfl (Nat.le_of_ble_eq_true rfl) ?_
  intro p e s m below meth c S hr hlk hnm hW ls hl
  obtain ⟨hx, hb, hml, hown, hts⟩ := id S
  have hl : lv_has ls 4 [(0, .ref (ad 0)), (1, .int x), (2, .int w)] := hl
  have hS0 : True := trivial
  have hne5 := hX.ne5
  have hng6 := hX.ng6
  have htn := hX.tn
  refine lv_aload_n hx hb dX10_best_0 rfl (lv_at hl 0 rfl) ?_
  refine m_getr S hW hX.sp.1 3 rfl (j := 20) rfl kX10 (iW10 _) (by decide) (List.mem_cons_of_mem _ (wa_2 _ (List.mem_of_getElem? (i := 8) (by decide +kernel)))) dX10_best_1 ?_
  refine lv_iload_n hx hb dX10_best_4 rfl (lv_at hl 1 rfl) ?_
  refine m_crp (m_rV S hW (c_X4_eaterAt l G ad sh V 20 (110 + 3 * gRl q) ((gT q (gRl q)).2.1) ((gT q (gRl q)).2.2) ((gT q (gRl q)).1.length) (gNe q) (gNg q) x hX.sz.1 hX.sz.2.1) (cwV 1 hts (gCall [.methodLink RX10 120 yX4_eaterAt, .instanceMethod yX4_eaterAt, .selects RX4 yX4_eaterAt yX4_eaterAt, .initialized RX4] (List.forall_mem_cons.mpr ⟨(wa_17 _ (List.mem_of_getElem? (i := 8) (by decide +kernel))), (List.forall_mem_cons.mpr ⟨(wa_17 _ (List.mem_of_getElem? (i := 5) (by decide +kernel))), (List.forall_mem_cons.mpr ⟨(wa_17 _ (List.mem_of_getElem? (i := 6) (by decide +kernel))), (List.forall_mem_cons.mpr ⟨(wa_17 _ (List.mem_of_getElem? (i := 7) (by decide +kernel))), (List.forall_mem_cons.mpr ⟨(wa_2 _ (List.mem_of_getElem? (i := 7) (by decide +kernel))), (fun _ h => absurd h List.not_mem_nil)⟩)⟩)⟩)⟩)⟩)) rfl rfl rfl (by decide +kernel) ⟨Nat.le_of_ble_eq_true rfl, Nat.le_of_ble_eq_true rfl⟩) hX.sz.1.1 kX4 rfl hl.1 rfl (Nat.le_of_ble_eq_true rfl) dX10_best_5 ⟨Nat.le_of_ble_eq_true rfl, Nat.le_of_ble_eq_true rfl⟩) hW (fun r_2 H locs hp_1 hW => ?_)
  rcases hp_1 with ⟨n_3, rfl, hxn_4, hn_5⟩ | ⟨rfl, hx0_6⟩
  · skip
    refine W.eq (g2 := F0 m 8 ls [.ref (ad (20 + 4 + n_3))]) rfl ?_
    have hpx : mIn x 0 (gNe q) := by rw [hxn_4]; exact (mIn_nI (by have := hX.ne5; have := hX.ng6; omega)).mpr ⟨Nat.zero_le _, hn_5⟩
    have hcx : x.toNatClampNeg = n_3 := by rw [hxn_4]; exact nI_clamp (by have := hX.ne5; have := hX.ng6; omega)
    refine lv_astore_n (lv' := [(3, .ref (ad (20 + 4 + n_3))), (0, .ref (ad 0)), (1, .int x), (2, .int w)]) hx hb dX10_best_8 rfl hl (by decide) rfl (fun ls hl => ?_)
    refine lv_aload_n hx hb dX10_best_9 rfl (lv_at hl 0 rfl) ?_
    refine lv_ifnonnull (tgt := 16) hx hb dX10_best_10 (by decide) ?_
    refine lv_iload_n hx hb dX10_best_16 rfl (lv_at hl 3 rfl) ?_
    refine lv_iconst (v := nI 0) hx hb dX10_best_17 (by decide) ?_
    refine lv_iconst (v := nI 1) hx hb dX10_best_18 (by decide) ?_
    refine m_cip (m_rS S hW (c_X10_within l G ad sh V w 0 1 (by first | assumption | omega) (by first | assumption | omega)) (va_cwS 3 hts (gCall [.methodLink RX10 102 yX10_within, .static yX10_within, .initialized RX10] (List.forall_mem_cons.mpr ⟨(wa_8 _ (List.mem_of_getElem? (i := 17) (by decide +kernel))), (List.forall_mem_cons.mpr ⟨(wa_15 _ (List.mem_of_getElem? (i := 8) (by decide +kernel))), (List.forall_mem_cons.mpr ⟨(wa_8 _ (List.mem_of_getElem? (i := 16) (by decide +kernel))), (List.forall_mem_cons.mpr ⟨(wa_1 _ (List.mem_of_getElem? (i := 2) (by decide +kernel))), (fun _ h => absurd h List.not_mem_nil)⟩)⟩)⟩)⟩)) rfl rfl rfl (by decide +kernel) ⟨Nat.le_of_ble_eq_true rfl, Nat.le_of_ble_eq_true rfl⟩) rfl hl.1 rfl (Nat.le_of_ble_eq_true rfl) dX10_best_19 ⟨Nat.le_of_ble_eq_true rfl, Nat.le_of_ble_eq_true rfl⟩) hW (fun r_8 H locs hp_7 hW => ?_)
    rcases hp_7 with ⟨rfl, w_9⟩ | ⟨rfl, w_10⟩
    · skip
      refine m_if_ne (tgt := 28) hx hb dX10_best_22 (by decide) (fun c_11 => ?_) (fun c_11 => ?_)
      · skip
        refine lv_aload_n hx hb dX10_best_28 rfl (lv_at hl 1 rfl) ?_
        refine m_getr S hW hX.sp.1 3 rfl (j := 20) rfl kX10 (iW10 _) (by decide) (List.mem_cons_of_mem _ (wa_2 _ (List.mem_of_getElem? (i := 8) (by decide +kernel)))) dX10_best_29 ?_
        refine lv_aload_n hx hb dX10_best_32 rfl (lv_at hl 0 rfl) ?_
        refine m_cv (m_rV S hW (c_X4_findBest_z l G ad sh V 20 (110 + 3 * gRl q) ((gT q (gRl q)).2.1) ((gT q (gRl q)).2.2) ((gT q (gRl q)).1.length) (gNe q) (gNg q) (gAsk q) (gZ q) n_3 hX.sz hn_5) (cwV 1 hts (gCall [.methodLink RX10 191 yX4_findBest, .instanceMethod yX4_findBest, .selects RX4 yX4_findBest yX4_findBest, .initialized RX4] (List.forall_mem_cons.mpr ⟨(wa_28 _ (List.mem_of_getElem? (i := 21) (by decide +kernel))), (List.forall_mem_cons.mpr ⟨(wa_28 _ (List.mem_of_getElem? (i := 18) (by decide +kernel))), (List.forall_mem_cons.mpr ⟨(wa_28 _ (List.mem_of_getElem? (i := 19) (by decide +kernel))), (List.forall_mem_cons.mpr ⟨(wa_28 _ (List.mem_of_getElem? (i := 20) (by decide +kernel))), (List.forall_mem_cons.mpr ⟨(wa_2 _ (List.mem_of_getElem? (i := 7) (by decide +kernel))), (fun _ h => absurd h List.not_mem_nil)⟩)⟩)⟩)⟩)⟩)) rfl rfl rfl (by decide +kernel) ⟨Nat.le_of_ble_eq_true rfl, Nat.le_of_ble_eq_true rfl⟩) hX.sz.1.1 kX4 rfl hl.1 rfl (Nat.le_of_ble_eq_true rfl) dX10_best_33 ⟨Nat.le_of_ble_eq_true rfl, Nat.le_of_ble_eq_true rfl⟩) hW (fun V_12 H locs hp_13 hW => ?_)
        have eV_12 : V_12 = mU (mU V 20 6 (zBest (gAsk q) (gZ q) n_3 ((gNg q) * 16)).1) 20 7 (zBest (gAsk q) (gZ q) n_3 ((gNg q) * 16)).2 := hp_13
        have hKb : XK V V_12 := by rw [eV_12]; exact XK.best _ _ _
        refine lv_iload_n hx hb dX10_best_36 rfl (lv_at hl 3 rfl) ?_
        refine m_if_ne (tgt := 50) hx hb dX10_best_37 (by decide) (fun c_15 => ?_) (fun c_15 => ?_)
        · skip
          refine lv_aload_n hx hb dX10_best_50 rfl (lv_at hl 1 rfl) ?_
          refine m_getr S hW hX.sp.1 3 rfl (j := 20) rfl kX10 (iW10 _) (by decide) (List.mem_cons_of_mem _ (wa_2 _ (List.mem_of_getElem? (i := 8) (by decide +kernel)))) dX10_best_51 ?_
          refine m_geti S hW hX.sz.1.1 7 rfl kX4 (iW4 _) (by decide) (List.mem_cons_of_mem _ (wa_28 _ (List.mem_of_getElem? (i := 17) (by decide +kernel)))) dX10_best_54 ?_
          exact m_iret S hr hlk hW dX10_best_57 (by exact ⟨by simp only [aBest, if_pos hpx, hcx, if_pos w_9, if_neg c_15]; rw [eV_12]; first | rw [mU_ne _ _ (by omega), mU_eq] | rw [mU_eq], hKb⟩)
        · skip
          refine lv_aload_n hx hb dX10_best_40 rfl (lv_at hl 1 rfl) ?_
          refine m_getr S hW hX.sp.1 3 rfl (j := 20) rfl kX10 (iW10 _) (by decide) (List.mem_cons_of_mem _ (wa_2 _ (List.mem_of_getElem? (i := 8) (by decide +kernel)))) dX10_best_41 ?_
          refine m_geti S hW hX.sz.1.1 6 rfl kX4 (iW4 _) (by decide) (List.mem_cons_of_mem _ (wa_28 _ (List.mem_of_getElem? (i := 16) (by decide +kernel)))) dX10_best_44 ?_
          refine lv_goto (tgt := 57) hx hb dX10_best_47 (by decide) ?_
          exact m_iret S hr hlk hW dX10_best_57 (by exact ⟨by simp only [aBest, if_pos hpx, hcx, if_pos w_9, if_pos c_15]; rw [eV_12]; first | rw [mU_ne _ _ (by omega), mU_eq] | rw [mU_eq], hKb⟩)
      · exact absurd c_11 (by decide)
    · skip
      refine m_if_ne (tgt := 28) hx hb dX10_best_22 (by decide) (fun c_16 => ?_) (fun c_16 => ?_)
      · exact absurd c_16 (by decide)
      · skip
        refine lv_bipush (v := -7) hx hb dX10_best_25 (by decide) ?_
        exact m_iret S hr hlk hW dX10_best_27 (by exact ⟨by simp only [aBest, if_pos hpx, hcx, if_neg w_10], XK.rfl V⟩)
  · skip
    refine W.eq (g2 := F0 m 8 ls [.null]) rfl ?_
    refine lv_astore_nN (lv' := [(3, .null), (0, .ref (ad 0)), (1, .int x), (2, .int w)]) hx hb dX10_best_8 rfl hl (by decide) rfl (fun ls hl => ?_)
    refine lv_aload_nN hx hb dX10_best_9 rfl (lv_at hl 0 rfl) ?_
    refine lv_ifnonnullN hx hb dX10_best_10 ?_
    refine lv_bipush (v := -5) hx hb dX10_best_13 (by decide) ?_
    exact m_iret S hr hlk hW dX10_best_15 (by exact ⟨by simp only [aBest, if_neg hx0_6], XK.rfl V⟩)
set_option maxHeartbeats 4000000 in
set_option maxRecDepth 100000 in
theorem c_X10_asks (l : Launch) (G : mG) (ad : Nat → Nat) (sh : Nat → Option mSh) (V : mV) (q : Sg) (pt x y cw : Int32) (hX : XI sh V q) : mM l yX10_asks wsX10_asks ({ frames := 3, cells := 0, slots := 0, locals := 114 } : Room) G ad sh V [.ref (ad 0), .int pt, .int x, .int y, .int cw] 0 0 (mPe ad sh V (aAsks q pt x y cw)) := by
  refine mM.of (cc := cX10_asks) (maxL := 7) (ret := (some .int)) (by decide) rfl (Nat.le_of_ble_eq_true rfl) ?_
  intro p e s m below meth c S hr hlk hnm hW ls hl
  obtain ⟨hx, hb, hml, hown, hts⟩ := id S
  have hl : lv_has ls 7 [(0, .ref (ad 0)), (1, .int pt), (2, .int x), (3, .int y), (4, .int cw)] := hl
  have hS0 : True := trivial
  have hne5 := hX.ne5
  have hng6 := hX.ng6
  have htn := hX.tn
  refine lv_aload_n hx hb dX10_asks_0 rfl (lv_at hl 0 rfl) ?_
  refine m_getr S hW hX.sp.1 3 rfl (j := 20) rfl kX10 (iW10 _) (by decide) (List.mem_cons_of_mem _ (wa_2 _ (List.mem_of_getElem? (i := 8) (by decide +kernel)))) dX10_asks_1 ?_
  refine lv_iload_n hx hb dX10_asks_4 rfl (lv_at hl 2 rfl) ?_
  refine m_crp (m_rV S hW (c_X4_eaterAt l G ad sh V 20 (110 + 3 * gRl q) ((gT q (gRl q)).2.1) ((gT q (gRl q)).2.2) ((gT q (gRl q)).1.length) (gNe q) (gNg q) x hX.sz.1 hX.sz.2.1) (cwV 1 hts (gCall [.methodLink RX10 120 yX4_eaterAt, .instanceMethod yX4_eaterAt, .selects RX4 yX4_eaterAt yX4_eaterAt, .initialized RX4] (List.forall_mem_cons.mpr ⟨(wa_17 _ (List.mem_of_getElem? (i := 8) (by decide +kernel))), (List.forall_mem_cons.mpr ⟨(wa_17 _ (List.mem_of_getElem? (i := 5) (by decide +kernel))), (List.forall_mem_cons.mpr ⟨(wa_17 _ (List.mem_of_getElem? (i := 6) (by decide +kernel))), (List.forall_mem_cons.mpr ⟨(wa_17 _ (List.mem_of_getElem? (i := 7) (by decide +kernel))), (List.forall_mem_cons.mpr ⟨(wa_2 _ (List.mem_of_getElem? (i := 7) (by decide +kernel))), (fun _ h => absurd h List.not_mem_nil)⟩)⟩)⟩)⟩)⟩)) rfl rfl rfl (by decide +kernel) ⟨Nat.le_of_ble_eq_true rfl, Nat.le_of_ble_eq_true rfl⟩) hX.sz.1.1 kX4 rfl hl.1 rfl (Nat.le_of_ble_eq_true rfl) dX10_asks_5 ⟨Nat.le_of_ble_eq_true rfl, Nat.le_of_ble_eq_true rfl⟩) hW (fun r_2 H locs hp_1 hW => ?_)
  rcases hp_1 with ⟨n_3, rfl, hxn_4, hn_5⟩ | ⟨rfl, hx0_6⟩
  · skip
    refine W.eq (g2 := F0 m 8 ls [.ref (ad (20 + 4 + n_3))]) rfl ?_
    have hpx : mIn x 0 (gNe q) := by rw [hxn_4]; exact (mIn_nI (by have := hX.ne5; have := hX.ng6; omega)).mpr ⟨Nat.zero_le _, hn_5⟩
    have hcx : x.toNatClampNeg = n_3 := by rw [hxn_4]; exact nI_clamp (by have := hX.ne5; have := hX.ng6; omega)
    refine lv_astore (lv' := [(5, .ref (ad (20 + 4 + n_3))), (0, .ref (ad 0)), (1, .int pt), (2, .int x), (3, .int y), (4, .int cw)]) hx hb dX10_asks_8 hl (by decide) rfl (fun ls hl => ?_)
    refine lv_aload_n hx hb dX10_asks_10 rfl (lv_at hl 1 rfl) ?_
    refine m_getr S hW hX.sp.1 3 rfl (j := 20) rfl kX10 (iW10 _) (by decide) (List.mem_cons_of_mem _ (wa_2 _ (List.mem_of_getElem? (i := 8) (by decide +kernel)))) dX10_asks_11 ?_
    refine lv_iload_n hx hb dX10_asks_14 rfl (lv_at hl 4 rfl) ?_
    refine m_crp (m_rV S hW (c_X4_goodAt l G ad sh V 20 (110 + 3 * gRl q) ((gT q (gRl q)).2.1) ((gT q (gRl q)).2.2) ((gT q (gRl q)).1.length) (gNe q) (gNg q) y hX.sz.1 hX.sz.2.1) (cwV 1 hts (gCall [.methodLink RX10 124 yX4_goodAt, .instanceMethod yX4_goodAt, .selects RX4 yX4_goodAt yX4_goodAt, .initialized RX4] (List.forall_mem_cons.mpr ⟨(wa_17 _ (List.mem_of_getElem? (i := 13) (by decide +kernel))), (List.forall_mem_cons.mpr ⟨(wa_17 _ (List.mem_of_getElem? (i := 10) (by decide +kernel))), (List.forall_mem_cons.mpr ⟨(wa_17 _ (List.mem_of_getElem? (i := 11) (by decide +kernel))), (List.forall_mem_cons.mpr ⟨(wa_17 _ (List.mem_of_getElem? (i := 12) (by decide +kernel))), (List.forall_mem_cons.mpr ⟨(wa_2 _ (List.mem_of_getElem? (i := 7) (by decide +kernel))), (fun _ h => absurd h List.not_mem_nil)⟩)⟩)⟩)⟩)⟩)) rfl rfl rfl (by decide +kernel) ⟨Nat.le_of_ble_eq_true rfl, Nat.le_of_ble_eq_true rfl⟩) hX.sz.1.1 kX4 rfl hl.1 rfl (Nat.le_of_ble_eq_true rfl) dX10_asks_15 ⟨Nat.le_of_ble_eq_true rfl, Nat.le_of_ble_eq_true rfl⟩) hW (fun r_8 H locs hp_7 hW => ?_)
    rcases hp_7 with ⟨n_9, rfl, hxn_10, hn_11⟩ | ⟨rfl, hx0_12⟩
    · skip
      refine W.eq (g2 := F0 m 18 ls [.ref (ad (20 + 10 + 2 * n_9))]) rfl ?_
      have hpy : mIn y 0 (gNg q) := by rw [hxn_10]; exact (mIn_nI (by have := hX.ne5; have := hX.ng6; omega)).mpr ⟨Nat.zero_le _, hn_11⟩
      have hcy : y.toNatClampNeg = n_9 := by rw [hxn_10]; exact nI_clamp (by have := hX.ne5; have := hX.ng6; omega)
      refine lv_astore (lv' := [(6, .ref (ad (20 + 10 + 2 * n_9))), (5, .ref (ad (20 + 4 + n_3))), (0, .ref (ad 0)), (1, .int pt), (2, .int x), (3, .int y), (4, .int cw)]) hx hb dX10_asks_18 hl (by decide) rfl (fun ls hl => ?_)
      refine lv_iload_n hx hb dX10_asks_20 rfl (lv_at hl 3 rfl) ?_
      refine lv_iconst (v := nI 0) hx hb dX10_asks_21 (by decide) ?_
      refine lv_iconst (v := nI 2) hx hb dX10_asks_22 (by decide) ?_
      refine m_cip (m_rS S hW (c_X10_within l G ad sh V pt 0 2 (by first | assumption | omega) (by first | assumption | omega)) (va_cwS 3 hts (gCall [.methodLink RX10 102 yX10_within, .static yX10_within, .initialized RX10] (List.forall_mem_cons.mpr ⟨(wa_8 _ (List.mem_of_getElem? (i := 17) (by decide +kernel))), (List.forall_mem_cons.mpr ⟨(wa_15 _ (List.mem_of_getElem? (i := 8) (by decide +kernel))), (List.forall_mem_cons.mpr ⟨(wa_8 _ (List.mem_of_getElem? (i := 16) (by decide +kernel))), (List.forall_mem_cons.mpr ⟨(wa_1 _ (List.mem_of_getElem? (i := 2) (by decide +kernel))), (fun _ h => absurd h List.not_mem_nil)⟩)⟩)⟩)⟩)) rfl rfl rfl (by decide +kernel) ⟨Nat.le_of_ble_eq_true rfl, Nat.le_of_ble_eq_true rfl⟩) rfl hl.1 rfl (Nat.le_of_ble_eq_true rfl) dX10_asks_23 ⟨Nat.le_of_ble_eq_true rfl, Nat.le_of_ble_eq_true rfl⟩) hW (fun r_14 H locs hp_13 hW => ?_)
      rcases hp_13 with ⟨rfl, w_15⟩ | ⟨rfl, w_16⟩
      · skip
        obtain ⟨npt, hnpt, -, hlnpt⟩ := w_15.ex
        have hcpt : pt.toNatClampNeg = npt := by rw [hnpt]; exact nI_clamp (by omega)
        refine m_if_eq (tgt := 51) hx hb dX10_asks_26 (by decide) (fun c_17 => ?_) (fun c_17 => ?_)
        · exact absurd c_17 (by decide)
        · skip
          refine lv_aload hx hb dX10_asks_29 (lv_at hl 1 rfl) ?_
          refine lv_ifnull hx hb dX10_asks_31 ?_
          refine lv_aload hx hb dX10_asks_34 (lv_at hl 0 rfl) ?_
          refine lv_ifnull hx hb dX10_asks_36 ?_
          refine lv_iload hx hb dX10_asks_39 (lv_at hl 6 rfl) ?_
          refine lv_iconst (v := nI 0) hx hb dX10_asks_41 (by decide) ?_
          refine lv_sipush (v := nI 1099) hx hb dX10_asks_42 (by decide) ?_
          refine m_cip (m_rS S hW (c_X10_within l G ad sh V cw 0 1099 (by first | assumption | omega) (by first | assumption | omega)) (va_cwS 3 hts (gCall [.methodLink RX10 102 yX10_within, .static yX10_within, .initialized RX10] (List.forall_mem_cons.mpr ⟨(wa_8 _ (List.mem_of_getElem? (i := 17) (by decide +kernel))), (List.forall_mem_cons.mpr ⟨(wa_15 _ (List.mem_of_getElem? (i := 8) (by decide +kernel))), (List.forall_mem_cons.mpr ⟨(wa_8 _ (List.mem_of_getElem? (i := 16) (by decide +kernel))), (List.forall_mem_cons.mpr ⟨(wa_1 _ (List.mem_of_getElem? (i := 2) (by decide +kernel))), (fun _ h => absurd h List.not_mem_nil)⟩)⟩)⟩)⟩)) rfl rfl rfl (by decide +kernel) ⟨Nat.le_of_ble_eq_true rfl, Nat.le_of_ble_eq_true rfl⟩) rfl hl.1 rfl (Nat.le_of_ble_eq_true rfl) dX10_asks_45 ⟨Nat.le_of_ble_eq_true rfl, Nat.le_of_ble_eq_true rfl⟩) hW (fun r_19 H locs hp_18 hW => ?_)
          rcases hp_18 with ⟨rfl, w_20⟩ | ⟨rfl, w_21⟩
          · skip
            obtain ⟨ncw, hncw, -, hlncw⟩ := w_20.ex
            have hccw : cw.toNatClampNeg = ncw := by rw [hncw]; exact nI_clamp (by omega)
            refine m_if_ne (tgt := 54) hx hb dX10_asks_48 (by decide) (fun c_22 => ?_) (fun c_22 => ?_)
            · skip
              refine lv_aload_n hx hb dX10_asks_54 rfl (lv_at hl 2 rfl) ?_
              refine m_getr S hW hX.sp.1 3 rfl (j := 20) rfl kX10 (iW10 _) (by decide) (List.mem_cons_of_mem _ (wa_2 _ (List.mem_of_getElem? (i := 8) (by decide +kernel)))) dX10_asks_55 ?_
              refine lv_iload_n hx hb dX10_asks_58 rfl (lv_at hl 3 rfl) ?_
              refine m_top (y := nI npt) hnpt ?_
              refine lv_aload hx hb dX10_asks_59 (lv_at hl 1 rfl) ?_
              refine lv_aload hx hb dX10_asks_61 (lv_at hl 0 rfl) ?_
              refine lv_iload hx hb dX10_asks_63 (lv_at hl 6 rfl) ?_
              refine m_top (y := nI ncw) hncw ?_
              refine lv_bipush (v := nI 100) hx hb dX10_asks_65 (by decide) ?_
              refine lv_idiv hx hb dX10_asks_67 (by decide) ?_
              refine m_top (y := nI (ncw / 100)) (pk_div (by omega) (by omega) (by omega)) ?_
              refine lv_iload hx hb dX10_asks_68 (lv_at hl 6 rfl) ?_
              refine m_top (y := nI ncw) hncw ?_
              refine lv_bipush (v := nI 100) hx hb dX10_asks_70 (by decide) ?_
              refine lv_irem hx hb dX10_asks_72 (by decide) ?_
              refine m_top (y := nI (ncw % 100)) (pk_rem (by omega) (by omega) (by omega)) ?_
              refine m_cie (m_rV S hW (c_X4_said l G ad sh V 20 (110 + 3 * gRl q) ((gT q (gRl q)).2.1) ((gT q (gRl q)).2.2) ((gT q (gRl q)).1.length) (gNe q) (gNg q) (20 + 4 + n_3) (20 + 10 + 2 * n_9) npt (nI (ncw / 100)) (nI (ncw % 100)) hX.sz.1 hX.sz.2.1 hX.sz.2.2.1 (hX.sz.sE hn_5) (hX.sz.sG hn_11) (hX.sz.sW hn_11) (by omega)) (cwV 5 hts (gCall [.methodLink RX10 128 yX4_said, .instanceMethod yX4_said, .selects RX4 yX4_said yX4_said, .initialized RX4] (List.forall_mem_cons.mpr ⟨(wa_17 _ (List.mem_of_getElem? (i := 18) (by decide +kernel))), (List.forall_mem_cons.mpr ⟨(wa_17 _ (List.mem_of_getElem? (i := 15) (by decide +kernel))), (List.forall_mem_cons.mpr ⟨(wa_17 _ (List.mem_of_getElem? (i := 16) (by decide +kernel))), (List.forall_mem_cons.mpr ⟨(wa_17 _ (List.mem_of_getElem? (i := 17) (by decide +kernel))), (List.forall_mem_cons.mpr ⟨(wa_2 _ (List.mem_of_getElem? (i := 7) (by decide +kernel))), (fun _ h => absurd h List.not_mem_nil)⟩)⟩)⟩)⟩)⟩)) rfl rfl rfl (by decide +kernel) ⟨Nat.le_of_ble_eq_true rfl, Nat.le_of_ble_eq_true rfl⟩) hX.sz.1.1 kX4 rfl hl.1 rfl (Nat.le_of_ble_eq_true rfl) dX10_asks_73 ⟨Nat.le_of_ble_eq_true rfl, Nat.le_of_ble_eq_true rfl⟩) hW (fun H locs hW => ?_)
              exact m_iret S hr hlk hW dX10_asks_76 ⟨rfl, (by simp only [aAsks, if_pos hpx, hcx, if_pos hpy, hcy, if_pos w_15, hcpt, if_pos w_20, hccw]; exact (hX.vAs hn_5 hn_11 _ _ _).symm)⟩
            · exact absurd c_22 (by decide)
          · skip
            refine m_if_ne (tgt := 54) hx hb dX10_asks_48 (by decide) (fun c_23 => ?_) (fun c_23 => ?_)
            · exact absurd c_23 (by decide)
            · skip
              refine lv_bipush (v := -2) hx hb dX10_asks_51 (by decide) ?_
              exact m_iret S hr hlk hW dX10_asks_53 ⟨rfl, (by simp only [aAsks, if_pos hpx, hcx, if_pos hpy, hcy, if_pos w_15, hcpt, if_neg w_21]; try rfl)⟩
      · skip
        refine m_if_eq (tgt := 51) hx hb dX10_asks_26 (by decide) (fun c_24 => ?_) (fun c_24 => ?_)
        · skip
          refine lv_bipush (v := -2) hx hb dX10_asks_51 (by decide) ?_
          exact m_iret S hr hlk hW dX10_asks_53 ⟨rfl, (by simp only [aAsks, if_pos hpx, hcx, if_pos hpy, hcy, if_neg w_16]; try rfl)⟩
        · exact absurd c_24 (by decide)
    · skip
      refine W.eq (g2 := F0 m 18 ls [.null]) rfl ?_
      refine lv_astoreN (lv' := [(6, .null), (5, .ref (ad (20 + 4 + n_3))), (0, .ref (ad 0)), (1, .int pt), (2, .int x), (3, .int y), (4, .int cw)]) hx hb dX10_asks_18 hl (by decide) rfl (fun ls hl => ?_)
      refine lv_iload_n hx hb dX10_asks_20 rfl (lv_at hl 3 rfl) ?_
      refine lv_iconst (v := nI 0) hx hb dX10_asks_21 (by decide) ?_
      refine lv_iconst (v := nI 2) hx hb dX10_asks_22 (by decide) ?_
      refine m_cip (m_rS S hW (c_X10_within l G ad sh V pt 0 2 (by first | assumption | omega) (by first | assumption | omega)) (va_cwS 3 hts (gCall [.methodLink RX10 102 yX10_within, .static yX10_within, .initialized RX10] (List.forall_mem_cons.mpr ⟨(wa_8 _ (List.mem_of_getElem? (i := 17) (by decide +kernel))), (List.forall_mem_cons.mpr ⟨(wa_15 _ (List.mem_of_getElem? (i := 8) (by decide +kernel))), (List.forall_mem_cons.mpr ⟨(wa_8 _ (List.mem_of_getElem? (i := 16) (by decide +kernel))), (List.forall_mem_cons.mpr ⟨(wa_1 _ (List.mem_of_getElem? (i := 2) (by decide +kernel))), (fun _ h => absurd h List.not_mem_nil)⟩)⟩)⟩)⟩)) rfl rfl rfl (by decide +kernel) ⟨Nat.le_of_ble_eq_true rfl, Nat.le_of_ble_eq_true rfl⟩) rfl hl.1 rfl (Nat.le_of_ble_eq_true rfl) dX10_asks_23 ⟨Nat.le_of_ble_eq_true rfl, Nat.le_of_ble_eq_true rfl⟩) hW (fun r_26 H locs hp_25 hW => ?_)
      rcases hp_25 with ⟨rfl, w_27⟩ | ⟨rfl, w_28⟩
      · skip
        obtain ⟨npt, hnpt, -, hlnpt⟩ := w_27.ex
        have hcpt : pt.toNatClampNeg = npt := by rw [hnpt]; exact nI_clamp (by omega)
        refine m_if_eq (tgt := 51) hx hb dX10_asks_26 (by decide) (fun c_29 => ?_) (fun c_29 => ?_)
        · exact absurd c_29 (by decide)
        · skip
          refine lv_aload hx hb dX10_asks_29 (lv_at hl 1 rfl) ?_
          refine lv_ifnull hx hb dX10_asks_31 ?_
          refine lv_aloadN hx hb dX10_asks_34 (lv_at hl 0 rfl) ?_
          refine lv_ifnullN (tgt := 51) hx hb dX10_asks_36 (by decide) ?_
          refine lv_bipush (v := -2) hx hb dX10_asks_51 (by decide) ?_
          exact m_iret S hr hlk hW dX10_asks_53 ⟨rfl, (by simp only [aAsks, if_pos hpx, hcx, if_neg hx0_12, if_pos w_27, hcpt]; try rfl)⟩
      · skip
        refine m_if_eq (tgt := 51) hx hb dX10_asks_26 (by decide) (fun c_30 => ?_) (fun c_30 => ?_)
        · skip
          refine lv_bipush (v := -2) hx hb dX10_asks_51 (by decide) ?_
          exact m_iret S hr hlk hW dX10_asks_53 ⟨rfl, (by simp only [aAsks, if_pos hpx, hcx, if_neg hx0_12, if_neg w_28]; try rfl)⟩
        · exact absurd c_30 (by decide)
  · skip
    refine W.eq (g2 := F0 m 8 ls [.null]) rfl ?_
    refine lv_astoreN (lv' := [(5, .null), (0, .ref (ad 0)), (1, .int pt), (2, .int x), (3, .int y), (4, .int cw)]) hx hb dX10_asks_8 hl (by decide) rfl (fun ls hl => ?_)
    refine lv_aload_n hx hb dX10_asks_10 rfl (lv_at hl 1 rfl) ?_
    refine m_getr S hW hX.sp.1 3 rfl (j := 20) rfl kX10 (iW10 _) (by decide) (List.mem_cons_of_mem _ (wa_2 _ (List.mem_of_getElem? (i := 8) (by decide +kernel)))) dX10_asks_11 ?_
    refine lv_iload_n hx hb dX10_asks_14 rfl (lv_at hl 4 rfl) ?_
    refine m_crp (m_rV S hW (c_X4_goodAt l G ad sh V 20 (110 + 3 * gRl q) ((gT q (gRl q)).2.1) ((gT q (gRl q)).2.2) ((gT q (gRl q)).1.length) (gNe q) (gNg q) y hX.sz.1 hX.sz.2.1) (cwV 1 hts (gCall [.methodLink RX10 124 yX4_goodAt, .instanceMethod yX4_goodAt, .selects RX4 yX4_goodAt yX4_goodAt, .initialized RX4] (List.forall_mem_cons.mpr ⟨(wa_17 _ (List.mem_of_getElem? (i := 13) (by decide +kernel))), (List.forall_mem_cons.mpr ⟨(wa_17 _ (List.mem_of_getElem? (i := 10) (by decide +kernel))), (List.forall_mem_cons.mpr ⟨(wa_17 _ (List.mem_of_getElem? (i := 11) (by decide +kernel))), (List.forall_mem_cons.mpr ⟨(wa_17 _ (List.mem_of_getElem? (i := 12) (by decide +kernel))), (List.forall_mem_cons.mpr ⟨(wa_2 _ (List.mem_of_getElem? (i := 7) (by decide +kernel))), (fun _ h => absurd h List.not_mem_nil)⟩)⟩)⟩)⟩)⟩)) rfl rfl rfl (by decide +kernel) ⟨Nat.le_of_ble_eq_true rfl, Nat.le_of_ble_eq_true rfl⟩) hX.sz.1.1 kX4 rfl hl.1 rfl (Nat.le_of_ble_eq_true rfl) dX10_asks_15 ⟨Nat.le_of_ble_eq_true rfl, Nat.le_of_ble_eq_true rfl⟩) hW (fun r_32 H locs hp_31 hW => ?_)
    rcases hp_31 with ⟨n_33, rfl, hxn_34, hn_35⟩ | ⟨rfl, hx0_36⟩
    · skip
      refine W.eq (g2 := F0 m 18 ls [.ref (ad (20 + 10 + 2 * n_33))]) rfl ?_
      have hpy : mIn y 0 (gNg q) := by rw [hxn_34]; exact (mIn_nI (by have := hX.ne5; have := hX.ng6; omega)).mpr ⟨Nat.zero_le _, hn_35⟩
      have hcy : y.toNatClampNeg = n_33 := by rw [hxn_34]; exact nI_clamp (by have := hX.ne5; have := hX.ng6; omega)
      refine lv_astore (lv' := [(6, .ref (ad (20 + 10 + 2 * n_33))), (5, .null), (0, .ref (ad 0)), (1, .int pt), (2, .int x), (3, .int y), (4, .int cw)]) hx hb dX10_asks_18 hl (by decide) rfl (fun ls hl => ?_)
      refine lv_iload_n hx hb dX10_asks_20 rfl (lv_at hl 3 rfl) ?_
      refine lv_iconst (v := nI 0) hx hb dX10_asks_21 (by decide) ?_
      refine lv_iconst (v := nI 2) hx hb dX10_asks_22 (by decide) ?_
      refine m_cip (m_rS S hW (c_X10_within l G ad sh V pt 0 2 (by first | assumption | omega) (by first | assumption | omega)) (va_cwS 3 hts (gCall [.methodLink RX10 102 yX10_within, .static yX10_within, .initialized RX10] (List.forall_mem_cons.mpr ⟨(wa_8 _ (List.mem_of_getElem? (i := 17) (by decide +kernel))), (List.forall_mem_cons.mpr ⟨(wa_15 _ (List.mem_of_getElem? (i := 8) (by decide +kernel))), (List.forall_mem_cons.mpr ⟨(wa_8 _ (List.mem_of_getElem? (i := 16) (by decide +kernel))), (List.forall_mem_cons.mpr ⟨(wa_1 _ (List.mem_of_getElem? (i := 2) (by decide +kernel))), (fun _ h => absurd h List.not_mem_nil)⟩)⟩)⟩)⟩)) rfl rfl rfl (by decide +kernel) ⟨Nat.le_of_ble_eq_true rfl, Nat.le_of_ble_eq_true rfl⟩) rfl hl.1 rfl (Nat.le_of_ble_eq_true rfl) dX10_asks_23 ⟨Nat.le_of_ble_eq_true rfl, Nat.le_of_ble_eq_true rfl⟩) hW (fun r_38 H locs hp_37 hW => ?_)
      rcases hp_37 with ⟨rfl, w_39⟩ | ⟨rfl, w_40⟩
      · skip
        obtain ⟨npt, hnpt, -, hlnpt⟩ := w_39.ex
        have hcpt : pt.toNatClampNeg = npt := by rw [hnpt]; exact nI_clamp (by omega)
        refine m_if_eq (tgt := 51) hx hb dX10_asks_26 (by decide) (fun c_41 => ?_) (fun c_41 => ?_)
        · exact absurd c_41 (by decide)
        · skip
          refine lv_aloadN hx hb dX10_asks_29 (lv_at hl 1 rfl) ?_
          refine lv_ifnullN (tgt := 51) hx hb dX10_asks_31 (by decide) ?_
          refine lv_bipush (v := -2) hx hb dX10_asks_51 (by decide) ?_
          exact m_iret S hr hlk hW dX10_asks_53 ⟨rfl, (by simp only [aAsks, if_neg hx0_6, if_pos hpy, hcy, if_pos w_39, hcpt]; try rfl)⟩
      · skip
        refine m_if_eq (tgt := 51) hx hb dX10_asks_26 (by decide) (fun c_42 => ?_) (fun c_42 => ?_)
        · skip
          refine lv_bipush (v := -2) hx hb dX10_asks_51 (by decide) ?_
          exact m_iret S hr hlk hW dX10_asks_53 ⟨rfl, (by simp only [aAsks, if_neg hx0_6, if_pos hpy, hcy, if_neg w_40]; try rfl)⟩
        · exact absurd c_42 (by decide)
    · skip
      refine W.eq (g2 := F0 m 18 ls [.null]) rfl ?_
      refine lv_astoreN (lv' := [(6, .null), (5, .null), (0, .ref (ad 0)), (1, .int pt), (2, .int x), (3, .int y), (4, .int cw)]) hx hb dX10_asks_18 hl (by decide) rfl (fun ls hl => ?_)
      refine lv_iload_n hx hb dX10_asks_20 rfl (lv_at hl 3 rfl) ?_
      refine lv_iconst (v := nI 0) hx hb dX10_asks_21 (by decide) ?_
      refine lv_iconst (v := nI 2) hx hb dX10_asks_22 (by decide) ?_
      refine m_cip (m_rS S hW (c_X10_within l G ad sh V pt 0 2 (by first | assumption | omega) (by first | assumption | omega)) (va_cwS 3 hts (gCall [.methodLink RX10 102 yX10_within, .static yX10_within, .initialized RX10] (List.forall_mem_cons.mpr ⟨(wa_8 _ (List.mem_of_getElem? (i := 17) (by decide +kernel))), (List.forall_mem_cons.mpr ⟨(wa_15 _ (List.mem_of_getElem? (i := 8) (by decide +kernel))), (List.forall_mem_cons.mpr ⟨(wa_8 _ (List.mem_of_getElem? (i := 16) (by decide +kernel))), (List.forall_mem_cons.mpr ⟨(wa_1 _ (List.mem_of_getElem? (i := 2) (by decide +kernel))), (fun _ h => absurd h List.not_mem_nil)⟩)⟩)⟩)⟩)) rfl rfl rfl (by decide +kernel) ⟨Nat.le_of_ble_eq_true rfl, Nat.le_of_ble_eq_true rfl⟩) rfl hl.1 rfl (Nat.le_of_ble_eq_true rfl) dX10_asks_23 ⟨Nat.le_of_ble_eq_true rfl, Nat.le_of_ble_eq_true rfl⟩) hW (fun r_44 H locs hp_43 hW => ?_)
      rcases hp_43 with ⟨rfl, w_45⟩ | ⟨rfl, w_46⟩
      · skip
        obtain ⟨npt, hnpt, -, hlnpt⟩ := w_45.ex
        have hcpt : pt.toNatClampNeg = npt := by rw [hnpt]; exact nI_clamp (by omega)
        refine m_if_eq (tgt := 51) hx hb dX10_asks_26 (by decide) (fun c_47 => ?_) (fun c_47 => ?_)
        · exact absurd c_47 (by decide)
        · skip
          refine lv_aloadN hx hb dX10_asks_29 (lv_at hl 1 rfl) ?_
          refine lv_ifnullN (tgt := 51) hx hb dX10_asks_31 (by decide) ?_
          refine lv_bipush (v := -2) hx hb dX10_asks_51 (by decide) ?_
          exact m_iret S hr hlk hW dX10_asks_53 ⟨rfl, (by simp only [aAsks, if_neg hx0_6, if_neg hx0_36, if_pos w_45, hcpt]; try rfl)⟩
      · skip
        refine m_if_eq (tgt := 51) hx hb dX10_asks_26 (by decide) (fun c_48 => ?_) (fun c_48 => ?_)
        · skip
          refine lv_bipush (v := -2) hx hb dX10_asks_51 (by decide) ?_
          exact m_iret S hr hlk hW dX10_asks_53 ⟨rfl, (by simp only [aAsks, if_neg hx0_6, if_neg hx0_36, if_neg w_46]; try rfl)⟩
        · exact absurd c_48 (by decide)
set_option maxHeartbeats 4000000 in
set_option maxRecDepth 100000 in
theorem c_X10_mark (l : Launch) (G : mG) (ad : Nat → Nat) (sh : Nat → Option mSh) (V : mV) (q : Sg) (x y pl w : Int32) (hX : XI sh V q) : mM l yX10_mark wsX10_mark ({ frames := 4, cells := 0, slots := 0, locals := 140 } : Room) G ad sh V [.ref (ad 0), .int x, .int y, .int pl, .int w] 0 0 (mPe ad sh V (aMark q x y pl w)) := by
  refine mM.of (cc := cX10_mark) (maxL := 8) (ret := (some .int)) (by decide) rfl (Nat.le_of_ble_eq_true rfl) ?_
  intro p e s m below meth c S hr hlk hnm hW ls hl
  obtain ⟨hx, hb, hml, hown, hts⟩ := id S
  have hl : lv_has ls 8 [(0, .ref (ad 0)), (1, .int x), (2, .int y), (3, .int pl), (4, .int w)] := hl
  have hS0 : True := trivial
  have hne5 := hX.ne5
  have hng6 := hX.ng6
  have htn := hX.tn
  refine lv_aload_n hx hb dX10_mark_0 rfl (lv_at hl 0 rfl) ?_
  refine m_getr S hW hX.sp.1 3 rfl (j := 20) rfl kX10 (iW10 _) (by decide) (List.mem_cons_of_mem _ (wa_2 _ (List.mem_of_getElem? (i := 8) (by decide +kernel)))) dX10_mark_1 ?_
  refine lv_iload_n hx hb dX10_mark_4 rfl (lv_at hl 1 rfl) ?_
  refine m_crp (m_rV S hW (c_X4_eaterAt l G ad sh V 20 (110 + 3 * gRl q) ((gT q (gRl q)).2.1) ((gT q (gRl q)).2.2) ((gT q (gRl q)).1.length) (gNe q) (gNg q) x hX.sz.1 hX.sz.2.1) (cwV 1 hts (gCall [.methodLink RX10 120 yX4_eaterAt, .instanceMethod yX4_eaterAt, .selects RX4 yX4_eaterAt yX4_eaterAt, .initialized RX4] (List.forall_mem_cons.mpr ⟨(wa_17 _ (List.mem_of_getElem? (i := 8) (by decide +kernel))), (List.forall_mem_cons.mpr ⟨(wa_17 _ (List.mem_of_getElem? (i := 5) (by decide +kernel))), (List.forall_mem_cons.mpr ⟨(wa_17 _ (List.mem_of_getElem? (i := 6) (by decide +kernel))), (List.forall_mem_cons.mpr ⟨(wa_17 _ (List.mem_of_getElem? (i := 7) (by decide +kernel))), (List.forall_mem_cons.mpr ⟨(wa_2 _ (List.mem_of_getElem? (i := 7) (by decide +kernel))), (fun _ h => absurd h List.not_mem_nil)⟩)⟩)⟩)⟩)⟩)) rfl rfl rfl (by decide +kernel) ⟨Nat.le_of_ble_eq_true rfl, Nat.le_of_ble_eq_true rfl⟩) hX.sz.1.1 kX4 rfl hl.1 rfl (Nat.le_of_ble_eq_true rfl) dX10_mark_5 ⟨Nat.le_of_ble_eq_true rfl, Nat.le_of_ble_eq_true rfl⟩) hW (fun r_2 H locs hp_1 hW => ?_)
  rcases hp_1 with ⟨n_3, rfl, hxn_4, hn_5⟩ | ⟨rfl, hx0_6⟩
  · skip
    refine W.eq (g2 := F0 m 8 ls [.ref (ad (20 + 4 + n_3))]) rfl ?_
    have hpx : mIn x 0 (gNe q) := by rw [hxn_4]; exact (mIn_nI (by have := hX.ne5; have := hX.ng6; omega)).mpr ⟨Nat.zero_le _, hn_5⟩
    have hcx : x.toNatClampNeg = n_3 := by rw [hxn_4]; exact nI_clamp (by have := hX.ne5; have := hX.ng6; omega)
    refine lv_astore (lv' := [(5, .ref (ad (20 + 4 + n_3))), (0, .ref (ad 0)), (1, .int x), (2, .int y), (3, .int pl), (4, .int w)]) hx hb dX10_mark_8 hl (by decide) rfl (fun ls hl => ?_)
    refine lv_aload_n hx hb dX10_mark_10 rfl (lv_at hl 1 rfl) ?_
    refine m_getr S hW hX.sp.1 3 rfl (j := 20) rfl kX10 (iW10 _) (by decide) (List.mem_cons_of_mem _ (wa_2 _ (List.mem_of_getElem? (i := 8) (by decide +kernel)))) dX10_mark_11 ?_
    refine lv_iload_n hx hb dX10_mark_14 rfl (lv_at hl 3 rfl) ?_
    refine m_crp (m_rV S hW (c_X4_goodAt l G ad sh V 20 (110 + 3 * gRl q) ((gT q (gRl q)).2.1) ((gT q (gRl q)).2.2) ((gT q (gRl q)).1.length) (gNe q) (gNg q) y hX.sz.1 hX.sz.2.1) (cwV 1 hts (gCall [.methodLink RX10 124 yX4_goodAt, .instanceMethod yX4_goodAt, .selects RX4 yX4_goodAt yX4_goodAt, .initialized RX4] (List.forall_mem_cons.mpr ⟨(wa_17 _ (List.mem_of_getElem? (i := 13) (by decide +kernel))), (List.forall_mem_cons.mpr ⟨(wa_17 _ (List.mem_of_getElem? (i := 10) (by decide +kernel))), (List.forall_mem_cons.mpr ⟨(wa_17 _ (List.mem_of_getElem? (i := 11) (by decide +kernel))), (List.forall_mem_cons.mpr ⟨(wa_17 _ (List.mem_of_getElem? (i := 12) (by decide +kernel))), (List.forall_mem_cons.mpr ⟨(wa_2 _ (List.mem_of_getElem? (i := 7) (by decide +kernel))), (fun _ h => absurd h List.not_mem_nil)⟩)⟩)⟩)⟩)⟩)) rfl rfl rfl (by decide +kernel) ⟨Nat.le_of_ble_eq_true rfl, Nat.le_of_ble_eq_true rfl⟩) hX.sz.1.1 kX4 rfl hl.1 rfl (Nat.le_of_ble_eq_true rfl) dX10_mark_15 ⟨Nat.le_of_ble_eq_true rfl, Nat.le_of_ble_eq_true rfl⟩) hW (fun r_8 H locs hp_7 hW => ?_)
    rcases hp_7 with ⟨n_9, rfl, hxn_10, hn_11⟩ | ⟨rfl, hx0_12⟩
    · skip
      refine W.eq (g2 := F0 m 18 ls [.ref (ad (20 + 10 + 2 * n_9))]) rfl ?_
      have hpy : mIn y 0 (gNg q) := by rw [hxn_10]; exact (mIn_nI (by have := hX.ne5; have := hX.ng6; omega)).mpr ⟨Nat.zero_le _, hn_11⟩
      have hcy : y.toNatClampNeg = n_9 := by rw [hxn_10]; exact nI_clamp (by have := hX.ne5; have := hX.ng6; omega)
      refine lv_astore (lv' := [(6, .ref (ad (20 + 10 + 2 * n_9))), (5, .ref (ad (20 + 4 + n_3))), (0, .ref (ad 0)), (1, .int x), (2, .int y), (3, .int pl), (4, .int w)]) hx hb dX10_mark_18 hl (by decide) rfl (fun ls hl => ?_)
      refine lv_aload hx hb dX10_mark_20 (lv_at hl 1 rfl) ?_
      refine lv_ifnull hx hb dX10_mark_22 ?_
      refine lv_aload hx hb dX10_mark_25 (lv_at hl 0 rfl) ?_
      refine lv_ifnonnull (tgt := 33) hx hb dX10_mark_27 (by decide) ?_
      refine lv_iload_n hx hb dX10_mark_33 rfl (lv_at hl 5 rfl) ?_
      refine m_cip (m_rS S hW (c_X10_isPlace l G ad sh V pl) (va_cwS 1 hts (gCall [.methodLink RX10 173 yX10_isPlace, .static yX10_isPlace, .initialized RX10] (List.forall_mem_cons.mpr ⟨(wa_25 _ (List.mem_of_getElem? (i := 3) (by decide +kernel))), (List.forall_mem_cons.mpr ⟨(wa_25 _ (List.mem_of_getElem? (i := 1) (by decide +kernel))), (List.forall_mem_cons.mpr ⟨(wa_25 _ (List.mem_of_getElem? (i := 2) (by decide +kernel))), (List.forall_mem_cons.mpr ⟨(wa_1 _ (List.mem_of_getElem? (i := 2) (by decide +kernel))), (fun _ h => absurd h List.not_mem_nil)⟩)⟩)⟩)⟩)) rfl rfl rfl (by decide +kernel) ⟨Nat.le_of_ble_eq_true rfl, Nat.le_of_ble_eq_true rfl⟩) rfl hl.1 rfl (Nat.le_of_ble_eq_true rfl) dX10_mark_34 ⟨Nat.le_of_ble_eq_true rfl, Nat.le_of_ble_eq_true rfl⟩) hW (fun r_14 H locs hp_13 hW => ?_)
      rcases hp_13 with ⟨rfl, w_15⟩ | ⟨rfl, w_16⟩
      · skip
        obtain ⟨npl, hnpl, -, hlnpl⟩ := w_15.ex
        have hcpl : pl.toNatClampNeg = npl := by rw [hnpl]; exact nI_clamp (by omega)
        refine m_if_eq (tgt := 50) hx hb dX10_mark_37 (by decide) (fun c_17 => ?_) (fun c_17 => ?_)
        · exact absurd c_17 (by decide)
        · skip
          refine lv_iload hx hb dX10_mark_40 (lv_at hl 6 rfl) ?_
          refine lv_iconst (v := nI 0) hx hb dX10_mark_42 (by decide) ?_
          refine lv_iconst (v := nI 2) hx hb dX10_mark_43 (by decide) ?_
          refine m_cip (m_rS S hW (c_X10_within l G ad sh V w 0 2 (by first | assumption | omega) (by first | assumption | omega)) (va_cwS 3 hts (gCall [.methodLink RX10 102 yX10_within, .static yX10_within, .initialized RX10] (List.forall_mem_cons.mpr ⟨(wa_8 _ (List.mem_of_getElem? (i := 17) (by decide +kernel))), (List.forall_mem_cons.mpr ⟨(wa_15 _ (List.mem_of_getElem? (i := 8) (by decide +kernel))), (List.forall_mem_cons.mpr ⟨(wa_8 _ (List.mem_of_getElem? (i := 16) (by decide +kernel))), (List.forall_mem_cons.mpr ⟨(wa_1 _ (List.mem_of_getElem? (i := 2) (by decide +kernel))), (fun _ h => absurd h List.not_mem_nil)⟩)⟩)⟩)⟩)) rfl rfl rfl (by decide +kernel) ⟨Nat.le_of_ble_eq_true rfl, Nat.le_of_ble_eq_true rfl⟩) rfl hl.1 rfl (Nat.le_of_ble_eq_true rfl) dX10_mark_44 ⟨Nat.le_of_ble_eq_true rfl, Nat.le_of_ble_eq_true rfl⟩) hW (fun r_19 H locs hp_18 hW => ?_)
          rcases hp_18 with ⟨rfl, w_20⟩ | ⟨rfl, w_21⟩
          · skip
            refine m_if_ne (tgt := 53) hx hb dX10_mark_47 (by decide) (fun c_22 => ?_) (fun c_22 => ?_)
            · skip
              refine lv_aload hx hb dX10_mark_53 (lv_at hl 1 rfl) ?_
              refine lv_aload hx hb dX10_mark_55 (lv_at hl 0 rfl) ?_
              refine lv_iload_n hx hb dX10_mark_57 rfl (lv_at hl 5 rfl) ?_
              refine m_top (y := nI npl) hnpl ?_
              refine m_cie (m_rV S hW (c_X1_markOf l G ad sh V (20 + 4 + n_3) (20 + 10 + 2 * n_9) (nI npl) (hX.sz.sE hn_5) (hX.sz.sG hn_11) (hX.sz.sW hn_11)) (cwV 2 hts (gCall [.methodLink RX10 176 yX1_markOf, .instanceMethod yX1_markOf, .selects RX1 yX1_markOf yX1_markOf, .initialized RX1] (List.forall_mem_cons.mpr ⟨(wa_25 _ (List.mem_of_getElem? (i := 7) (by decide +kernel))), (List.forall_mem_cons.mpr ⟨(wa_25 _ (List.mem_of_getElem? (i := 4) (by decide +kernel))), (List.forall_mem_cons.mpr ⟨(wa_25 _ (List.mem_of_getElem? (i := 5) (by decide +kernel))), (List.forall_mem_cons.mpr ⟨(wa_25 _ (List.mem_of_getElem? (i := 6) (by decide +kernel))), (List.forall_mem_cons.mpr ⟨(wa_3 _ (List.mem_of_getElem? (i := 3) (by decide +kernel))), (fun _ h => absurd h List.not_mem_nil)⟩)⟩)⟩)⟩)⟩)) rfl rfl rfl (by decide +kernel) ⟨Nat.le_of_ble_eq_true rfl, Nat.le_of_ble_eq_true rfl⟩) (hX.sz.1.2.2.2.2.1 n_3 (Nat.lt_of_lt_of_le hn_5 hX.sz.2.1.2.2.1)) kX1 rfl hl.1 rfl (Nat.le_of_ble_eq_true rfl) dX10_mark_58 ⟨Nat.le_of_ble_eq_true rfl, Nat.le_of_ble_eq_true rfl⟩) hW (fun H locs hW => ?_)
              refine lv_istore (lv' := [(7, .int (fMark (fShape (V (20 + 4 + n_3) 0) (V (20 + 4 + n_3) 1) (V (20 + 4 + n_3) 2) (V (20 + 10 + 2 * n_9) 1)) (V (20 + 10 + 2 * n_9) 2) (nI npl))), (6, .ref (ad (20 + 10 + 2 * n_9))), (5, .ref (ad (20 + 4 + n_3))), (0, .ref (ad 0)), (1, .int x), (2, .int y), (3, .int pl), (4, .int w)]) hx hb dX10_mark_61 hl (by decide) rfl (fun ls hl => ?_)
              refine lv_iload hx hb dX10_mark_63 (lv_at hl 7 rfl) ?_
              refine m_if_ne (tgt := 71) hx hb dX10_mark_65 (by decide) (fun c_23 => ?_) (fun c_23 => ?_)
              · skip
                refine lv_iload hx hb dX10_mark_71 (lv_at hl 7 rfl) ?_
                refine lv_iconst (v := nI 1) hx hb dX10_mark_73 (by decide) ?_
                refine lv_icmp_ne (tgt := 93) hx hb dX10_mark_74 (by decide) (fun c_24 => ?_) (fun c_24 => ?_)
                · skip
                  refine lv_aload_n hx hb dX10_mark_93 rfl (lv_at hl 3 rfl) ?_
                  refine m_getr S hW hX.sp.1 3 rfl (j := 20) rfl kX10 (iW10 _) (by decide) (List.mem_cons_of_mem _ (wa_2 _ (List.mem_of_getElem? (i := 8) (by decide +kernel)))) dX10_mark_94 ?_
                  refine lv_aload hx hb dX10_mark_97 (lv_at hl 2 rfl) ?_
                  refine lv_aload hx hb dX10_mark_99 (lv_at hl 1 rfl) ?_
                  refine lv_iload hx hb dX10_mark_101 (lv_at hl 0 rfl) ?_
                  refine m_cie (m_rV S hW (c_X4_worthOf l G ad sh V 20 (110 + 3 * gRl q) ((gT q (gRl q)).2.1) ((gT q (gRl q)).2.2) ((gT q (gRl q)).1.length) (gNe q) (gNg q) (20 + 4 + n_3) (20 + 10 + 2 * n_9) (fMark (fShape (V (20 + 4 + n_3) 0) (V (20 + 4 + n_3) 1) (V (20 + 4 + n_3) 2) (V (20 + 10 + 2 * n_9) 1)) (V (20 + 10 + 2 * n_9) 2) (nI npl)) hX.sz.1 hX.sz.2.1 hX.sz.2.2.1 (hX.sz.sE hn_5) (hX.sz.sG hn_11) (hX.sz.sW hn_11)) (cwV 3 hts (gCall [.methodLink RX10 184 yX4_worthOf, .instanceMethod yX4_worthOf, .selects RX4 yX4_worthOf yX4_worthOf, .initialized RX4] (List.forall_mem_cons.mpr ⟨(wa_26 _ (List.mem_of_getElem? (i := 2) (by decide +kernel))), (List.forall_mem_cons.mpr ⟨(wa_25 _ (List.mem_of_getElem? (i := 23) (by decide +kernel))), (List.forall_mem_cons.mpr ⟨(wa_26 _ (List.mem_of_getElem? (i := 0) (by decide +kernel))), (List.forall_mem_cons.mpr ⟨(wa_26 _ (List.mem_of_getElem? (i := 1) (by decide +kernel))), (List.forall_mem_cons.mpr ⟨(wa_2 _ (List.mem_of_getElem? (i := 7) (by decide +kernel))), (fun _ h => absurd h List.not_mem_nil)⟩)⟩)⟩)⟩)⟩)) rfl rfl rfl (by decide +kernel) ⟨Nat.le_of_ble_eq_true rfl, Nat.le_of_ble_eq_true rfl⟩) hX.sz.1.1 kX4 rfl hl.1 rfl (Nat.le_of_ble_eq_true rfl) dX10_mark_103 ⟨Nat.le_of_ble_eq_true rfl, Nat.le_of_ble_eq_true rfl⟩) hW (fun H locs hW => ?_)
                  exact m_iret S hr hlk hW dX10_mark_106 ⟨rfl, (by simp only [aMark, if_pos hpx, hcx, if_pos hpy, hcy, if_pos w_15, hcpl, if_pos w_20, if_neg c_23, if_neg c_24]; rw [hX.vLi hn_5 hn_11, hX.vMk hn_5 hn_11])⟩
                · skip
                  refine lv_aload_n hx hb dX10_mark_77 rfl (lv_at hl 3 rfl) ?_
                  refine m_getr S hW hX.sp.1 3 rfl (j := 20) rfl kX10 (iW10 _) (by decide) (List.mem_cons_of_mem _ (wa_2 _ (List.mem_of_getElem? (i := 8) (by decide +kernel)))) dX10_mark_78 ?_
                  refine lv_aload hx hb dX10_mark_81 (lv_at hl 2 rfl) ?_
                  refine lv_aload hx hb dX10_mark_83 (lv_at hl 1 rfl) ?_
                  refine lv_iload hx hb dX10_mark_85 (lv_at hl 0 rfl) ?_
                  refine m_cie (m_rV S hW (c_X4_costOf l G ad sh V 20 (110 + 3 * gRl q) ((gT q (gRl q)).2.1) ((gT q (gRl q)).2.2) ((gT q (gRl q)).1.length) (gNe q) (gNg q) (20 + 4 + n_3) (20 + 10 + 2 * n_9) (fMark (fShape (V (20 + 4 + n_3) 0) (V (20 + 4 + n_3) 1) (V (20 + 4 + n_3) 2) (V (20 + 10 + 2 * n_9) 1)) (V (20 + 10 + 2 * n_9) 2) (nI npl)) hX.sz.1 hX.sz.2.1 hX.sz.2.2.1 (hX.sz.sE hn_5) (hX.sz.sG hn_11) (hX.sz.sW hn_11)) (cwV 3 hts (gCall [.methodLink RX10 180 yX4_costOf, .instanceMethod yX4_costOf, .selects RX4 yX4_costOf yX4_costOf, .initialized RX4] (List.forall_mem_cons.mpr ⟨(wa_25 _ (List.mem_of_getElem? (i := 13) (by decide +kernel))), (List.forall_mem_cons.mpr ⟨(wa_25 _ (List.mem_of_getElem? (i := 10) (by decide +kernel))), (List.forall_mem_cons.mpr ⟨(wa_25 _ (List.mem_of_getElem? (i := 11) (by decide +kernel))), (List.forall_mem_cons.mpr ⟨(wa_25 _ (List.mem_of_getElem? (i := 12) (by decide +kernel))), (List.forall_mem_cons.mpr ⟨(wa_2 _ (List.mem_of_getElem? (i := 7) (by decide +kernel))), (fun _ h => absurd h List.not_mem_nil)⟩)⟩)⟩)⟩)⟩)) rfl rfl rfl (by decide +kernel) ⟨Nat.le_of_ble_eq_true rfl, Nat.le_of_ble_eq_true rfl⟩) hX.sz.1.1 kX4 rfl hl.1 rfl (Nat.le_of_ble_eq_true rfl) dX10_mark_87 ⟨Nat.le_of_ble_eq_true rfl, Nat.le_of_ble_eq_true rfl⟩) hW (fun H locs hW => ?_)
                  refine lv_goto (tgt := 106) hx hb dX10_mark_90 (by decide) ?_
                  exact m_iret S hr hlk hW dX10_mark_106 ⟨rfl, (by simp only [aMark, if_pos hpx, hcx, if_pos hpy, hcy, if_pos w_15, hcpl, if_pos w_20, if_neg c_23, if_pos c_24]; rw [hX.vCo hn_5 hn_11, hX.vMk hn_5 hn_11])⟩
              · skip
                refine lv_iload hx hb dX10_mark_68 (lv_at hl 0 rfl) ?_
                exact m_iret S hr hlk hW dX10_mark_70 ⟨rfl, (by simp only [aMark, if_pos hpx, hcx, if_pos hpy, hcy, if_pos w_15, hcpl, if_pos w_20, if_pos c_23]; exact (hX.vMk hn_5 hn_11 _).symm)⟩
            · exact absurd c_22 (by decide)
          · skip
            refine m_if_ne (tgt := 53) hx hb dX10_mark_47 (by decide) (fun c_25 => ?_) (fun c_25 => ?_)
            · exact absurd c_25 (by decide)
            · skip
              refine lv_bipush (v := -7) hx hb dX10_mark_50 (by decide) ?_
              exact m_iret S hr hlk hW dX10_mark_52 ⟨rfl, (by simp only [aMark, if_pos hpx, hcx, if_pos hpy, hcy, if_pos w_15, hcpl, if_neg w_21]; try rfl)⟩
      · skip
        refine m_if_eq (tgt := 50) hx hb dX10_mark_37 (by decide) (fun c_26 => ?_) (fun c_26 => ?_)
        · skip
          refine lv_bipush (v := -7) hx hb dX10_mark_50 (by decide) ?_
          exact m_iret S hr hlk hW dX10_mark_52 ⟨rfl, (by simp only [aMark, if_pos hpx, hcx, if_pos hpy, hcy, if_neg w_16]; try rfl)⟩
        · exact absurd c_26 (by decide)
    · skip
      refine W.eq (g2 := F0 m 18 ls [.null]) rfl ?_
      refine lv_astoreN (lv' := [(6, .null), (5, .ref (ad (20 + 4 + n_3))), (0, .ref (ad 0)), (1, .int x), (2, .int y), (3, .int pl), (4, .int w)]) hx hb dX10_mark_18 hl (by decide) rfl (fun ls hl => ?_)
      refine lv_aload hx hb dX10_mark_20 (lv_at hl 1 rfl) ?_
      refine lv_ifnull hx hb dX10_mark_22 ?_
      refine lv_aloadN hx hb dX10_mark_25 (lv_at hl 0 rfl) ?_
      refine lv_ifnonnullN hx hb dX10_mark_27 ?_
      refine lv_bipush (v := -5) hx hb dX10_mark_30 (by decide) ?_
      exact m_iret S hr hlk hW dX10_mark_32 ⟨rfl, (by simp only [aMark, if_pos hpx, hcx, if_neg hx0_12]; try rfl)⟩
  · skip
    refine W.eq (g2 := F0 m 8 ls [.null]) rfl ?_
    refine lv_astoreN (lv' := [(5, .null), (0, .ref (ad 0)), (1, .int x), (2, .int y), (3, .int pl), (4, .int w)]) hx hb dX10_mark_8 hl (by decide) rfl (fun ls hl => ?_)
    refine lv_aload_n hx hb dX10_mark_10 rfl (lv_at hl 1 rfl) ?_
    refine m_getr S hW hX.sp.1 3 rfl (j := 20) rfl kX10 (iW10 _) (by decide) (List.mem_cons_of_mem _ (wa_2 _ (List.mem_of_getElem? (i := 8) (by decide +kernel)))) dX10_mark_11 ?_
    refine lv_iload_n hx hb dX10_mark_14 rfl (lv_at hl 3 rfl) ?_
    refine m_crp (m_rV S hW (c_X4_goodAt l G ad sh V 20 (110 + 3 * gRl q) ((gT q (gRl q)).2.1) ((gT q (gRl q)).2.2) ((gT q (gRl q)).1.length) (gNe q) (gNg q) y hX.sz.1 hX.sz.2.1) (cwV 1 hts (gCall [.methodLink RX10 124 yX4_goodAt, .instanceMethod yX4_goodAt, .selects RX4 yX4_goodAt yX4_goodAt, .initialized RX4] (List.forall_mem_cons.mpr ⟨(wa_17 _ (List.mem_of_getElem? (i := 13) (by decide +kernel))), (List.forall_mem_cons.mpr ⟨(wa_17 _ (List.mem_of_getElem? (i := 10) (by decide +kernel))), (List.forall_mem_cons.mpr ⟨(wa_17 _ (List.mem_of_getElem? (i := 11) (by decide +kernel))), (List.forall_mem_cons.mpr ⟨(wa_17 _ (List.mem_of_getElem? (i := 12) (by decide +kernel))), (List.forall_mem_cons.mpr ⟨(wa_2 _ (List.mem_of_getElem? (i := 7) (by decide +kernel))), (fun _ h => absurd h List.not_mem_nil)⟩)⟩)⟩)⟩)⟩)) rfl rfl rfl (by decide +kernel) ⟨Nat.le_of_ble_eq_true rfl, Nat.le_of_ble_eq_true rfl⟩) hX.sz.1.1 kX4 rfl hl.1 rfl (Nat.le_of_ble_eq_true rfl) dX10_mark_15 ⟨Nat.le_of_ble_eq_true rfl, Nat.le_of_ble_eq_true rfl⟩) hW (fun r_28 H locs hp_27 hW => ?_)
    rcases hp_27 with ⟨n_29, rfl, hxn_30, hn_31⟩ | ⟨rfl, hx0_32⟩
    · skip
      refine W.eq (g2 := F0 m 18 ls [.ref (ad (20 + 10 + 2 * n_29))]) rfl ?_
      have hpy : mIn y 0 (gNg q) := by rw [hxn_30]; exact (mIn_nI (by have := hX.ne5; have := hX.ng6; omega)).mpr ⟨Nat.zero_le _, hn_31⟩
      have hcy : y.toNatClampNeg = n_29 := by rw [hxn_30]; exact nI_clamp (by have := hX.ne5; have := hX.ng6; omega)
      refine lv_astore (lv' := [(6, .ref (ad (20 + 10 + 2 * n_29))), (5, .null), (0, .ref (ad 0)), (1, .int x), (2, .int y), (3, .int pl), (4, .int w)]) hx hb dX10_mark_18 hl (by decide) rfl (fun ls hl => ?_)
      refine lv_aloadN hx hb dX10_mark_20 (lv_at hl 1 rfl) ?_
      refine lv_ifnullN (tgt := 30) hx hb dX10_mark_22 (by decide) ?_
      refine lv_bipush (v := -5) hx hb dX10_mark_30 (by decide) ?_
      exact m_iret S hr hlk hW dX10_mark_32 ⟨rfl, (by simp only [aMark, if_neg hx0_6, if_pos hpy, hcy]; try rfl)⟩
    · skip
      refine W.eq (g2 := F0 m 18 ls [.null]) rfl ?_
      refine lv_astoreN (lv' := [(6, .null), (5, .null), (0, .ref (ad 0)), (1, .int x), (2, .int y), (3, .int pl), (4, .int w)]) hx hb dX10_mark_18 hl (by decide) rfl (fun ls hl => ?_)
      refine lv_aloadN hx hb dX10_mark_20 (lv_at hl 1 rfl) ?_
      refine lv_ifnullN (tgt := 30) hx hb dX10_mark_22 (by decide) ?_
      refine lv_bipush (v := -5) hx hb dX10_mark_30 (by decide) ?_
      exact m_iret S hr hlk hW dX10_mark_32 ⟨rfl, (by simp only [aMark, if_neg hx0_6, if_neg hx0_32]; try rfl)⟩
set_option maxHeartbeats 4000000 in
set_option maxRecDepth 100000 in
theorem c_X10_hire (l : Launch) (G : mG) (ad : Nat → Nat) (sh : Nat → Option mSh) (V : mV) (q : Sg) (x w : Int32) (hX : XI sh V q) : mM l yX10_hire wsX10_hire ({ frames := 6, cells := 0, slots := 0, locals := 190 } : Room) G ad sh V [.ref (ad 0), .int x, .int w] 0 0 (mPi ad sh (fun r V' => (aHire q x w) = r ∧ (XK V V'))) := by
  refine mM.of (cc := cX10_hire) (maxL := 5) (ret := (some .int)) (by decide) rfl (Nat.le_of_ble_eq_true rfl) ?_
  intro p e s m below meth c S hr hlk hnm hW ls hl
  obtain ⟨hx, hb, hml, hown, hts⟩ := id S
  have hl : lv_has ls 5 [(0, .ref (ad 0)), (1, .int x), (2, .int w)] := hl
  have hS0 : True := trivial
  have hne5 := hX.ne5
  have hng6 := hX.ng6
  have htn := hX.tn
  refine lv_aload_n hx hb dX10_hire_0 rfl (lv_at hl 0 rfl) ?_
  refine m_getr S hW hX.sp.1 3 rfl (j := 20) rfl kX10 (iW10 _) (by decide) (List.mem_cons_of_mem _ (wa_2 _ (List.mem_of_getElem? (i := 8) (by decide +kernel)))) dX10_hire_1 ?_
  refine lv_iload_n hx hb dX10_hire_4 rfl (lv_at hl 1 rfl) ?_
  refine m_crp (m_rV S hW (c_X4_eaterAt l G ad sh V 20 (110 + 3 * gRl q) ((gT q (gRl q)).2.1) ((gT q (gRl q)).2.2) ((gT q (gRl q)).1.length) (gNe q) (gNg q) x hX.sz.1 hX.sz.2.1) (cwV 1 hts (gCall [.methodLink RX10 120 yX4_eaterAt, .instanceMethod yX4_eaterAt, .selects RX4 yX4_eaterAt yX4_eaterAt, .initialized RX4] (List.forall_mem_cons.mpr ⟨(wa_17 _ (List.mem_of_getElem? (i := 8) (by decide +kernel))), (List.forall_mem_cons.mpr ⟨(wa_17 _ (List.mem_of_getElem? (i := 5) (by decide +kernel))), (List.forall_mem_cons.mpr ⟨(wa_17 _ (List.mem_of_getElem? (i := 6) (by decide +kernel))), (List.forall_mem_cons.mpr ⟨(wa_17 _ (List.mem_of_getElem? (i := 7) (by decide +kernel))), (List.forall_mem_cons.mpr ⟨(wa_2 _ (List.mem_of_getElem? (i := 7) (by decide +kernel))), (fun _ h => absurd h List.not_mem_nil)⟩)⟩)⟩)⟩)⟩)) rfl rfl rfl (by decide +kernel) ⟨Nat.le_of_ble_eq_true rfl, Nat.le_of_ble_eq_true rfl⟩) hX.sz.1.1 kX4 rfl hl.1 rfl (Nat.le_of_ble_eq_true rfl) dX10_hire_5 ⟨Nat.le_of_ble_eq_true rfl, Nat.le_of_ble_eq_true rfl⟩) hW (fun r_2 H locs hp_1 hW => ?_)
  rcases hp_1 with ⟨n_3, rfl, hxn_4, hn_5⟩ | ⟨rfl, hx0_6⟩
  · skip
    refine W.eq (g2 := F0 m 8 ls [.ref (ad (20 + 4 + n_3))]) rfl ?_
    have hpx : mIn x 0 (gNe q) := by rw [hxn_4]; exact (mIn_nI (by have := hX.ne5; have := hX.ng6; omega)).mpr ⟨Nat.zero_le _, hn_5⟩
    have hcx : x.toNatClampNeg = n_3 := by rw [hxn_4]; exact nI_clamp (by have := hX.ne5; have := hX.ng6; omega)
    refine lv_astore_n (lv' := [(3, .ref (ad (20 + 4 + n_3))), (0, .ref (ad 0)), (1, .int x), (2, .int w)]) hx hb dX10_hire_8 rfl hl (by decide) rfl (fun ls hl => ?_)
    refine lv_aload_n hx hb dX10_hire_9 rfl (lv_at hl 0 rfl) ?_
    refine lv_ifnonnull (tgt := 16) hx hb dX10_hire_10 (by decide) ?_
    refine lv_iload_n hx hb dX10_hire_16 rfl (lv_at hl 3 rfl) ?_
    refine lv_iconst (v := nI 0) hx hb dX10_hire_17 (by decide) ?_
    refine lv_iconst (v := nI 1) hx hb dX10_hire_18 (by decide) ?_
    refine m_cip (m_rS S hW (c_X10_within l G ad sh V w 0 1 (by first | assumption | omega) (by first | assumption | omega)) (va_cwS 3 hts (gCall [.methodLink RX10 102 yX10_within, .static yX10_within, .initialized RX10] (List.forall_mem_cons.mpr ⟨(wa_8 _ (List.mem_of_getElem? (i := 17) (by decide +kernel))), (List.forall_mem_cons.mpr ⟨(wa_15 _ (List.mem_of_getElem? (i := 8) (by decide +kernel))), (List.forall_mem_cons.mpr ⟨(wa_8 _ (List.mem_of_getElem? (i := 16) (by decide +kernel))), (List.forall_mem_cons.mpr ⟨(wa_1 _ (List.mem_of_getElem? (i := 2) (by decide +kernel))), (fun _ h => absurd h List.not_mem_nil)⟩)⟩)⟩)⟩)) rfl rfl rfl (by decide +kernel) ⟨Nat.le_of_ble_eq_true rfl, Nat.le_of_ble_eq_true rfl⟩) rfl hl.1 rfl (Nat.le_of_ble_eq_true rfl) dX10_hire_19 ⟨Nat.le_of_ble_eq_true rfl, Nat.le_of_ble_eq_true rfl⟩) hW (fun r_8 H locs hp_7 hW => ?_)
    rcases hp_7 with ⟨rfl, w_9⟩ | ⟨rfl, w_10⟩
    · skip
      refine m_if_ne (tgt := 28) hx hb dX10_hire_22 (by decide) (fun c_11 => ?_) (fun c_11 => ?_)
      · skip
        refine lv_aload_n hx hb dX10_hire_28 rfl (lv_at hl 1 rfl) ?_
        refine m_getr S hW hX.sp.1 7 rfl (j := 6) rfl kX10 (iW10 _) (by decide) (List.mem_cons_of_mem _ (wa_1 _ (List.mem_of_getElem? (i := 21) (by decide +kernel)))) dX10_hire_29 ?_
        refine lv_aload_n hx hb dX10_hire_32 rfl (lv_at hl 1 rfl) ?_
        refine m_getr S hW hX.sp.1 3 rfl (j := 20) rfl kX10 (iW10 _) (by decide) (List.mem_cons_of_mem _ (wa_2 _ (List.mem_of_getElem? (i := 8) (by decide +kernel)))) dX10_hire_33 ?_
        refine lv_aload_n hx hb dX10_hire_36 rfl (lv_at hl 0 rfl) ?_
        refine m_ci (m_rV S hW (c_X2_findTeeth l G ad sh V 20 (110 + 3 * gRl q) ((gT q (gRl q)).2.1) ((gT q (gRl q)).2.2) ((gT q (gRl q)).1.length) (gNe q) (gNg q) (20 + 4 + n_3) hX.sp.2.2.2.2.1.1 hX.sp.2.2.2.2.1.2 hX.sz.1 hX.sz.2.1 hX.sz.2.2.1 (hX.sz.sE hn_5) (by omega)) (cwV 2 hts (gCall [.methodLink RX10 237 yX2_findTeeth, .instanceMethod yX2_findTeeth, .selects RX2 yX2_findTeeth yX2_findTeeth, .initialized RX2] (List.forall_mem_cons.mpr ⟨(wa_35 _ (List.mem_of_getElem? (i := 17) (by decide +kernel))), (List.forall_mem_cons.mpr ⟨(wa_35 _ (List.mem_of_getElem? (i := 14) (by decide +kernel))), (List.forall_mem_cons.mpr ⟨(wa_35 _ (List.mem_of_getElem? (i := 15) (by decide +kernel))), (List.forall_mem_cons.mpr ⟨(wa_35 _ (List.mem_of_getElem? (i := 16) (by decide +kernel))), (List.forall_mem_cons.mpr ⟨(wa_1 _ (List.mem_of_getElem? (i := 20) (by decide +kernel))), (fun _ h => absurd h List.not_mem_nil)⟩)⟩)⟩)⟩)⟩)) rfl rfl rfl (by decide +kernel) ⟨Nat.le_of_ble_eq_true rfl, Nat.le_of_ble_eq_true rfl⟩) hX.sp.2.2.2.2.1.1 kX2 rfl hl.1 rfl (Nat.le_of_ble_eq_true rfl) dX10_hire_37 ⟨Nat.le_of_ble_eq_true rfl, Nat.le_of_ble_eq_true rfl⟩) hW (fun r_14 V_12 H locs hp_13 hW => ?_)
        obtain ⟨rfl, hga_15, hfr_16, hfb_17⟩ := hp_13
        refine lv_istore (lv' := [(4, .int ((fHire (fBsc (fAsk (V ((110 + 3 * gRl q) + 1)) ((gT q (gRl q)).2.1) ((gT q (gRl q)).2.2) ((gT q (gRl q)).1.length)) V 20 (gNg q) (V (20 + 4 + n_3) 0) (V (20 + 4 + n_3) 1) (V (20 + 4 + n_3) 2) (V (20 + 4 + n_3) 3)).2 (fTeeth (fAsk (V ((110 + 3 * gRl q) + 1)) ((gT q (gRl q)).2.1) ((gT q (gRl q)).2.2) ((gT q (gRl q)).1.length)) V 20 (gNg q) (V (20 + 4 + n_3) 2) (V (20 + 4 + n_3) 3)) 5).1)), (3, .ref (ad (20 + 4 + n_3))), (0, .ref (ad 0)), (1, .int x), (2, .int w)]) hx hb dX10_hire_40 hl (by decide) rfl (fun ls hl => ?_)
        refine lv_iload_n hx hb dX10_hire_42 rfl (lv_at hl 4 rfl) ?_
        refine m_if_ne (tgt := 51) hx hb dX10_hire_43 (by decide) (fun c_18 => ?_) (fun c_18 => ?_)
        · skip
          refine lv_aload_n hx hb dX10_hire_51 rfl (lv_at hl 2 rfl) ?_
          refine m_getr S hW hX.sp.1 7 rfl (j := 6) rfl kX10 (iW10 _) (by decide) (List.mem_cons_of_mem _ (wa_1 _ (List.mem_of_getElem? (i := 21) (by decide +kernel)))) dX10_hire_52 ?_
          refine m_geti S hW hX.sp.2.2.2.2.1.1 1 rfl kX2 (iW2 _) (by decide) (List.mem_cons_of_mem _ (wa_35 _ (List.mem_of_getElem? (i := 13) (by decide +kernel)))) dX10_hire_55 ?_
          have hKh : XK V V_12 := ⟨fun a _ _ a6 a7 _ a20 _ => hfr_16 a a6 a7 a20, fun k hk => hfb_17 k (by omega) (by omega), by rw [hfr_16 9 (by omega) (by omega) (by omega)]⟩
          exact m_iret S hr hlk hW dX10_hire_58 (by exact ⟨by simp only [aHire, if_pos hpx, hcx, if_pos w_9, if_neg c_18]; rw [← hX.vTeeth hn_5]; exact hga_15.symm, hKh⟩)
        · skip
          refine lv_iload hx hb dX10_hire_46 (lv_at hl 0 rfl) ?_
          refine lv_goto (tgt := 58) hx hb dX10_hire_48 (by decide) ?_
          have hKh : XK V V_12 := ⟨fun a _ _ a6 a7 _ a20 _ => hfr_16 a a6 a7 a20, fun k hk => hfb_17 k (by omega) (by omega), by rw [hfr_16 9 (by omega) (by omega) (by omega)]⟩
          exact m_iret S hr hlk hW dX10_hire_58 (by exact ⟨by simp only [aHire, if_pos hpx, hcx, if_pos w_9, if_pos c_18]; rw [← hX.vTeeth hn_5]; try rfl, hKh⟩)
      · exact absurd c_11 (by decide)
    · skip
      refine m_if_ne (tgt := 28) hx hb dX10_hire_22 (by decide) (fun c_19 => ?_) (fun c_19 => ?_)
      · exact absurd c_19 (by decide)
      · skip
        refine lv_bipush (v := -7) hx hb dX10_hire_25 (by decide) ?_
        exact m_iret S hr hlk hW dX10_hire_27 (by exact ⟨by simp only [aHire, if_pos hpx, hcx, if_neg w_10], XK.rfl V⟩)
  · skip
    refine W.eq (g2 := F0 m 8 ls [.null]) rfl ?_
    refine lv_astore_nN (lv' := [(3, .null), (0, .ref (ad 0)), (1, .int x), (2, .int w)]) hx hb dX10_hire_8 rfl hl (by decide) rfl (fun ls hl => ?_)
    refine lv_aload_nN hx hb dX10_hire_9 rfl (lv_at hl 0 rfl) ?_
    refine lv_ifnonnullN hx hb dX10_hire_10 ?_
    refine lv_bipush (v := -5) hx hb dX10_hire_13 (by decide) ?_
    exact m_iret S hr hlk hW dX10_hire_15 (by exact ⟨by simp only [aHire, if_neg hx0_6], XK.rfl V⟩)
set_option maxHeartbeats 4000000 in
set_option maxRecDepth 100000 in
theorem c_X10_fewest (l : Launch) (G : mG) (ad : Nat → Nat) (sh : Nat → Option mSh) (V : mV) (q : Sg) (x y : Int32) (hX : XI sh V q) (hZk : ZOk (gZ q) (gNe q) (gNg q)) : mM l yX10_fewest wsX10_fewest ({ frames := 2, cells := 0, slots := 0, locals := 88 } : Room) G ad sh V [.ref (ad 0), .int x, .int y] 0 0 (mPi ad sh (fun r V' => (aFewest q x y) = r ∧ (XK V V'))) := by
  refine mM.of (cc := cX10_fewest) (maxL := 5) (ret := (some .int)) (by decide) rfl (Nat.le_of_ble_eq_true rfl) ?_
  intro p e s m below meth c S hr hlk hnm hW ls hl
  obtain ⟨hx, hb, hml, hown, hts⟩ := id S
  have hl : lv_has ls 5 [(0, .ref (ad 0)), (1, .int x), (2, .int y)] := hl
  have hS0 : True := trivial
  have hne5 := hX.ne5
  have hng6 := hX.ng6
  have htn := hX.tn
  refine lv_aload_n hx hb dX10_fewest_0 rfl (lv_at hl 0 rfl) ?_
  refine m_getr S hW hX.sp.1 3 rfl (j := 20) rfl kX10 (iW10 _) (by decide) (List.mem_cons_of_mem _ (wa_2 _ (List.mem_of_getElem? (i := 8) (by decide +kernel)))) dX10_fewest_1 ?_
  refine lv_iload_n hx hb dX10_fewest_4 rfl (lv_at hl 1 rfl) ?_
  refine m_crp (m_rV S hW (c_X4_eaterAt l G ad sh V 20 (110 + 3 * gRl q) ((gT q (gRl q)).2.1) ((gT q (gRl q)).2.2) ((gT q (gRl q)).1.length) (gNe q) (gNg q) x hX.sz.1 hX.sz.2.1) (cwV 1 hts (gCall [.methodLink RX10 120 yX4_eaterAt, .instanceMethod yX4_eaterAt, .selects RX4 yX4_eaterAt yX4_eaterAt, .initialized RX4] (List.forall_mem_cons.mpr ⟨(wa_17 _ (List.mem_of_getElem? (i := 8) (by decide +kernel))), (List.forall_mem_cons.mpr ⟨(wa_17 _ (List.mem_of_getElem? (i := 5) (by decide +kernel))), (List.forall_mem_cons.mpr ⟨(wa_17 _ (List.mem_of_getElem? (i := 6) (by decide +kernel))), (List.forall_mem_cons.mpr ⟨(wa_17 _ (List.mem_of_getElem? (i := 7) (by decide +kernel))), (List.forall_mem_cons.mpr ⟨(wa_2 _ (List.mem_of_getElem? (i := 7) (by decide +kernel))), (fun _ h => absurd h List.not_mem_nil)⟩)⟩)⟩)⟩)⟩)) rfl rfl rfl (by decide +kernel) ⟨Nat.le_of_ble_eq_true rfl, Nat.le_of_ble_eq_true rfl⟩) hX.sz.1.1 kX4 rfl hl.1 rfl (Nat.le_of_ble_eq_true rfl) dX10_fewest_5 ⟨Nat.le_of_ble_eq_true rfl, Nat.le_of_ble_eq_true rfl⟩) hW (fun r_2 H locs hp_1 hW => ?_)
  rcases hp_1 with ⟨n_3, rfl, hxn_4, hn_5⟩ | ⟨rfl, hx0_6⟩
  · skip
    refine W.eq (g2 := F0 m 8 ls [.ref (ad (20 + 4 + n_3))]) rfl ?_
    have hpx : mIn x 0 (gNe q) := by rw [hxn_4]; exact (mIn_nI (by have := hX.ne5; have := hX.ng6; omega)).mpr ⟨Nat.zero_le _, hn_5⟩
    have hcx : x.toNatClampNeg = n_3 := by rw [hxn_4]; exact nI_clamp (by have := hX.ne5; have := hX.ng6; omega)
    refine lv_astore_n (lv' := [(3, .ref (ad (20 + 4 + n_3))), (0, .ref (ad 0)), (1, .int x), (2, .int y)]) hx hb dX10_fewest_8 rfl hl (by decide) rfl (fun ls hl => ?_)
    refine lv_aload_n hx hb dX10_fewest_9 rfl (lv_at hl 1 rfl) ?_
    refine m_getr S hW hX.sp.1 3 rfl (j := 20) rfl kX10 (iW10 _) (by decide) (List.mem_cons_of_mem _ (wa_2 _ (List.mem_of_getElem? (i := 8) (by decide +kernel)))) dX10_fewest_10 ?_
    refine lv_iload_n hx hb dX10_fewest_13 rfl (lv_at hl 3 rfl) ?_
    refine m_crp (m_rV S hW (c_X4_goodAt l G ad sh V 20 (110 + 3 * gRl q) ((gT q (gRl q)).2.1) ((gT q (gRl q)).2.2) ((gT q (gRl q)).1.length) (gNe q) (gNg q) y hX.sz.1 hX.sz.2.1) (cwV 1 hts (gCall [.methodLink RX10 124 yX4_goodAt, .instanceMethod yX4_goodAt, .selects RX4 yX4_goodAt yX4_goodAt, .initialized RX4] (List.forall_mem_cons.mpr ⟨(wa_17 _ (List.mem_of_getElem? (i := 13) (by decide +kernel))), (List.forall_mem_cons.mpr ⟨(wa_17 _ (List.mem_of_getElem? (i := 10) (by decide +kernel))), (List.forall_mem_cons.mpr ⟨(wa_17 _ (List.mem_of_getElem? (i := 11) (by decide +kernel))), (List.forall_mem_cons.mpr ⟨(wa_17 _ (List.mem_of_getElem? (i := 12) (by decide +kernel))), (List.forall_mem_cons.mpr ⟨(wa_2 _ (List.mem_of_getElem? (i := 7) (by decide +kernel))), (fun _ h => absurd h List.not_mem_nil)⟩)⟩)⟩)⟩)⟩)) rfl rfl rfl (by decide +kernel) ⟨Nat.le_of_ble_eq_true rfl, Nat.le_of_ble_eq_true rfl⟩) hX.sz.1.1 kX4 rfl hl.1 rfl (Nat.le_of_ble_eq_true rfl) dX10_fewest_14 ⟨Nat.le_of_ble_eq_true rfl, Nat.le_of_ble_eq_true rfl⟩) hW (fun r_8 H locs hp_7 hW => ?_)
    rcases hp_7 with ⟨n_9, rfl, hxn_10, hn_11⟩ | ⟨rfl, hx0_12⟩
    · skip
      refine W.eq (g2 := F0 m 17 ls [.ref (ad (20 + 10 + 2 * n_9))]) rfl ?_
      have hpy : mIn y 0 (gNg q) := by rw [hxn_10]; exact (mIn_nI (by have := hX.ne5; have := hX.ng6; omega)).mpr ⟨Nat.zero_le _, hn_11⟩
      have hcy : y.toNatClampNeg = n_9 := by rw [hxn_10]; exact nI_clamp (by have := hX.ne5; have := hX.ng6; omega)
      refine lv_astore (lv' := [(4, .ref (ad (20 + 10 + 2 * n_9))), (3, .ref (ad (20 + 4 + n_3))), (0, .ref (ad 0)), (1, .int x), (2, .int y)]) hx hb dX10_fewest_17 hl (by decide) rfl (fun ls hl => ?_)
      refine lv_aload_n hx hb dX10_fewest_19 rfl (lv_at hl 1 rfl) ?_
      refine lv_ifnull hx hb dX10_fewest_20 ?_
      refine lv_aload hx hb dX10_fewest_23 (lv_at hl 0 rfl) ?_
      refine lv_ifnonnull (tgt := 31) hx hb dX10_fewest_25 (by decide) ?_
      obtain ⟨sp, hsp, esp⟩ := hZk.sp hn_5 hn_11
      obtain ⟨-, ⟨le, hle, ele⟩, -⟩ := hZk.2.2 n_9 hn_11
      refine lv_aload_n hx hb dX10_fewest_31 rfl (lv_at hl 2 rfl) ?_
      refine m_getr S hW hX.sp.1 8 rfl (j := 8) rfl kX10 (iW10 _) (by decide) (List.mem_cons_of_mem _ (wa_2 _ (List.mem_of_getElem? (i := 1) (by decide +kernel)))) dX10_fewest_32 ?_
      refine lv_aload_n hx hb dX10_fewest_35 rfl (lv_at hl 1 rfl) ?_
      refine lv_aload hx hb dX10_fewest_36 (lv_at hl 0 rfl) ?_
      refine m_cie (m_rV S hW (c_X1_shapeIn l G ad sh V (20 + 4 + n_3) (20 + 10 + 2 * n_9) (hX.sz.sE hn_5) (hX.sz.sG hn_11) (hX.sz.sW hn_11)) (cwV 1 hts (gCall [.methodLink RX10 169 yX1_shapeIn, .instanceMethod yX1_shapeIn, .selects RX1 yX1_shapeIn yX1_shapeIn, .initialized RX1] (List.forall_mem_cons.mpr ⟨(wa_24 _ (List.mem_of_getElem? (i := 11) (by decide +kernel))), (List.forall_mem_cons.mpr ⟨(wa_24 _ (List.mem_of_getElem? (i := 8) (by decide +kernel))), (List.forall_mem_cons.mpr ⟨(wa_24 _ (List.mem_of_getElem? (i := 9) (by decide +kernel))), (List.forall_mem_cons.mpr ⟨(wa_24 _ (List.mem_of_getElem? (i := 10) (by decide +kernel))), (List.forall_mem_cons.mpr ⟨(wa_3 _ (List.mem_of_getElem? (i := 3) (by decide +kernel))), (fun _ h => absurd h List.not_mem_nil)⟩)⟩)⟩)⟩)⟩)) rfl rfl rfl (by decide +kernel) ⟨Nat.le_of_ble_eq_true rfl, Nat.le_of_ble_eq_true rfl⟩) (hX.sz.1.2.2.2.2.1 n_3 (Nat.lt_of_lt_of_le hn_5 hX.sz.2.1.2.2.1)) kX1 rfl hl.1 rfl (Nat.le_of_ble_eq_true rfl) dX10_fewest_38 ⟨Nat.le_of_ble_eq_true rfl, Nat.le_of_ble_eq_true rfl⟩) hW (fun H locs hW => ?_)
      refine m_top (y := nI sp) ((hX.vSp hn_5 hn_11).trans esp) ?_
      refine lv_aload hx hb dX10_fewest_41 (lv_at hl 0 rfl) ?_
      refine m_geti S hW (hX.sz.1.2.2.2.2.2.1 n_9 (Nat.lt_of_lt_of_le hn_11 hX.sz.2.1.2.2.2.1)) 2 rfl kX3 (iW3 _) (by decide) (List.mem_cons_of_mem _ (wa_34 _ (List.mem_of_getElem? (i := 9) (by decide +kernel)))) dX10_fewest_43 ?_
      refine m_top (y := nI le) ((hX.zG 2 hn_11 (Or.inr rfl)).symm.trans ele) ?_
      refine m_ci (m_rV S hW (c_X0_fewestBites l G ad sh V sp le hX.sp.2.2.2.2.2.1.1 hX.sp.2.2.2.2.2.1.2 hX.cov hsp hle) (cwV 2 hts (gCall [.methodLink RX10 230 yX0_fewestBites, .instanceMethod yX0_fewestBites, .selects RX0 yX0_fewestBites yX0_fewestBites, .initialized RX0] (List.forall_mem_cons.mpr ⟨(wa_34 _ (List.mem_of_getElem? (i := 13) (by decide +kernel))), (List.forall_mem_cons.mpr ⟨(wa_34 _ (List.mem_of_getElem? (i := 10) (by decide +kernel))), (List.forall_mem_cons.mpr ⟨(wa_34 _ (List.mem_of_getElem? (i := 11) (by decide +kernel))), (List.forall_mem_cons.mpr ⟨(wa_34 _ (List.mem_of_getElem? (i := 12) (by decide +kernel))), (List.forall_mem_cons.mpr ⟨(wa_2 _ (List.mem_of_getElem? (i := 0) (by decide +kernel))), (fun _ h => absurd h List.not_mem_nil)⟩)⟩)⟩)⟩)⟩)) rfl rfl rfl (by decide +kernel) ⟨Nat.le_of_ble_eq_true rfl, Nat.le_of_ble_eq_true rfl⟩) hX.sp.2.2.2.2.2.1.1 kX0 rfl hl.1 rfl (Nat.le_of_ble_eq_true rfl) dX10_fewest_46 ⟨Nat.le_of_ble_eq_true rfl, Nat.le_of_ble_eq_true rfl⟩) hW (fun r_15 V_13 H locs hp_14 hW => ?_)
      obtain ⟨rfl, hfr_16, h90_17⟩ := hp_14
      exact m_iret S hr hlk hW dX10_fewest_49 (by exact ⟨by simp only [aFewest, if_pos hpx, hcx, if_pos hpy, hcy]; rw [esp, ele, nI_clamp (by omega), nI_clamp (by omega)], ⟨fun a _ _ _ _ a9 _ _ => hfr_16 a a9, fun k _ => by rw [hfr_16 20 (by omega)], by rw [h90_17]; exact hX.cov.symm⟩⟩)
    · skip
      refine W.eq (g2 := F0 m 17 ls [.null]) rfl ?_
      refine lv_astoreN (lv' := [(4, .null), (3, .ref (ad (20 + 4 + n_3))), (0, .ref (ad 0)), (1, .int x), (2, .int y)]) hx hb dX10_fewest_17 hl (by decide) rfl (fun ls hl => ?_)
      refine lv_aload_n hx hb dX10_fewest_19 rfl (lv_at hl 1 rfl) ?_
      refine lv_ifnull hx hb dX10_fewest_20 ?_
      refine lv_aloadN hx hb dX10_fewest_23 (lv_at hl 0 rfl) ?_
      refine lv_ifnonnullN hx hb dX10_fewest_25 ?_
      refine lv_bipush (v := -5) hx hb dX10_fewest_28 (by decide) ?_
      exact m_iret S hr hlk hW dX10_fewest_30 (by exact ⟨by simp only [aFewest, if_pos hpx, hcx, if_neg hx0_12]; try rfl, XK.rfl V⟩)
  · skip
    refine W.eq (g2 := F0 m 8 ls [.null]) rfl ?_
    refine lv_astore_nN (lv' := [(3, .null), (0, .ref (ad 0)), (1, .int x), (2, .int y)]) hx hb dX10_fewest_8 rfl hl (by decide) rfl (fun ls hl => ?_)
    refine lv_aload_n hx hb dX10_fewest_9 rfl (lv_at hl 1 rfl) ?_
    refine m_getr S hW hX.sp.1 3 rfl (j := 20) rfl kX10 (iW10 _) (by decide) (List.mem_cons_of_mem _ (wa_2 _ (List.mem_of_getElem? (i := 8) (by decide +kernel)))) dX10_fewest_10 ?_
    refine lv_iload_n hx hb dX10_fewest_13 rfl (lv_at hl 3 rfl) ?_
    refine m_crp (m_rV S hW (c_X4_goodAt l G ad sh V 20 (110 + 3 * gRl q) ((gT q (gRl q)).2.1) ((gT q (gRl q)).2.2) ((gT q (gRl q)).1.length) (gNe q) (gNg q) y hX.sz.1 hX.sz.2.1) (cwV 1 hts (gCall [.methodLink RX10 124 yX4_goodAt, .instanceMethod yX4_goodAt, .selects RX4 yX4_goodAt yX4_goodAt, .initialized RX4] (List.forall_mem_cons.mpr ⟨(wa_17 _ (List.mem_of_getElem? (i := 13) (by decide +kernel))), (List.forall_mem_cons.mpr ⟨(wa_17 _ (List.mem_of_getElem? (i := 10) (by decide +kernel))), (List.forall_mem_cons.mpr ⟨(wa_17 _ (List.mem_of_getElem? (i := 11) (by decide +kernel))), (List.forall_mem_cons.mpr ⟨(wa_17 _ (List.mem_of_getElem? (i := 12) (by decide +kernel))), (List.forall_mem_cons.mpr ⟨(wa_2 _ (List.mem_of_getElem? (i := 7) (by decide +kernel))), (fun _ h => absurd h List.not_mem_nil)⟩)⟩)⟩)⟩)⟩)) rfl rfl rfl (by decide +kernel) ⟨Nat.le_of_ble_eq_true rfl, Nat.le_of_ble_eq_true rfl⟩) hX.sz.1.1 kX4 rfl hl.1 rfl (Nat.le_of_ble_eq_true rfl) dX10_fewest_14 ⟨Nat.le_of_ble_eq_true rfl, Nat.le_of_ble_eq_true rfl⟩) hW (fun r_19 H locs hp_18 hW => ?_)
    rcases hp_18 with ⟨n_20, rfl, hxn_21, hn_22⟩ | ⟨rfl, hx0_23⟩
    · skip
      refine W.eq (g2 := F0 m 17 ls [.ref (ad (20 + 10 + 2 * n_20))]) rfl ?_
      have hpy : mIn y 0 (gNg q) := by rw [hxn_21]; exact (mIn_nI (by have := hX.ne5; have := hX.ng6; omega)).mpr ⟨Nat.zero_le _, hn_22⟩
      have hcy : y.toNatClampNeg = n_20 := by rw [hxn_21]; exact nI_clamp (by have := hX.ne5; have := hX.ng6; omega)
      refine lv_astore (lv' := [(4, .ref (ad (20 + 10 + 2 * n_20))), (3, .null), (0, .ref (ad 0)), (1, .int x), (2, .int y)]) hx hb dX10_fewest_17 hl (by decide) rfl (fun ls hl => ?_)
      refine lv_aload_nN hx hb dX10_fewest_19 rfl (lv_at hl 1 rfl) ?_
      refine lv_ifnullN (tgt := 28) hx hb dX10_fewest_20 (by decide) ?_
      refine lv_bipush (v := -5) hx hb dX10_fewest_28 (by decide) ?_
      exact m_iret S hr hlk hW dX10_fewest_30 (by exact ⟨by simp only [aFewest, if_neg hx0_6, if_pos hpy, hcy]; try rfl, XK.rfl V⟩)
    · skip
      refine W.eq (g2 := F0 m 17 ls [.null]) rfl ?_
      refine lv_astoreN (lv' := [(4, .null), (3, .null), (0, .ref (ad 0)), (1, .int x), (2, .int y)]) hx hb dX10_fewest_17 hl (by decide) rfl (fun ls hl => ?_)
      refine lv_aload_nN hx hb dX10_fewest_19 rfl (lv_at hl 1 rfl) ?_
      refine lv_ifnullN (tgt := 28) hx hb dX10_fewest_20 (by decide) ?_
      refine lv_bipush (v := -5) hx hb dX10_fewest_28 (by decide) ?_
      exact m_iret S hr hlk hW dX10_fewest_30 (by exact ⟨by simp only [aFewest, if_neg hx0_6, if_neg hx0_23]; try rfl, XK.rfl V⟩)
