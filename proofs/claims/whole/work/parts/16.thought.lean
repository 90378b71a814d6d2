/-! thoughts, hired teeth -/
/-- the best of an eater's bites in scene b (its goods, its day), by values of the eater -/
def fBsc (ask : fAsks) (V : mV) (b ng : Nat) (k mo j pu : Int32) : Int32 × Int32 := fBest ask k mo j pu (V b 4) (fun g => V (b + 10 + 2 * g) 1) (fun g => V (b + 10 + 2 * g) 2) (fun g => V (b + 10 + 2 * g + 1)) (ng * 16)
theorem fBsc_congr (ask : fAsks) {V V' : mV} {b : Nat} (ng : Nat) (k mo j pu : Int32) (h4 : V' b 4 = V b 4) (h : ∀ a, b + 10 ≤ a → V' a = V a) : fBsc ask V' b ng k mo j pu = fBsc ask V b ng k mo j pu := by
  have e1 : (fun g => V' (b + 10 + 2 * g) 1) = (fun g => V (b + 10 + 2 * g) 1) := funext (fun g => by rw [h _ (by omega)])
  have e2 : (fun g => V' (b + 10 + 2 * g) 2) = (fun g => V (b + 10 + 2 * g) 2) := funext (fun g => by rw [h _ (by omega)])
  have e3 : (fun g => V' (b + 10 + 2 * g + 1)) = (fun g => V (b + 10 + 2 * g + 1)) := funext (fun g => by rw [h _ (by omega)])
  unfold fBsc
  rw [h4, e1, e2, e3]
/-- the gain of the best bite of one with so many hired teeth -/
def fTeeth (ask : fAsks) (V : mV) (b ng : Nat) (j pu : Int32) (t : Nat) : Int32 := (fBsc ask V b ng (nI 5) (nI (2 * t - 2)) j pu).2
theorem fHire_s {g0 : Int32} {B : Nat → Int32} {k : Nat} (h : 1 ≤ k) {q : Int32 × Int32} (hq : q = fHire g0 B (k - 1)) : fHire g0 B (k + 1 - 1) = if q.2 < B k then (nI k, B k) else q := by
  obtain ⟨n, rfl⟩ : ∃ n, k = n + 1 := ⟨k - 1, by omega⟩
  subst hq
  rfl
set_option maxHeartbeats 4000000 in
set_option maxRecDepth 100000 in
theorem c_X8_startFrom (l : Launch) (G : mG) (ad : Nat → Nat) (sh : Nat → Option mSh) (V : mV) (d ne ng : Nat) (h5 : sh 5 = some sThought) (hSc : ScOk sh 80) (hSd : ScOk sh d) (hne : V d 2 = nI ne) (hng : V d 3 = nI ng) (hne5 : ne ≤ 5) (hng6 : ng ≤ 6) (hd : 80 + 24 ≤ d ∨ d + 24 ≤ 80) (htx : sh (110 + 3 * (V d 5).toNatClampNeg) ≠ none) : mM l yX8_startFrom wsX8_startFrom ({ frames := 3, cells := 0, slots := 0, locals := 104 } : Room) G ad sh V [.ref (ad 5), .ref (ad d)] 0 0 (mPv ad sh (fun V' => V' = mU (mU (fBec V 80 d ne ng) 5 1 (-1)) 5 2 (nI 0))) := by
  refine mM.of (cc := cX8_startFrom) (maxL := 2) (ret := none) (by decide) rfl (Nat.le_of_ble_eq_true rfl) ?_
  intro p e s m below meth c S hr hlk hnm hW ls hl
  obtain ⟨hx, hb, hml, hown, hts⟩ := id S
  have hl : lv_has ls 2 [(0, .ref (ad 5)), (1, .ref (ad d))] := hl
  have hS0 : True := trivial
  refine lv_aload_n hx hb dX8_startFrom_0 rfl (lv_at hl 0 rfl) ?_
  refine m_getr S hW h5 0 rfl (j := 80) rfl kX8 (iW8 _) (by decide) (List.mem_cons_of_mem _ (wa_10 _ (List.mem_of_getElem? (i := 15) (by decide +kernel)))) dX8_startFrom_1 ?_
  refine lv_aload_n hx hb dX8_startFrom_4 rfl (lv_at hl 1 rfl) ?_
  refine m_cv (m_rV S hW (c_X4_become l G ad sh V 80 d ne ng hSc hSd (by first | assumption | omega) (by first | assumption | omega) (by first | assumption | omega) (by first | assumption | omega) (by first | assumption | omega) (by first | assumption | omega)) (cwV 1 hts (gCall [.methodLink RX8 20 yX4_become, .instanceMethod yX4_become, .selects RX4 yX4_become yX4_become, .initialized RX4] (List.forall_mem_cons.mpr ⟨(wa_30 _ (List.mem_of_getElem? (i := 11) (by decide +kernel))), (List.forall_mem_cons.mpr ⟨(wa_30 _ (List.mem_of_getElem? (i := 8) (by decide +kernel))), (List.forall_mem_cons.mpr ⟨(wa_30 _ (List.mem_of_getElem? (i := 9) (by decide +kernel))), (List.forall_mem_cons.mpr ⟨(wa_30 _ (List.mem_of_getElem? (i := 10) (by decide +kernel))), (List.forall_mem_cons.mpr ⟨(wa_2 _ (List.mem_of_getElem? (i := 7) (by decide +kernel))), (fun _ h => absurd h List.not_mem_nil)⟩)⟩)⟩)⟩)⟩)) rfl rfl rfl (by decide +kernel) ⟨Nat.le_of_ble_eq_true rfl, Nat.le_of_ble_eq_true rfl⟩) hSc.1 kX4 rfl hl.1 rfl (Nat.le_of_ble_eq_true rfl) dX8_startFrom_5 ⟨Nat.le_of_ble_eq_true rfl, Nat.le_of_ble_eq_true rfl⟩) hW (fun V_1 H locs hp_2 hW => ?_)
  have eV_1 : V_1 = fBec V 80 d ne ng := hp_2
  refine lv_aload_n hx hb dX8_startFrom_8 rfl (lv_at hl 0 rfl) ?_
  refine lv_iconst (v := -1) hx hb dX8_startFrom_9 (by decide) ?_
  refine m_puti S hW h5 1 rfl kX8 (iW8 _) tyX8 tyX8_ok nmX8 (by decide) (List.mem_cons_of_mem _ (wa_30 _ (List.mem_of_getElem? (i := 6) (by decide +kernel)))) (Or.inl rfl) rfl rfl dX8_startFrom_10 (fun H locs hW => ?_)
  obtain ⟨V_4, eV_4⟩ : ∃ z : mV, z = mU V_1 5 1 (-1) := ⟨_, rfl⟩
  rw [← eV_4] at hW
  refine lv_aload_n hx hb dX8_startFrom_13 rfl (lv_at hl 0 rfl) ?_
  refine lv_iconst (v := nI 0) hx hb dX8_startFrom_14 (by decide) ?_
  refine m_puti S hW h5 2 rfl kX8 (iW8 _) tyX8 tyX8_ok nmX8 (by decide) (List.mem_cons_of_mem _ (wa_30 _ (List.mem_of_getElem? (i := 7) (by decide +kernel)))) (Or.inl rfl) rfl rfl dX8_startFrom_15 (fun H locs hW => ?_)
  obtain ⟨V_5, eV_5⟩ : ∃ z : mV, z = mU V_4 5 2 (nI 0) := ⟨_, rfl⟩
  rw [← eV_5] at hW
  exact m_vret S hr hlk hW dX8_startFrom_18 (by simp only [eV_1, eV_4, eV_5])
set_option maxHeartbeats 4000000 in
set_option maxRecDepth 100000 in
theorem c_X2_findTeeth (l : Launch) (G : mG) (ad : Nat → Nat) (sh : Nat → Option mSh) (V : mV) (b t ta tb tl ne ng i : Nat) (h6 : sh 6 = some sFit) (h7 : sh 7 = some sEater) (hSc : ScOk sh b) (hI : ScI V b t ta tb tl ne ng) (hT : TxS sh t tl) (hi : sh i = some sEater) (hb20 : 20 ≤ b) : mM l yX2_findTeeth wsX2_findTeeth ({ frames := 5, cells := 0, slots := 0, locals := 166 } : Room) G ad sh V [.ref (ad 6), .ref (ad b), .ref (ad i)] 0 0 (mPi ad sh (fun r V' => (fHire (fBsc (fAsk (V (t + 1)) ta tb tl) V b ng (V i 0) (V i 1) (V i 2) (V i 3)).2 (fTeeth (fAsk (V (t + 1)) ta tb tl) V b ng (V i 2) (V i 3)) 5).1 = r ∧ (V' 6 1 = (fHire (fBsc (fAsk (V (t + 1)) ta tb tl) V b ng (V i 0) (V i 1) (V i 2) (V i 3)).2 (fTeeth (fAsk (V (t + 1)) ta tb tl) V b ng (V i 2) (V i 3)) 5).2) ∧ (∀ a, a ≠ 6 → a ≠ 7 → a ≠ b → V' a = V a) ∧ (∀ q, q ≠ 6 → q ≠ 7 → V' b q = V b q))) := by
  refine mM.of (cc := cX2_findTeeth) (maxL := 5) (ret := (some .int)) (by decide) rfl (Nat.le_of_ble_eq_true rfl) ?_
  intro p e s m below meth c S hr hlk hnm hW ls hl
  obtain ⟨hx, hb, hml, hown, hts⟩ := id S
  have hl : lv_has ls 5 [(0, .ref (ad 6)), (1, .ref (ad b)), (2, .ref (ad i))] := hl
  have hS0 : True := trivial
  have hib : i ≠ b := ne_sh hi hSc.1 (fun z => by simp at z)
  have htb : t ≠ b := ne_sh hT.1 hSc.1 (fun z => by simp at z)
  have ht1b : t + 1 ≠ b := ne_sh hT.2.1 hSc.1 (fun z => by simp at z)
  have ht6 : t ≠ 6 := ne_sh hT.1 h6 (fun z => by simp at z)
  have ht7 : t ≠ 7 := ne_sh hT.1 h7 (fun z => by simp at z)
  have ht16 : t + 1 ≠ 6 := ne_sh hT.2.1 h6 (fun z => by simp at z)
  have ht17 : t + 1 ≠ 7 := ne_sh hT.2.1 h7 (fun z => by simp at z)
  have hI7 : ScI (mCp V 7 i 5) b t ta tb tl ne ng := by
    obtain ⟨q1, q2, q3, q4, q5, q6, q7, q8⟩ := hI
    have hm : ∀ a, a ≠ 7 → mCp V 7 i 5 a = V a := fun a ha => by funext q; rw [mCp, if_neg (fun z => ha z.1)]
    exact ⟨by rw [hm _ (by omega)]; exact q1, by rw [hm _ (by omega)]; exact q2, q3, q4, by rw [hm _ (by omega)]; exact q5, by rw [hm _ ht7]; exact q6, by rw [hm _ ht7]; exact q7, q8⟩
  refine lv_aload_n hx hb dX2_findTeeth_0 rfl (lv_at hl 0 rfl) ?_
  refine m_getr S hW h6 0 rfl (j := 7) rfl kX2 (iW2 _) (by decide) (List.mem_cons_of_mem _ (wa_3 _ (List.mem_of_getElem? (i := 4) (by decide +kernel)))) dX2_findTeeth_1 ?_
  refine lv_aload_n hx hb dX2_findTeeth_4 rfl (lv_at hl 2 rfl) ?_
  refine m_cv (m_rV S hW (c_X1_become l G ad sh V 7 i h7 hi) (cwV 1 hts (gCall [.methodLink RX2 18 yX1_become, .instanceMethod yX1_become, .selects RX1 yX1_become yX1_become, .initialized RX1] (List.forall_mem_cons.mpr ⟨(wa_30 _ (List.mem_of_getElem? (i := 15) (by decide +kernel))), (List.forall_mem_cons.mpr ⟨(wa_35 _ (List.mem_of_getElem? (i := 22) (by decide +kernel))), (List.forall_mem_cons.mpr ⟨(wa_30 _ (List.mem_of_getElem? (i := 13) (by decide +kernel))), (List.forall_mem_cons.mpr ⟨(wa_30 _ (List.mem_of_getElem? (i := 14) (by decide +kernel))), (List.forall_mem_cons.mpr ⟨(wa_3 _ (List.mem_of_getElem? (i := 3) (by decide +kernel))), (fun _ h => absurd h List.not_mem_nil)⟩)⟩)⟩)⟩)⟩)) rfl rfl rfl (by decide +kernel) ⟨Nat.le_of_ble_eq_true rfl, Nat.le_of_ble_eq_true rfl⟩) h7 kX1 rfl hl.1 rfl (Nat.le_of_ble_eq_true rfl) dX2_findTeeth_5 ⟨Nat.le_of_ble_eq_true rfl, Nat.le_of_ble_eq_true rfl⟩) hW (fun V_1 H locs hp_2 hW => ?_)
  have eV_1 : V_1 = mCp V 7 i 5 := hp_2
  rw [eV_1] at hW
  refine lv_aload_n hx hb dX2_findTeeth_8 rfl (lv_at hl 1 rfl) ?_
  refine lv_aload_n hx hb dX2_findTeeth_9 rfl (lv_at hl 0 rfl) ?_
  refine m_getr S hW h6 0 rfl (j := 7) rfl kX2 (iW2 _) (by decide) (List.mem_cons_of_mem _ (wa_3 _ (List.mem_of_getElem? (i := 4) (by decide +kernel)))) dX2_findTeeth_10 ?_
  refine m_cv (m_rV S hW (c_X4_findBest l G ad sh (mCp V 7 i 5) b t ta tb tl ne ng 7 hSc hI7 (by first | assumption | omega) h7) (cwV 1 hts (gCall [.methodLink RX2 22 yX4_findBest, .instanceMethod yX4_findBest, .selects RX4 yX4_findBest yX4_findBest, .initialized RX4] (List.forall_mem_cons.mpr ⟨(wa_28 _ (List.mem_of_getElem? (i := 21) (by decide +kernel))), (List.forall_mem_cons.mpr ⟨(wa_35 _ (List.mem_of_getElem? (i := 23) (by decide +kernel))), (List.forall_mem_cons.mpr ⟨(wa_28 _ (List.mem_of_getElem? (i := 19) (by decide +kernel))), (List.forall_mem_cons.mpr ⟨(wa_28 _ (List.mem_of_getElem? (i := 20) (by decide +kernel))), (List.forall_mem_cons.mpr ⟨(wa_2 _ (List.mem_of_getElem? (i := 7) (by decide +kernel))), (fun _ h => absurd h List.not_mem_nil)⟩)⟩)⟩)⟩)⟩)) rfl rfl rfl (by decide +kernel) ⟨Nat.le_of_ble_eq_true rfl, Nat.le_of_ble_eq_true rfl⟩) hSc.1 kX4 rfl hl.1 rfl (Nat.le_of_ble_eq_true rfl) dX2_findTeeth_13 ⟨Nat.le_of_ble_eq_true rfl, Nat.le_of_ble_eq_true rfl⟩) hW (fun V_4 H locs hp_5 hW => ?_)
  have eV_4 : V_4 = mU (mU (mCp V 7 i 5) b 6 (fBest (fAsk ((mCp V 7 i 5) (t + 1)) ta tb tl) ((mCp V 7 i 5) 7 0) ((mCp V 7 i 5) 7 1) ((mCp V 7 i 5) 7 2) ((mCp V 7 i 5) 7 3) ((mCp V 7 i 5) b 4) (fun g => (mCp V 7 i 5) (b + 10 + 2 * g) 1) (fun g => (mCp V 7 i 5) (b + 10 + 2 * g) 2) (fun g => (mCp V 7 i 5) (b + 10 + 2 * g + 1)) (ng * 16)).1) b 7 (fBest (fAsk ((mCp V 7 i 5) (t + 1)) ta tb tl) ((mCp V 7 i 5) 7 0) ((mCp V 7 i 5) 7 1) ((mCp V 7 i 5) 7 2) ((mCp V 7 i 5) 7 3) ((mCp V 7 i 5) b 4) (fun g => (mCp V 7 i 5) (b + 10 + 2 * g) 1) (fun g => (mCp V 7 i 5) (b + 10 + 2 * g) 2) (fun g => (mCp V 7 i 5) (b + 10 + 2 * g + 1)) (ng * 16)).2 := hp_5
  refine lv_aload_n hx hb dX2_findTeeth_16 rfl (lv_at hl 0 rfl) ?_
  refine lv_aload_n hx hb dX2_findTeeth_17 rfl (lv_at hl 1 rfl) ?_
  refine m_geti S hW hSc.1 7 rfl kX4 (iW4 _) (by decide) (List.mem_cons_of_mem _ (wa_35 _ (List.mem_of_getElem? (i := 18) (by decide +kernel)))) dX2_findTeeth_18 ?_
  refine m_puti S hW h6 1 rfl kX2 (iW2 _) tyX2 tyX2_ok nmX2 (by decide) (List.mem_cons_of_mem _ (wa_35 _ (List.mem_of_getElem? (i := 19) (by decide +kernel)))) (Or.inl rfl) rfl rfl dX2_findTeeth_21 (fun H locs hW => ?_)
  obtain ⟨V_7, eV_7⟩ : ∃ z : mV, z = mU V_4 6 1 (V_4 b 7) := ⟨_, rfl⟩
  rw [← eV_7] at hW
  refine lv_iconst (v := -1) hx hb dX2_findTeeth_24 (by decide) ?_
  refine lv_istore_n (lv' := [(3, .int (-1)), (0, .ref (ad 6)), (1, .ref (ad b)), (2, .ref (ad i))]) hx hb dX2_findTeeth_25 rfl hl (by decide) rfl (fun ls hl => ?_)
  refine lv_iconst (v := nI 1) hx hb dX2_findTeeth_26 (by decide) ?_
  refine lv_istore (lv' := [(4, .int (nI 1)), (3, .int (-1)), (0, .ref (ad 6)), (1, .ref (ad b)), (2, .ref (ad i))]) hx hb dX2_findTeeth_27 hl (by decide) rfl (fun ls hl => ?_)
  have loop_29 : ∀ (n_29 : Nat) (fd : Int32) (k : Nat) (V1 : mV) (H : Heap) (locs : List Loc) (ls : Array Slot), (1 ≤ k ∧ k ≤ 6) → (∀ a, a ≠ 6 → a ≠ 7 → a ≠ b → V1 a = V a) → (∀ q, q ≠ 6 → q ≠ 7 → V1 b q = V b q) → (V1 7 2 = V i 2 ∧ V1 7 3 = V i 3) → ((fd, V1 6 1) = fHire (fBsc (fAsk (V (t + 1)) ta tb tl) V b ng (V i 0) (V i 1) (V i 2) (V i 3)).2 (fTeeth (fAsk (V (t + 1)) ta tb tl) V b ng (V i 2) (V i 3)) (k - 1)) → (6 - k) < n_29 → mC (mA ad sh s.heap.size) s.heap s G ad sh V1 H locs → lv_has ls 5 [(0, .ref (ad 6)), (1, .ref (ad b)), (2, .ref (ad i)), (3, .int fd), (4, .int (nI k))] → W p l e ({ frames := 5, cells := 0, slots := 0, locals := 166 } : Room) s m ([.ref (ad 6), .ref (ad b), .ref (ad i)] : List Value).toArray below meth c H locs 0 0 (MQ below (mPost G ad sh s.heap.size (mPi ad sh (fun r V' => (fHire (fBsc (fAsk (V (t + 1)) ta tb tl) V b ng (V i 0) (V i 1) (V i 2) (V i 3)).2 (fTeeth (fAsk (V (t + 1)) ta tb tl) V b ng (V i 2) (V i 3)) 5).1 = r ∧ (V' 6 1 = (fHire (fBsc (fAsk (V (t + 1)) ta tb tl) V b ng (V i 0) (V i 1) (V i 2) (V i 3)).2 (fTeeth (fAsk (V (t + 1)) ta tb tl) V b ng (V i 2) (V i 3)) 5).2) ∧ (∀ a, a ≠ 6 → a ≠ 7 → a ≠ b → V' a = V a) ∧ (∀ q, q ≠ 6 → q ≠ 7 → V' b q = V b q)))) ([.ref (ad 6), .ref (ad b), .ref (ad i)] : List Value).toArray s 0 0 (mA ad sh s.heap.size)) (F0 m 29 ls []) := by
    intro n_29
    induction n_29 with
    | zero => intro fd k V1 H locs ls hk hfr hfb ho hs hM_ hW hl; omega
    | succ n_29 ih_29 =>
      intro fd k V1 H locs ls hk hfr hfb ho hs hM_ hW hl
      have hI1 : ScI V1 b t ta tb tl ne ng := by
        obtain ⟨q1, q2, q3, q4, q5, q6, q7, q8⟩ := hI
        exact ⟨by rw [hfb _ (by omega) (by omega)]; exact q1, by rw [hfb _ (by omega) (by omega)]; exact q2, q3, q4, by rw [hfb _ (by omega) (by omega)]; exact q5, by rw [hfr _ ht6 ht7 htb]; exact q6, by rw [hfr _ ht6 ht7 htb]; exact q7, q8⟩
      refine lv_iload hx hb dX2_findTeeth_29 (lv_at hl 4 rfl) ?_
      refine lv_iconst (v := nI 5) hx hb dX2_findTeeth_31 (by decide) ?_
      refine lv_icmp_gt (tgt := 92) hx hb dX2_findTeeth_32 (by decide) (fun c_8 => ?_) (fun c_8 => ?_)
      · skip
        have c_8 : 5 < k := (nI_ltI (by omega) (by omega)).mp c_8
        refine lv_iload_n hx hb dX2_findTeeth_92 rfl (lv_at hl 3 rfl) ?_
        exact m_iret S hr hlk hW dX2_findTeeth_93 (by have hs5 := hs; rw [show k - 1 = 5 by omega] at hs5; exact ⟨(congrArg Prod.fst hs5).symm, congrArg Prod.snd hs5, hfr, hfb⟩)
      · skip
        have c_8 : ¬ 5 < k := mt (nI_ltI (by omega) (by omega)).mpr c_8
        refine lv_aload_n hx hb dX2_findTeeth_35 rfl (lv_at hl 0 rfl) ?_
        refine m_getr S hW h6 0 rfl (j := 7) rfl kX2 (iW2 _) (by decide) (List.mem_cons_of_mem _ (wa_3 _ (List.mem_of_getElem? (i := 4) (by decide +kernel)))) dX2_findTeeth_36 ?_
        refine lv_iconst (v := nI 5) hx hb dX2_findTeeth_39 (by decide) ?_
        refine m_puti S hW h7 0 rfl kX1 (iW1 _) tyX1 tyX1_ok nmX1 (by decide) (List.mem_cons_of_mem _ (wa_35 _ (List.mem_of_getElem? (i := 20) (by decide +kernel)))) (Or.inl rfl) rfl rfl dX2_findTeeth_40 (fun H locs hW => ?_)
        obtain ⟨V_9, eV_9⟩ : ∃ z : mV, z = mU V1 7 0 (nI 5) := ⟨_, rfl⟩
        rw [← eV_9] at hW
        refine lv_aload_n hx hb dX2_findTeeth_43 rfl (lv_at hl 0 rfl) ?_
        refine m_getr S hW h6 0 rfl (j := 7) rfl kX2 (iW2 _) (by decide) (List.mem_cons_of_mem _ (wa_3 _ (List.mem_of_getElem? (i := 4) (by decide +kernel)))) dX2_findTeeth_44 ?_
        refine lv_iconst (v := nI 2) hx hb dX2_findTeeth_47 (by decide) ?_
        refine lv_iload hx hb dX2_findTeeth_48 (lv_at hl 4 rfl) ?_
        refine lv_imul hx hb dX2_findTeeth_50 ?_
        refine m_top (y := nI (2 * k)) (pk_mul 2 k) ?_
        refine lv_iconst (v := nI 2) hx hb dX2_findTeeth_51 (by decide) ?_
        refine lv_isub hx hb dX2_findTeeth_52 ?_
        refine m_top (y := nI ((2 * k) - 2)) (pk_sub (by omega)) ?_
        refine m_puti S hW h7 1 rfl kX1 (iW1 _) tyX1 tyX1_ok nmX1 (by decide) (List.mem_cons_of_mem _ (wa_35 _ (List.mem_of_getElem? (i := 21) (by decide +kernel)))) (Or.inl rfl) rfl rfl dX2_findTeeth_53 (fun H locs hW => ?_)
        obtain ⟨V_10, eV_10⟩ : ∃ z : mV, z = mU V_9 7 1 (nI ((2 * k) - 2)) := ⟨_, rfl⟩
        rw [← eV_10] at hW
        have hI9 : ScI V_10 b t ta tb tl ne ng := by rw [eV_10, eV_9]; exact (hI1.put _ ht7 (Or.inl (by omega))).put _ ht7 (Or.inl (by omega))
        refine lv_aload_n hx hb dX2_findTeeth_56 rfl (lv_at hl 1 rfl) ?_
        refine lv_aload_n hx hb dX2_findTeeth_57 rfl (lv_at hl 0 rfl) ?_
        refine m_getr S hW h6 0 rfl (j := 7) rfl kX2 (iW2 _) (by decide) (List.mem_cons_of_mem _ (wa_3 _ (List.mem_of_getElem? (i := 4) (by decide +kernel)))) dX2_findTeeth_58 ?_
        refine m_cv (m_rV S hW (c_X4_findBest l G ad sh V_10 b t ta tb tl ne ng 7 hSc hI9 (by first | assumption | omega) h7) (cwV 1 hts (gCall [.methodLink RX2 22 yX4_findBest, .instanceMethod yX4_findBest, .selects RX4 yX4_findBest yX4_findBest, .initialized RX4] (List.forall_mem_cons.mpr ⟨(wa_28 _ (List.mem_of_getElem? (i := 21) (by decide +kernel))), (List.forall_mem_cons.mpr ⟨(wa_35 _ (List.mem_of_getElem? (i := 23) (by decide +kernel))), (List.forall_mem_cons.mpr ⟨(wa_28 _ (List.mem_of_getElem? (i := 19) (by decide +kernel))), (List.forall_mem_cons.mpr ⟨(wa_28 _ (List.mem_of_getElem? (i := 20) (by decide +kernel))), (List.forall_mem_cons.mpr ⟨(wa_2 _ (List.mem_of_getElem? (i := 7) (by decide +kernel))), (fun _ h => absurd h List.not_mem_nil)⟩)⟩)⟩)⟩)⟩)) rfl rfl rfl (by decide +kernel) ⟨Nat.le_of_ble_eq_true rfl, Nat.le_of_ble_eq_true rfl⟩) hSc.1 kX4 rfl hl.1 rfl (Nat.le_of_ble_eq_true rfl) dX2_findTeeth_61 ⟨Nat.le_of_ble_eq_true rfl, Nat.le_of_ble_eq_true rfl⟩) hW (fun V_11 H locs hp_12 hW => ?_)
        have eV_11 : V_11 = mU (mU V_10 b 6 (fBest (fAsk (V_10 (t + 1)) ta tb tl) (V_10 7 0) (V_10 7 1) (V_10 7 2) (V_10 7 3) (V_10 b 4) (fun g => V_10 (b + 10 + 2 * g) 1) (fun g => V_10 (b + 10 + 2 * g) 2) (fun g => V_10 (b + 10 + 2 * g + 1)) (ng * 16)).1) b 7 (fBest (fAsk (V_10 (t + 1)) ta tb tl) (V_10 7 0) (V_10 7 1) (V_10 7 2) (V_10 7 3) (V_10 b 4) (fun g => V_10 (b + 10 + 2 * g) 1) (fun g => V_10 (b + 10 + 2 * g) 2) (fun g => V_10 (b + 10 + 2 * g + 1)) (ng * 16)).2 := hp_12
        refine lv_aload_n hx hb dX2_findTeeth_64 rfl (lv_at hl 1 rfl) ?_
        refine m_geti S hW hSc.1 7 rfl kX4 (iW4 _) (by decide) (List.mem_cons_of_mem _ (wa_35 _ (List.mem_of_getElem? (i := 18) (by decide +kernel)))) dX2_findTeeth_65 ?_
        refine lv_aload_n hx hb dX2_findTeeth_68 rfl (lv_at hl 0 rfl) ?_
        refine m_geti S hW h6 1 rfl kX2 (iW2 _) (by decide) (List.mem_cons_of_mem _ (wa_35 _ (List.mem_of_getElem? (i := 19) (by decide +kernel)))) dX2_findTeeth_69 ?_
        refine lv_icmp_le (tgt := 86) hx hb dX2_findTeeth_72 (by decide) (fun c_14 => ?_) (fun c_14 => ?_)
        · skip
          refine lv_iinc (v := nI (k + 1)) (lv' := [(4, .int (nI (k + 1))), (0, .ref (ad 6)), (1, .ref (ad b)), (2, .ref (ad i)), (3, .int fd)]) hx hb dX2_findTeeth_86 hl (k := 4) rfl (m_inc k 1) (by decide) rfl (fun ls hl => ?_)
          refine lv_goto (tgt := 29) hx hb dX2_findTeeth_89 (by decide) ?_
          have hbg : V_11 b 7 = (fTeeth (fAsk (V (t + 1)) ta tb tl) V b ng (V i 2) (V i 3)) k := by
            rw [eV_11, mU_eq]
            have a0 : V_10 7 0 = nI 5 := (by rw [eV_10, mU_ne _ _ (by omega), eV_9, mU_eq])
            have a1 : V_10 7 1 = nI (2 * k - 2) := (by rw [eV_10, mU_eq])
            have a2 : V_10 7 2 = V i 2 := (by rw [eV_10, mU_ne _ _ (by omega), eV_9, mU_ne _ _ (by omega)]; exact ho.1)
            have a3 : V_10 7 3 = V i 3 := (by rw [eV_10, mU_ne _ _ (by omega), eV_9, mU_ne _ _ (by omega)]; exact ho.2)
            have af : ∀ a, a ≠ 6 → a ≠ 7 → a ≠ b → V_10 a = V a := fun a h6 h7 hb => (by rw [eV_10, mU_no _ _ h7, eV_9, mU_no _ _ h7]; exact hfr a h6 h7 hb)
            have a4 : V_10 b 4 = V b 4 := (by rw [eV_10, mU_no _ _ (by omega), eV_9, mU_no _ _ (by omega)]; exact hfb 4 (by omega) (by omega))
            rw [a0, a1, a2, a3, af _ ht16 ht17 ht1b]
            exact congrArg Prod.snd (fBsc_congr _ ng _ _ _ _ a4 (fun a ha => af a (by omega) (by omega) (by omega)))
          have h61 := (show V_11 6 1 = V1 6 1 by rw [eV_11, mU_no _ _ (by omega), mU_no _ _ (by omega), eV_10, mU_no _ _ (by omega), eV_9, mU_no _ _ (by omega)])
          rw [hbg, h61] at c_14
          exact ih_29  fd (k + 1) V_11 _ _ _ (by omega) (by intro a h6 h7 hb; rw [eV_11, mU_no _ _ hb, mU_no _ _ hb, eV_10, mU_no _ _ h7, eV_9, mU_no _ _ h7]; exact hfr a h6 h7 hb) (by intro q h6 h7; rw [eV_11, mU_ne _ _ (by omega), mU_ne _ _ (by omega), eV_10, mU_no _ _ (by omega), eV_9, mU_no _ _ (by omega)]; exact hfb q h6 h7) (by exact ⟨by rw [eV_11, mU_no _ _ (by omega), mU_no _ _ (by omega), eV_10, mU_ne _ _ (by omega), eV_9, mU_ne _ _ (by omega)]; exact ho.1, by rw [eV_11, mU_no _ _ (by omega), mU_no _ _ (by omega), eV_10, mU_ne _ _ (by omega), eV_9, mU_ne _ _ (by omega)]; exact ho.2⟩) (by rw [fHire_s hk.1 hs, if_neg (Int32.not_lt.mpr c_14), h61]) (by omega) hW (lv_sub hl [1, 2, 3, 4, 0] rfl)
        · skip
          refine lv_aload_n hx hb dX2_findTeeth_75 rfl (lv_at hl 0 rfl) ?_
          refine lv_aload_n hx hb dX2_findTeeth_76 rfl (lv_at hl 1 rfl) ?_
          refine m_geti S hW hSc.1 7 rfl kX4 (iW4 _) (by decide) (List.mem_cons_of_mem _ (wa_35 _ (List.mem_of_getElem? (i := 18) (by decide +kernel)))) dX2_findTeeth_77 ?_
          refine m_puti S hW h6 1 rfl kX2 (iW2 _) tyX2 tyX2_ok nmX2 (by decide) (List.mem_cons_of_mem _ (wa_35 _ (List.mem_of_getElem? (i := 19) (by decide +kernel)))) (Or.inl rfl) rfl rfl dX2_findTeeth_80 (fun H locs hW => ?_)
          obtain ⟨V_15, eV_15⟩ : ∃ z : mV, z = mU V_11 6 1 (V_11 b 7) := ⟨_, rfl⟩
          rw [← eV_15] at hW
          refine lv_iload hx hb dX2_findTeeth_83 (lv_at hl 4 rfl) ?_
          refine lv_istore_n (lv' := [(3, .int (nI k)), (0, .ref (ad 6)), (1, .ref (ad b)), (2, .ref (ad i)), (4, .int (nI k))]) hx hb dX2_findTeeth_85 rfl hl (by decide) rfl (fun ls hl => ?_)
          refine lv_iinc (v := nI (k + 1)) (lv' := [(4, .int (nI (k + 1))), (3, .int (nI k)), (0, .ref (ad 6)), (1, .ref (ad b)), (2, .ref (ad i))]) hx hb dX2_findTeeth_86 hl (k := 4) rfl (m_inc k 1) (by decide) rfl (fun ls hl => ?_)
          refine lv_goto (tgt := 29) hx hb dX2_findTeeth_89 (by decide) ?_
          have hbg : V_11 b 7 = (fTeeth (fAsk (V (t + 1)) ta tb tl) V b ng (V i 2) (V i 3)) k := by
            rw [eV_11, mU_eq]
            have a0 : V_10 7 0 = nI 5 := (by rw [eV_10, mU_ne _ _ (by omega), eV_9, mU_eq])
            have a1 : V_10 7 1 = nI (2 * k - 2) := (by rw [eV_10, mU_eq])
            have a2 : V_10 7 2 = V i 2 := (by rw [eV_10, mU_ne _ _ (by omega), eV_9, mU_ne _ _ (by omega)]; exact ho.1)
            have a3 : V_10 7 3 = V i 3 := (by rw [eV_10, mU_ne _ _ (by omega), eV_9, mU_ne _ _ (by omega)]; exact ho.2)
            have af : ∀ a, a ≠ 6 → a ≠ 7 → a ≠ b → V_10 a = V a := fun a h6 h7 hb => (by rw [eV_10, mU_no _ _ h7, eV_9, mU_no _ _ h7]; exact hfr a h6 h7 hb)
            have a4 : V_10 b 4 = V b 4 := (by rw [eV_10, mU_no _ _ (by omega), eV_9, mU_no _ _ (by omega)]; exact hfb 4 (by omega) (by omega))
            rw [a0, a1, a2, a3, af _ ht16 ht17 ht1b]
            exact congrArg Prod.snd (fBsc_congr _ ng _ _ _ _ a4 (fun a ha => af a (by omega) (by omega) (by omega)))
          have h61 := (show V_11 6 1 = V1 6 1 by rw [eV_11, mU_no _ _ (by omega), mU_no _ _ (by omega), eV_10, mU_no _ _ (by omega), eV_9, mU_no _ _ (by omega)])
          rw [hbg, h61] at c_14
          exact ih_29  (nI k) (k + 1) V_15 _ _ _ (by omega) (by intro a h6 h7 hb; rw [eV_15, mU_no _ _ h6, eV_11, mU_no _ _ hb, mU_no _ _ hb, eV_10, mU_no _ _ h7, eV_9, mU_no _ _ h7]; exact hfr a h6 h7 hb) (by intro q h6 h7; rw [eV_15, mU_no _ _ (by omega), eV_11, mU_ne _ _ (by omega), mU_ne _ _ (by omega), eV_10, mU_no _ _ (by omega), eV_9, mU_no _ _ (by omega)]; exact hfb q h6 h7) (by exact ⟨by rw [eV_15, mU_no _ _ (by omega), eV_11, mU_no _ _ (by omega), mU_no _ _ (by omega), eV_10, mU_ne _ _ (by omega), eV_9, mU_ne _ _ (by omega)]; exact ho.1, by rw [eV_15, mU_no _ _ (by omega), eV_11, mU_no _ _ (by omega), mU_no _ _ (by omega), eV_10, mU_ne _ _ (by omega), eV_9, mU_ne _ _ (by omega)]; exact ho.2⟩) (by rw [fHire_s hk.1 hs, if_pos (Int32.not_le.mp c_14), eV_15, mU_eq, hbg]) (by omega) hW (lv_sub hl [2, 3, 4, 1, 0] rfl)
  exact loop_29 (6 - 1 + 1) (-1) 1 V_7 _ _ _ (by omega) (by have hm : ∀ a, a ≠ 7 → mCp V 7 i 5 a = V a := fun a ha => (by funext q; rw [mCp, if_neg (fun z => ha z.1)]); have h70 : ∀ q, q < 5 → mCp V 7 i 5 7 q = V i q := fun q hq => (by rw [mCp, if_pos ⟨rfl, hq⟩]); intro a h6 h7 hb; rw [eV_7, mU_no _ _ h6, eV_4, mU_no _ _ hb, mU_no _ _ hb]; exact hm a h7) (by have hm : ∀ a, a ≠ 7 → mCp V 7 i 5 a = V a := fun a ha => (by funext q; rw [mCp, if_neg (fun z => ha z.1)]); have h70 : ∀ q, q < 5 → mCp V 7 i 5 7 q = V i q := fun q hq => (by rw [mCp, if_pos ⟨rfl, hq⟩]); intro q h6 h7; rw [eV_7, mU_no _ _ (by omega), eV_4, mU_ne _ _ (by omega), mU_ne _ _ (by omega), hm _ (by omega)]) (by have hm : ∀ a, a ≠ 7 → mCp V 7 i 5 a = V a := fun a ha => (by funext q; rw [mCp, if_neg (fun z => ha z.1)]); have h70 : ∀ q, q < 5 → mCp V 7 i 5 7 q = V i q := fun q hq => (by rw [mCp, if_pos ⟨rfl, hq⟩]); exact ⟨by rw [eV_7, mU_no _ _ (by omega), eV_4, mU_no _ _ (by omega), mU_no _ _ (by omega)]; exact h70 2 (by omega), by rw [eV_7, mU_no _ _ (by omega), eV_4, mU_no _ _ (by omega), mU_no _ _ (by omega)]; exact h70 3 (by omega)⟩) (by have hm : ∀ a, a ≠ 7 → mCp V 7 i 5 a = V a := fun a ha => (by funext q; rw [mCp, if_neg (fun z => ha z.1)]); have h70 : ∀ q, q < 5 → mCp V 7 i 5 7 q = V i q := fun q hq => (by rw [mCp, if_pos ⟨rfl, hq⟩]); rw [eV_7, mU_eq, eV_4, mU_eq, h70 0 (by omega), h70 1 (by omega), h70 2 (by omega), h70 3 (by omega), hm _ ht17]; exact congrArg (fun z : Int32 × Int32 => ((-1 : Int32), z.2)) (fBsc_congr _ ng _ _ _ _ (by rw [hm _ (by omega)]) (fun a ha => hm a (by omega)))) (by omega) hW (lv_sub hl [2, 3, 4, 1, 0] rfl)
