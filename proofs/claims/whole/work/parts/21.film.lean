/-! films; orders and duels of all depths -/
set_option maxHeartbeats 4000000 in
set_option maxRecDepth 100000 in
theorem c_X8_takeTurns (l : Launch) (G : mG) (ad : Nat → Nat) (sh : Nat → Option mSh) (V : mV) (t ta tb tl ne ng : Nat) (ask : fAsks) (z : fZ) (i n : Nat) (hH : ThOk sh V t ta tb tl ne ng ask z) (hne0 : 0 < ne) (hn : n ≤ 13) (hi : sh i = some (sSheet i)) (hi' : sh (i + 4) = some (mI 40)) (hi14 : i < 20) : mM l yX8_takeTurns wsX8_takeTurns ({ frames := 5, cells := 0, slots := 0, locals := 166 } : Room) G ad sh V [.ref (ad 5), .int (nI n), .ref (ad i)] 0 0 (mPi ad sh (fun r V' => nI ((zFilm ask ne ng z n).2.2) = r ∧ (∀ q, q < 40 → V' (i + 4) q = (zFilm ask ne ng z n).2.1 q) ∧ (V' i 0 = nI 0) ∧ (V' i 1 = nI (3 * (zFilm ask ne ng z n).2.2)) ∧ (∀ a, a ≠ i → a ≠ i + 4 → a < 80 ∨ 104 ≤ a → V' a = V a) ∧ ((zFilm ask ne ng z n).2.2 ≤ n))) := by
  refine mM.of (cc := cX8_takeTurns) (maxL := 7) (ret := (some .int)) (by decide) rfl (Nat.le_of_ble_eq_true rfl) ?_
  intro p e s m below meth c S hr hlk hnm hW ls hl
  obtain ⟨hx, hb, hml, hown, hts⟩ := id S
  have hl : lv_has ls 7 [(0, .ref (ad 5)), (1, .int (nI n)), (2, .ref (ad i))] := hl
  have hS0 : True := trivial
  have hne5 := hH.2.ne5
  have hng6 := hH.2.ng6
  refine lv_aload_n hx hb dX8_takeTurns_0 rfl (lv_at hl 2 rfl) ?_
  refine lv_iconst (v := nI 0) hx hb dX8_takeTurns_1 (by decide) ?_
  refine lv_iconst (v := nI 0) hx hb dX8_takeTurns_2 (by decide) ?_
  refine m_cv (m_rV S hW (c_X5_becomeRow l G ad sh V i (nI 0) (nI 0) hi hi') (cwV 2 hts (gCall [.methodLink RX8 122 yX5_becomeRow, .instanceMethod yX5_becomeRow, .selects RX5 yX5_becomeRow yX5_becomeRow, .initialized RX5] (List.forall_mem_cons.mpr ⟨(wa_41 _ (List.mem_of_getElem? (i := 5) (by decide +kernel))), (List.forall_mem_cons.mpr ⟨(wa_41 _ (List.mem_of_getElem? (i := 2) (by decide +kernel))), (List.forall_mem_cons.mpr ⟨(wa_41 _ (List.mem_of_getElem? (i := 3) (by decide +kernel))), (List.forall_mem_cons.mpr ⟨(wa_41 _ (List.mem_of_getElem? (i := 4) (by decide +kernel))), (List.forall_mem_cons.mpr ⟨(wa_2 _ (List.mem_of_getElem? (i := 15) (by decide +kernel))), (fun _ h => absurd h List.not_mem_nil)⟩)⟩)⟩)⟩)⟩)) rfl rfl rfl (by decide +kernel) ⟨Nat.le_of_ble_eq_true rfl, Nat.le_of_ble_eq_true rfl⟩) hi kX5 rfl hl.1 rfl (Nat.le_of_ble_eq_true rfl) dX8_takeTurns_3 ⟨Nat.le_of_ble_eq_true rfl, Nat.le_of_ble_eq_true rfl⟩) hW (fun V_1 H locs hp_2 hW => ?_)
  have eV_1 : V_1 = mFill (mU (mU V i 0 (nI 0)) i 1 (nI 0)) (i + 4) 0 40 (nI 0) := hp_2
  have hm0 : ∀ a, a ≠ i → a ≠ i + 4 → V_1 a = V a := fun a h1 h2 => by rw [eV_1, mFill_no _ _ h2, mU_no _ _ h1, mU_no _ _ h1]
  have hH0 : ThOk sh V_1 t ta tb tl ne ng ask z := hH.fr4 (fun a ha => hm0 a (by omega) (by omega)) (fun k _ => congrFun (hm0 80 (by omega) (by omega)) k)
  refine lv_aload_n hx hb dX8_takeTurns_6 rfl (lv_at hl 0 rfl) ?_
  refine m_getr S hW hH.1 0 rfl (j := 80) rfl kX8 (iW8 _) (by decide) (List.mem_cons_of_mem _ (wa_10 _ (List.mem_of_getElem? (i := 15) (by decide +kernel)))) dX8_takeTurns_7 ?_
  refine m_geti S hW hH.2.1.1 2 rfl kX4 (iW4 _) (by decide) (List.mem_cons_of_mem _ (wa_31 _ (List.mem_of_getElem? (i := 0) (by decide +kernel)))) dX8_takeTurns_10 ?_
  refine m_top (y := nI ne) hH0.2.2.1.1 ?_
  refine m_if_ne (tgt := 18) hx hb dX8_takeTurns_13 (by decide) (fun c_4 => ?_) (fun c_4 => ?_)
  · skip
    have c_4 : ¬ ne = 0 := mt (nI_eq (by omega) (by omega)).mpr c_4
    refine lv_iconst (v := nI 0) hx hb dX8_takeTurns_18 (by decide) ?_
    refine lv_istore_n (lv' := [(3, .int (nI 0)), (0, .ref (ad 5)), (1, .int (nI n)), (2, .ref (ad i))]) hx hb dX8_takeTurns_19 rfl hl (by decide) rfl (fun ls hl => ?_)
    refine lv_iconst (v := nI 0) hx hb dX8_takeTurns_20 (by decide) ?_
    refine lv_istore (lv' := [(4, .int (nI 0)), (3, .int (nI 0)), (0, .ref (ad 5)), (1, .int (nI n)), (2, .ref (ad i))]) hx hb dX8_takeTurns_21 hl (by decide) rfl (fun ls hl => ?_)
    have loop_23 : ∀ (n_23 : Nat) (mn k : Nat) (V1 : mV) (H : Heap) (locs : List Loc) (ls : Array Slot), (k ≤ n) → (ThOk sh V1 t ta tb tl ne ng ask (zFilm ask ne ng z k).1) → (mn = (zFilm ask ne ng z k).2.2 ∧ mn ≤ k) → (∀ q, q < 40 → V1 (i + 4) q = (zFilm ask ne ng z k).2.1 q) → (V1 i 0 = nI 0) → (V1 i 1 = nI (3 * mn)) → (∀ a, a ≠ i → a ≠ i + 4 → a < 80 ∨ 104 ≤ a → V1 a = V a) → (n - k) < n_23 → mC (mA ad sh s.heap.size) s.heap s G ad sh V1 H locs → lv_has ls 7 [(0, .ref (ad 5)), (1, .int (nI n)), (2, .ref (ad i)), (3, .int (nI mn)), (4, .int (nI k))] → W p l e ({ frames := 5, cells := 0, slots := 0, locals := 166 } : Room) s m ([.ref (ad 5), .int (nI n), .ref (ad i)] : List Value).toArray below meth c H locs 0 0 (MQ below (mPost G ad sh s.heap.size (mPi ad sh (fun r V' => nI ((zFilm ask ne ng z n).2.2) = r ∧ (∀ q, q < 40 → V' (i + 4) q = (zFilm ask ne ng z n).2.1 q) ∧ (V' i 0 = nI 0) ∧ (V' i 1 = nI (3 * (zFilm ask ne ng z n).2.2)) ∧ (∀ a, a ≠ i → a ≠ i + 4 → a < 80 ∨ 104 ≤ a → V' a = V a) ∧ ((zFilm ask ne ng z n).2.2 ≤ n)))) ([.ref (ad 5), .int (nI n), .ref (ad i)] : List Value).toArray s 0 0 (mA ad sh s.heap.size)) (F0 m 23 ls []) := by
      intro n_23
      induction n_23 with
      | zero => intro mn k V1 H locs ls hk hH1 hm hcc hs0 hs1 hfd hM_ hW hl; omega
      | succ n_23 ih_23 =>
        intro mn k V1 H locs ls hk hH1 hm hcc hs0 hs1 hfd hM_ hW hl
        refine lv_iload hx hb dX8_takeTurns_23 (lv_at hl 4 rfl) ?_
        refine lv_iload_n hx hb dX8_takeTurns_25 rfl (lv_at hl 1 rfl) ?_
        refine lv_icmp_ge (tgt := 139) hx hb dX8_takeTurns_26 (by decide) (fun c_5 => ?_) (fun c_5 => ?_)
        · skip
          have c_5 : n ≤ k := (nI_leI (by omega) (by omega)).mp c_5
          refine lv_iload_n hx hb dX8_takeTurns_139 rfl (lv_at hl 3 rfl) ?_
          exact m_iret S hr hlk hW dX8_takeTurns_140 (by rw [show n = k by omega]; exact ⟨by rw [hm.1], hcc, hs0, by rw [← hm.1]; exact hs1, hfd, by omega⟩)
        · skip
          have c_5 : ¬ n ≤ k := mt (nI_leI (by omega) (by omega)).mpr c_5
          refine lv_iload hx hb dX8_takeTurns_29 (lv_at hl 4 rfl) ?_
          refine lv_aload_n hx hb dX8_takeTurns_31 rfl (lv_at hl 0 rfl) ?_
          refine m_getr S hW hH.1 0 rfl (j := 80) rfl kX8 (iW8 _) (by decide) (List.mem_cons_of_mem _ (wa_10 _ (List.mem_of_getElem? (i := 15) (by decide +kernel)))) dX8_takeTurns_32 ?_
          refine m_geti S hW hH.2.1.1 2 rfl kX4 (iW4 _) (by decide) (List.mem_cons_of_mem _ (wa_31 _ (List.mem_of_getElem? (i := 0) (by decide +kernel)))) dX8_takeTurns_35 ?_
          refine m_top (y := nI ne) hH1.2.2.1.1 ?_
          refine lv_irem hx hb dX8_takeTurns_38 (nI_ne0 (by omega) (by omega)) ?_
          refine m_top (y := nI (k % ne)) (pk_rem (by omega) (by omega) (by omega)) ?_
          refine lv_istore (lv' := [(5, .int (nI (k % ne))), (0, .ref (ad 5)), (1, .int (nI n)), (2, .ref (ad i)), (3, .int (nI mn)), (4, .int (nI k))]) hx hb dX8_takeTurns_39 hl (by decide) rfl (fun ls hl => ?_)
          refine lv_aload_n hx hb dX8_takeTurns_41 rfl (lv_at hl 1 rfl) ?_
          refine m_getr S hW hH.1 0 rfl (j := 80) rfl kX8 (iW8 _) (by decide) (List.mem_cons_of_mem _ (wa_10 _ (List.mem_of_getElem? (i := 15) (by decide +kernel)))) dX8_takeTurns_42 ?_
          refine lv_aload_n hx hb dX8_takeTurns_45 rfl (lv_at hl 1 rfl) ?_
          refine m_getr S hW hH.1 0 rfl (j := 80) rfl kX8 (iW8 _) (by decide) (List.mem_cons_of_mem _ (wa_10 _ (List.mem_of_getElem? (i := 15) (by decide +kernel)))) dX8_takeTurns_46 ?_
          refine m_getr S hW hH.2.1.1 0 rfl (j := (80 + 1)) rfl kX4 (iW4 _) (by decide) (List.mem_cons_of_mem _ (wa_31 _ (List.mem_of_getElem? (i := 5) (by decide +kernel)))) dX8_takeTurns_49 ?_
          refine lv_iload hx hb dX8_takeTurns_52 (lv_at hl 0 rfl) ?_
          refine m_aald S hW 1 rfl hH.2.1.2.1 (k % ne) rfl (by have := Nat.mod_lt k hne0; omega) (by decide) (j := (80 + 4 + (k % ne))) (if_pos (by have := Nat.mod_lt k hne0; omega)) dX8_takeTurns_54 ?_
          refine m_cv (m_rV S hW (c_X4_findBest_z l G ad sh V1 80 t ta tb tl ne ng ask ((zFilm ask ne ng z k).1) (k % ne) hH1.2 (Nat.mod_lt _ hne0)) (cwV 1 hts (gCall [.methodLink RX8 42 yX4_findBest, .instanceMethod yX4_findBest, .selects RX4 yX4_findBest yX4_findBest, .initialized RX4] (List.forall_mem_cons.mpr ⟨(wa_28 _ (List.mem_of_getElem? (i := 21) (by decide +kernel))), (List.forall_mem_cons.mpr ⟨(wa_31 _ (List.mem_of_getElem? (i := 10) (by decide +kernel))), (List.forall_mem_cons.mpr ⟨(wa_28 _ (List.mem_of_getElem? (i := 19) (by decide +kernel))), (List.forall_mem_cons.mpr ⟨(wa_28 _ (List.mem_of_getElem? (i := 20) (by decide +kernel))), (List.forall_mem_cons.mpr ⟨(wa_2 _ (List.mem_of_getElem? (i := 7) (by decide +kernel))), (fun _ h => absurd h List.not_mem_nil)⟩)⟩)⟩)⟩)⟩)) rfl rfl rfl (by decide +kernel) ⟨Nat.le_of_ble_eq_true rfl, Nat.le_of_ble_eq_true rfl⟩) hH.2.1.1 kX4 rfl hl.1 rfl (Nat.le_of_ble_eq_true rfl) dX8_takeTurns_55 ⟨Nat.le_of_ble_eq_true rfl, Nat.le_of_ble_eq_true rfl⟩) hW (fun V_6 H locs hp_7 hW => ?_)
          have eV_6 : V_6 = mU (mU V1 80 6 (zBest ask ((zFilm ask ne ng z k).1) (k % ne) (ng * 16)).1) 80 7 (zBest ask ((zFilm ask ne ng z k).1) (k % ne) (ng * 16)).2 := hp_7
          have hH2 : ThOk sh V_6 t ta tb tl ne ng ask (zFilm ask ne ng z k).1 := by rw [eV_6]; exact hH1.fr (ThFr.best _ _)
          have ho : ∀ a, a ≠ 80 → V_6 a = V1 a := fun a ha => by rw [eV_6, mU_no _ _ ha, mU_no _ _ ha]
          rcases zBest_range ask (zFilm ask ne ng z k).1 (k % ne) (ng * 16) with hr0 | ⟨gg, pp, hgp, hpp, hr0, hcan⟩
          · skip
            have hb6 : V_6 80 6 = -1 := by rw [eV_6, mU_ne _ _ (by omega), mU_eq, hr0]
            have hF := zFilm_n hr0
            refine lv_aload_n hx hb dX8_takeTurns_58 rfl (lv_at hl 1 rfl) ?_
            refine m_getr S hW hH.1 0 rfl (j := 80) rfl kX8 (iW8 _) (by decide) (List.mem_cons_of_mem _ (wa_10 _ (List.mem_of_getElem? (i := 15) (by decide +kernel)))) dX8_takeTurns_59 ?_
            refine m_crp (m_rV S hW (c_X4_goodOfBest_n l G ad sh V_6 80 t ta tb tl ne ng hH.2.1 hH2.2.2.1 (by first | assumption | omega)) (cwV 0 hts (gCall [.methodLink RX8 46 yX4_goodOfBest, .instanceMethod yX4_goodOfBest, .selects RX4 yX4_goodOfBest yX4_goodOfBest, .initialized RX4] (List.forall_mem_cons.mpr ⟨(wa_31 _ (List.mem_of_getElem? (i := 14) (by decide +kernel))), (List.forall_mem_cons.mpr ⟨(wa_31 _ (List.mem_of_getElem? (i := 11) (by decide +kernel))), (List.forall_mem_cons.mpr ⟨(wa_31 _ (List.mem_of_getElem? (i := 12) (by decide +kernel))), (List.forall_mem_cons.mpr ⟨(wa_31 _ (List.mem_of_getElem? (i := 13) (by decide +kernel))), (List.forall_mem_cons.mpr ⟨(wa_2 _ (List.mem_of_getElem? (i := 7) (by decide +kernel))), (fun _ h => absurd h List.not_mem_nil)⟩)⟩)⟩)⟩)⟩)) rfl rfl rfl (by decide +kernel) ⟨Nat.le_of_ble_eq_true rfl, Nat.le_of_ble_eq_true rfl⟩) hH.2.1.1 kX4 rfl hl.1 rfl (Nat.le_of_ble_eq_true rfl) dX8_takeTurns_62 ⟨Nat.le_of_ble_eq_true rfl, Nat.le_of_ble_eq_true rfl⟩) hW (fun r_10 H locs hp_9 hW => ?_)
            obtain rfl := hp_9
            refine W.eq (g2 := F0 m 65 ls [.null]) rfl ?_
            refine lv_astoreN (lv' := [(6, .null), (5, .int (nI (k % ne))), (0, .ref (ad 5)), (1, .int (nI n)), (2, .ref (ad i)), (3, .int (nI mn)), (4, .int (nI k))]) hx hb dX8_takeTurns_65 hl (by decide) rfl (fun ls hl => ?_)
            refine lv_aloadN hx hb dX8_takeTurns_67 (lv_at hl 0 rfl) ?_
            refine lv_ifnullN (tgt := 133) hx hb dX8_takeTurns_69 (by decide) ?_
            refine lv_iinc (v := nI (k + 1)) (lv' := [(4, .int (nI (k + 1))), (6, .null), (5, .int (nI (k % ne))), (0, .ref (ad 5)), (1, .int (nI n)), (2, .ref (ad i)), (3, .int (nI mn))]) hx hb dX8_takeTurns_133 hl (k := 6) rfl (m_inc k 1) (by decide) rfl (fun ls hl => ?_)
            refine lv_goto (tgt := 23) hx hb dX8_takeTurns_136 (by decide) ?_
            exact ih_23  mn (k + 1) V_6 _ _ _ (by omega) (by rw [hF]; exact hH2) (by rw [hF]; exact ⟨hm.1, by omega⟩) (by rw [hF]; intro q hq; rw [ho _ (by omega)]; exact hcc q hq) (by rw [ho _ (by omega)]; exact hs0) (by rw [ho _ (by omega)]; exact hs1) (by intro a h1 h2 h3; rw [ho a (by omega)]; exact hfd a h1 h2 h3) (by omega) hW (lv_sub hl [3, 4, 5, 6, 0] rfl)
          · skip
            have hgg : gg < ng := by omega
            have hb6 : V_6 80 6 = nI (100 * gg + pp) := by rw [eV_6, mU_ne _ _ (by omega), mU_eq, hr0]
            have hF := zFilm_s hr0 (by omega) hpp
            refine lv_aload_n hx hb dX8_takeTurns_58 rfl (lv_at hl 1 rfl) ?_
            refine m_getr S hW hH.1 0 rfl (j := 80) rfl kX8 (iW8 _) (by decide) (List.mem_cons_of_mem _ (wa_10 _ (List.mem_of_getElem? (i := 15) (by decide +kernel)))) dX8_takeTurns_59 ?_
            refine m_crp (m_rV S hW (c_X4_goodOfBest l G ad sh V_6 80 t ta tb tl ne ng gg pp hH.2.1 hH2.2.2.1 (by first | assumption | omega) (by first | assumption | omega) (by first | assumption | omega)) (cwV 0 hts (gCall [.methodLink RX8 46 yX4_goodOfBest, .instanceMethod yX4_goodOfBest, .selects RX4 yX4_goodOfBest yX4_goodOfBest, .initialized RX4] (List.forall_mem_cons.mpr ⟨(wa_31 _ (List.mem_of_getElem? (i := 14) (by decide +kernel))), (List.forall_mem_cons.mpr ⟨(wa_31 _ (List.mem_of_getElem? (i := 11) (by decide +kernel))), (List.forall_mem_cons.mpr ⟨(wa_31 _ (List.mem_of_getElem? (i := 12) (by decide +kernel))), (List.forall_mem_cons.mpr ⟨(wa_31 _ (List.mem_of_getElem? (i := 13) (by decide +kernel))), (List.forall_mem_cons.mpr ⟨(wa_2 _ (List.mem_of_getElem? (i := 7) (by decide +kernel))), (fun _ h => absurd h List.not_mem_nil)⟩)⟩)⟩)⟩)⟩)) rfl rfl rfl (by decide +kernel) ⟨Nat.le_of_ble_eq_true rfl, Nat.le_of_ble_eq_true rfl⟩) hH.2.1.1 kX4 rfl hl.1 rfl (Nat.le_of_ble_eq_true rfl) dX8_takeTurns_62 ⟨Nat.le_of_ble_eq_true rfl, Nat.le_of_ble_eq_true rfl⟩) hW (fun r_12 H locs hp_11 hW => ?_)
            obtain rfl := hp_11
            refine W.eq (g2 := F0 m 65 ls [.ref (ad (80 + 10 + 2 * gg))]) rfl ?_
            refine lv_astore (lv' := [(6, .ref (ad (80 + 10 + 2 * gg))), (5, .int (nI (k % ne))), (0, .ref (ad 5)), (1, .int (nI n)), (2, .ref (ad i)), (3, .int (nI mn)), (4, .int (nI k))]) hx hb dX8_takeTurns_65 hl (by decide) rfl (fun ls hl => ?_)
            refine lv_aload hx hb dX8_takeTurns_67 (lv_at hl 0 rfl) ?_
            refine lv_ifnull hx hb dX8_takeTurns_69 ?_
            refine lv_aload_n hx hb dX8_takeTurns_72 rfl (lv_at hl 4 rfl) ?_
            refine lv_iload hx hb dX8_takeTurns_73 (lv_at hl 1 rfl) ?_
            refine m_cv (m_rV S hW (c_X5_add l G ad sh V_6 i (3 * mn) (nI (k % ne)) hi hi' (by rw [ho i (by omega)]; exact hs1) (by first | assumption | omega)) (cwV 1 hts (gCall [.methodLink RX8 126 yX5_add, .instanceMethod yX5_add, .selects RX5 yX5_add yX5_add, .initialized RX5] (List.forall_mem_cons.mpr ⟨(wa_41 _ (List.mem_of_getElem? (i := 10) (by decide +kernel))), (List.forall_mem_cons.mpr ⟨(wa_41 _ (List.mem_of_getElem? (i := 7) (by decide +kernel))), (List.forall_mem_cons.mpr ⟨(wa_41 _ (List.mem_of_getElem? (i := 8) (by decide +kernel))), (List.forall_mem_cons.mpr ⟨(wa_41 _ (List.mem_of_getElem? (i := 9) (by decide +kernel))), (List.forall_mem_cons.mpr ⟨(wa_2 _ (List.mem_of_getElem? (i := 15) (by decide +kernel))), (fun _ h => absurd h List.not_mem_nil)⟩)⟩)⟩)⟩)⟩)) rfl rfl rfl (by decide +kernel) ⟨Nat.le_of_ble_eq_true rfl, Nat.le_of_ble_eq_true rfl⟩) hi kX5 rfl hl.1 rfl (Nat.le_of_ble_eq_true rfl) dX8_takeTurns_75 ⟨Nat.le_of_ble_eq_true rfl, Nat.le_of_ble_eq_true rfl⟩) hW (fun V_13 H locs hp_14 hW => ?_)
            have eV_13 : V_13 = mU (mU V_6 i 1 (nI ((3 * mn) + 1))) (i + 4) (3 * mn) (fNar (V_6 i 0) (nI (k % ne))) := hp_14
            have hA1 : ∀ a, a ≠ i → a ≠ i + 4 → V_13 a = V_6 a := fun a h1 h2 => by rw [eV_13, mU_no _ _ h2, mU_no _ _ h1]
            have hi01 : V_13 i 0 = nI 0 := by rw [eV_13, mU_no _ _ (show i ≠ i + 4 by omega), mU_ne _ _ (by omega), ho i (by omega)]; exact hs0
            have hi11 : V_13 i 1 = nI (3 * mn + 1) := by rw [eV_13, mU_no _ _ (by omega), mU_eq]
            have hiH1 : ThOk sh V_13 t ta tb tl ne ng ask (zFilm ask ne ng z k).1 := hH2.fr4 (fun a ha => hA1 a (by omega) (by omega)) (fun k _ => congrFun (hA1 80 (by omega) (by omega)) k)
            have hib1 : V_13 80 6 = nI (100 * gg + pp) := (congrFun (hA1 80 (by omega) (by omega)) 6).trans hb6
            refine lv_aload_n hx hb dX8_takeTurns_78 rfl (lv_at hl 4 rfl) ?_
            refine lv_aload_n hx hb dX8_takeTurns_79 rfl (lv_at hl 2 rfl) ?_
            refine m_getr S hW hH.1 0 rfl (j := 80) rfl kX8 (iW8 _) (by decide) (List.mem_cons_of_mem _ (wa_10 _ (List.mem_of_getElem? (i := 15) (by decide +kernel)))) dX8_takeTurns_80 ?_
            refine m_geti S hW hH.2.1.1 6 rfl kX4 (iW4 _) (by decide) (List.mem_cons_of_mem _ (wa_41 _ (List.mem_of_getElem? (i := 1) (by decide +kernel)))) dX8_takeTurns_83 ?_
            refine m_top (y := nI (100 * gg + pp)) hib1 ?_
            refine lv_bipush (v := nI 100) hx hb dX8_takeTurns_86 (by decide) ?_
            refine lv_idiv hx hb dX8_takeTurns_88 (by decide) ?_
            refine m_top (y := nI ((100 * gg + pp) / 100)) (pk_div (by omega) (by omega) (by omega)) ?_
            refine m_top (y := nI gg) (by rw [show (100 * gg + pp) / 100 = gg by omega]) ?_
            refine m_cv (m_rV S hW (c_X5_add l G ad sh V_13 i (3 * mn + 1) (nI gg) hi hi' hi11 (by first | assumption | omega)) (cwV 1 hts (gCall [.methodLink RX8 126 yX5_add, .instanceMethod yX5_add, .selects RX5 yX5_add yX5_add, .initialized RX5] (List.forall_mem_cons.mpr ⟨(wa_41 _ (List.mem_of_getElem? (i := 10) (by decide +kernel))), (List.forall_mem_cons.mpr ⟨(wa_41 _ (List.mem_of_getElem? (i := 7) (by decide +kernel))), (List.forall_mem_cons.mpr ⟨(wa_41 _ (List.mem_of_getElem? (i := 8) (by decide +kernel))), (List.forall_mem_cons.mpr ⟨(wa_41 _ (List.mem_of_getElem? (i := 9) (by decide +kernel))), (List.forall_mem_cons.mpr ⟨(wa_2 _ (List.mem_of_getElem? (i := 15) (by decide +kernel))), (fun _ h => absurd h List.not_mem_nil)⟩)⟩)⟩)⟩)⟩)) rfl rfl rfl (by decide +kernel) ⟨Nat.le_of_ble_eq_true rfl, Nat.le_of_ble_eq_true rfl⟩) hi kX5 rfl hl.1 rfl (Nat.le_of_ble_eq_true rfl) dX8_takeTurns_89 ⟨Nat.le_of_ble_eq_true rfl, Nat.le_of_ble_eq_true rfl⟩) hW (fun V_16 H locs hp_17 hW => ?_)
            have eV_16 : V_16 = mU (mU V_13 i 1 (nI ((3 * mn + 1) + 1))) (i + 4) (3 * mn + 1) (fNar (V_13 i 0) (nI gg)) := hp_17
            have hA2 : ∀ a, a ≠ i → a ≠ i + 4 → V_16 a = V_6 a := fun a h1 h2 => by rw [eV_16, mU_no _ _ h2, mU_no _ _ h1, eV_13, mU_no _ _ h2, mU_no _ _ h1]
            have hi02 : V_16 i 0 = nI 0 := by rw [eV_16, mU_no _ _ (show i ≠ i + 4 by omega), mU_ne _ _ (by omega), eV_13, mU_no _ _ (show i ≠ i + 4 by omega), mU_ne _ _ (by omega), ho i (by omega)]; exact hs0
            have hi12 : V_16 i 1 = nI (3 * mn + 2) := by rw [eV_16, mU_no _ _ (by omega), mU_eq]
            have hiH2 : ThOk sh V_16 t ta tb tl ne ng ask (zFilm ask ne ng z k).1 := hH2.fr4 (fun a ha => hA2 a (by omega) (by omega)) (fun k _ => congrFun (hA2 80 (by omega) (by omega)) k)
            have hib2 : V_16 80 6 = nI (100 * gg + pp) := (congrFun (hA2 80 (by omega) (by omega)) 6).trans hb6
            refine lv_aload_n hx hb dX8_takeTurns_92 rfl (lv_at hl 4 rfl) ?_
            refine lv_aload_n hx hb dX8_takeTurns_93 rfl (lv_at hl 2 rfl) ?_
            refine m_getr S hW hH.1 0 rfl (j := 80) rfl kX8 (iW8 _) (by decide) (List.mem_cons_of_mem _ (wa_10 _ (List.mem_of_getElem? (i := 15) (by decide +kernel)))) dX8_takeTurns_94 ?_
            refine m_cie (m_rV S hW (c_X4_placeOfBest l G ad sh V_16 80 t ta tb tl ne ng gg pp hH.2.1 hiH2.2.2.1 hib2 (by first | assumption | omega) (by first | assumption | omega)) (cwV 0 hts (gCall [.methodLink RX8 67 yX4_placeOfBest, .instanceMethod yX4_placeOfBest, .selects RX4 yX4_placeOfBest yX4_placeOfBest, .initialized RX4] (List.forall_mem_cons.mpr ⟨(wa_31 _ (List.mem_of_getElem? (i := 20) (by decide +kernel))), (List.forall_mem_cons.mpr ⟨(wa_31 _ (List.mem_of_getElem? (i := 17) (by decide +kernel))), (List.forall_mem_cons.mpr ⟨(wa_31 _ (List.mem_of_getElem? (i := 18) (by decide +kernel))), (List.forall_mem_cons.mpr ⟨(wa_31 _ (List.mem_of_getElem? (i := 19) (by decide +kernel))), (List.forall_mem_cons.mpr ⟨(wa_2 _ (List.mem_of_getElem? (i := 7) (by decide +kernel))), (fun _ h => absurd h List.not_mem_nil)⟩)⟩)⟩)⟩)⟩)) rfl rfl rfl (by decide +kernel) ⟨Nat.le_of_ble_eq_true rfl, Nat.le_of_ble_eq_true rfl⟩) hH.2.1.1 kX4 rfl hl.1 rfl (Nat.le_of_ble_eq_true rfl) dX8_takeTurns_97 ⟨Nat.le_of_ble_eq_true rfl, Nat.le_of_ble_eq_true rfl⟩) hW (fun H locs hW => ?_)
            refine m_cv (m_rV S hW (c_X5_add l G ad sh V_16 i (3 * mn + 2) (nI pp) hi hi' hi12 (by first | assumption | omega)) (cwV 1 hts (gCall [.methodLink RX8 126 yX5_add, .instanceMethod yX5_add, .selects RX5 yX5_add yX5_add, .initialized RX5] (List.forall_mem_cons.mpr ⟨(wa_41 _ (List.mem_of_getElem? (i := 10) (by decide +kernel))), (List.forall_mem_cons.mpr ⟨(wa_41 _ (List.mem_of_getElem? (i := 7) (by decide +kernel))), (List.forall_mem_cons.mpr ⟨(wa_41 _ (List.mem_of_getElem? (i := 8) (by decide +kernel))), (List.forall_mem_cons.mpr ⟨(wa_41 _ (List.mem_of_getElem? (i := 9) (by decide +kernel))), (List.forall_mem_cons.mpr ⟨(wa_2 _ (List.mem_of_getElem? (i := 15) (by decide +kernel))), (fun _ h => absurd h List.not_mem_nil)⟩)⟩)⟩)⟩)⟩)) rfl rfl rfl (by decide +kernel) ⟨Nat.le_of_ble_eq_true rfl, Nat.le_of_ble_eq_true rfl⟩) hi kX5 rfl hl.1 rfl (Nat.le_of_ble_eq_true rfl) dX8_takeTurns_100 ⟨Nat.le_of_ble_eq_true rfl, Nat.le_of_ble_eq_true rfl⟩) hW (fun V_19 H locs hp_20 hW => ?_)
            have eV_19 : V_19 = mU (mU V_16 i 1 (nI ((3 * mn + 2) + 1))) (i + 4) (3 * mn + 2) (fNar (V_16 i 0) (nI pp)) := hp_20
            have hA3 : ∀ a, a ≠ i → a ≠ i + 4 → V_19 a = V_6 a := fun a h1 h2 => by rw [eV_19, mU_no _ _ h2, mU_no _ _ h1, eV_16, mU_no _ _ h2, mU_no _ _ h1, eV_13, mU_no _ _ h2, mU_no _ _ h1]
            have hi03 : V_19 i 0 = nI 0 := by rw [eV_19, mU_no _ _ (show i ≠ i + 4 by omega), mU_ne _ _ (by omega), eV_16, mU_no _ _ (show i ≠ i + 4 by omega), mU_ne _ _ (by omega), eV_13, mU_no _ _ (show i ≠ i + 4 by omega), mU_ne _ _ (by omega), ho i (by omega)]; exact hs0
            have hi13 : V_19 i 1 = nI (3 * mn + 3) := by rw [eV_19, mU_no _ _ (by omega), mU_eq]
            have hiH3 : ThOk sh V_19 t ta tb tl ne ng ask (zFilm ask ne ng z k).1 := hH2.fr4 (fun a ha => hA3 a (by omega) (by omega)) (fun k _ => congrFun (hA3 80 (by omega) (by omega)) k)
            have hib3 : V_19 80 6 = nI (100 * gg + pp) := (congrFun (hA3 80 (by omega) (by omega)) 6).trans hb6
            refine lv_aload_n hx hb dX8_takeTurns_103 rfl (lv_at hl 2 rfl) ?_
            refine m_getr S hW hH.1 0 rfl (j := 80) rfl kX8 (iW8 _) (by decide) (List.mem_cons_of_mem _ (wa_10 _ (List.mem_of_getElem? (i := 15) (by decide +kernel)))) dX8_takeTurns_104 ?_
            refine lv_aload_n hx hb dX8_takeTurns_107 rfl (lv_at hl 2 rfl) ?_
            refine m_getr S hW hH.1 0 rfl (j := 80) rfl kX8 (iW8 _) (by decide) (List.mem_cons_of_mem _ (wa_10 _ (List.mem_of_getElem? (i := 15) (by decide +kernel)))) dX8_takeTurns_108 ?_
            refine m_getr S hW hH.2.1.1 0 rfl (j := (80 + 1)) rfl kX4 (iW4 _) (by decide) (List.mem_cons_of_mem _ (wa_31 _ (List.mem_of_getElem? (i := 5) (by decide +kernel)))) dX8_takeTurns_111 ?_
            refine lv_iload hx hb dX8_takeTurns_114 (lv_at hl 1 rfl) ?_
            refine m_aald S hW 1 rfl hH.2.1.2.1 (k % ne) rfl (by have := Nat.mod_lt k hne0; omega) (by decide) (j := (80 + 4 + (k % ne))) (if_pos (by have := Nat.mod_lt k hne0; omega)) dX8_takeTurns_116 ?_
            refine lv_aload hx hb dX8_takeTurns_117 (lv_at hl 0 rfl) ?_
            refine lv_aload_n hx hb dX8_takeTurns_119 rfl (lv_at hl 2 rfl) ?_
            refine m_getr S hW hH.1 0 rfl (j := 80) rfl kX8 (iW8 _) (by decide) (List.mem_cons_of_mem _ (wa_10 _ (List.mem_of_getElem? (i := 15) (by decide +kernel)))) dX8_takeTurns_120 ?_
            refine m_cie (m_rV S hW (c_X4_placeOfBest l G ad sh V_19 80 t ta tb tl ne ng gg pp hH.2.1 hiH3.2.2.1 hib3 (by first | assumption | omega) (by first | assumption | omega)) (cwV 0 hts (gCall [.methodLink RX8 67 yX4_placeOfBest, .instanceMethod yX4_placeOfBest, .selects RX4 yX4_placeOfBest yX4_placeOfBest, .initialized RX4] (List.forall_mem_cons.mpr ⟨(wa_31 _ (List.mem_of_getElem? (i := 20) (by decide +kernel))), (List.forall_mem_cons.mpr ⟨(wa_31 _ (List.mem_of_getElem? (i := 17) (by decide +kernel))), (List.forall_mem_cons.mpr ⟨(wa_31 _ (List.mem_of_getElem? (i := 18) (by decide +kernel))), (List.forall_mem_cons.mpr ⟨(wa_31 _ (List.mem_of_getElem? (i := 19) (by decide +kernel))), (List.forall_mem_cons.mpr ⟨(wa_2 _ (List.mem_of_getElem? (i := 7) (by decide +kernel))), (fun _ h => absurd h List.not_mem_nil)⟩)⟩)⟩)⟩)⟩)) rfl rfl rfl (by decide +kernel) ⟨Nat.le_of_ble_eq_true rfl, Nat.le_of_ble_eq_true rfl⟩) hH.2.1.1 kX4 rfl hl.1 rfl (Nat.le_of_ble_eq_true rfl) dX8_takeTurns_123 ⟨Nat.le_of_ble_eq_true rfl, Nat.le_of_ble_eq_true rfl⟩) hW (fun H locs hW => ?_)
            refine m_ci (m_rV S hW (c_X4_tryBite_z l G ad sh V_19 80 t ta tb tl ne ng ask ((zFilm ask ne ng z k).1) (k % ne) gg pp hiH3.2 (Nat.mod_lt _ hne0) hgg) (cwV 3 hts (gCall [.methodLink RX8 71 yX4_tryBite, .instanceMethod yX4_tryBite, .selects RX4 yX4_tryBite yX4_tryBite, .initialized RX4] (List.forall_mem_cons.mpr ⟨(wa_27 _ (List.mem_of_getElem? (i := 17) (by decide +kernel))), (List.forall_mem_cons.mpr ⟨(wa_31 _ (List.mem_of_getElem? (i := 21) (by decide +kernel))), (List.forall_mem_cons.mpr ⟨(wa_27 _ (List.mem_of_getElem? (i := 15) (by decide +kernel))), (List.forall_mem_cons.mpr ⟨(wa_27 _ (List.mem_of_getElem? (i := 16) (by decide +kernel))), (List.forall_mem_cons.mpr ⟨(wa_2 _ (List.mem_of_getElem? (i := 7) (by decide +kernel))), (fun _ h => absurd h List.not_mem_nil)⟩)⟩)⟩)⟩)⟩)) rfl rfl rfl (by decide +kernel) ⟨Nat.le_of_ble_eq_true rfl, Nat.le_of_ble_eq_true rfl⟩) hH.2.1.1 kX4 rfl hl.1 rfl (Nat.le_of_ble_eq_true rfl) dX8_takeTurns_126 ⟨Nat.le_of_ble_eq_true rfl, Nat.le_of_ble_eq_true rfl⟩) hW (fun r_24 V_22 H locs hp_23 hW => ?_)
            rcases hp_23 with ⟨rfl, eV_22, nc_25⟩ | ⟨rfl, yc_26, hv_27⟩
            · skip
              exact absurd hcan nc_25
            · skip
              refine lv_pop hx hb dX8_takeTurns_129 rfl ?_
              refine lv_iinc (v := nI (mn + 1)) (lv' := [(3, .int (nI (mn + 1))), (6, .ref (ad (80 + 10 + 2 * gg))), (5, .int (nI (k % ne))), (0, .ref (ad 5)), (1, .int (nI n)), (2, .ref (ad i)), (4, .int (nI k))]) hx hb dX8_takeTurns_130 hl (k := 5) rfl (m_inc mn 1) (by decide) rfl (fun ls hl => ?_)
              refine lv_iinc (v := nI (k + 1)) (lv' := [(4, .int (nI (k + 1))), (3, .int (nI (mn + 1))), (6, .ref (ad (80 + 10 + 2 * gg))), (5, .int (nI (k % ne))), (0, .ref (ad 5)), (1, .int (nI n)), (2, .ref (ad i))]) hx hb dX8_takeTurns_133 hl (k := 6) rfl (m_inc k 1) (by decide) rfl (fun ls hl => ?_)
              refine lv_goto (tgt := 23) hx hb dX8_takeTurns_136 (by decide) ?_
              exact ih_23  (mn + 1) (k + 1) V_22 _ _ _ (by omega) (by rw [hF, hv_27]; exact hiH3.bite (Nat.mod_lt _ hne0) hgg) (by rw [hF]; exact ⟨by rw [← hm.1], by omega⟩) (by have hkn := Nat.mod_lt k hne0; have hB : ∀ a, a < 80 ∨ 104 ≤ a → V_22 a = V_19 a := (fun a ha => by rw [hv_27, fBite, mU_no _ _ (by omega), mU_no _ _ (by omega), mU_no _ _ (by omega), mU_no _ _ (by omega)]); rw [hF]; intro q hq; rw [hB _ (by omega), ← hm.1]; have e0 := hcc q hq; rw [← ho (i + 4) (by omega)] at e0; simp only [eV_19, eV_16, eV_13, mU_row, upd, mU_no _ _ (show i + 4 ≠ i by omega), mU_ne _ _ (show ¬ (i = i ∧ (0 : Nat) = 1) by omega), mU_no _ _ (show i ≠ i + 4 by omega)]; rw [e0, ho i (by omega), hs0, fNar_0 _ (by omega), fNar_0 _ (by omega), fNar_0 _ (by omega)]) (by have hkn := Nat.mod_lt k hne0; have hB : ∀ a, a < 80 ∨ 104 ≤ a → V_22 a = V_19 a := (fun a ha => by rw [hv_27, fBite, mU_no _ _ (by omega), mU_no _ _ (by omega), mU_no _ _ (by omega), mU_no _ _ (by omega)]); rw [hB _ (by omega)]; exact hi03) (by have hkn := Nat.mod_lt k hne0; have hB : ∀ a, a < 80 ∨ 104 ≤ a → V_22 a = V_19 a := (fun a ha => by rw [hv_27, fBite, mU_no _ _ (by omega), mU_no _ _ (by omega), mU_no _ _ (by omega), mU_no _ _ (by omega)]); rw [hB _ (by omega)]; exact hi13) (by have hkn := Nat.mod_lt k hne0; have hB : ∀ a, a < 80 ∨ 104 ≤ a → V_22 a = V_19 a := (fun a ha => by rw [hv_27, fBite, mU_no _ _ (by omega), mU_no _ _ (by omega), mU_no _ _ (by omega), mU_no _ _ (by omega)]); intro a h1 h2 h3; rw [hB a h3, hA3 a h1 h2, ho a (by omega)]; exact hfd a h1 h2 h3) (by omega) hW (lv_sub hl [4, 5, 6, 1, 0] rfl)
    exact loop_23 (n - 0 + 1) 0 0 V_1 _ _ _ (by omega) (by exact hH0) (by exact ⟨rfl, by omega⟩) (by intro q hq; rw [eV_1]; simp only [mFill]; exact if_pos ⟨trivial, by omega, by omega⟩) (by rw [eV_1, mFill_no _ _ (by omega), mU_ne _ _ (by omega), mU_eq]) (by rw [eV_1, mFill_no _ _ (by omega), mU_eq]) (by intro a h1 h2 h3; rw [eV_1, mFill_no _ _ h2, mU_no _ _ h1, mU_no _ _ h1]) (by omega) hW (lv_sub hl [2, 3, 4, 1, 0] rfl)
  · skip
    have c_4 : ne = 0 := (nI_eq (by omega) (by omega)).mp c_4
    exfalso; omega
