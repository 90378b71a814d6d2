/-! the reference: marks, teeth, told days, days by lots -/
theorem gd_1 {n : Nat} (h : n ≤ 1) : n &&& 1 = n := by
  match n, h with
  | 0, _ => rfl
  | 1, _ => rfl
theorem MK.ofk {V V1 V2 : mV} {x : Int32} (h1 : MK V V1) (h2 : V2 = mU V1 200 12 x) (h3 : V1 200 12 = x) : MK V V2 := by
  rw [h2, mU_self _ h3]
  exact h1
/-- the reference under another text, in thought -/
theorem MI.law {sh : Nat → Option mSh} {V V1 : mV} {q : Sg} (h : MI sh V q) (hk : MK V (mU V1 200 12 (nI (gRl q)))) {t : Nat} (ht : t < (gTxs q).length) : MZ sh (mU V1 200 12 (nI t)) (gZ q) (gNe q) (gNg q) t (gT q t) := (h.z.k hk).force (V' := mU V1 200 12 (nI t)) (by rw [mU_mU]) ⟨(h.tx t ht).1.eq (by have := hk.1 206 (by decide) (by decide) (by decide) (by decide) (by decide); exact this) (by have := hk.1 207 (by decide) (by decide) (by decide) (by decide) (by decide); exact this), (h.tx t ht).2⟩ (Nat.lt_of_lt_of_le ht h.tn.2.2.1)
theorem zBest_none {ask : fAsks} {z : fZ} {e n : Nat} (hn : n < 2 ^ 20) (h : (zBest ask z e n).1 = -1) : (zBest ask z e n).2 = nI 0 := by
  rcases zBest_range ask z e n with h1 | ⟨gg, pp, h1, h2, h3, h4⟩
  · rw [h1]
  · rw [h3] at h
    exact absurd h (m_nneg (by omega))
set_option maxHeartbeats 4000000 in
set_option maxRecDepth 100000 in
theorem c_X11_whose (l : Launch) (G : mG) (ad : Nat → Nat) (sh : Nat → Option mSh) (V : mV) (q : Sg) (x y : Int32) (hI : MI sh V q) : mM l yX11_whose wsX11_whose ({ frames := 4, cells := 0, slots := 0, locals := 95 } : Room) G ad sh V [.ref (ad 200), .int x, .int y] 0 0 (mPi ad sh (fun r V' => (aWhose q x y) = r ∧ V' = V)) := by
  refine mM.of (cc := cX11_whose) (maxL := 5) (ret := (some .int)) (by decide) rfl (Nat.le_of_ble_eq_true rfl) ?_
  intro p e s m below meth c S hr hlk hnm hW ls hl
  obtain ⟨hx, hb, hml, hown, hts⟩ := id S
  have hl : lv_has ls 5 [(0, .ref (ad 200)), (1, .int x), (2, .int y)] := hl
  have hS0 : True := trivial
  have hZ := hI.z
  have hne5 := hZ.ne5
  have hng6 := hZ.ng6
  have htn := hI.tn
  refine lv_aload_n hx hb dX11_whose_0 rfl (lv_at hl 0 rfl) ?_
  refine lv_iload_n hx hb dX11_whose_1 rfl (lv_at hl 1 rfl) ?_
  refine m_cip (m_rV S hW (c_X11_isGood l G ad sh V (gZ q) (gNe q) (gNg q) (gRl q) (gT q (gRl q)) x hZ) (cwV 1 hts (gCall [.methodLink RX11 182 yX11_isGood, .instanceMethod yX11_isGood, .selects RX11 yX11_isGood yX11_isGood, .initialized RX11] (List.forall_mem_cons.mpr ⟨(wa_19 _ (List.mem_of_getElem? (i := 7) (by decide +kernel))), (List.forall_mem_cons.mpr ⟨(wa_19 _ (List.mem_of_getElem? (i := 4) (by decide +kernel))), (List.forall_mem_cons.mpr ⟨(wa_19 _ (List.mem_of_getElem? (i := 5) (by decide +kernel))), (List.forall_mem_cons.mpr ⟨(wa_19 _ (List.mem_of_getElem? (i := 6) (by decide +kernel))), (List.forall_mem_cons.mpr ⟨(wa_1 _ (List.mem_of_getElem? (i := 5) (by decide +kernel))), (fun _ h => absurd h List.not_mem_nil)⟩)⟩)⟩)⟩)⟩)) rfl rfl rfl (by decide +kernel) ⟨Nat.le_of_ble_eq_true rfl, Nat.le_of_ble_eq_true rfl⟩) hZ.sp.1 kX11 rfl hl.1 rfl (Nat.le_of_ble_eq_true rfl) dX11_whose_2 ⟨Nat.le_of_ble_eq_true rfl, Nat.le_of_ble_eq_true rfl⟩) hW (fun r_2 H locs hp_1 hW => ?_)
  rcases hp_1 with ⟨rfl, w_3⟩ | ⟨rfl, w_4⟩
  · skip
    obtain ⟨nx, hnx, hwnx, hlnx⟩ := w_3.ex
    have hcx : x.toNatClampNeg = nx := by rw [hnx]; exact nI_clamp (by omega)
    refine m_if_ne (tgt := 11) hx hb dX11_whose_5 (by decide) (fun c_5 => ?_) (fun c_5 => ?_)
    · skip
      refine lv_aload_n hx hb dX11_whose_11 rfl (lv_at hl 0 rfl) ?_
      refine lv_iload_n hx hb dX11_whose_12 rfl (lv_at hl 1 rfl) ?_
      refine m_top (y := nI nx) hnx ?_
      refine lv_iload_n hx hb dX11_whose_13 rfl (lv_at hl 2 rfl) ?_
      refine m_cip (m_rV S hW (c_X11_isMark l G ad sh V (gZ q) (gNe q) (gNg q) (gRl q) (gT q (gRl q)) nx y hZ (by first | assumption | omega)) (cwV 2 hts (gCall [.methodLink RX11 242 yX11_isMark, .instanceMethod yX11_isMark, .selects RX11 yX11_isMark yX11_isMark, .initialized RX11] (List.forall_mem_cons.mpr ⟨(wa_36 _ (List.mem_of_getElem? (i := 23) (by decide +kernel))), (List.forall_mem_cons.mpr ⟨(wa_36 _ (List.mem_of_getElem? (i := 20) (by decide +kernel))), (List.forall_mem_cons.mpr ⟨(wa_36 _ (List.mem_of_getElem? (i := 21) (by decide +kernel))), (List.forall_mem_cons.mpr ⟨(wa_36 _ (List.mem_of_getElem? (i := 22) (by decide +kernel))), (List.forall_mem_cons.mpr ⟨(wa_1 _ (List.mem_of_getElem? (i := 5) (by decide +kernel))), (fun _ h => absurd h List.not_mem_nil)⟩)⟩)⟩)⟩)⟩)) rfl rfl rfl (by decide +kernel) ⟨Nat.le_of_ble_eq_true rfl, Nat.le_of_ble_eq_true rfl⟩) hZ.sp.1 kX11 rfl hl.1 rfl (Nat.le_of_ble_eq_true rfl) dX11_whose_14 ⟨Nat.le_of_ble_eq_true rfl, Nat.le_of_ble_eq_true rfl⟩) hW (fun r_7 H locs hp_6 hW => ?_)
      rcases hp_6 with ⟨rfl, w_8⟩ | ⟨rfl, w_9⟩
      · skip
        refine m_if_ne (tgt := 23) hx hb dX11_whose_17 (by decide) (fun c_10 => ?_) (fun c_10 => ?_)
        · skip
          refine lv_iconst (v := nI 0) hx hb dX11_whose_23 (by decide) ?_
          refine lv_istore_n (lv' := [(3, .int (nI 0)), (0, .ref (ad 200)), (1, .int x), (2, .int y)]) hx hb dX11_whose_24 rfl hl (by decide) rfl (fun ls hl => ?_)
          refine lv_iconst (v := nI 0) hx hb dX11_whose_25 (by decide) ?_
          refine lv_istore (lv' := [(4, .int (nI 0)), (3, .int (nI 0)), (0, .ref (ad 200)), (1, .int x), (2, .int y)]) hx hb dX11_whose_26 hl (by decide) rfl (fun ls hl => ?_)
          have loop_28 : ∀ (n_28 : Nat) (sm : Int32) (k : Nat) (H : Heap) (locs : List Loc) (ls : Array Slot), (k ≤ gNe q) → (sm = fBitsOf (fun u => fCan (zSp (gZ q) u nx) (gZ q (10 + 2 * nx) 2) y) k) → (gNe q - k) < n_28 → mC (mA ad sh s.heap.size) s.heap s G ad sh V H locs → lv_has ls 5 [(0, .ref (ad 200)), (1, .int x), (2, .int y), (3, .int sm), (4, .int (nI k))] → W p l e ({ frames := 4, cells := 0, slots := 0, locals := 95 } : Room) s m ([.ref (ad 200), .int x, .int y] : List Value).toArray below meth c H locs 0 0 (MQ below (mPost G ad sh s.heap.size (mPi ad sh (fun r V' => (aWhose q x y) = r ∧ V' = V))) ([.ref (ad 200), .int x, .int y] : List Value).toArray s 0 0 (mA ad sh s.heap.size)) (F0 m 28 ls []) := by
            intro n_28
            induction n_28 with
            | zero => intro sm k H locs ls hk hs hM_ hW hl; omega
            | succ n_28 ih_28 =>
              intro sm k H locs ls hk hs hM_ hW hl
              refine lv_iload hx hb dX11_whose_28 (lv_at hl 4 rfl) ?_
              refine lv_aload_n hx hb dX11_whose_30 rfl (lv_at hl 0 rfl) ?_
              refine m_geti S hW hZ.sp.1 2 rfl kX11 (iW11 _) (by decide) (List.mem_cons_of_mem _ (wa_15 _ (List.mem_of_getElem? (i := 0) (by decide +kernel)))) dX11_whose_31 ?_
              refine m_top (y := nI (gNe q)) hI.z.ne_ ?_
              refine lv_icmp_ge (tgt := 65) hx hb dX11_whose_34 (by decide) (fun c_11 => ?_) (fun c_11 => ?_)
              · skip
                have c_11 : (gNe q) ≤ k := (nI_leI (by omega) (by omega)).mp c_11
                refine lv_iload_n hx hb dX11_whose_65 rfl (lv_at hl 3 rfl) ?_
                exact m_iret S hr hlk hW dX11_whose_66 (by exact ⟨by simp only [aWhose, if_pos w_3, hcx, if_pos w_8]; rw [hs, show k = gNe q by omega], rfl⟩)
              · skip
                have c_11 : ¬ (gNe q) ≤ k := mt (nI_leI (by omega) (by omega)).mpr c_11
                refine lv_iload_n hx hb dX11_whose_37 rfl (lv_at hl 3 rfl) ?_
                refine lv_aload_n hx hb dX11_whose_38 rfl (lv_at hl 0 rfl) ?_
                refine lv_iload hx hb dX11_whose_39 (lv_at hl 4 rfl) ?_
                refine lv_iload_n hx hb dX11_whose_41 rfl (lv_at hl 1 rfl) ?_
                refine m_top (y := nI nx) hnx ?_
                refine lv_iload_n hx hb dX11_whose_42 rfl (lv_at hl 2 rfl) ?_
                refine m_cip (m_rV S hW (c_X11_makes l G ad sh V (gZ q) (gNe q) (gNg q) (gRl q) (gT q (gRl q)) k nx y hZ (by first | assumption | omega) (by first | assumption | omega)) (cwV 3 hts (gCall [.methodLink RX11 246 yX11_makes, .instanceMethod yX11_makes, .selects RX11 yX11_makes yX11_makes, .initialized RX11] (List.forall_mem_cons.mpr ⟨(wa_37 _ (List.mem_of_getElem? (i := 3) (by decide +kernel))), (List.forall_mem_cons.mpr ⟨(wa_37 _ (List.mem_of_getElem? (i := 0) (by decide +kernel))), (List.forall_mem_cons.mpr ⟨(wa_37 _ (List.mem_of_getElem? (i := 1) (by decide +kernel))), (List.forall_mem_cons.mpr ⟨(wa_37 _ (List.mem_of_getElem? (i := 2) (by decide +kernel))), (List.forall_mem_cons.mpr ⟨(wa_1 _ (List.mem_of_getElem? (i := 5) (by decide +kernel))), (fun _ h => absurd h List.not_mem_nil)⟩)⟩)⟩)⟩)⟩)) rfl rfl rfl (by decide +kernel) ⟨Nat.le_of_ble_eq_true rfl, Nat.le_of_ble_eq_true rfl⟩) hZ.sp.1 kX11 rfl hl.1 rfl (Nat.le_of_ble_eq_true rfl) dX11_whose_43 ⟨Nat.le_of_ble_eq_true rfl, Nat.le_of_ble_eq_true rfl⟩) hW (fun r_13 H locs hp_12 hW => ?_)
                rcases hp_12 with ⟨rfl, w_14⟩ | ⟨rfl, w_15⟩
                · skip
                  refine m_if_eq (tgt := 56) hx hb dX11_whose_46 (by decide) (fun c_16 => ?_) (fun c_16 => ?_)
                  · exact absurd c_16 (by decide)
                  · skip
                    refine lv_iconst (v := nI 1) hx hb dX11_whose_49 (by decide) ?_
                    refine lv_iload hx hb dX11_whose_50 (lv_at hl 4 rfl) ?_
                    refine lv_ishl hx hb dX11_whose_52 ?_
                    refine lv_goto (tgt := 57) hx hb dX11_whose_53 (by decide) ?_
                    refine lv_ior hx hb dX11_whose_57 ?_
                    refine lv_istore_n (lv' := [(3, .int (sm ||| ((nI 1) <<< ((nI k) &&& 31)))), (0, .ref (ad 200)), (1, .int x), (2, .int y), (4, .int (nI k))]) hx hb dX11_whose_58 rfl hl (by decide) rfl (fun ls hl => ?_)
                    refine lv_iinc (v := nI (k + 1)) (lv' := [(4, .int (nI (k + 1))), (3, .int (sm ||| ((nI 1) <<< ((nI k) &&& 31)))), (0, .ref (ad 200)), (1, .int x), (2, .int y)]) hx hb dX11_whose_59 hl (k := 4) rfl (m_inc k 1) (by decide) rfl (fun ls hl => ?_)
                    refine lv_goto (tgt := 28) hx hb dX11_whose_62 (by decide) ?_
                    exact ih_28  (sm ||| ((nI 1) <<< ((nI k) &&& 31))) (k + 1)  _ _ _ (by omega) (by exact bitOf_y w_14 hs) (by omega) hW (lv_sub hl [2, 3, 4, 1, 0] rfl)
                · skip
                  refine m_if_eq (tgt := 56) hx hb dX11_whose_46 (by decide) (fun c_17 => ?_) (fun c_17 => ?_)
                  · skip
                    refine lv_iconst (v := nI 0) hx hb dX11_whose_56 (by decide) ?_
                    refine lv_ior hx hb dX11_whose_57 ?_
                    refine lv_istore_n (lv' := [(3, .int (sm ||| (nI 0))), (0, .ref (ad 200)), (1, .int x), (2, .int y), (4, .int (nI k))]) hx hb dX11_whose_58 rfl hl (by decide) rfl (fun ls hl => ?_)
                    refine lv_iinc (v := nI (k + 1)) (lv' := [(4, .int (nI (k + 1))), (3, .int (sm ||| (nI 0))), (0, .ref (ad 200)), (1, .int x), (2, .int y)]) hx hb dX11_whose_59 hl (k := 4) rfl (m_inc k 1) (by decide) rfl (fun ls hl => ?_)
                    refine lv_goto (tgt := 28) hx hb dX11_whose_62 (by decide) ?_
                    exact ih_28  (sm ||| (nI 0)) (k + 1)  _ _ _ (by omega) (by exact bitOf_n w_15 hs) (by omega) hW (lv_sub hl [2, 3, 4, 1, 0] rfl)
                  · exact absurd c_17 (by decide)
          exact loop_28 (gNe q - 0 + 1) (nI 0) 0  _ _ _ (by omega) (by rfl) (by omega) hW (lv_sub hl [2, 3, 4, 1, 0] rfl)
        · exact absurd c_10 (by decide)
      · skip
        refine m_if_ne (tgt := 23) hx hb dX11_whose_17 (by decide) (fun c_18 => ?_) (fun c_18 => ?_)
        · exact absurd c_18 (by decide)
        · skip
          refine lv_bipush (v := -7) hx hb dX11_whose_20 (by decide) ?_
          exact m_iret S hr hlk hW dX11_whose_22 (by exact ⟨by simp only [aWhose, if_pos w_3, hcx, if_neg w_9]; try rfl, rfl⟩)
    · exact absurd c_5 (by decide)
  · skip
    refine m_if_ne (tgt := 11) hx hb dX11_whose_5 (by decide) (fun c_19 => ?_) (fun c_19 => ?_)
    · exact absurd c_19 (by decide)
    · skip
      refine lv_bipush (v := -5) hx hb dX11_whose_8 (by decide) ?_
      exact m_iret S hr hlk hW dX11_whose_10 (by exact ⟨by simp only [aWhose, if_neg w_4]; try rfl, rfl⟩)
set_option maxHeartbeats 4000000 in
set_option maxRecDepth 100000 in
theorem c_X11_kinds (l : Launch) (G : mG) (ad : Nat → Nat) (sh : Nat → Option mSh) (V : mV) (q : Sg) (x y mk w : Int32) (hI : MI sh V q) : mM l yX11_kinds wsX11_kinds ({ frames := 5, cells := 0, slots := 0, locals := 124 } : Room) G ad sh V [.ref (ad 200), .int x, .int y, .int mk, .int w] 0 0 (mPi ad sh (fun r V' => (aKinds q x y mk w) = r ∧ V' = V)) := by
  refine mM.of (cc := cX11_kinds) (maxL := 9) (ret := (some .int)) (by decide) rfl (Nat.le_of_ble_eq_true rfl) ?_
  intro p e s m below meth c S hr hlk hnm hW ls hl
  obtain ⟨hx, hb, hml, hown, hts⟩ := id S
  have hl : lv_has ls 9 [(0, .ref (ad 200)), (1, .int x), (2, .int y), (3, .int mk), (4, .int w)] := hl
  have hS0 : True := trivial
  have hZ := hI.z
  have hne5 := hZ.ne5
  have hng6 := hZ.ng6
  have htn := hI.tn
  refine lv_aload_n hx hb dX11_kinds_0 rfl (lv_at hl 0 rfl) ?_
  refine lv_iload_n hx hb dX11_kinds_1 rfl (lv_at hl 1 rfl) ?_
  refine m_cip (m_rV S hW (c_X11_isEater l G ad sh V (gZ q) (gNe q) (gNg q) (gRl q) (gT q (gRl q)) x hZ) (cwV 1 hts (gCall [.methodLink RX11 179 yX11_isEater, .instanceMethod yX11_isEater, .selects RX11 yX11_isEater yX11_isEater, .initialized RX11] (List.forall_mem_cons.mpr ⟨(wa_19 _ (List.mem_of_getElem? (i := 3) (by decide +kernel))), (List.forall_mem_cons.mpr ⟨(wa_19 _ (List.mem_of_getElem? (i := 0) (by decide +kernel))), (List.forall_mem_cons.mpr ⟨(wa_19 _ (List.mem_of_getElem? (i := 1) (by decide +kernel))), (List.forall_mem_cons.mpr ⟨(wa_19 _ (List.mem_of_getElem? (i := 2) (by decide +kernel))), (List.forall_mem_cons.mpr ⟨(wa_1 _ (List.mem_of_getElem? (i := 5) (by decide +kernel))), (fun _ h => absurd h List.not_mem_nil)⟩)⟩)⟩)⟩)⟩)) rfl rfl rfl (by decide +kernel) ⟨Nat.le_of_ble_eq_true rfl, Nat.le_of_ble_eq_true rfl⟩) hZ.sp.1 kX11 rfl hl.1 rfl (Nat.le_of_ble_eq_true rfl) dX11_kinds_2 ⟨Nat.le_of_ble_eq_true rfl, Nat.le_of_ble_eq_true rfl⟩) hW (fun r_2 H locs hp_1 hW => ?_)
  rcases hp_1 with ⟨rfl, w_3⟩ | ⟨rfl, w_4⟩
  · skip
    obtain ⟨nx, hnx, hwnx, hlnx⟩ := w_3.ex
    have hcx : x.toNatClampNeg = nx := by rw [hnx]; exact nI_clamp (by omega)
    refine m_if_ne (tgt := 11) hx hb dX11_kinds_5 (by decide) (fun c_5 => ?_) (fun c_5 => ?_)
    · skip
      refine lv_aload_n hx hb dX11_kinds_11 rfl (lv_at hl 0 rfl) ?_
      refine lv_iload_n hx hb dX11_kinds_12 rfl (lv_at hl 2 rfl) ?_
      refine m_cip (m_rV S hW (c_X11_isGood l G ad sh V (gZ q) (gNe q) (gNg q) (gRl q) (gT q (gRl q)) y hZ) (cwV 1 hts (gCall [.methodLink RX11 182 yX11_isGood, .instanceMethod yX11_isGood, .selects RX11 yX11_isGood yX11_isGood, .initialized RX11] (List.forall_mem_cons.mpr ⟨(wa_19 _ (List.mem_of_getElem? (i := 7) (by decide +kernel))), (List.forall_mem_cons.mpr ⟨(wa_19 _ (List.mem_of_getElem? (i := 4) (by decide +kernel))), (List.forall_mem_cons.mpr ⟨(wa_19 _ (List.mem_of_getElem? (i := 5) (by decide +kernel))), (List.forall_mem_cons.mpr ⟨(wa_19 _ (List.mem_of_getElem? (i := 6) (by decide +kernel))), (List.forall_mem_cons.mpr ⟨(wa_1 _ (List.mem_of_getElem? (i := 5) (by decide +kernel))), (fun _ h => absurd h List.not_mem_nil)⟩)⟩)⟩)⟩)⟩)) rfl rfl rfl (by decide +kernel) ⟨Nat.le_of_ble_eq_true rfl, Nat.le_of_ble_eq_true rfl⟩) hZ.sp.1 kX11 rfl hl.1 rfl (Nat.le_of_ble_eq_true rfl) dX11_kinds_13 ⟨Nat.le_of_ble_eq_true rfl, Nat.le_of_ble_eq_true rfl⟩) hW (fun r_7 H locs hp_6 hW => ?_)
      rcases hp_6 with ⟨rfl, w_8⟩ | ⟨rfl, w_9⟩
      · skip
        obtain ⟨ny, hny, hwny, hlny⟩ := w_8.ex
        have hcy : y.toNatClampNeg = ny := by rw [hny]; exact nI_clamp (by omega)
        refine m_if_ne (tgt := 22) hx hb dX11_kinds_16 (by decide) (fun c_10 => ?_) (fun c_10 => ?_)
        · skip
          refine lv_aload_n hx hb dX11_kinds_22 rfl (lv_at hl 0 rfl) ?_
          refine lv_iload_n hx hb dX11_kinds_23 rfl (lv_at hl 2 rfl) ?_
          refine m_top (y := nI ny) hny ?_
          refine lv_iload_n hx hb dX11_kinds_24 rfl (lv_at hl 3 rfl) ?_
          refine m_cip (m_rV S hW (c_X11_isMark l G ad sh V (gZ q) (gNe q) (gNg q) (gRl q) (gT q (gRl q)) ny mk hZ (by first | assumption | omega)) (cwV 2 hts (gCall [.methodLink RX11 242 yX11_isMark, .instanceMethod yX11_isMark, .selects RX11 yX11_isMark yX11_isMark, .initialized RX11] (List.forall_mem_cons.mpr ⟨(wa_36 _ (List.mem_of_getElem? (i := 23) (by decide +kernel))), (List.forall_mem_cons.mpr ⟨(wa_36 _ (List.mem_of_getElem? (i := 20) (by decide +kernel))), (List.forall_mem_cons.mpr ⟨(wa_36 _ (List.mem_of_getElem? (i := 21) (by decide +kernel))), (List.forall_mem_cons.mpr ⟨(wa_36 _ (List.mem_of_getElem? (i := 22) (by decide +kernel))), (List.forall_mem_cons.mpr ⟨(wa_1 _ (List.mem_of_getElem? (i := 5) (by decide +kernel))), (fun _ h => absurd h List.not_mem_nil)⟩)⟩)⟩)⟩)⟩)) rfl rfl rfl (by decide +kernel) ⟨Nat.le_of_ble_eq_true rfl, Nat.le_of_ble_eq_true rfl⟩) hZ.sp.1 kX11 rfl hl.1 rfl (Nat.le_of_ble_eq_true rfl) dX11_kinds_25 ⟨Nat.le_of_ble_eq_true rfl, Nat.le_of_ble_eq_true rfl⟩) hW (fun r_12 H locs hp_11 hW => ?_)
          rcases hp_11 with ⟨rfl, w_13⟩ | ⟨rfl, w_14⟩
          · skip
            refine m_if_eq (tgt := 41) hx hb dX11_kinds_28 (by decide) (fun c_15 => ?_) (fun c_15 => ?_)
            · exact absurd c_15 (by decide)
            · skip
              refine lv_iload hx hb dX11_kinds_31 (lv_at hl 4 rfl) ?_
              refine lv_iconst (v := nI 0) hx hb dX11_kinds_33 (by decide) ?_
              refine lv_iconst (v := nI 3) hx hb dX11_kinds_34 (by decide) ?_
              refine m_cip (m_rS S hW (c_X11_in l G ad sh V w 0 3 (by first | assumption | omega) (by first | assumption | omega)) (va_cwS 3 hts (gCall [.methodLink RX11 84 yX11_in, .static yX11_in, .initialized RX11] (List.forall_mem_cons.mpr ⟨(wa_12 _ (List.mem_of_getElem? (i := 16) (by decide +kernel))), (List.forall_mem_cons.mpr ⟨(wa_12 _ (List.mem_of_getElem? (i := 14) (by decide +kernel))), (List.forall_mem_cons.mpr ⟨(wa_12 _ (List.mem_of_getElem? (i := 15) (by decide +kernel))), (List.forall_mem_cons.mpr ⟨(wa_1 _ (List.mem_of_getElem? (i := 5) (by decide +kernel))), (fun _ h => absurd h List.not_mem_nil)⟩)⟩)⟩)⟩)) rfl rfl rfl (by decide +kernel) ⟨Nat.le_of_ble_eq_true rfl, Nat.le_of_ble_eq_true rfl⟩) rfl hl.1 rfl (Nat.le_of_ble_eq_true rfl) dX11_kinds_35 ⟨Nat.le_of_ble_eq_true rfl, Nat.le_of_ble_eq_true rfl⟩) hW (fun r_17 H locs hp_16 hW => ?_)
              rcases hp_16 with ⟨rfl, w_18⟩ | ⟨rfl, w_19⟩
              · skip
                obtain ⟨nw, hnw, hwnw, hlnw⟩ := w_18.ex
                have hcw : w.toNatClampNeg = nw := by rw [hnw]; exact nI_clamp (by omega)
                refine m_if_ne (tgt := 44) hx hb dX11_kinds_38 (by decide) (fun c_20 => ?_) (fun c_20 => ?_)
                · skip
                  rcases (show nw = 0 ∨ nw = 1 ∨ nw = 2 ∨ nw = 3 by omega) with h0w | h0w | h0w | h0w
                  · skip
                    have hw0 : w = nI 0 := by rw [hnw, h0w]
                    refine lv_iload hx hb dX11_kinds_44 (lv_at hl 4 rfl) ?_
                    refine m_top (y := nI 0) (by rw [hnw, h0w]) ?_
                    refine lv_iconst (v := nI 1) hx hb dX11_kinds_46 (by decide) ?_
                    refine lv_icmp_le (tgt := 69) hx hb dX11_kinds_47 (by decide) (fun c_21 => ?_) (fun c_21 => ?_)
                    · skip
                      refine lv_aload_n hx hb dX11_kinds_69 rfl (lv_at hl 0 rfl) ?_
                      refine m_getr S hW hZ.sp.1 3 rfl (j := 202) rfl kX11 (iW11 _) (by decide) (List.mem_cons_of_mem _ (wa_11 _ (List.mem_of_getElem? (i := 3) (by decide +kernel)))) dX11_kinds_70 ?_
                      refine lv_iload_n hx hb dX11_kinds_73 rfl (lv_at hl 1 rfl) ?_
                      refine m_top (y := nI nx) hnx ?_
                      refine m_iald S hW hZ.sp.2.2.1 nx rfl (by omega) (by decide) dX11_kinds_74 ?_
                      refine lv_istore (lv' := [(5, .int (V 202 nx)), (0, .ref (ad 200)), (1, .int x), (2, .int y), (3, .int mk), (4, .int w)]) hx hb dX11_kinds_75 hl (by decide) rfl (fun ls hl => ?_)
                      refine lv_aload_n hx hb dX11_kinds_77 rfl (lv_at hl 1 rfl) ?_
                      refine m_getr S hW hZ.sp.1 4 rfl (j := 203) rfl kX11 (iW11 _) (by decide) (List.mem_cons_of_mem _ (wa_11 _ (List.mem_of_getElem? (i := 4) (by decide +kernel)))) dX11_kinds_78 ?_
                      refine lv_iload_n hx hb dX11_kinds_81 rfl (lv_at hl 2 rfl) ?_
                      refine m_top (y := nI nx) hnx ?_
                      refine m_iald S hW hZ.sp.2.2.2.1 nx rfl (by omega) (by decide) dX11_kinds_82 ?_
                      refine lv_istore (lv' := [(6, .int (V 203 nx)), (5, .int (V 202 nx)), (0, .ref (ad 200)), (1, .int x), (2, .int y), (3, .int mk), (4, .int w)]) hx hb dX11_kinds_83 hl (by decide) rfl (fun ls hl => ?_)
                      refine lv_iconst (v := nI 0) hx hb dX11_kinds_85 (by decide) ?_
                      refine lv_istore (lv' := [(7, .int (nI 0)), (6, .int (V 203 nx)), (5, .int (V 202 nx)), (0, .ref (ad 200)), (1, .int x), (2, .int y), (3, .int mk), (4, .int w)]) hx hb dX11_kinds_86 hl (by decide) rfl (fun ls hl => ?_)
                      refine lv_iconst (v := nI 0) hx hb dX11_kinds_88 (by decide) ?_
                      refine lv_istore (lv' := [(8, .int (nI 0)), (7, .int (nI 0)), (6, .int (V 203 nx)), (5, .int (V 202 nx)), (0, .ref (ad 200)), (1, .int x), (2, .int y), (3, .int mk), (4, .int w)]) hx hb dX11_kinds_89 hl (by decide) rfl (fun ls hl => ?_)
                      have loop_91 : ∀ (n_91 : Nat) (sm ka ma : Int32) (k : Nat) (V1 : mV) (H : Heap) (locs : List Loc) (ls : Array Slot), (k ≤ 6) → (V1 = mU (mU V 202 nx ka) 203 nx ma) → (sm = fBitsOf (zKd (gZ q) nx ny mk) k) → (6 - k) < n_91 → mC (mA ad sh s.heap.size) s.heap s G ad sh V1 H locs → lv_has ls 9 [(0, .ref (ad 200)), (1, .int x), (2, .int y), (3, .int mk), (4, .int w), (5, .int (V 202 nx)), (6, .int (V 203 nx)), (7, .int sm), (8, .int (nI k))] → W p l e ({ frames := 5, cells := 0, slots := 0, locals := 124 } : Room) s m ([.ref (ad 200), .int x, .int y, .int mk, .int w] : List Value).toArray below meth c H locs 0 0 (MQ below (mPost G ad sh s.heap.size (mPi ad sh (fun r V' => (aKinds q x y mk w) = r ∧ V' = V))) ([.ref (ad 200), .int x, .int y, .int mk, .int w] : List Value).toArray s 0 0 (mA ad sh s.heap.size)) (F0 m 91 ls []) := by
                        intro n_91
                        induction n_91 with
                        | zero => intro sm ka ma k V1 H locs ls hk hv hs hM_ hW hl; omega
                        | succ n_91 ih_91 =>
                          intro sm ka ma k V1 H locs ls hk hv hs hM_ hW hl
                          refine lv_iload hx hb dX11_kinds_91 (lv_at hl 8 rfl) ?_
                          refine lv_iload hx hb dX11_kinds_93 (lv_at hl 4 rfl) ?_
                          refine m_top (y := nI 0) (by rw [hnw, h0w]) ?_
                          refine m_if_ne (tgt := 103) hx hb dX11_kinds_95 (by decide) (fun c_22 => ?_) (fun c_22 => ?_)
                          · exact absurd c_22 (by decide)
                          · skip
                            refine lv_bipush (v := nI 6) hx hb dX11_kinds_98 (by decide) ?_
                            refine lv_goto (tgt := 105) hx hb dX11_kinds_100 (by decide) ?_
                            refine lv_icmp_ge (tgt := 174) hx hb dX11_kinds_105 (by decide) (fun c_23 => ?_) (fun c_23 => ?_)
                            · skip
                              have c_23 : 6 ≤ k := (nI_leI (by omega) (by omega)).mp c_23
                              refine lv_aload_n hx hb dX11_kinds_174 rfl (lv_at hl 0 rfl) ?_
                              refine m_getr S hW hZ.sp.1 3 rfl (j := 202) rfl kX11 (iW11 _) (by decide) (List.mem_cons_of_mem _ (wa_11 _ (List.mem_of_getElem? (i := 3) (by decide +kernel)))) dX11_kinds_175 ?_
                              refine lv_iload_n hx hb dX11_kinds_178 rfl (lv_at hl 1 rfl) ?_
                              refine m_top (y := nI nx) hnx ?_
                              refine lv_iload hx hb dX11_kinds_179 (lv_at hl 5 rfl) ?_
                              refine m_iast S hW hZ.sp.2.2.1 nx rfl (by omega) (by decide) dX11_kinds_181 (fun H locs hW => ?_)
                              obtain ⟨V_24, eV_24⟩ : ∃ vv_ : mV, vv_ = mU V1 202 nx ((V 202 nx)) := ⟨_, rfl⟩
                              rw [← eV_24] at hW
                              refine lv_aload_n hx hb dX11_kinds_182 rfl (lv_at hl 0 rfl) ?_
                              refine m_getr S hW hZ.sp.1 4 rfl (j := 203) rfl kX11 (iW11 _) (by decide) (List.mem_cons_of_mem _ (wa_11 _ (List.mem_of_getElem? (i := 4) (by decide +kernel)))) dX11_kinds_183 ?_
                              refine lv_iload_n hx hb dX11_kinds_186 rfl (lv_at hl 1 rfl) ?_
                              refine m_top (y := nI nx) hnx ?_
                              refine lv_iload hx hb dX11_kinds_187 (lv_at hl 6 rfl) ?_
                              refine m_iast S hW hZ.sp.2.2.2.1 nx rfl (by omega) (by decide) dX11_kinds_189 (fun H locs hW => ?_)
                              obtain ⟨V_25, eV_25⟩ : ∃ vv_ : mV, vv_ = mU V_24 203 nx ((V 203 nx)) := ⟨_, rfl⟩
                              rw [← eV_25] at hW
                              refine lv_iload hx hb dX11_kinds_190 (lv_at hl 7 rfl) ?_
                              exact m_iret S hr hlk hW dX11_kinds_192 (by refine ⟨by simp only [aKinds, if_pos w_3, hcx, if_pos w_8, hcy, if_pos w_13, if_pos hw0]; rw [hs, show k = 6 by omega], ?_⟩; rw [eV_25, eV_24, hv, mU_sw _ _ _ (Or.inl (show 203 ≠ 202 by decide)), mU_mU, mU_mU, mU_self _ (show mU V 202 nx (V 202 nx) 203 nx = V 203 nx from by rw [mU_no _ _ (by decide)]), mU_self V (show V 202 nx = V 202 nx from rfl)])
                            · skip
                              have c_23 : ¬ 6 ≤ k := mt (nI_leI (by omega) (by omega)).mpr c_23
                              refine lv_aload_n hx hb dX11_kinds_108 rfl (lv_at hl 0 rfl) ?_
                              refine m_getr S hW hZ.sp.1 3 rfl (j := 202) rfl kX11 (iW11 _) (by decide) (List.mem_cons_of_mem _ (wa_11 _ (List.mem_of_getElem? (i := 3) (by decide +kernel)))) dX11_kinds_109 ?_
                              refine lv_iload_n hx hb dX11_kinds_112 rfl (lv_at hl 1 rfl) ?_
                              refine m_top (y := nI nx) hnx ?_
                              refine lv_iload hx hb dX11_kinds_113 (lv_at hl 4 rfl) ?_
                              refine m_top (y := nI 0) (by rw [hnw, h0w]) ?_
                              refine m_if_ne (tgt := 123) hx hb dX11_kinds_115 (by decide) (fun c_26 => ?_) (fun c_26 => ?_)
                              · exact absurd c_26 (by decide)
                              · skip
                                refine lv_iload hx hb dX11_kinds_118 (lv_at hl 8 rfl) ?_
                                refine lv_goto (tgt := 125) hx hb dX11_kinds_120 (by decide) ?_
                                refine m_iast S hW hZ.sp.2.2.1 nx rfl (by omega) (by decide) dX11_kinds_125 (fun H locs hW => ?_)
                                obtain ⟨V_27, eV_27⟩ : ∃ vv_ : mV, vv_ = mU V1 202 nx (nI k) := ⟨_, rfl⟩
                                rw [← eV_27] at hW
                                refine lv_aload_n hx hb dX11_kinds_126 rfl (lv_at hl 0 rfl) ?_
                                refine m_getr S hW hZ.sp.1 4 rfl (j := 203) rfl kX11 (iW11 _) (by decide) (List.mem_cons_of_mem _ (wa_11 _ (List.mem_of_getElem? (i := 4) (by decide +kernel)))) dX11_kinds_127 ?_
                                refine lv_iload_n hx hb dX11_kinds_130 rfl (lv_at hl 1 rfl) ?_
                                refine m_top (y := nI nx) hnx ?_
                                refine lv_iload hx hb dX11_kinds_131 (lv_at hl 4 rfl) ?_
                                refine m_top (y := nI 0) (by rw [hnw, h0w]) ?_
                                refine lv_iconst (v := nI 1) hx hb dX11_kinds_133 (by decide) ?_
                                refine lv_icmp_ne (tgt := 142) hx hb dX11_kinds_134 (by decide) (fun c_28 => ?_) (fun c_28 => ?_)
                                · skip
                                  refine lv_iload hx hb dX11_kinds_142 (lv_at hl 6 rfl) ?_
                                  refine m_iast S hW hZ.sp.2.2.2.1 nx rfl (by omega) (by decide) dX11_kinds_144 (fun H locs hW => ?_)
                                  obtain ⟨V_29, eV_29⟩ : ∃ vv_ : mV, vv_ = mU V_27 203 nx ((V 203 nx)) := ⟨_, rfl⟩
                                  rw [← eV_29] at hW
                                  have eVk : V_29 = mU V 202 nx (nI k) := by rw [eV_29, eV_27, hv, mU_sw _ _ _ (Or.inl (show 203 ≠ 202 by decide)), mU_mU, mU_mU, mU_sw _ _ _ (Or.inl (show 202 ≠ 203 by decide)), mU_self V (show V 203 nx = V 203 nx from rfl)]
                                  have hZk := hZ.uKi (u := nx) (v := k) hlnx (by omega)
                                  rw [← eVk] at hZk
                                  refine lv_iload hx hb dX11_kinds_145 (lv_at hl 7 rfl) ?_
                                  refine lv_aload_n hx hb dX11_kinds_147 rfl (lv_at hl 0 rfl) ?_
                                  refine lv_iload_n hx hb dX11_kinds_148 rfl (lv_at hl 1 rfl) ?_
                                  refine m_top (y := nI nx) hnx ?_
                                  refine lv_iload_n hx hb dX11_kinds_149 rfl (lv_at hl 2 rfl) ?_
                                  refine m_top (y := nI ny) hny ?_
                                  refine lv_iload_n hx hb dX11_kinds_150 rfl (lv_at hl 3 rfl) ?_
                                  refine m_cip (m_rV S hW (c_X11_makes l G ad sh V_29 (mU (gZ q) (4 + nx) 0 (nI k)) (gNe q) (gNg q) (gRl q) (gT q (gRl q)) nx ny mk hZk (by first | assumption | omega) (by first | assumption | omega)) (cwV 3 hts (gCall [.methodLink RX11 246 yX11_makes, .instanceMethod yX11_makes, .selects RX11 yX11_makes yX11_makes, .initialized RX11] (List.forall_mem_cons.mpr ⟨(wa_37 _ (List.mem_of_getElem? (i := 3) (by decide +kernel))), (List.forall_mem_cons.mpr ⟨(wa_37 _ (List.mem_of_getElem? (i := 0) (by decide +kernel))), (List.forall_mem_cons.mpr ⟨(wa_37 _ (List.mem_of_getElem? (i := 1) (by decide +kernel))), (List.forall_mem_cons.mpr ⟨(wa_37 _ (List.mem_of_getElem? (i := 2) (by decide +kernel))), (List.forall_mem_cons.mpr ⟨(wa_1 _ (List.mem_of_getElem? (i := 5) (by decide +kernel))), (fun _ h => absurd h List.not_mem_nil)⟩)⟩)⟩)⟩)⟩)) rfl rfl rfl (by decide +kernel) ⟨Nat.le_of_ble_eq_true rfl, Nat.le_of_ble_eq_true rfl⟩) hZ.sp.1 kX11 rfl hl.1 rfl (Nat.le_of_ble_eq_true rfl) dX11_kinds_151 ⟨Nat.le_of_ble_eq_true rfl, Nat.le_of_ble_eq_true rfl⟩) hW (fun r_31 H locs hp_30 hW => ?_)
                                  rcases hp_30 with ⟨rfl, w_32⟩ | ⟨rfl, w_33⟩
                                  · skip
                                    refine m_if_eq (tgt := 164) hx hb dX11_kinds_154 (by decide) (fun c_34 => ?_) (fun c_34 => ?_)
                                    · exact absurd c_34 (by decide)
                                    · skip
                                      refine lv_iconst (v := nI 1) hx hb dX11_kinds_157 (by decide) ?_
                                      refine lv_iload hx hb dX11_kinds_158 (lv_at hl 8 rfl) ?_
                                      refine lv_ishl hx hb dX11_kinds_160 ?_
                                      refine lv_goto (tgt := 165) hx hb dX11_kinds_161 (by decide) ?_
                                      refine lv_ior hx hb dX11_kinds_165 ?_
                                      refine lv_istore (lv' := [(7, .int (sm ||| ((nI 1) <<< ((nI k) &&& 31)))), (0, .ref (ad 200)), (1, .int x), (2, .int y), (3, .int mk), (4, .int w), (5, .int (V 202 nx)), (6, .int (V 203 nx)), (8, .int (nI k))]) hx hb dX11_kinds_166 hl (by decide) rfl (fun ls hl => ?_)
                                      refine lv_iinc (v := nI (k + 1)) (lv' := [(8, .int (nI (k + 1))), (7, .int (sm ||| ((nI 1) <<< ((nI k) &&& 31)))), (0, .ref (ad 200)), (1, .int x), (2, .int y), (3, .int mk), (4, .int w), (5, .int (V 202 nx)), (6, .int (V 203 nx))]) hx hb dX11_kinds_168 hl (k := 8) rfl (m_inc k 1) (by decide) rfl (fun ls hl => ?_)
                                      refine lv_goto (tgt := 91) hx hb dX11_kinds_171 (by decide) ?_
                                      exact ih_91  (sm ||| ((nI 1) <<< ((nI k) &&& 31))) (nI k) (V 203 nx) (k + 1) V_29 _ _ _ (by omega) (by rw [eV_29, eV_27, hv, mU_sw _ _ _ (Or.inl (show 203 ≠ 202 by decide)), mU_mU, mU_mU]) (by have hkw := w_32; rw [zKd_u _ _ _ _ _ (by omega)] at hkw; exact bitOf_y hkw hs) (by omega) hW (lv_sub hl [2, 3, 4, 5, 6, 7, 8, 1, 0] rfl)
                                  · skip
                                    refine m_if_eq (tgt := 164) hx hb dX11_kinds_154 (by decide) (fun c_35 => ?_) (fun c_35 => ?_)
                                    · skip
                                      refine lv_iconst (v := nI 0) hx hb dX11_kinds_164 (by decide) ?_
                                      refine lv_ior hx hb dX11_kinds_165 ?_
                                      refine lv_istore (lv' := [(7, .int (sm ||| (nI 0))), (0, .ref (ad 200)), (1, .int x), (2, .int y), (3, .int mk), (4, .int w), (5, .int (V 202 nx)), (6, .int (V 203 nx)), (8, .int (nI k))]) hx hb dX11_kinds_166 hl (by decide) rfl (fun ls hl => ?_)
                                      refine lv_iinc (v := nI (k + 1)) (lv' := [(8, .int (nI (k + 1))), (7, .int (sm ||| (nI 0))), (0, .ref (ad 200)), (1, .int x), (2, .int y), (3, .int mk), (4, .int w), (5, .int (V 202 nx)), (6, .int (V 203 nx))]) hx hb dX11_kinds_168 hl (k := 8) rfl (m_inc k 1) (by decide) rfl (fun ls hl => ?_)
                                      refine lv_goto (tgt := 91) hx hb dX11_kinds_171 (by decide) ?_
                                      exact ih_91  (sm ||| (nI 0)) (nI k) (V 203 nx) (k + 1) V_29 _ _ _ (by omega) (by rw [eV_29, eV_27, hv, mU_sw _ _ _ (Or.inl (show 203 ≠ 202 by decide)), mU_mU, mU_mU]) (by have hkw := w_33; rw [zKd_u _ _ _ _ _ (by omega)] at hkw; exact bitOf_n hkw hs) (by omega) hW (lv_sub hl [2, 3, 4, 5, 6, 7, 8, 1, 0] rfl)
                                    · exact absurd c_35 (by decide)
                                · exact absurd c_28 (by decide)
                      exact loop_91 (6 - 0 + 1) (nI 0) (V 202 nx) (V 203 nx) 0 V _ _ _ (by omega) (by rw [mU_self V (show V 202 nx = V 202 nx from rfl), mU_self V (show V 203 nx = V 203 nx from rfl)]) (by rfl) (by omega) hW (lv_sub hl [4, 5, 6, 7, 8, 3, 2, 1, 0] rfl)
                    · exact absurd c_21 (by decide)
                  · skip
                    have hw0 : w = nI 1 := by rw [hnw, h0w]
                    have hw10 : ¬ w = nI 0 := by rw [hw0]; decide
                    refine lv_iload hx hb dX11_kinds_44 (lv_at hl 4 rfl) ?_
                    refine m_top (y := nI 1) (by rw [hnw, h0w]) ?_
                    refine lv_iconst (v := nI 1) hx hb dX11_kinds_46 (by decide) ?_
                    refine lv_icmp_le (tgt := 69) hx hb dX11_kinds_47 (by decide) (fun c_36 => ?_) (fun c_36 => ?_)
                    · skip
                      refine lv_aload_n hx hb dX11_kinds_69 rfl (lv_at hl 0 rfl) ?_
                      refine m_getr S hW hZ.sp.1 3 rfl (j := 202) rfl kX11 (iW11 _) (by decide) (List.mem_cons_of_mem _ (wa_11 _ (List.mem_of_getElem? (i := 3) (by decide +kernel)))) dX11_kinds_70 ?_
                      refine lv_iload_n hx hb dX11_kinds_73 rfl (lv_at hl 1 rfl) ?_
                      refine m_top (y := nI nx) hnx ?_
                      refine m_iald S hW hZ.sp.2.2.1 nx rfl (by omega) (by decide) dX11_kinds_74 ?_
                      refine lv_istore (lv' := [(5, .int (V 202 nx)), (0, .ref (ad 200)), (1, .int x), (2, .int y), (3, .int mk), (4, .int w)]) hx hb dX11_kinds_75 hl (by decide) rfl (fun ls hl => ?_)
                      refine lv_aload_n hx hb dX11_kinds_77 rfl (lv_at hl 1 rfl) ?_
                      refine m_getr S hW hZ.sp.1 4 rfl (j := 203) rfl kX11 (iW11 _) (by decide) (List.mem_cons_of_mem _ (wa_11 _ (List.mem_of_getElem? (i := 4) (by decide +kernel)))) dX11_kinds_78 ?_
                      refine lv_iload_n hx hb dX11_kinds_81 rfl (lv_at hl 2 rfl) ?_
                      refine m_top (y := nI nx) hnx ?_
                      refine m_iald S hW hZ.sp.2.2.2.1 nx rfl (by omega) (by decide) dX11_kinds_82 ?_
                      refine lv_istore (lv' := [(6, .int (V 203 nx)), (5, .int (V 202 nx)), (0, .ref (ad 200)), (1, .int x), (2, .int y), (3, .int mk), (4, .int w)]) hx hb dX11_kinds_83 hl (by decide) rfl (fun ls hl => ?_)
                      refine lv_iconst (v := nI 0) hx hb dX11_kinds_85 (by decide) ?_
                      refine lv_istore (lv' := [(7, .int (nI 0)), (6, .int (V 203 nx)), (5, .int (V 202 nx)), (0, .ref (ad 200)), (1, .int x), (2, .int y), (3, .int mk), (4, .int w)]) hx hb dX11_kinds_86 hl (by decide) rfl (fun ls hl => ?_)
                      refine lv_iconst (v := nI 0) hx hb dX11_kinds_88 (by decide) ?_
                      refine lv_istore (lv' := [(8, .int (nI 0)), (7, .int (nI 0)), (6, .int (V 203 nx)), (5, .int (V 202 nx)), (0, .ref (ad 200)), (1, .int x), (2, .int y), (3, .int mk), (4, .int w)]) hx hb dX11_kinds_89 hl (by decide) rfl (fun ls hl => ?_)
                      have loop_91 : ∀ (n_91 : Nat) (sm ka ma : Int32) (k : Nat) (V1 : mV) (H : Heap) (locs : List Loc) (ls : Array Slot), (k ≤ 10) → (V1 = mU (mU V 202 nx ka) 203 nx ma) → (sm = fBitsOf (zMo (gZ q) nx ny mk) k) → (10 - k) < n_91 → mC (mA ad sh s.heap.size) s.heap s G ad sh V1 H locs → lv_has ls 9 [(0, .ref (ad 200)), (1, .int x), (2, .int y), (3, .int mk), (4, .int w), (5, .int (V 202 nx)), (6, .int (V 203 nx)), (7, .int sm), (8, .int (nI k))] → W p l e ({ frames := 5, cells := 0, slots := 0, locals := 124 } : Room) s m ([.ref (ad 200), .int x, .int y, .int mk, .int w] : List Value).toArray below meth c H locs 0 0 (MQ below (mPost G ad sh s.heap.size (mPi ad sh (fun r V' => (aKinds q x y mk w) = r ∧ V' = V))) ([.ref (ad 200), .int x, .int y, .int mk, .int w] : List Value).toArray s 0 0 (mA ad sh s.heap.size)) (F0 m 91 ls []) := by
                        intro n_91
                        induction n_91 with
                        | zero => intro sm ka ma k V1 H locs ls hk hv hs hM_ hW hl; omega
                        | succ n_91 ih_91 =>
                          intro sm ka ma k V1 H locs ls hk hv hs hM_ hW hl
                          refine lv_iload hx hb dX11_kinds_91 (lv_at hl 8 rfl) ?_
                          refine lv_iload hx hb dX11_kinds_93 (lv_at hl 4 rfl) ?_
                          refine m_top (y := nI 1) (by rw [hnw, h0w]) ?_
                          refine m_if_ne (tgt := 103) hx hb dX11_kinds_95 (by decide) (fun c_37 => ?_) (fun c_37 => ?_)
                          · skip
                            refine lv_bipush (v := nI 10) hx hb dX11_kinds_103 (by decide) ?_
                            refine lv_icmp_ge (tgt := 174) hx hb dX11_kinds_105 (by decide) (fun c_38 => ?_) (fun c_38 => ?_)
                            · skip
                              have c_38 : 10 ≤ k := (nI_leI (by omega) (by omega)).mp c_38
                              refine lv_aload_n hx hb dX11_kinds_174 rfl (lv_at hl 0 rfl) ?_
                              refine m_getr S hW hZ.sp.1 3 rfl (j := 202) rfl kX11 (iW11 _) (by decide) (List.mem_cons_of_mem _ (wa_11 _ (List.mem_of_getElem? (i := 3) (by decide +kernel)))) dX11_kinds_175 ?_
                              refine lv_iload_n hx hb dX11_kinds_178 rfl (lv_at hl 1 rfl) ?_
                              refine m_top (y := nI nx) hnx ?_
                              refine lv_iload hx hb dX11_kinds_179 (lv_at hl 5 rfl) ?_
                              refine m_iast S hW hZ.sp.2.2.1 nx rfl (by omega) (by decide) dX11_kinds_181 (fun H locs hW => ?_)
                              obtain ⟨V_39, eV_39⟩ : ∃ vv_ : mV, vv_ = mU V1 202 nx ((V 202 nx)) := ⟨_, rfl⟩
                              rw [← eV_39] at hW
                              refine lv_aload_n hx hb dX11_kinds_182 rfl (lv_at hl 0 rfl) ?_
                              refine m_getr S hW hZ.sp.1 4 rfl (j := 203) rfl kX11 (iW11 _) (by decide) (List.mem_cons_of_mem _ (wa_11 _ (List.mem_of_getElem? (i := 4) (by decide +kernel)))) dX11_kinds_183 ?_
                              refine lv_iload_n hx hb dX11_kinds_186 rfl (lv_at hl 1 rfl) ?_
                              refine m_top (y := nI nx) hnx ?_
                              refine lv_iload hx hb dX11_kinds_187 (lv_at hl 6 rfl) ?_
                              refine m_iast S hW hZ.sp.2.2.2.1 nx rfl (by omega) (by decide) dX11_kinds_189 (fun H locs hW => ?_)
                              obtain ⟨V_40, eV_40⟩ : ∃ vv_ : mV, vv_ = mU V_39 203 nx ((V 203 nx)) := ⟨_, rfl⟩
                              rw [← eV_40] at hW
                              refine lv_iload hx hb dX11_kinds_190 (lv_at hl 7 rfl) ?_
                              exact m_iret S hr hlk hW dX11_kinds_192 (by refine ⟨by simp only [aKinds, if_pos w_3, hcx, if_pos w_8, hcy, if_pos w_13, if_neg hw10, if_pos hw0]; rw [hs, show k = 10 by omega], ?_⟩; rw [eV_40, eV_39, hv, mU_sw _ _ _ (Or.inl (show 203 ≠ 202 by decide)), mU_mU, mU_mU, mU_self _ (show mU V 202 nx (V 202 nx) 203 nx = V 203 nx from by rw [mU_no _ _ (by decide)]), mU_self V (show V 202 nx = V 202 nx from rfl)])
                            · skip
                              have c_38 : ¬ 10 ≤ k := mt (nI_leI (by omega) (by omega)).mpr c_38
                              refine lv_aload_n hx hb dX11_kinds_108 rfl (lv_at hl 0 rfl) ?_
                              refine m_getr S hW hZ.sp.1 3 rfl (j := 202) rfl kX11 (iW11 _) (by decide) (List.mem_cons_of_mem _ (wa_11 _ (List.mem_of_getElem? (i := 3) (by decide +kernel)))) dX11_kinds_109 ?_
                              refine lv_iload_n hx hb dX11_kinds_112 rfl (lv_at hl 1 rfl) ?_
                              refine m_top (y := nI nx) hnx ?_
                              refine lv_iload hx hb dX11_kinds_113 (lv_at hl 4 rfl) ?_
                              refine m_top (y := nI 1) (by rw [hnw, h0w]) ?_
                              refine m_if_ne (tgt := 123) hx hb dX11_kinds_115 (by decide) (fun c_41 => ?_) (fun c_41 => ?_)
                              · skip
                                refine lv_iload hx hb dX11_kinds_123 (lv_at hl 5 rfl) ?_
                                refine m_iast S hW hZ.sp.2.2.1 nx rfl (by omega) (by decide) dX11_kinds_125 (fun H locs hW => ?_)
                                obtain ⟨V_42, eV_42⟩ : ∃ vv_ : mV, vv_ = mU V1 202 nx ((V 202 nx)) := ⟨_, rfl⟩
                                rw [← eV_42] at hW
                                refine lv_aload_n hx hb dX11_kinds_126 rfl (lv_at hl 0 rfl) ?_
                                refine m_getr S hW hZ.sp.1 4 rfl (j := 203) rfl kX11 (iW11 _) (by decide) (List.mem_cons_of_mem _ (wa_11 _ (List.mem_of_getElem? (i := 4) (by decide +kernel)))) dX11_kinds_127 ?_
                                refine lv_iload_n hx hb dX11_kinds_130 rfl (lv_at hl 1 rfl) ?_
                                refine m_top (y := nI nx) hnx ?_
                                refine lv_iload hx hb dX11_kinds_131 (lv_at hl 4 rfl) ?_
                                refine m_top (y := nI 1) (by rw [hnw, h0w]) ?_
                                refine lv_iconst (v := nI 1) hx hb dX11_kinds_133 (by decide) ?_
                                refine lv_icmp_ne (tgt := 142) hx hb dX11_kinds_134 (by decide) (fun c_43 => ?_) (fun c_43 => ?_)
                                · exact absurd c_43 (by decide)
                                · skip
                                  refine lv_iload hx hb dX11_kinds_137 (lv_at hl 8 rfl) ?_
                                  refine lv_goto (tgt := 144) hx hb dX11_kinds_139 (by decide) ?_
                                  refine m_iast S hW hZ.sp.2.2.2.1 nx rfl (by omega) (by decide) dX11_kinds_144 (fun H locs hW => ?_)
                                  obtain ⟨V_44, eV_44⟩ : ∃ vv_ : mV, vv_ = mU V_42 203 nx (nI k) := ⟨_, rfl⟩
                                  rw [← eV_44] at hW
                                  have eVk : V_44 = mU V 203 nx (nI k) := by rw [eV_44, eV_42, hv, mU_sw _ _ _ (Or.inl (show 203 ≠ 202 by decide)), mU_mU, mU_mU, mU_self V (show V 202 nx = V 202 nx from rfl)]
                                  have hZk := hZ.uMo (u := nx) (v := k) hlnx (by omega)
                                  rw [← eVk] at hZk
                                  refine lv_iload hx hb dX11_kinds_145 (lv_at hl 7 rfl) ?_
                                  refine lv_aload_n hx hb dX11_kinds_147 rfl (lv_at hl 0 rfl) ?_
                                  refine lv_iload_n hx hb dX11_kinds_148 rfl (lv_at hl 1 rfl) ?_
                                  refine m_top (y := nI nx) hnx ?_
                                  refine lv_iload_n hx hb dX11_kinds_149 rfl (lv_at hl 2 rfl) ?_
                                  refine m_top (y := nI ny) hny ?_
                                  refine lv_iload_n hx hb dX11_kinds_150 rfl (lv_at hl 3 rfl) ?_
                                  refine m_cip (m_rV S hW (c_X11_makes l G ad sh V_44 (mU (gZ q) (4 + nx) 1 (nI k)) (gNe q) (gNg q) (gRl q) (gT q (gRl q)) nx ny mk hZk (by first | assumption | omega) (by first | assumption | omega)) (cwV 3 hts (gCall [.methodLink RX11 246 yX11_makes, .instanceMethod yX11_makes, .selects RX11 yX11_makes yX11_makes, .initialized RX11] (List.forall_mem_cons.mpr ⟨(wa_37 _ (List.mem_of_getElem? (i := 3) (by decide +kernel))), (List.forall_mem_cons.mpr ⟨(wa_37 _ (List.mem_of_getElem? (i := 0) (by decide +kernel))), (List.forall_mem_cons.mpr ⟨(wa_37 _ (List.mem_of_getElem? (i := 1) (by decide +kernel))), (List.forall_mem_cons.mpr ⟨(wa_37 _ (List.mem_of_getElem? (i := 2) (by decide +kernel))), (List.forall_mem_cons.mpr ⟨(wa_1 _ (List.mem_of_getElem? (i := 5) (by decide +kernel))), (fun _ h => absurd h List.not_mem_nil)⟩)⟩)⟩)⟩)⟩)) rfl rfl rfl (by decide +kernel) ⟨Nat.le_of_ble_eq_true rfl, Nat.le_of_ble_eq_true rfl⟩) hZ.sp.1 kX11 rfl hl.1 rfl (Nat.le_of_ble_eq_true rfl) dX11_kinds_151 ⟨Nat.le_of_ble_eq_true rfl, Nat.le_of_ble_eq_true rfl⟩) hW (fun r_46 H locs hp_45 hW => ?_)
                                  rcases hp_45 with ⟨rfl, w_47⟩ | ⟨rfl, w_48⟩
                                  · skip
                                    refine m_if_eq (tgt := 164) hx hb dX11_kinds_154 (by decide) (fun c_49 => ?_) (fun c_49 => ?_)
                                    · exact absurd c_49 (by decide)
                                    · skip
                                      refine lv_iconst (v := nI 1) hx hb dX11_kinds_157 (by decide) ?_
                                      refine lv_iload hx hb dX11_kinds_158 (lv_at hl 8 rfl) ?_
                                      refine lv_ishl hx hb dX11_kinds_160 ?_
                                      refine lv_goto (tgt := 165) hx hb dX11_kinds_161 (by decide) ?_
                                      refine lv_ior hx hb dX11_kinds_165 ?_
                                      refine lv_istore (lv' := [(7, .int (sm ||| ((nI 1) <<< ((nI k) &&& 31)))), (0, .ref (ad 200)), (1, .int x), (2, .int y), (3, .int mk), (4, .int w), (5, .int (V 202 nx)), (6, .int (V 203 nx)), (8, .int (nI k))]) hx hb dX11_kinds_166 hl (by decide) rfl (fun ls hl => ?_)
                                      refine lv_iinc (v := nI (k + 1)) (lv' := [(8, .int (nI (k + 1))), (7, .int (sm ||| ((nI 1) <<< ((nI k) &&& 31)))), (0, .ref (ad 200)), (1, .int x), (2, .int y), (3, .int mk), (4, .int w), (5, .int (V 202 nx)), (6, .int (V 203 nx))]) hx hb dX11_kinds_168 hl (k := 8) rfl (m_inc k 1) (by decide) rfl (fun ls hl => ?_)
                                      refine lv_goto (tgt := 91) hx hb dX11_kinds_171 (by decide) ?_
                                      exact ih_91  (sm ||| ((nI 1) <<< ((nI k) &&& 31))) (V 202 nx) (nI k) (k + 1) V_44 _ _ _ (by omega) (by rw [eV_44, eV_42, hv, mU_sw _ _ _ (Or.inl (show 203 ≠ 202 by decide)), mU_mU, mU_mU]) (by have hkw := w_47; rw [zMo_u _ _ _ _ _ (by omega)] at hkw; exact bitOf_y hkw hs) (by omega) hW (lv_sub hl [2, 3, 4, 5, 6, 7, 8, 1, 0] rfl)
                                  · skip
                                    refine m_if_eq (tgt := 164) hx hb dX11_kinds_154 (by decide) (fun c_50 => ?_) (fun c_50 => ?_)
                                    · skip
                                      refine lv_iconst (v := nI 0) hx hb dX11_kinds_164 (by decide) ?_
                                      refine lv_ior hx hb dX11_kinds_165 ?_
                                      refine lv_istore (lv' := [(7, .int (sm ||| (nI 0))), (0, .ref (ad 200)), (1, .int x), (2, .int y), (3, .int mk), (4, .int w), (5, .int (V 202 nx)), (6, .int (V 203 nx)), (8, .int (nI k))]) hx hb dX11_kinds_166 hl (by decide) rfl (fun ls hl => ?_)
                                      refine lv_iinc (v := nI (k + 1)) (lv' := [(8, .int (nI (k + 1))), (7, .int (sm ||| (nI 0))), (0, .ref (ad 200)), (1, .int x), (2, .int y), (3, .int mk), (4, .int w), (5, .int (V 202 nx)), (6, .int (V 203 nx))]) hx hb dX11_kinds_168 hl (k := 8) rfl (m_inc k 1) (by decide) rfl (fun ls hl => ?_)
                                      refine lv_goto (tgt := 91) hx hb dX11_kinds_171 (by decide) ?_
                                      exact ih_91  (sm ||| (nI 0)) (V 202 nx) (nI k) (k + 1) V_44 _ _ _ (by omega) (by rw [eV_44, eV_42, hv, mU_sw _ _ _ (Or.inl (show 203 ≠ 202 by decide)), mU_mU, mU_mU]) (by have hkw := w_48; rw [zMo_u _ _ _ _ _ (by omega)] at hkw; exact bitOf_n hkw hs) (by omega) hW (lv_sub hl [2, 3, 4, 5, 6, 7, 8, 1, 0] rfl)
                                    · exact absurd c_50 (by decide)
                              · exact absurd c_41 (by decide)
                          · exact absurd c_37 (by decide)
                      exact loop_91 (10 - 0 + 1) (nI 0) (V 202 nx) (V 203 nx) 0 V _ _ _ (by omega) (by rw [mU_self V (show V 202 nx = V 202 nx from rfl), mU_self V (show V 203 nx = V 203 nx from rfl)]) (by rfl) (by omega) hW (lv_sub hl [4, 5, 6, 7, 8, 3, 2, 1, 0] rfl)
                    · exact absurd c_36 (by decide)
                  · skip
                    have hw0 : w = nI 2 := by rw [hnw, h0w]
                    have hw10 : ¬ w = nI 0 := by rw [hw0]; decide
                    have hw11 : ¬ w = nI 1 := by rw [hw0]; decide
                    refine lv_iload hx hb dX11_kinds_44 (lv_at hl 4 rfl) ?_
                    refine m_top (y := nI 2) (by rw [hnw, h0w]) ?_
                    refine lv_iconst (v := nI 1) hx hb dX11_kinds_46 (by decide) ?_
                    refine lv_icmp_le (tgt := 69) hx hb dX11_kinds_47 (by decide) (fun c_51 => ?_) (fun c_51 => ?_)
                    · exact absurd c_51 (by decide)
                    · skip
                      refine lv_aload_n hx hb dX11_kinds_50 rfl (lv_at hl 0 rfl) ?_
                      refine lv_iload_n hx hb dX11_kinds_51 rfl (lv_at hl 1 rfl) ?_
                      refine m_top (y := nI nx) hnx ?_
                      refine lv_iload_n hx hb dX11_kinds_52 rfl (lv_at hl 2 rfl) ?_
                      refine m_top (y := nI ny) hny ?_
                      refine lv_iload_n hx hb dX11_kinds_53 rfl (lv_at hl 3 rfl) ?_
                      refine lv_iload hx hb dX11_kinds_54 (lv_at hl 4 rfl) ?_
                      refine m_top (y := nI 2) (by rw [hnw, h0w]) ?_
                      refine lv_iconst (v := nI 3) hx hb dX11_kinds_56 (by decide) ?_
                      refine lv_icmp_ne (tgt := 64) hx hb dX11_kinds_57 (by decide) (fun c_52 => ?_) (fun c_52 => ?_)
                      · skip
                        refine lv_iconst (v := nI 0) hx hb dX11_kinds_64 (by decide) ?_
                        refine m_ci (m_rV S hW (c_X11_jaws l G ad sh V (gZ q) (gNe q) (gNg q) (gRl q) (gT q (gRl q)) nx ny 0 mk hZ (by first | assumption | omega) (by first | assumption | omega) (by first | assumption | omega)) (cwV 4 hts (gCall [.methodLink RX11 249 yX11_jaws, .instanceMethod yX11_jaws, .selects RX11 yX11_jaws yX11_jaws, .initialized RX11] (List.forall_mem_cons.mpr ⟨(wa_38 _ (List.mem_of_getElem? (i := 9) (by decide +kernel))), (List.forall_mem_cons.mpr ⟨(wa_38 _ (List.mem_of_getElem? (i := 6) (by decide +kernel))), (List.forall_mem_cons.mpr ⟨(wa_38 _ (List.mem_of_getElem? (i := 7) (by decide +kernel))), (List.forall_mem_cons.mpr ⟨(wa_38 _ (List.mem_of_getElem? (i := 8) (by decide +kernel))), (List.forall_mem_cons.mpr ⟨(wa_1 _ (List.mem_of_getElem? (i := 5) (by decide +kernel))), (fun _ h => absurd h List.not_mem_nil)⟩)⟩)⟩)⟩)⟩)) rfl rfl rfl (by decide +kernel) ⟨Nat.le_of_ble_eq_true rfl, Nat.le_of_ble_eq_true rfl⟩) hZ.sp.1 kX11 rfl hl.1 rfl (Nat.le_of_ble_eq_true rfl) dX11_kinds_65 ⟨Nat.le_of_ble_eq_true rfl, Nat.le_of_ble_eq_true rfl⟩) hW (fun r_55 V_53 H locs hp_54 hW => ?_)
                        obtain ⟨rfl, eV_53⟩ := hp_54
                        exact m_iret S hr hlk hW dX11_kinds_68 (by exact ⟨by simp only [aKinds, if_pos w_3, hcx, if_pos w_8, hcy, if_pos w_13, if_neg hw10, if_neg hw11, if_pos hw0]; exact (if_pos trivial).symm, (by rw [eV_53])⟩)
                      · exact absurd c_52 (by decide)
                  · skip
                    have hw0 : w = nI 3 := by rw [hnw, h0w]
                    have hw10 : ¬ w = nI 0 := by rw [hw0]; decide
                    have hw11 : ¬ w = nI 1 := by rw [hw0]; decide
                    have hw12 : ¬ w = nI 2 := by rw [hw0]; decide
                    refine lv_iload hx hb dX11_kinds_44 (lv_at hl 4 rfl) ?_
                    refine m_top (y := nI 3) (by rw [hnw, h0w]) ?_
                    refine lv_iconst (v := nI 1) hx hb dX11_kinds_46 (by decide) ?_
                    refine lv_icmp_le (tgt := 69) hx hb dX11_kinds_47 (by decide) (fun c_56 => ?_) (fun c_56 => ?_)
                    · exact absurd c_56 (by decide)
                    · skip
                      refine lv_aload_n hx hb dX11_kinds_50 rfl (lv_at hl 0 rfl) ?_
                      refine lv_iload_n hx hb dX11_kinds_51 rfl (lv_at hl 1 rfl) ?_
                      refine m_top (y := nI nx) hnx ?_
                      refine lv_iload_n hx hb dX11_kinds_52 rfl (lv_at hl 2 rfl) ?_
                      refine m_top (y := nI ny) hny ?_
                      refine lv_iload_n hx hb dX11_kinds_53 rfl (lv_at hl 3 rfl) ?_
                      refine lv_iload hx hb dX11_kinds_54 (lv_at hl 4 rfl) ?_
                      refine m_top (y := nI 3) (by rw [hnw, h0w]) ?_
                      refine lv_iconst (v := nI 3) hx hb dX11_kinds_56 (by decide) ?_
                      refine lv_icmp_ne (tgt := 64) hx hb dX11_kinds_57 (by decide) (fun c_57 => ?_) (fun c_57 => ?_)
                      · exact absurd c_57 (by decide)
                      · skip
                        refine lv_iconst (v := nI 1) hx hb dX11_kinds_60 (by decide) ?_
                        refine lv_goto (tgt := 65) hx hb dX11_kinds_61 (by decide) ?_
                        refine m_ci (m_rV S hW (c_X11_jaws l G ad sh V (gZ q) (gNe q) (gNg q) (gRl q) (gT q (gRl q)) nx ny 1 mk hZ (by first | assumption | omega) (by first | assumption | omega) (by first | assumption | omega)) (cwV 4 hts (gCall [.methodLink RX11 249 yX11_jaws, .instanceMethod yX11_jaws, .selects RX11 yX11_jaws yX11_jaws, .initialized RX11] (List.forall_mem_cons.mpr ⟨(wa_38 _ (List.mem_of_getElem? (i := 9) (by decide +kernel))), (List.forall_mem_cons.mpr ⟨(wa_38 _ (List.mem_of_getElem? (i := 6) (by decide +kernel))), (List.forall_mem_cons.mpr ⟨(wa_38 _ (List.mem_of_getElem? (i := 7) (by decide +kernel))), (List.forall_mem_cons.mpr ⟨(wa_38 _ (List.mem_of_getElem? (i := 8) (by decide +kernel))), (List.forall_mem_cons.mpr ⟨(wa_1 _ (List.mem_of_getElem? (i := 5) (by decide +kernel))), (fun _ h => absurd h List.not_mem_nil)⟩)⟩)⟩)⟩)⟩)) rfl rfl rfl (by decide +kernel) ⟨Nat.le_of_ble_eq_true rfl, Nat.le_of_ble_eq_true rfl⟩) hZ.sp.1 kX11 rfl hl.1 rfl (Nat.le_of_ble_eq_true rfl) dX11_kinds_65 ⟨Nat.le_of_ble_eq_true rfl, Nat.le_of_ble_eq_true rfl⟩) hW (fun r_60 V_58 H locs hp_59 hW => ?_)
                        obtain ⟨rfl, eV_58⟩ := hp_59
                        exact m_iret S hr hlk hW dX11_kinds_68 (by exact ⟨by simp only [aKinds, if_pos w_3, hcx, if_pos w_8, hcy, if_pos w_13, if_neg hw10, if_neg hw11, if_neg hw12, if_pos hw0]; exact (if_neg (by decide)).symm, (by rw [eV_58])⟩)
                · exact absurd c_20 (by decide)
              · skip
                refine m_if_ne (tgt := 44) hx hb dX11_kinds_38 (by decide) (fun c_61 => ?_) (fun c_61 => ?_)
                · exact absurd c_61 (by decide)
                · skip
                  have hn0 : ¬ w = nI 0 := fun z => w_19 (by rw [z]; decide)
                  have hn1 : ¬ w = nI 1 := fun z => w_19 (by rw [z]; decide)
                  have hn2 : ¬ w = nI 2 := fun z => w_19 (by rw [z]; decide)
                  have hn3 : ¬ w = nI 3 := fun z => w_19 (by rw [z]; decide)
                  refine lv_bipush (v := -7) hx hb dX11_kinds_41 (by decide) ?_
                  exact m_iret S hr hlk hW dX11_kinds_43 (by exact ⟨by simp only [aKinds, if_pos w_3, hcx, if_pos w_8, hcy, if_pos w_13, if_neg hn0, if_neg hn1, if_neg hn2, if_neg hn3]; try rfl, rfl⟩)
          · skip
            refine m_if_eq (tgt := 41) hx hb dX11_kinds_28 (by decide) (fun c_62 => ?_) (fun c_62 => ?_)
            · skip
              refine lv_bipush (v := -7) hx hb dX11_kinds_41 (by decide) ?_
              exact m_iret S hr hlk hW dX11_kinds_43 (by exact ⟨by simp only [aKinds, if_pos w_3, hcx, if_pos w_8, hcy, if_neg w_14]; try rfl, rfl⟩)
            · exact absurd c_62 (by decide)
        · exact absurd c_10 (by decide)
      · skip
        refine m_if_ne (tgt := 22) hx hb dX11_kinds_16 (by decide) (fun c_63 => ?_) (fun c_63 => ?_)
        · exact absurd c_63 (by decide)
        · skip
          refine lv_bipush (v := -5) hx hb dX11_kinds_19 (by decide) ?_
          exact m_iret S hr hlk hW dX11_kinds_21 (by exact ⟨by simp only [aKinds, if_pos w_3, hcx, if_neg w_9]; try rfl, rfl⟩)
    · exact absurd c_5 (by decide)
  · skip
    refine m_if_ne (tgt := 11) hx hb dX11_kinds_5 (by decide) (fun c_64 => ?_) (fun c_64 => ?_)
    · exact absurd c_64 (by decide)
    · skip
      refine lv_bipush (v := -6) hx hb dX11_kinds_8 (by decide) ?_
      exact m_iret S hr hlk hW dX11_kinds_10 (by exact ⟨by simp only [aKinds, if_neg w_4]; try rfl, rfl⟩)
set_option maxHeartbeats 4000000 in
set_option maxRecDepth 100000 in
theorem c_X11_hire (l : Launch) (G : mG) (ad : Nat → Nat) (sh : Nat → Option mSh) (V : mV) (q : Sg) (x w : Int32) (hI : MI sh V q) : mM l yX11_hire wsX11_hire ({ frames := 6, cells := 0, slots := 0, locals := 148 } : Room) G ad sh V [.ref (ad 200), .int x, .int w] 0 0 (mPi ad sh (fun r V' => (aHire q x w) = r ∧ (MK V V'))) := by
  refine mM.of (cc := cX11_hire) (maxL := 10) (ret := (some .int)) (by decide) rfl (Nat.le_of_ble_eq_true rfl) ?_
  intro p e s m below meth c S hr hlk hnm hW ls hl
  obtain ⟨hx, hb, hml, hown, hts⟩ := id S
  have hl : lv_has ls 10 [(0, .ref (ad 200)), (1, .int x), (2, .int w)] := hl
  have hS0 : True := trivial
  have hZ := hI.z
  have hne5 := hZ.ne5
  have hng6 := hZ.ng6
  have htn := hI.tn
  refine lv_aload_n hx hb dX11_hire_0 rfl (lv_at hl 0 rfl) ?_
  refine lv_iload_n hx hb dX11_hire_1 rfl (lv_at hl 1 rfl) ?_
  refine m_cip (m_rV S hW (c_X11_isEater l G ad sh V (gZ q) (gNe q) (gNg q) (gRl q) (gT q (gRl q)) x hZ) (cwV 1 hts (gCall [.methodLink RX11 179 yX11_isEater, .instanceMethod yX11_isEater, .selects RX11 yX11_isEater yX11_isEater, .initialized RX11] (List.forall_mem_cons.mpr ⟨(wa_19 _ (List.mem_of_getElem? (i := 3) (by decide +kernel))), (List.forall_mem_cons.mpr ⟨(wa_19 _ (List.mem_of_getElem? (i := 0) (by decide +kernel))), (List.forall_mem_cons.mpr ⟨(wa_19 _ (List.mem_of_getElem? (i := 1) (by decide +kernel))), (List.forall_mem_cons.mpr ⟨(wa_19 _ (List.mem_of_getElem? (i := 2) (by decide +kernel))), (List.forall_mem_cons.mpr ⟨(wa_1 _ (List.mem_of_getElem? (i := 5) (by decide +kernel))), (fun _ h => absurd h List.not_mem_nil)⟩)⟩)⟩)⟩)⟩)) rfl rfl rfl (by decide +kernel) ⟨Nat.le_of_ble_eq_true rfl, Nat.le_of_ble_eq_true rfl⟩) hZ.sp.1 kX11 rfl hl.1 rfl (Nat.le_of_ble_eq_true rfl) dX11_hire_2 ⟨Nat.le_of_ble_eq_true rfl, Nat.le_of_ble_eq_true rfl⟩) hW (fun r_2 H locs hp_1 hW => ?_)
  rcases hp_1 with ⟨rfl, w_3⟩ | ⟨rfl, w_4⟩
  · skip
    obtain ⟨nx, hnx, hwnx, hlnx⟩ := w_3.ex
    have hcx : x.toNatClampNeg = nx := by rw [hnx]; exact nI_clamp (by omega)
    refine m_if_ne (tgt := 11) hx hb dX11_hire_5 (by decide) (fun c_5 => ?_) (fun c_5 => ?_)
    · skip
      refine lv_iload_n hx hb dX11_hire_11 rfl (lv_at hl 2 rfl) ?_
      refine lv_iconst (v := nI 0) hx hb dX11_hire_12 (by decide) ?_
      refine lv_iconst (v := nI 1) hx hb dX11_hire_13 (by decide) ?_
      refine m_cip (m_rS S hW (c_X11_in l G ad sh V w 0 1 (by first | assumption | omega) (by first | assumption | omega)) (va_cwS 3 hts (gCall [.methodLink RX11 84 yX11_in, .static yX11_in, .initialized RX11] (List.forall_mem_cons.mpr ⟨(wa_12 _ (List.mem_of_getElem? (i := 16) (by decide +kernel))), (List.forall_mem_cons.mpr ⟨(wa_12 _ (List.mem_of_getElem? (i := 14) (by decide +kernel))), (List.forall_mem_cons.mpr ⟨(wa_12 _ (List.mem_of_getElem? (i := 15) (by decide +kernel))), (List.forall_mem_cons.mpr ⟨(wa_1 _ (List.mem_of_getElem? (i := 5) (by decide +kernel))), (fun _ h => absurd h List.not_mem_nil)⟩)⟩)⟩)⟩)) rfl rfl rfl (by decide +kernel) ⟨Nat.le_of_ble_eq_true rfl, Nat.le_of_ble_eq_true rfl⟩) rfl hl.1 rfl (Nat.le_of_ble_eq_true rfl) dX11_hire_14 ⟨Nat.le_of_ble_eq_true rfl, Nat.le_of_ble_eq_true rfl⟩) hW (fun r_7 H locs hp_6 hW => ?_)
      rcases hp_6 with ⟨rfl, w_8⟩ | ⟨rfl, w_9⟩
      · skip
        refine m_if_ne (tgt := 23) hx hb dX11_hire_17 (by decide) (fun c_10 => ?_) (fun c_10 => ?_)
        · skip
          refine lv_aload_n hx hb dX11_hire_23 rfl (lv_at hl 0 rfl) ?_
          refine lv_iload_n hx hb dX11_hire_24 rfl (lv_at hl 1 rfl) ?_
          refine m_top (y := nI nx) hnx ?_
          refine m_ci (m_rV S hW (c_X11_bestOf l G ad sh V (gZ q) (gNe q) (gNg q) (gRl q) (gT q (gRl q)) nx hZ (by first | assumption | omega)) (cwV 1 hts (gCall [.methodLink RX11 219 yX11_bestOf, .instanceMethod yX11_bestOf, .selects RX11 yX11_bestOf yX11_bestOf, .initialized RX11] (List.forall_mem_cons.mpr ⟨(wa_29 _ (List.mem_of_getElem? (i := 15) (by decide +kernel))), (List.forall_mem_cons.mpr ⟨(wa_29 _ (List.mem_of_getElem? (i := 12) (by decide +kernel))), (List.forall_mem_cons.mpr ⟨(wa_29 _ (List.mem_of_getElem? (i := 13) (by decide +kernel))), (List.forall_mem_cons.mpr ⟨(wa_29 _ (List.mem_of_getElem? (i := 14) (by decide +kernel))), (List.forall_mem_cons.mpr ⟨(wa_1 _ (List.mem_of_getElem? (i := 5) (by decide +kernel))), (fun _ h => absurd h List.not_mem_nil)⟩)⟩)⟩)⟩)⟩)) rfl rfl rfl (by decide +kernel) ⟨Nat.le_of_ble_eq_true rfl, Nat.le_of_ble_eq_true rfl⟩) hZ.sp.1 kX11 rfl hl.1 rfl (Nat.le_of_ble_eq_true rfl) dX11_hire_25 ⟨Nat.le_of_ble_eq_true rfl, Nat.le_of_ble_eq_true rfl⟩) hW (fun r_13 V_11 H locs hp_12 hW => ?_)
          obtain ⟨rfl, hv_14⟩ := hp_12
          refine lv_pop hx hb dX11_hire_28 rfl ?_
          refine lv_aload_n hx hb dX11_hire_29 rfl (lv_at hl 0 rfl) ?_
          refine m_getr S hW hZ.sp.1 3 rfl (j := 202) rfl kX11 (iW11 _) (by decide) (List.mem_cons_of_mem _ (wa_11 _ (List.mem_of_getElem? (i := 3) (by decide +kernel)))) dX11_hire_30 ?_
          refine lv_iload_n hx hb dX11_hire_33 rfl (lv_at hl 1 rfl) ?_
          refine m_top (y := nI nx) hnx ?_
          refine m_iald S hW hZ.sp.2.2.1 nx rfl (by omega) (by decide) dX11_hire_34 ?_
          refine m_top (y := (V 202 nx)) (by rw [hv_14, mU_no _ _ (by decide)]) ?_
          refine lv_istore_n (lv' := [(3, .int (V 202 nx)), (0, .ref (ad 200)), (1, .int x), (2, .int w)]) hx hb dX11_hire_35 rfl hl (by decide) rfl (fun ls hl => ?_)
          refine lv_aload_n hx hb dX11_hire_36 rfl (lv_at hl 1 rfl) ?_
          refine m_getr S hW hZ.sp.1 4 rfl (j := 203) rfl kX11 (iW11 _) (by decide) (List.mem_cons_of_mem _ (wa_11 _ (List.mem_of_getElem? (i := 4) (by decide +kernel)))) dX11_hire_37 ?_
          refine lv_iload_n hx hb dX11_hire_40 rfl (lv_at hl 2 rfl) ?_
          refine m_top (y := nI nx) hnx ?_
          refine m_iald S hW hZ.sp.2.2.2.1 nx rfl (by omega) (by decide) dX11_hire_41 ?_
          refine m_top (y := (V 203 nx)) (by rw [hv_14, mU_no _ _ (by decide)]) ?_
          refine lv_istore (lv' := [(4, .int (V 203 nx)), (3, .int (V 202 nx)), (0, .ref (ad 200)), (1, .int x), (2, .int w)]) hx hb dX11_hire_42 hl (by decide) rfl (fun ls hl => ?_)
          refine lv_iconst (v := -1) hx hb dX11_hire_44 (by decide) ?_
          refine lv_istore (lv' := [(5, .int (-1)), (4, .int (V 203 nx)), (3, .int (V 202 nx)), (0, .ref (ad 200)), (1, .int x), (2, .int w)]) hx hb dX11_hire_45 hl (by decide) rfl (fun ls hl => ?_)
          refine lv_aload_n hx hb dX11_hire_47 rfl (lv_at hl 3 rfl) ?_
          refine m_geti S hW hZ.sp.1 32 rfl kX11 (iW11 _) (by decide) (List.mem_cons_of_mem _ (wa_29 _ (List.mem_of_getElem? (i := 11) (by decide +kernel)))) dX11_hire_48 ?_
          refine m_top (y := (zBest (gAsk q) (gZ q) nx (gNg q * 16)).2) (by rw [hv_14, mU_eq]; rfl) ?_
          refine lv_istore (lv' := [(6, .int ((zBest (gAsk q) (gZ q) nx (gNg q * 16)).2)), (5, .int (-1)), (4, .int (V 203 nx)), (3, .int (V 202 nx)), (0, .ref (ad 200)), (1, .int x), (2, .int w)]) hx hb dX11_hire_51 hl (by decide) rfl (fun ls hl => ?_)
          refine lv_iconst (v := nI 1) hx hb dX11_hire_53 (by decide) ?_
          refine lv_istore (lv' := [(7, .int (nI 1)), (6, .int ((zBest (gAsk q) (gZ q) nx (gNg q * 16)).2)), (5, .int (-1)), (4, .int (V 203 nx)), (3, .int (V 202 nx)), (0, .ref (ad 200)), (1, .int x), (2, .int w)]) hx hb dX11_hire_54 hl (by decide) rfl (fun ls hl => ?_)
          have loop_56 : ∀ (n_56 : Nat) (bs mo ka ma bg : Int32) (k : Nat) (V1 : mV) (H : Heap) (locs : List Loc) (ls : Array Slot), (1 ≤ k ∧ k ≤ 6) → (V1 = mU (mU (mU V 202 nx ka) 203 nx ma) 200 32 bg) → (nI 0 ≤ mo) → ((bs, mo) = (fHire (zBest (gAsk q) (gZ q) nx (gNg q * 16)).2 (fun t => (zBest (gAsk q) (mU (mU (gZ q) (4 + nx) 0 (nI 5)) (4 + nx) 1 (nI (2 * t - 2))) nx (gNg q * 16)).2) (k - 1))) → (6 - k) < n_56 → mC (mA ad sh s.heap.size) s.heap s G ad sh V1 H locs → lv_has ls 10 [(0, .ref (ad 200)), (1, .int x), (2, .int w), (3, .int (V 202 nx)), (4, .int (V 203 nx)), (5, .int bs), (6, .int mo), (7, .int (nI k))] → W p l e ({ frames := 6, cells := 0, slots := 0, locals := 148 } : Room) s m ([.ref (ad 200), .int x, .int w] : List Value).toArray below meth c H locs 0 0 (MQ below (mPost G ad sh s.heap.size (mPi ad sh (fun r V' => (aHire q x w) = r ∧ (MK V V')))) ([.ref (ad 200), .int x, .int w] : List Value).toArray s 0 0 (mA ad sh s.heap.size)) (F0 m 56 ls []) := by
            intro n_56
            induction n_56 with
            | zero => intro bs mo ka ma bg k V1 H locs ls hk hv hnn hq hM_ hW hl; omega
            | succ n_56 ih_56 =>
              intro bs mo ka ma bg k V1 H locs ls hk hv hnn hq hM_ hW hl
              refine lv_iload hx hb dX11_hire_56 (lv_at hl 7 rfl) ?_
              refine lv_iconst (v := nI 5) hx hb dX11_hire_58 (by decide) ?_
              refine lv_icmp_gt (tgt := 154) hx hb dX11_hire_59 (by decide) (fun c_15 => ?_) (fun c_15 => ?_)
              · skip
                have c_15 : 5 < k := (nI_ltI (by omega) (by omega)).mp c_15
                refine lv_aload_n hx hb dX11_hire_154 rfl (lv_at hl 0 rfl) ?_
                refine m_getr S hW hZ.sp.1 3 rfl (j := 202) rfl kX11 (iW11 _) (by decide) (List.mem_cons_of_mem _ (wa_11 _ (List.mem_of_getElem? (i := 3) (by decide +kernel)))) dX11_hire_155 ?_
                refine lv_iload_n hx hb dX11_hire_158 rfl (lv_at hl 1 rfl) ?_
                refine m_top (y := nI nx) hnx ?_
                refine lv_iload_n hx hb dX11_hire_159 rfl (lv_at hl 3 rfl) ?_
                refine m_iast S hW hZ.sp.2.2.1 nx rfl (by omega) (by decide) dX11_hire_160 (fun H locs hW => ?_)
                obtain ⟨V_16, eV_16⟩ : ∃ vv_ : mV, vv_ = mU V1 202 nx ((V 202 nx)) := ⟨_, rfl⟩
                rw [← eV_16] at hW
                refine lv_aload_n hx hb dX11_hire_161 rfl (lv_at hl 0 rfl) ?_
                refine m_getr S hW hZ.sp.1 4 rfl (j := 203) rfl kX11 (iW11 _) (by decide) (List.mem_cons_of_mem _ (wa_11 _ (List.mem_of_getElem? (i := 4) (by decide +kernel)))) dX11_hire_162 ?_
                refine lv_iload_n hx hb dX11_hire_165 rfl (lv_at hl 1 rfl) ?_
                refine m_top (y := nI nx) hnx ?_
                refine lv_iload hx hb dX11_hire_166 (lv_at hl 4 rfl) ?_
                refine m_iast S hW hZ.sp.2.2.2.1 nx rfl (by omega) (by decide) dX11_hire_168 (fun H locs hW => ?_)
                obtain ⟨V_17, eV_17⟩ : ∃ vv_ : mV, vv_ = mU V_16 203 nx ((V 203 nx)) := ⟨_, rfl⟩
                rw [← eV_17] at hW
                refine lv_iload_n hx hb dX11_hire_169 rfl (lv_at hl 2 rfl) ?_
                refine m_if_ne (tgt := 178) hx hb dX11_hire_170 (by decide) (fun c_18 => ?_) (fun c_18 => ?_)
                · skip
                  refine lv_iload hx hb dX11_hire_178 (lv_at hl 6 rfl) ?_
                  have hKf : MK V V_17 := by rw [eV_17, eV_16, hv, mU_sw _ _ _ (Or.inl (show 200 ≠ 202 by decide)), mU_sw _ _ _ (Or.inl (show 203 ≠ 202 by decide)), mU_mU, mU_sw _ _ _ (Or.inl (show 200 ≠ 203 by decide)), mU_mU, mU_self V (show V 202 nx = V 202 nx from rfl), mU_self V (show V 203 nx = V 203 nx from rfl)]; exact (MK.rfl _).p200 _ (Or.inl rfl)
                  exact m_iret S hr hlk hW dX11_hire_180 (by rw [show k - 1 = 5 by omega] at hq; exact ⟨by simp only [aHire, if_pos w_3, hcx, if_pos w_8, if_neg c_18]; rw [zTeeth, ← hq], hKf⟩)
                · skip
                  refine lv_iload hx hb dX11_hire_173 (lv_at hl 5 rfl) ?_
                  refine lv_goto (tgt := 180) hx hb dX11_hire_175 (by decide) ?_
                  have hKf : MK V V_17 := by rw [eV_17, eV_16, hv, mU_sw _ _ _ (Or.inl (show 200 ≠ 202 by decide)), mU_sw _ _ _ (Or.inl (show 203 ≠ 202 by decide)), mU_mU, mU_sw _ _ _ (Or.inl (show 200 ≠ 203 by decide)), mU_mU, mU_self V (show V 202 nx = V 202 nx from rfl), mU_self V (show V 203 nx = V 203 nx from rfl)]; exact (MK.rfl _).p200 _ (Or.inl rfl)
                  exact m_iret S hr hlk hW dX11_hire_180 (by rw [show k - 1 = 5 by omega] at hq; exact ⟨by simp only [aHire, if_pos w_3, hcx, if_pos w_8, if_pos c_18]; rw [zTeeth, ← hq], hKf⟩)
              · skip
                have c_15 : ¬ 5 < k := mt (nI_ltI (by omega) (by omega)).mpr c_15
                refine lv_aload_n hx hb dX11_hire_62 rfl (lv_at hl 0 rfl) ?_
                refine m_getr S hW hZ.sp.1 3 rfl (j := 202) rfl kX11 (iW11 _) (by decide) (List.mem_cons_of_mem _ (wa_11 _ (List.mem_of_getElem? (i := 3) (by decide +kernel)))) dX11_hire_63 ?_
                refine lv_iload_n hx hb dX11_hire_66 rfl (lv_at hl 1 rfl) ?_
                refine m_top (y := nI nx) hnx ?_
                refine lv_iconst (v := nI 5) hx hb dX11_hire_67 (by decide) ?_
                refine m_iast S hW hZ.sp.2.2.1 nx rfl (by omega) (by decide) dX11_hire_68 (fun H locs hW => ?_)
                obtain ⟨V_19, eV_19⟩ : ∃ vv_ : mV, vv_ = mU V1 202 nx (nI 5) := ⟨_, rfl⟩
                rw [← eV_19] at hW
                refine lv_aload_n hx hb dX11_hire_69 rfl (lv_at hl 0 rfl) ?_
                refine m_getr S hW hZ.sp.1 4 rfl (j := 203) rfl kX11 (iW11 _) (by decide) (List.mem_cons_of_mem _ (wa_11 _ (List.mem_of_getElem? (i := 4) (by decide +kernel)))) dX11_hire_70 ?_
                refine lv_iload_n hx hb dX11_hire_73 rfl (lv_at hl 1 rfl) ?_
                refine m_top (y := nI nx) hnx ?_
                refine lv_iconst (v := nI 2) hx hb dX11_hire_74 (by decide) ?_
                refine lv_iload hx hb dX11_hire_75 (lv_at hl 7 rfl) ?_
                refine lv_imul hx hb dX11_hire_77 ?_
                refine m_top (y := nI (2 * k)) (pk_mul 2 k) ?_
                refine lv_iconst (v := nI 2) hx hb dX11_hire_78 (by decide) ?_
                refine lv_isub hx hb dX11_hire_79 ?_
                refine m_top (y := nI ((2 * k) - 2)) (pk_sub (by omega)) ?_
                refine m_iast S hW hZ.sp.2.2.2.1 nx rfl (by omega) (by decide) dX11_hire_80 (fun H locs hW => ?_)
                obtain ⟨V_20, eV_20⟩ : ∃ vv_ : mV, vv_ = mU V_19 203 nx (nI ((2 * k) - 2)) := ⟨_, rfl⟩
                rw [← eV_20] at hW
                have hZt := (hZ.uKi (u := nx) (v := 5) hlnx (by decide)).uMo (u := nx) (v := 2 * k - 2) hlnx (by omega)
                have hKt : MK (mU (mU V 202 nx (nI 5)) 203 nx (nI (2 * k - 2))) V_20 := by rw [eV_20, eV_19, hv, mU_sw _ _ _ (Or.inl (show 200 ≠ 202 by decide)), mU_sw _ _ _ (Or.inl (show 203 ≠ 202 by decide)), mU_mU, mU_sw _ _ _ (Or.inl (show 200 ≠ 203 by decide)), mU_mU]; exact (MK.rfl _).p200 _ (Or.inl rfl)
                have hZu := hZt.k hKt
                refine lv_aload_n hx hb dX11_hire_81 rfl (lv_at hl 0 rfl) ?_
                refine lv_iload_n hx hb dX11_hire_82 rfl (lv_at hl 1 rfl) ?_
                refine m_top (y := nI nx) hnx ?_
                refine m_ci (m_rV S hW (c_X11_bestOf l G ad sh V_20 (mU (mU (gZ q) (4 + nx) 0 (nI 5)) (4 + nx) 1 (nI (2 * k - 2))) (gNe q) (gNg q) (gRl q) (gT q (gRl q)) nx hZu hlnx) (cwV 1 hts (gCall [.methodLink RX11 219 yX11_bestOf, .instanceMethod yX11_bestOf, .selects RX11 yX11_bestOf yX11_bestOf, .initialized RX11] (List.forall_mem_cons.mpr ⟨(wa_29 _ (List.mem_of_getElem? (i := 15) (by decide +kernel))), (List.forall_mem_cons.mpr ⟨(wa_29 _ (List.mem_of_getElem? (i := 12) (by decide +kernel))), (List.forall_mem_cons.mpr ⟨(wa_29 _ (List.mem_of_getElem? (i := 13) (by decide +kernel))), (List.forall_mem_cons.mpr ⟨(wa_29 _ (List.mem_of_getElem? (i := 14) (by decide +kernel))), (List.forall_mem_cons.mpr ⟨(wa_1 _ (List.mem_of_getElem? (i := 5) (by decide +kernel))), (fun _ h => absurd h List.not_mem_nil)⟩)⟩)⟩)⟩)⟩)) rfl rfl rfl (by decide +kernel) ⟨Nat.le_of_ble_eq_true rfl, Nat.le_of_ble_eq_true rfl⟩) hZ.sp.1 kX11 rfl hl.1 rfl (Nat.le_of_ble_eq_true rfl) dX11_hire_83 ⟨Nat.le_of_ble_eq_true rfl, Nat.le_of_ble_eq_true rfl⟩) hW (fun r_23 V_21 H locs hp_22 hW => ?_)
                obtain ⟨rfl, hv_24⟩ := hp_22
                refine lv_iconst (v := -1) hx hb dX11_hire_86 (by decide) ?_
                refine lv_icmp_eq (tgt := 94) hx hb dX11_hire_87 (by decide) (fun c_25 => ?_) (fun c_25 => ?_)
                · skip
                  refine lv_iconst (v := nI 0) hx hb dX11_hire_94 (by decide) ?_
                  refine lv_istore (lv' := [(8, .int (nI 0)), (0, .ref (ad 200)), (1, .int x), (2, .int w), (3, .int (V 202 nx)), (4, .int (V 203 nx)), (5, .int bs), (6, .int mo), (7, .int (nI k))]) hx hb dX11_hire_95 hl (by decide) rfl (fun ls hl => ?_)
                  refine lv_iload hx hb dX11_hire_97 (lv_at hl 0 rfl) ?_
                  refine m_if_eq (tgt := 115) hx hb dX11_hire_99 (by decide) (fun c_26 => ?_) (fun c_26 => ?_)
                  · skip
                    refine lv_iconst (v := nI 0) hx hb dX11_hire_115 (by decide) ?_
                    refine lv_istore (lv' := [(9, .int (nI 0)), (8, .int (nI 0)), (0, .ref (ad 200)), (1, .int x), (2, .int w), (3, .int (V 202 nx)), (4, .int (V 203 nx)), (5, .int bs), (6, .int mo), (7, .int (nI k))]) hx hb dX11_hire_116 hl (by decide) rfl (fun ls hl => ?_)
                    refine lv_iload hx hb dX11_hire_118 (lv_at hl 0 rfl) ?_
                    refine m_if_eq (tgt := 128) hx hb dX11_hire_120 (by decide) (fun c_27 => ?_) (fun c_27 => ?_)
                    · skip
                      refine lv_iload hx hb dX11_hire_128 (lv_at hl 7 rfl) ?_
                      refine lv_istore (lv' := [(5, .int bs), (9, .int (nI 0)), (8, .int (nI 0)), (0, .ref (ad 200)), (1, .int x), (2, .int w), (3, .int (V 202 nx)), (4, .int (V 203 nx)), (6, .int mo), (7, .int (nI k))]) hx hb dX11_hire_130 hl (by decide) rfl (fun ls hl => ?_)
                      refine lv_iload hx hb dX11_hire_132 (lv_at hl 1 rfl) ?_
                      refine m_if_eq (tgt := 144) hx hb dX11_hire_134 (by decide) (fun c_28 => ?_) (fun c_28 => ?_)
                      · skip
                        refine lv_iload hx hb dX11_hire_144 (lv_at hl 8 rfl) ?_
                        refine lv_istore (lv' := [(6, .int mo), (5, .int bs), (9, .int (nI 0)), (8, .int (nI 0)), (0, .ref (ad 200)), (1, .int x), (2, .int w), (3, .int (V 202 nx)), (4, .int (V 203 nx)), (7, .int (nI k))]) hx hb dX11_hire_146 hl (by decide) rfl (fun ls hl => ?_)
                        refine lv_iinc (v := nI (k + 1)) (lv' := [(7, .int (nI (k + 1))), (6, .int mo), (5, .int bs), (9, .int (nI 0)), (8, .int (nI 0)), (0, .ref (ad 200)), (1, .int x), (2, .int w), (3, .int (V 202 nx)), (4, .int (V 203 nx))]) hx hb dX11_hire_148 hl (k := 9) rfl (m_inc k 1) (by decide) rfl (fun ls hl => ?_)
                        refine lv_goto (tgt := 56) hx hb dX11_hire_151 (by decide) ?_
                        exact ih_56  bs mo (nI 5) (nI (2 * k - 2)) ((zBest (gAsk q) (mU (mU (gZ q) (4 + nx) 0 (nI 5)) (4 + nx) 1 (nI (2 * k - 2))) nx (gNg q * 16)).2) (k + 1) V_21 _ _ _ (by omega) (by rw [hv_24, eV_20, eV_19, hv, mU_sw _ _ _ (Or.inl (show 200 ≠ 202 by decide)), mU_sw _ _ _ (Or.inl (show 203 ≠ 202 by decide)), mU_mU, mU_sw _ _ _ (Or.inl (show 200 ≠ 203 by decide)), mU_mU, mU_mU]; rfl) (by exact hnn) (by have hz0 : (zBest (gAsk q) (mU (mU (gZ q) (4 + nx) 0 (nI 5)) (4 + nx) 1 (nI (2 * k - 2))) nx (gNg q * 16)).2 = nI 0 := zBest_none (by omega) c_25; rw [hire_s (w := (zBest (gAsk q) (mU (mU (gZ q) (4 + nx) 0 (nI 5)) (4 + nx) 1 (nI (2 * k - 2))) nx (gNg q * 16)).2) hk.1 hq rfl, if_neg (Int32.not_lt.mpr (by rw [hz0]; exact hnn))]) (by omega) hW (lv_sub hl [5, 6, 7, 8, 9, 2, 1, 0] rfl)
                      · exact absurd c_28 (by decide)
                    · exact absurd c_27 (by decide)
                  · exact absurd c_26 (by decide)
                · skip
                  refine lv_iconst (v := nI 1) hx hb dX11_hire_90 (by decide) ?_
                  refine lv_goto (tgt := 95) hx hb dX11_hire_91 (by decide) ?_
                  refine lv_istore (lv' := [(8, .int (nI 1)), (0, .ref (ad 200)), (1, .int x), (2, .int w), (3, .int (V 202 nx)), (4, .int (V 203 nx)), (5, .int bs), (6, .int mo), (7, .int (nI k))]) hx hb dX11_hire_95 hl (by decide) rfl (fun ls hl => ?_)
                  refine lv_iload hx hb dX11_hire_97 (lv_at hl 0 rfl) ?_
                  refine m_if_eq (tgt := 115) hx hb dX11_hire_99 (by decide) (fun c_29 => ?_) (fun c_29 => ?_)
                  · exact absurd c_29 (by decide)
                  · skip
                    refine lv_aload_n hx hb dX11_hire_102 rfl (lv_at hl 1 rfl) ?_
                    refine m_geti S hW hZ.sp.1 32 rfl kX11 (iW11 _) (by decide) (List.mem_cons_of_mem _ (wa_29 _ (List.mem_of_getElem? (i := 11) (by decide +kernel)))) dX11_hire_103 ?_
                    refine m_top (y := (zBest (gAsk q) (mU (mU (gZ q) (4 + nx) 0 (nI 5)) (4 + nx) 1 (nI (2 * k - 2))) nx (gNg q * 16)).2) (by rw [hv_24, mU_eq]; rfl) ?_
                    refine lv_iload hx hb dX11_hire_106 (lv_at hl 7 rfl) ?_
                    refine lv_icmp_le (tgt := 115) hx hb dX11_hire_108 (by decide) (fun c_30 => ?_) (fun c_30 => ?_)
                    · skip
                      refine lv_iconst (v := nI 0) hx hb dX11_hire_115 (by decide) ?_
                      refine lv_istore (lv' := [(9, .int (nI 0)), (8, .int (nI 1)), (0, .ref (ad 200)), (1, .int x), (2, .int w), (3, .int (V 202 nx)), (4, .int (V 203 nx)), (5, .int bs), (6, .int mo), (7, .int (nI k))]) hx hb dX11_hire_116 hl (by decide) rfl (fun ls hl => ?_)
                      refine lv_iload hx hb dX11_hire_118 (lv_at hl 0 rfl) ?_
                      refine m_if_eq (tgt := 128) hx hb dX11_hire_120 (by decide) (fun c_31 => ?_) (fun c_31 => ?_)
                      · skip
                        refine lv_iload hx hb dX11_hire_128 (lv_at hl 7 rfl) ?_
                        refine lv_istore (lv' := [(5, .int bs), (9, .int (nI 0)), (8, .int (nI 1)), (0, .ref (ad 200)), (1, .int x), (2, .int w), (3, .int (V 202 nx)), (4, .int (V 203 nx)), (6, .int mo), (7, .int (nI k))]) hx hb dX11_hire_130 hl (by decide) rfl (fun ls hl => ?_)
                        refine lv_iload hx hb dX11_hire_132 (lv_at hl 1 rfl) ?_
                        refine m_if_eq (tgt := 144) hx hb dX11_hire_134 (by decide) (fun c_32 => ?_) (fun c_32 => ?_)
                        · skip
                          refine lv_iload hx hb dX11_hire_144 (lv_at hl 8 rfl) ?_
                          refine lv_istore (lv' := [(6, .int mo), (5, .int bs), (9, .int (nI 0)), (8, .int (nI 1)), (0, .ref (ad 200)), (1, .int x), (2, .int w), (3, .int (V 202 nx)), (4, .int (V 203 nx)), (7, .int (nI k))]) hx hb dX11_hire_146 hl (by decide) rfl (fun ls hl => ?_)
                          refine lv_iinc (v := nI (k + 1)) (lv' := [(7, .int (nI (k + 1))), (6, .int mo), (5, .int bs), (9, .int (nI 0)), (8, .int (nI 1)), (0, .ref (ad 200)), (1, .int x), (2, .int w), (3, .int (V 202 nx)), (4, .int (V 203 nx))]) hx hb dX11_hire_148 hl (k := 9) rfl (m_inc k 1) (by decide) rfl (fun ls hl => ?_)
                          refine lv_goto (tgt := 56) hx hb dX11_hire_151 (by decide) ?_
                          exact ih_56  bs mo (nI 5) (nI (2 * k - 2)) ((zBest (gAsk q) (mU (mU (gZ q) (4 + nx) 0 (nI 5)) (4 + nx) 1 (nI (2 * k - 2))) nx (gNg q * 16)).2) (k + 1) V_21 _ _ _ (by omega) (by rw [hv_24, eV_20, eV_19, hv, mU_sw _ _ _ (Or.inl (show 200 ≠ 202 by decide)), mU_sw _ _ _ (Or.inl (show 203 ≠ 202 by decide)), mU_mU, mU_sw _ _ _ (Or.inl (show 200 ≠ 203 by decide)), mU_mU, mU_mU]; rfl) (by exact hnn) (by rw [hire_s (w := (zBest (gAsk q) (mU (mU (gZ q) (4 + nx) 0 (nI 5)) (4 + nx) 1 (nI (2 * k - 2))) nx (gNg q * 16)).2) hk.1 hq rfl, if_neg (Int32.not_lt.mpr c_30)]) (by omega) hW (lv_sub hl [5, 6, 7, 8, 9, 2, 1, 0] rfl)
                        · exact absurd c_32 (by decide)
                      · exact absurd c_31 (by decide)
                    · skip
                      refine lv_iconst (v := nI 1) hx hb dX11_hire_111 (by decide) ?_
                      refine lv_goto (tgt := 116) hx hb dX11_hire_112 (by decide) ?_
                      refine lv_istore (lv' := [(9, .int (nI 1)), (8, .int (nI 1)), (0, .ref (ad 200)), (1, .int x), (2, .int w), (3, .int (V 202 nx)), (4, .int (V 203 nx)), (5, .int bs), (6, .int mo), (7, .int (nI k))]) hx hb dX11_hire_116 hl (by decide) rfl (fun ls hl => ?_)
                      refine lv_iload hx hb dX11_hire_118 (lv_at hl 0 rfl) ?_
                      refine m_if_eq (tgt := 128) hx hb dX11_hire_120 (by decide) (fun c_33 => ?_) (fun c_33 => ?_)
                      · exact absurd c_33 (by decide)
                      · skip
                        refine lv_iload hx hb dX11_hire_123 (lv_at hl 9 rfl) ?_
                        refine lv_goto (tgt := 130) hx hb dX11_hire_125 (by decide) ?_
                        refine lv_istore (lv' := [(5, .int (nI k)), (9, .int (nI 1)), (8, .int (nI 1)), (0, .ref (ad 200)), (1, .int x), (2, .int w), (3, .int (V 202 nx)), (4, .int (V 203 nx)), (6, .int mo), (7, .int (nI k))]) hx hb dX11_hire_130 hl (by decide) rfl (fun ls hl => ?_)
                        refine lv_iload hx hb dX11_hire_132 (lv_at hl 1 rfl) ?_
                        refine m_if_eq (tgt := 144) hx hb dX11_hire_134 (by decide) (fun c_34 => ?_) (fun c_34 => ?_)
                        · exact absurd c_34 (by decide)
                        · skip
                          refine lv_aload_n hx hb dX11_hire_137 rfl (lv_at hl 3 rfl) ?_
                          refine m_geti S hW hZ.sp.1 32 rfl kX11 (iW11 _) (by decide) (List.mem_cons_of_mem _ (wa_29 _ (List.mem_of_getElem? (i := 11) (by decide +kernel)))) dX11_hire_138 ?_
                          refine m_top (y := (zBest (gAsk q) (mU (mU (gZ q) (4 + nx) 0 (nI 5)) (4 + nx) 1 (nI (2 * k - 2))) nx (gNg q * 16)).2) (by rw [hv_24, mU_eq]; rfl) ?_
                          refine lv_goto (tgt := 146) hx hb dX11_hire_141 (by decide) ?_
                          refine lv_istore (lv' := [(6, .int ((zBest (gAsk q) (mU (mU (gZ q) (4 + nx) 0 (nI 5)) (4 + nx) 1 (nI (2 * k - 2))) nx (gNg q * 16)).2)), (5, .int (nI k)), (9, .int (nI 1)), (8, .int (nI 1)), (0, .ref (ad 200)), (1, .int x), (2, .int w), (3, .int (V 202 nx)), (4, .int (V 203 nx)), (7, .int (nI k))]) hx hb dX11_hire_146 hl (by decide) rfl (fun ls hl => ?_)
                          refine lv_iinc (v := nI (k + 1)) (lv' := [(7, .int (nI (k + 1))), (6, .int ((zBest (gAsk q) (mU (mU (gZ q) (4 + nx) 0 (nI 5)) (4 + nx) 1 (nI (2 * k - 2))) nx (gNg q * 16)).2)), (5, .int (nI k)), (9, .int (nI 1)), (8, .int (nI 1)), (0, .ref (ad 200)), (1, .int x), (2, .int w), (3, .int (V 202 nx)), (4, .int (V 203 nx))]) hx hb dX11_hire_148 hl (k := 9) rfl (m_inc k 1) (by decide) rfl (fun ls hl => ?_)
                          refine lv_goto (tgt := 56) hx hb dX11_hire_151 (by decide) ?_
                          exact ih_56  (nI k) ((zBest (gAsk q) (mU (mU (gZ q) (4 + nx) 0 (nI 5)) (4 + nx) 1 (nI (2 * k - 2))) nx (gNg q * 16)).2) (nI 5) (nI (2 * k - 2)) ((zBest (gAsk q) (mU (mU (gZ q) (4 + nx) 0 (nI 5)) (4 + nx) 1 (nI (2 * k - 2))) nx (gNg q * 16)).2) (k + 1) V_21 _ _ _ (by omega) (by rw [hv_24, eV_20, eV_19, hv, mU_sw _ _ _ (Or.inl (show 200 ≠ 202 by decide)), mU_sw _ _ _ (Or.inl (show 203 ≠ 202 by decide)), mU_mU, mU_sw _ _ _ (Or.inl (show 200 ≠ 203 by decide)), mU_mU, mU_mU]; rfl) (by exact zBest_nn (hI.tx _ htn.2.2.2).2 _ _ _) (by rw [hire_s (w := (zBest (gAsk q) (mU (mU (gZ q) (4 + nx) 0 (nI 5)) (4 + nx) 1 (nI (2 * k - 2))) nx (gNg q * 16)).2) hk.1 hq rfl, if_pos (Int32.not_le.mp c_30)]) (by omega) hW (lv_sub hl [5, 6, 7, 8, 9, 2, 1, 0] rfl)
          exact loop_56 (6 - 1 + 1) (-1) ((zBest (gAsk q) (gZ q) nx (gNg q * 16)).2) (V 202 nx) (V 203 nx) ((zBest (gAsk q) (gZ q) nx (gNg q * 16)).2) 1 V_11 _ _ _ (by omega) (by rw [mU_self V (show V 202 nx = V 202 nx from rfl), mU_self V (show V 203 nx = V 203 nx from rfl), hv_14]; rfl) (by exact zBest_nn (hI.tx _ htn.2.2.2).2 _ _ _) (by rfl) (by omega) hW (lv_sub hl [5, 6, 7, 4, 3, 2, 1, 0] rfl)
        · exact absurd c_10 (by decide)
      · skip
        refine m_if_ne (tgt := 23) hx hb dX11_hire_17 (by decide) (fun c_35 => ?_) (fun c_35 => ?_)
        · exact absurd c_35 (by decide)
        · skip
          refine lv_bipush (v := -7) hx hb dX11_hire_20 (by decide) ?_
          exact m_iret S hr hlk hW dX11_hire_22 (by exact ⟨by simp only [aHire, if_pos w_3, hcx, if_neg w_9]; try rfl, MK.rfl V⟩)
    · exact absurd c_5 (by decide)
  · skip
    refine m_if_ne (tgt := 11) hx hb dX11_hire_5 (by decide) (fun c_36 => ?_) (fun c_36 => ?_)
    · exact absurd c_36 (by decide)
    · skip
      refine lv_bipush (v := -5) hx hb dX11_hire_8 (by decide) ?_
      exact m_iret S hr hlk hW dX11_hire_10 (by exact ⟨by simp only [aHire, if_neg w_4]; try rfl, MK.rfl V⟩)
