/-! the reference: duels, orders, the fewest, odds -/
theorem fFew_c (sp le : Nat) : fFew sp le = -1 ∨ ∃ m, m ≤ 1023 ∧ fFew sp le = nI m := by
  rw [fFew]
  by_cases h0 : le = 0
  · rw [if_pos h0]
    exact Or.inr ⟨0, by decide, rfl⟩
  · rw [if_neg h0]
    by_cases h1 : sp = 0
    · rw [if_pos h1]
      exact Or.inl rfl
    · rw [if_neg h1]
      exact Or.inr ⟨_, fewT_le _ _ _, rfl⟩
theorem zSoon_c (z : fZ) (g : Nat) : ∀ n, n < 2 ^ 20 → (zSoon z g n).1 = -1 ∨ ∃ m, m < 2 ^ 20 ∧ (zSoon z g n).1 = nI m
  | 0, _ => Or.inl rfl
  | n + 1, hn => by
    rw [zSoon]
    split
    · exact Or.inr ⟨n, by omega, rfl⟩
    · exact zSoon_c z g n (by omega)
theorem zSoon_s {z : fZ} {g k : Nat} {w : Int32} (hw : zFew z k g = w) (hc : w = -1 ∨ ∃ m, m ≤ 1023 ∧ w = nI m) {bs ls : Int32} (hq : (bs, ls) = zSoon z g k) (hk : k < 2 ^ 20) : zSoon z g (k + 1) = if ¬ w = -1 ∧ (bs = -1 ∨ w < ls) then (nI k, w) else (bs, ls) := by
  rw [zSoon, hw, ← hq]
  have h1 : nI 0 ≤ w ↔ ¬ w = -1 := by
    rcases hc with rfl | ⟨m, h1, rfl⟩
    · decide
    · exact ⟨fun _ => m_nneg (by omega), fun _ => (nI_leI (by decide) (by omega)).mpr (Nat.zero_le _)⟩
  have h2 : bs < nI 0 ↔ bs = -1 := by
    have := zSoon_c z g k hk
    rw [← hq] at this
    rcases this with h | ⟨m, h3, h⟩
    · rw [show bs = -1 from h]
      decide
    · rw [show bs = nI m from h]
      exact ⟨fun z => absurd z (nI_pos (by omega)), fun z => absurd z (m_nneg (by omega))⟩
  simp only [h1, h2]
theorem zFew_n {z : fZ} {ne ng u g : Nat} (h : ZOk z ne ng) (hu : u < ne) (hg : g < ng) : fwT (shM z u g) (zn z (10 + 2 * g) 2) (zn z (10 + 2 * g) 2 + 1) (zn z (10 + 2 * g) 2) = zFew z u g := by
  have h1 := h.spm hu hg
  have h2 := h.le hg
  rw [few_eq h1.2 h2.2, zFew, h1.1, nI_clamp (by omega)]
  rfl
theorem ordF_s {ask : fAsks} {ne ng m : Nat} {z : fZ} {bs mo : Int32} (hq : (bs, mo) = ordF ask ne ng z m) (ht : tellB ne m) : ordF ask ne ng z (m + 1) = if bs = -1 ∨ mo < (gnO ask ng z (odO ne m) ne).2 then (nI (digO (odO ne m) ne), (gnO ask ng z (odO ne m) ne).2) else (bs, mo) := by rw [ordF, if_pos ht, ← hq]
theorem ordF_n {ask : fAsks} {ne ng m : Nat} {z : fZ} {bs mo : Int32} (hq : (bs, mo) = ordF ask ne ng z m) (ht : ¬ tellB ne m) : (bs, mo) = ordF ask ne ng z (m + 1) := by rw [ordF, if_neg ht, ← hq]
theorem pow5 {n : Nat} (h : n ≤ 5) {k : Nat} (hk : k ≤ n) : n ^ k ≤ 3125 := by
  have h1 : n ^ k ≤ 5 ^ k := Nat.pow_le_pow_left h k
  have h2 : 5 ^ k ≤ 5 ^ 5 := Nat.pow_le_pow_right (by decide) (by omega)
  omega
theorem aOdds_no {q : Sg} {sd nb x want pt : Int32} (h : ¬ (mIn sd 0 100000 ∧ mIn nb 0 6041 ∧ mIn (nI (nb.toNatClampNeg % 100)) 1 41 ∧ mIn x 0 (gNe q) ∧ mIn want 0 10000 ∧ mIn pt 0 2)) : aOdds q sd nb x want pt = -4611686018427387904 := by
  unfold aOdds
  by_cases h1 : mIn sd 0 100000
  · rw [if_pos h1]
    by_cases h2 : nb < nI 0
    · rw [if_pos h2]
    · rw [if_neg h2]
      by_cases h3 : mIn x 0 (gNe q)
      · rw [if_pos h3]
        by_cases h4 : mIn want 0 10000
        · rw [if_pos h4]
          by_cases h5 : mIn pt 0 2
          · rw [if_pos h5]
            by_cases h6 : gNg q = 0
            · rw [if_pos h6]
            · rw [if_neg h6]
              by_cases h7 : nb.toNatClampNeg / 100 ≤ 60
              · rw [if_pos h7]
                by_cases h8 : mIn (nI (nb.toNatClampNeg % 100)) 1 41
                · exfalso
                  obtain ⟨n, hn, rfl⟩ := nI_of (x := nb) h2
                  rw [nI_clamp hn] at h7 h8
                  have h9 := (mIn_nI (by omega)).mp h8
                  refine h ⟨h1, (mIn_nI hn).mpr ⟨Nat.zero_le _, by omega⟩, ?_, h3, h4, h5⟩
                  rw [nI_clamp hn]
                  exact h8
                · rw [if_neg h8]
              · rw [if_neg h7]
          · rw [if_neg h5]
        · rw [if_neg h4]
      · rw [if_neg h3]
  · rw [if_neg h1]
theorem aOdds_yes {q : Sg} {sd nb x want pt : Int32} {n : Nat} (h1 : mIn sd 0 100000) (hn : nb = nI n) (hn2 : n < 6041) (h3 : mIn (nI (n % 100)) 1 41) (h4 : mIn x 0 (gNe q)) (h5 : mIn want 0 10000) (h6 : mIn pt 0 2) : aOdds q sd nb x want pt = if gNg q = 0 then -4611686018427387904 else (if pt = nI 0 then lN (gAbv q sd nb x want / fDiv (gAbv q sd nb x want) (n % 100) (n % 100)) else lN (n % 100 / fDiv (gAbv q sd nb x want) (n % 100) (n % 100))) := by
  subst hn
  unfold aOdds
  rw [if_pos h1, if_neg (show ¬ nI n < nI 0 from nI_pos (by omega)), if_pos h4, if_pos h5, if_pos h6, nI_clamp (by omega)]
  by_cases h : gNg q = 0
  · rw [if_pos h, if_pos h]
  · rw [if_neg h, if_neg h, if_pos (by omega), if_pos h3]
theorem MK.of220 {V V' : mV} (h : ∀ a, a ≠ 220 → V' a = V a) : MK V V' := ⟨fun a _ _ _ _ a5 => h a a5, fun k _ => by rw [h 201 (by decide)], fun k _ => by rw [h 204 (by decide)], fun k _ _ _ => by rw [h 200 (by decide)]⟩
theorem zDuM_s {ask : fAsks} {ng n i j k : Nat} {z : fZ} {bs mo : Int32} (hq : (bs, mo) = zDuM ask ng n z i j k) (hc : zCan ask z i (k / 16) (k % 16)) : zDuM ask ng n z i j (k + 1) = if bs = -1 ∨ mo < zGa ask z i (k / 16) (k % 16) - (if n = 1 then nI 0 else (zOneF ask (zBi ask z i (k / 16) (k % 16)) j (ng * 16)).2) then (nI (100 * (k / 16) + k % 16), zGa ask z i (k / 16) (k % 16) - (if n = 1 then nI 0 else (zOneF ask (zBi ask z i (k / 16) (k % 16)) j (ng * 16)).2)) else (bs, mo) := by
  rw [zDuM, mF, if_pos hc]
  rw [zDuM] at hq
  rw [← hq]
theorem zDuM_n {ask : fAsks} {ng n i j k : Nat} {z : fZ} {bs mo : Int32} (hq : (bs, mo) = zDuM ask ng n z i j k) (hc : ¬ zCan ask z i (k / 16) (k % 16)) : (bs, mo) = zDuM ask ng n z i j (k + 1) := by
  rw [zDuM, mF, if_neg hc]
  exact hq
theorem odd_e {pt : Int32} {np a b : Nat} (h : pt = nI np) (h2 : np < 2 := by omega) : (if pt = nI 0 then lN a else lN b) = lN (if np = 0 then a else b) := by
  subst h
  by_cases h0 : np = 0
  · rw [h0, if_pos rfl, if_pos rfl]
  · rw [if_neg h0, if_neg (mt (nI_eq (by omega) (by omega)).mp h0)]
set_option maxHeartbeats 4000000 in
set_option maxRecDepth 100000 in
theorem c_X11_fewest (l : Launch) (G : mG) (ad : Nat → Nat) (sh : Nat → Option mSh) (V : mV) (q : Sg) (x y : Int32) (hI : MI sh V q) : mM l yX11_fewest wsX11_fewest ({ frames := 3, cells := 0, slots := 0, locals := 77 } : Room) G ad sh V [.ref (ad 200), .int x, .int y] 0 0 (mPi ad sh (fun r V' => (aFewest q x y) = r ∧ V' = V)) := by
  refine mM.of (cc := cX11_fewest) (maxL := 3) (ret := (some .int)) (by decide) rfl (Nat.le_of_ble_eq_true rfl) ?_
  intro p e s m below meth c S hr hlk hnm hW ls hl
  obtain ⟨hx, hb, hml, hown, hts⟩ := id S
  have hl : lv_has ls 3 [(0, .ref (ad 200)), (1, .int x), (2, .int y)] := hl
  have hS0 : True := trivial
  have hZ := hI.z
  have hne5 := hZ.ne5
  have hng6 := hZ.ng6
  have htn := hI.tn
  refine lv_aload_n hx hb dX11_fewest_0 rfl (lv_at hl 0 rfl) ?_
  refine lv_iload_n hx hb dX11_fewest_1 rfl (lv_at hl 1 rfl) ?_
  refine m_cip (m_rV S hW (c_X11_isEater l G ad sh V (gZ q) (gNe q) (gNg q) (gRl q) (gT q (gRl q)) x hZ) (cwV 1 hts (gCall [.methodLink RX11 179 yX11_isEater, .instanceMethod yX11_isEater, .selects RX11 yX11_isEater yX11_isEater, .initialized RX11] (List.forall_mem_cons.mpr ⟨(wa_19 _ (List.mem_of_getElem? (i := 3) (by decide +kernel))), (List.forall_mem_cons.mpr ⟨(wa_19 _ (List.mem_of_getElem? (i := 0) (by decide +kernel))), (List.forall_mem_cons.mpr ⟨(wa_19 _ (List.mem_of_getElem? (i := 1) (by decide +kernel))), (List.forall_mem_cons.mpr ⟨(wa_19 _ (List.mem_of_getElem? (i := 2) (by decide +kernel))), (List.forall_mem_cons.mpr ⟨(wa_1 _ (List.mem_of_getElem? (i := 5) (by decide +kernel))), (fun _ h => absurd h List.not_mem_nil)⟩)⟩)⟩)⟩)⟩)) rfl rfl rfl (by decide +kernel) ⟨Nat.le_of_ble_eq_true rfl, Nat.le_of_ble_eq_true rfl⟩) hZ.sp.1 kX11 rfl hl.1 rfl (Nat.le_of_ble_eq_true rfl) dX11_fewest_2 ⟨Nat.le_of_ble_eq_true rfl, Nat.le_of_ble_eq_true rfl⟩) hW (fun r_2 H locs hp_1 hW => ?_)
  rcases hp_1 with ⟨rfl, w_3⟩ | ⟨rfl, w_4⟩
  · skip
    obtain ⟨nx, hnx, hwnx, hlnx⟩ := w_3.ex
    have hcx : x.toNatClampNeg = nx := by rw [hnx]; exact nI_clamp (by omega)
    refine m_if_eq (tgt := 25) hx hb dX11_fewest_5 (by decide) (fun c_5 => ?_) (fun c_5 => ?_)
    · exact absurd c_5 (by decide)
    · skip
      refine lv_aload_n hx hb dX11_fewest_8 rfl (lv_at hl 0 rfl) ?_
      refine lv_iload_n hx hb dX11_fewest_9 rfl (lv_at hl 2 rfl) ?_
      refine m_cip (m_rV S hW (c_X11_isGood l G ad sh V (gZ q) (gNe q) (gNg q) (gRl q) (gT q (gRl q)) y hZ) (cwV 1 hts (gCall [.methodLink RX11 182 yX11_isGood, .instanceMethod yX11_isGood, .selects RX11 yX11_isGood yX11_isGood, .initialized RX11] (List.forall_mem_cons.mpr ⟨(wa_19 _ (List.mem_of_getElem? (i := 7) (by decide +kernel))), (List.forall_mem_cons.mpr ⟨(wa_19 _ (List.mem_of_getElem? (i := 4) (by decide +kernel))), (List.forall_mem_cons.mpr ⟨(wa_19 _ (List.mem_of_getElem? (i := 5) (by decide +kernel))), (List.forall_mem_cons.mpr ⟨(wa_19 _ (List.mem_of_getElem? (i := 6) (by decide +kernel))), (List.forall_mem_cons.mpr ⟨(wa_1 _ (List.mem_of_getElem? (i := 5) (by decide +kernel))), (fun _ h => absurd h List.not_mem_nil)⟩)⟩)⟩)⟩)⟩)) rfl rfl rfl (by decide +kernel) ⟨Nat.le_of_ble_eq_true rfl, Nat.le_of_ble_eq_true rfl⟩) hZ.sp.1 kX11 rfl hl.1 rfl (Nat.le_of_ble_eq_true rfl) dX11_fewest_10 ⟨Nat.le_of_ble_eq_true rfl, Nat.le_of_ble_eq_true rfl⟩) hW (fun r_7 H locs hp_6 hW => ?_)
      rcases hp_6 with ⟨rfl, w_8⟩ | ⟨rfl, w_9⟩
      · skip
        obtain ⟨ny, hny, hwny, hlny⟩ := w_8.ex
        have hcy : y.toNatClampNeg = ny := by rw [hny]; exact nI_clamp (by omega)
        refine m_if_eq (tgt := 25) hx hb dX11_fewest_13 (by decide) (fun c_10 => ?_) (fun c_10 => ?_)
        · exact absurd c_10 (by decide)
        · skip
          refine lv_aload_n hx hb dX11_fewest_16 rfl (lv_at hl 0 rfl) ?_
          refine lv_iload_n hx hb dX11_fewest_17 rfl (lv_at hl 1 rfl) ?_
          refine m_top (y := nI nx) hnx ?_
          refine lv_iload_n hx hb dX11_fewest_18 rfl (lv_at hl 2 rfl) ?_
          refine m_top (y := nI ny) hny ?_
          refine m_cie (m_rV S hW (c_X11_fewestOf l G ad sh V (gZ q) (gNe q) (gNg q) (gRl q) (gT q (gRl q)) nx ny hZ (by first | assumption | omega) (by first | assumption | omega)) (cwV 2 hts (gCall [.methodLink RX11 239 yX11_fewestOf, .instanceMethod yX11_fewestOf, .selects RX11 yX11_fewestOf yX11_fewestOf, .initialized RX11] (List.forall_mem_cons.mpr ⟨(wa_34 _ (List.mem_of_getElem? (i := 23) (by decide +kernel))), (List.forall_mem_cons.mpr ⟨(wa_34 _ (List.mem_of_getElem? (i := 20) (by decide +kernel))), (List.forall_mem_cons.mpr ⟨(wa_34 _ (List.mem_of_getElem? (i := 21) (by decide +kernel))), (List.forall_mem_cons.mpr ⟨(wa_34 _ (List.mem_of_getElem? (i := 22) (by decide +kernel))), (List.forall_mem_cons.mpr ⟨(wa_1 _ (List.mem_of_getElem? (i := 5) (by decide +kernel))), (fun _ h => absurd h List.not_mem_nil)⟩)⟩)⟩)⟩)⟩)) rfl rfl rfl (by decide +kernel) ⟨Nat.le_of_ble_eq_true rfl, Nat.le_of_ble_eq_true rfl⟩) hZ.sp.1 kX11 rfl hl.1 rfl (Nat.le_of_ble_eq_true rfl) dX11_fewest_19 ⟨Nat.le_of_ble_eq_true rfl, Nat.le_of_ble_eq_true rfl⟩) hW (fun H locs hW => ?_)
          refine m_top (y := (zFew (gZ q) nx ny)) (zFew_n hZ.ok hlnx hlny) ?_
          refine lv_goto (tgt := 27) hx hb dX11_fewest_22 (by decide) ?_
          exact m_iret S hr hlk hW dX11_fewest_27 (by exact ⟨by simp only [aFewest, if_pos w_3, hcx, if_pos w_8, hcy]; try rfl, rfl⟩)
      · skip
        refine m_if_eq (tgt := 25) hx hb dX11_fewest_13 (by decide) (fun c_11 => ?_) (fun c_11 => ?_)
        · skip
          refine lv_bipush (v := -5) hx hb dX11_fewest_25 (by decide) ?_
          exact m_iret S hr hlk hW dX11_fewest_27 (by exact ⟨by simp only [aFewest, if_pos w_3, hcx, if_neg w_9]; try rfl, rfl⟩)
        · exact absurd c_11 (by decide)
  · skip
    refine m_if_eq (tgt := 25) hx hb dX11_fewest_5 (by decide) (fun c_12 => ?_) (fun c_12 => ?_)
    · skip
      refine lv_bipush (v := -5) hx hb dX11_fewest_25 (by decide) ?_
      exact m_iret S hr hlk hW dX11_fewest_27 (by exact ⟨by simp only [aFewest, if_neg w_4]; try rfl, rfl⟩)
    · exact absurd c_12 (by decide)
set_option maxHeartbeats 4000000 in
set_option maxRecDepth 100000 in
theorem c_X11_soonest (l : Launch) (G : mG) (ad : Nat → Nat) (sh : Nat → Option mSh) (V : mV) (q : Sg) (x w : Int32) (hI : MI sh V q) : mM l yX11_soonest wsX11_soonest ({ frames := 3, cells := 0, slots := 0, locals := 77 } : Room) G ad sh V [.ref (ad 200), .int x, .int w] 0 0 (mPi ad sh (fun r V' => (aSoonest q x w) = r ∧ V' = V)) := by
  refine mM.of (cc := cX11_soonest) (maxL := 8) (ret := (some .int)) (by decide) rfl (Nat.le_of_ble_eq_true rfl) ?_
  intro p e s m below meth c S hr hlk hnm hW ls hl
  obtain ⟨hx, hb, hml, hown, hts⟩ := id S
  have hl : lv_has ls 8 [(0, .ref (ad 200)), (1, .int x), (2, .int w)] := hl
  have hS0 : True := trivial
  have hZ := hI.z
  have hne5 := hZ.ne5
  have hng6 := hZ.ng6
  have htn := hI.tn
  refine lv_aload_n hx hb dX11_soonest_0 rfl (lv_at hl 0 rfl) ?_
  refine lv_iload_n hx hb dX11_soonest_1 rfl (lv_at hl 1 rfl) ?_
  refine m_cip (m_rV S hW (c_X11_isGood l G ad sh V (gZ q) (gNe q) (gNg q) (gRl q) (gT q (gRl q)) x hZ) (cwV 1 hts (gCall [.methodLink RX11 182 yX11_isGood, .instanceMethod yX11_isGood, .selects RX11 yX11_isGood yX11_isGood, .initialized RX11] (List.forall_mem_cons.mpr ⟨(wa_19 _ (List.mem_of_getElem? (i := 7) (by decide +kernel))), (List.forall_mem_cons.mpr ⟨(wa_19 _ (List.mem_of_getElem? (i := 4) (by decide +kernel))), (List.forall_mem_cons.mpr ⟨(wa_19 _ (List.mem_of_getElem? (i := 5) (by decide +kernel))), (List.forall_mem_cons.mpr ⟨(wa_19 _ (List.mem_of_getElem? (i := 6) (by decide +kernel))), (List.forall_mem_cons.mpr ⟨(wa_1 _ (List.mem_of_getElem? (i := 5) (by decide +kernel))), (fun _ h => absurd h List.not_mem_nil)⟩)⟩)⟩)⟩)⟩)) rfl rfl rfl (by decide +kernel) ⟨Nat.le_of_ble_eq_true rfl, Nat.le_of_ble_eq_true rfl⟩) hZ.sp.1 kX11 rfl hl.1 rfl (Nat.le_of_ble_eq_true rfl) dX11_soonest_2 ⟨Nat.le_of_ble_eq_true rfl, Nat.le_of_ble_eq_true rfl⟩) hW (fun r_2 H locs hp_1 hW => ?_)
  rcases hp_1 with ⟨rfl, w_3⟩ | ⟨rfl, w_4⟩
  · skip
    obtain ⟨nx, hnx, hwnx, hlnx⟩ := w_3.ex
    have hcx : x.toNatClampNeg = nx := by rw [hnx]; exact nI_clamp (by omega)
    refine m_if_ne (tgt := 11) hx hb dX11_soonest_5 (by decide) (fun c_5 => ?_) (fun c_5 => ?_)
    · skip
      refine lv_iload_n hx hb dX11_soonest_11 rfl (lv_at hl 2 rfl) ?_
      refine lv_iconst (v := nI 0) hx hb dX11_soonest_12 (by decide) ?_
      refine lv_iconst (v := nI 1) hx hb dX11_soonest_13 (by decide) ?_
      refine m_cip (m_rS S hW (c_X11_in l G ad sh V w 0 1 (by first | assumption | omega) (by first | assumption | omega)) (va_cwS 3 hts (gCall [.methodLink RX11 84 yX11_in, .static yX11_in, .initialized RX11] (List.forall_mem_cons.mpr ⟨(wa_12 _ (List.mem_of_getElem? (i := 16) (by decide +kernel))), (List.forall_mem_cons.mpr ⟨(wa_12 _ (List.mem_of_getElem? (i := 14) (by decide +kernel))), (List.forall_mem_cons.mpr ⟨(wa_12 _ (List.mem_of_getElem? (i := 15) (by decide +kernel))), (List.forall_mem_cons.mpr ⟨(wa_1 _ (List.mem_of_getElem? (i := 5) (by decide +kernel))), (fun _ h => absurd h List.not_mem_nil)⟩)⟩)⟩)⟩)) rfl rfl rfl (by decide +kernel) ⟨Nat.le_of_ble_eq_true rfl, Nat.le_of_ble_eq_true rfl⟩) rfl hl.1 rfl (Nat.le_of_ble_eq_true rfl) dX11_soonest_14 ⟨Nat.le_of_ble_eq_true rfl, Nat.le_of_ble_eq_true rfl⟩) hW (fun r_7 H locs hp_6 hW => ?_)
      rcases hp_6 with ⟨rfl, w_8⟩ | ⟨rfl, w_9⟩
      · skip
        refine m_if_ne (tgt := 23) hx hb dX11_soonest_17 (by decide) (fun c_10 => ?_) (fun c_10 => ?_)
        · skip
          refine lv_iconst (v := -1) hx hb dX11_soonest_23 (by decide) ?_
          refine lv_istore_n (lv' := [(3, .int (-1)), (0, .ref (ad 200)), (1, .int x), (2, .int w)]) hx hb dX11_soonest_24 rfl hl (by decide) rfl (fun ls hl => ?_)
          refine lv_iconst (v := -1) hx hb dX11_soonest_25 (by decide) ?_
          refine lv_istore (lv' := [(4, .int (-1)), (3, .int (-1)), (0, .ref (ad 200)), (1, .int x), (2, .int w)]) hx hb dX11_soonest_26 hl (by decide) rfl (fun ls hl => ?_)
          refine lv_iconst (v := nI 0) hx hb dX11_soonest_28 (by decide) ?_
          refine lv_istore (lv' := [(5, .int (nI 0)), (4, .int (-1)), (3, .int (-1)), (0, .ref (ad 200)), (1, .int x), (2, .int w)]) hx hb dX11_soonest_29 hl (by decide) rfl (fun ls hl => ?_)
          have loop_31 : ∀ (n_31 : Nat) (bs ls0 : Int32) (k : Nat) (H : Heap) (locs : List Loc) (ls : Array Slot), (k ≤ gNe q) → ((bs, ls0) = zSoon (gZ q) nx k) → (gNe q - k) < n_31 → mC (mA ad sh s.heap.size) s.heap s G ad sh V H locs → lv_has ls 8 [(0, .ref (ad 200)), (1, .int x), (2, .int w), (3, .int bs), (4, .int ls0), (5, .int (nI k))] → W p l e ({ frames := 3, cells := 0, slots := 0, locals := 77 } : Room) s m ([.ref (ad 200), .int x, .int w] : List Value).toArray below meth c H locs 0 0 (MQ below (mPost G ad sh s.heap.size (mPi ad sh (fun r V' => (aSoonest q x w) = r ∧ V' = V))) ([.ref (ad 200), .int x, .int w] : List Value).toArray s 0 0 (mA ad sh s.heap.size)) (F0 m 31 ls []) := by
            intro n_31
            induction n_31 with
            | zero => intro bs ls0 k H locs ls hk hq hM_ hW hl; omega
            | succ n_31 ih_31 =>
              intro bs ls0 k H locs ls hk hq hM_ hW hl
              refine lv_iload hx hb dX11_soonest_31 (lv_at hl 5 rfl) ?_
              refine lv_aload_n hx hb dX11_soonest_33 rfl (lv_at hl 0 rfl) ?_
              refine m_geti S hW hZ.sp.1 2 rfl kX11 (iW11 _) (by decide) (List.mem_cons_of_mem _ (wa_15 _ (List.mem_of_getElem? (i := 0) (by decide +kernel)))) dX11_soonest_34 ?_
              refine m_top (y := nI (gNe q)) hI.z.ne_ ?_
              refine lv_icmp_ge (tgt := 106) hx hb dX11_soonest_37 (by decide) (fun c_11 => ?_) (fun c_11 => ?_)
              · skip
                have c_11 : (gNe q) ≤ k := (nI_leI (by omega) (by omega)).mp c_11
                refine lv_iload_n hx hb dX11_soonest_106 rfl (lv_at hl 2 rfl) ?_
                refine m_if_ne (tgt := 114) hx hb dX11_soonest_107 (by decide) (fun c_12 => ?_) (fun c_12 => ?_)
                · skip
                  refine lv_iload hx hb dX11_soonest_114 (lv_at hl 4 rfl) ?_
                  exact m_iret S hr hlk hW dX11_soonest_116 (by rw [show k = gNe q by omega] at hq; exact ⟨by simp only [aSoonest, if_pos w_3, hcx, if_pos w_8, if_neg c_12]; rw [← hq], rfl⟩)
                · skip
                  refine lv_iload_n hx hb dX11_soonest_110 rfl (lv_at hl 3 rfl) ?_
                  refine lv_goto (tgt := 116) hx hb dX11_soonest_111 (by decide) ?_
                  exact m_iret S hr hlk hW dX11_soonest_116 (by rw [show k = gNe q by omega] at hq; exact ⟨by simp only [aSoonest, if_pos w_3, hcx, if_pos w_8, if_pos c_12]; rw [← hq], rfl⟩)
              · skip
                have c_11 : ¬ (gNe q) ≤ k := mt (nI_leI (by omega) (by omega)).mpr c_11
                refine lv_aload_n hx hb dX11_soonest_40 rfl (lv_at hl 0 rfl) ?_
                refine lv_iload hx hb dX11_soonest_41 (lv_at hl 5 rfl) ?_
                refine lv_iload_n hx hb dX11_soonest_43 rfl (lv_at hl 1 rfl) ?_
                refine m_top (y := nI nx) hnx ?_
                refine m_cie (m_rV S hW (c_X11_fewestOf l G ad sh V (gZ q) (gNe q) (gNg q) (gRl q) (gT q (gRl q)) k nx hZ (by first | assumption | omega) (by first | assumption | omega)) (cwV 2 hts (gCall [.methodLink RX11 239 yX11_fewestOf, .instanceMethod yX11_fewestOf, .selects RX11 yX11_fewestOf yX11_fewestOf, .initialized RX11] (List.forall_mem_cons.mpr ⟨(wa_34 _ (List.mem_of_getElem? (i := 23) (by decide +kernel))), (List.forall_mem_cons.mpr ⟨(wa_34 _ (List.mem_of_getElem? (i := 20) (by decide +kernel))), (List.forall_mem_cons.mpr ⟨(wa_34 _ (List.mem_of_getElem? (i := 21) (by decide +kernel))), (List.forall_mem_cons.mpr ⟨(wa_34 _ (List.mem_of_getElem? (i := 22) (by decide +kernel))), (List.forall_mem_cons.mpr ⟨(wa_1 _ (List.mem_of_getElem? (i := 5) (by decide +kernel))), (fun _ h => absurd h List.not_mem_nil)⟩)⟩)⟩)⟩)⟩)) rfl rfl rfl (by decide +kernel) ⟨Nat.le_of_ble_eq_true rfl, Nat.le_of_ble_eq_true rfl⟩) hZ.sp.1 kX11 rfl hl.1 rfl (Nat.le_of_ble_eq_true rfl) dX11_soonest_44 ⟨Nat.le_of_ble_eq_true rfl, Nat.le_of_ble_eq_true rfl⟩) hW (fun H locs hW => ?_)
                refine m_top (y := (zFew (gZ q) k nx)) (zFew_n hZ.ok (by omega) hlnx) ?_
                refine lv_istore (lv' := [(6, .int (zFew (gZ q) k nx)), (0, .ref (ad 200)), (1, .int x), (2, .int w), (3, .int bs), (4, .int ls0), (5, .int (nI k))]) hx hb dX11_soonest_47 hl (by decide) rfl (fun ls hl => ?_)
                refine lv_iload hx hb dX11_soonest_49 (lv_at hl 0 rfl) ?_
                refine lv_iconst (v := -1) hx hb dX11_soonest_51 (by decide) ?_
                refine lv_icmp_eq (tgt := 71) hx hb dX11_soonest_52 (by decide) (fun c_13 => ?_) (fun c_13 => ?_)
                · skip
                  refine lv_iconst (v := nI 0) hx hb dX11_soonest_71 (by decide) ?_
                  refine lv_istore (lv' := [(7, .int (nI 0)), (6, .int (zFew (gZ q) k nx)), (0, .ref (ad 200)), (1, .int x), (2, .int w), (3, .int bs), (4, .int ls0), (5, .int (nI k))]) hx hb dX11_soonest_72 hl (by decide) rfl (fun ls hl => ?_)
                  refine lv_iload hx hb dX11_soonest_74 (lv_at hl 0 rfl) ?_
                  refine m_if_eq (tgt := 84) hx hb dX11_soonest_76 (by decide) (fun c_14 => ?_) (fun c_14 => ?_)
                  · skip
                    refine lv_iload_n hx hb dX11_soonest_84 rfl (lv_at hl 5 rfl) ?_
                    refine lv_istore_n (lv' := [(3, .int bs), (7, .int (nI 0)), (6, .int (zFew (gZ q) k nx)), (0, .ref (ad 200)), (1, .int x), (2, .int w), (4, .int ls0), (5, .int (nI k))]) hx hb dX11_soonest_85 rfl hl (by decide) rfl (fun ls hl => ?_)
                    refine lv_iload hx hb dX11_soonest_86 (lv_at hl 1 rfl) ?_
                    refine m_if_eq (tgt := 96) hx hb dX11_soonest_88 (by decide) (fun c_15 => ?_) (fun c_15 => ?_)
                    · skip
                      refine lv_iload hx hb dX11_soonest_96 (lv_at hl 6 rfl) ?_
                      refine lv_istore (lv' := [(4, .int ls0), (3, .int bs), (7, .int (nI 0)), (6, .int (zFew (gZ q) k nx)), (0, .ref (ad 200)), (1, .int x), (2, .int w), (5, .int (nI k))]) hx hb dX11_soonest_98 hl (by decide) rfl (fun ls hl => ?_)
                      refine lv_iinc (v := nI (k + 1)) (lv' := [(5, .int (nI (k + 1))), (4, .int ls0), (3, .int bs), (7, .int (nI 0)), (6, .int (zFew (gZ q) k nx)), (0, .ref (ad 200)), (1, .int x), (2, .int w)]) hx hb dX11_soonest_100 hl (k := 7) rfl (m_inc k 1) (by decide) rfl (fun ls hl => ?_)
                      refine lv_goto (tgt := 31) hx hb dX11_soonest_103 (by decide) ?_
                      exact ih_31  bs ls0 (k + 1)  _ _ _ (by omega) (by rw [zSoon_s rfl (fFew_c _ _) hq (by omega), if_neg (fun z => z.1 c_13)]) (by omega) hW (lv_sub hl [5, 6, 7, 2, 1, 0] rfl)
                    · exact absurd c_15 (by decide)
                  · exact absurd c_14 (by decide)
                · skip
                  refine lv_iload_n hx hb dX11_soonest_55 rfl (lv_at hl 4 rfl) ?_
                  refine lv_iconst (v := -1) hx hb dX11_soonest_56 (by decide) ?_
                  refine lv_icmp_eq (tgt := 67) hx hb dX11_soonest_57 (by decide) (fun c_16 => ?_) (fun c_16 => ?_)
                  · skip
                    refine lv_iconst (v := nI 1) hx hb dX11_soonest_67 (by decide) ?_
                    refine lv_goto (tgt := 72) hx hb dX11_soonest_68 (by decide) ?_
                    refine lv_istore (lv' := [(7, .int (nI 1)), (6, .int (zFew (gZ q) k nx)), (0, .ref (ad 200)), (1, .int x), (2, .int w), (3, .int bs), (4, .int ls0), (5, .int (nI k))]) hx hb dX11_soonest_72 hl (by decide) rfl (fun ls hl => ?_)
                    refine lv_iload hx hb dX11_soonest_74 (lv_at hl 0 rfl) ?_
                    refine m_if_eq (tgt := 84) hx hb dX11_soonest_76 (by decide) (fun c_17 => ?_) (fun c_17 => ?_)
                    · exact absurd c_17 (by decide)
                    · skip
                      refine lv_iload hx hb dX11_soonest_79 (lv_at hl 7 rfl) ?_
                      refine lv_goto (tgt := 85) hx hb dX11_soonest_81 (by decide) ?_
                      refine lv_istore_n (lv' := [(3, .int (nI k)), (7, .int (nI 1)), (6, .int (zFew (gZ q) k nx)), (0, .ref (ad 200)), (1, .int x), (2, .int w), (4, .int ls0), (5, .int (nI k))]) hx hb dX11_soonest_85 rfl hl (by decide) rfl (fun ls hl => ?_)
                      refine lv_iload hx hb dX11_soonest_86 (lv_at hl 1 rfl) ?_
                      refine m_if_eq (tgt := 96) hx hb dX11_soonest_88 (by decide) (fun c_18 => ?_) (fun c_18 => ?_)
                      · exact absurd c_18 (by decide)
                      · skip
                        refine lv_iload hx hb dX11_soonest_91 (lv_at hl 2 rfl) ?_
                        refine lv_goto (tgt := 98) hx hb dX11_soonest_93 (by decide) ?_
                        refine lv_istore (lv' := [(4, .int (zFew (gZ q) k nx)), (3, .int (nI k)), (7, .int (nI 1)), (6, .int (zFew (gZ q) k nx)), (0, .ref (ad 200)), (1, .int x), (2, .int w), (5, .int (nI k))]) hx hb dX11_soonest_98 hl (by decide) rfl (fun ls hl => ?_)
                        refine lv_iinc (v := nI (k + 1)) (lv' := [(5, .int (nI (k + 1))), (4, .int (zFew (gZ q) k nx)), (3, .int (nI k)), (7, .int (nI 1)), (6, .int (zFew (gZ q) k nx)), (0, .ref (ad 200)), (1, .int x), (2, .int w)]) hx hb dX11_soonest_100 hl (k := 7) rfl (m_inc k 1) (by decide) rfl (fun ls hl => ?_)
                        refine lv_goto (tgt := 31) hx hb dX11_soonest_103 (by decide) ?_
                        exact ih_31  (nI k) (zFew (gZ q) k nx) (k + 1)  _ _ _ (by omega) (by rw [zSoon_s rfl (fFew_c _ _) hq (by omega), if_pos ⟨c_13, Or.inl c_16⟩]) (by omega) hW (lv_sub hl [5, 6, 7, 2, 1, 0] rfl)
                  · skip
                    refine lv_iload hx hb dX11_soonest_60 (lv_at hl 0 rfl) ?_
                    refine lv_iload hx hb dX11_soonest_62 (lv_at hl 5 rfl) ?_
                    refine lv_icmp_ge (tgt := 71) hx hb dX11_soonest_64 (by decide) (fun c_19 => ?_) (fun c_19 => ?_)
                    · skip
                      refine lv_iconst (v := nI 0) hx hb dX11_soonest_71 (by decide) ?_
                      refine lv_istore (lv' := [(7, .int (nI 0)), (6, .int (zFew (gZ q) k nx)), (0, .ref (ad 200)), (1, .int x), (2, .int w), (3, .int bs), (4, .int ls0), (5, .int (nI k))]) hx hb dX11_soonest_72 hl (by decide) rfl (fun ls hl => ?_)
                      refine lv_iload hx hb dX11_soonest_74 (lv_at hl 0 rfl) ?_
                      refine m_if_eq (tgt := 84) hx hb dX11_soonest_76 (by decide) (fun c_20 => ?_) (fun c_20 => ?_)
                      · skip
                        refine lv_iload_n hx hb dX11_soonest_84 rfl (lv_at hl 5 rfl) ?_
                        refine lv_istore_n (lv' := [(3, .int bs), (7, .int (nI 0)), (6, .int (zFew (gZ q) k nx)), (0, .ref (ad 200)), (1, .int x), (2, .int w), (4, .int ls0), (5, .int (nI k))]) hx hb dX11_soonest_85 rfl hl (by decide) rfl (fun ls hl => ?_)
                        refine lv_iload hx hb dX11_soonest_86 (lv_at hl 1 rfl) ?_
                        refine m_if_eq (tgt := 96) hx hb dX11_soonest_88 (by decide) (fun c_21 => ?_) (fun c_21 => ?_)
                        · skip
                          refine lv_iload hx hb dX11_soonest_96 (lv_at hl 6 rfl) ?_
                          refine lv_istore (lv' := [(4, .int ls0), (3, .int bs), (7, .int (nI 0)), (6, .int (zFew (gZ q) k nx)), (0, .ref (ad 200)), (1, .int x), (2, .int w), (5, .int (nI k))]) hx hb dX11_soonest_98 hl (by decide) rfl (fun ls hl => ?_)
                          refine lv_iinc (v := nI (k + 1)) (lv' := [(5, .int (nI (k + 1))), (4, .int ls0), (3, .int bs), (7, .int (nI 0)), (6, .int (zFew (gZ q) k nx)), (0, .ref (ad 200)), (1, .int x), (2, .int w)]) hx hb dX11_soonest_100 hl (k := 7) rfl (m_inc k 1) (by decide) rfl (fun ls hl => ?_)
                          refine lv_goto (tgt := 31) hx hb dX11_soonest_103 (by decide) ?_
                          exact ih_31  bs ls0 (k + 1)  _ _ _ (by omega) (by rw [zSoon_s rfl (fFew_c _ _) hq (by omega), if_neg (fun z => z.2.elim (fun y => c_16 y) (fun y => absurd y (Int32.not_lt.mpr c_19)))]) (by omega) hW (lv_sub hl [5, 6, 7, 2, 1, 0] rfl)
                        · exact absurd c_21 (by decide)
                      · exact absurd c_20 (by decide)
                    · skip
                      refine lv_iconst (v := nI 1) hx hb dX11_soonest_67 (by decide) ?_
                      refine lv_goto (tgt := 72) hx hb dX11_soonest_68 (by decide) ?_
                      refine lv_istore (lv' := [(7, .int (nI 1)), (6, .int (zFew (gZ q) k nx)), (0, .ref (ad 200)), (1, .int x), (2, .int w), (3, .int bs), (4, .int ls0), (5, .int (nI k))]) hx hb dX11_soonest_72 hl (by decide) rfl (fun ls hl => ?_)
                      refine lv_iload hx hb dX11_soonest_74 (lv_at hl 0 rfl) ?_
                      refine m_if_eq (tgt := 84) hx hb dX11_soonest_76 (by decide) (fun c_22 => ?_) (fun c_22 => ?_)
                      · exact absurd c_22 (by decide)
                      · skip
                        refine lv_iload hx hb dX11_soonest_79 (lv_at hl 7 rfl) ?_
                        refine lv_goto (tgt := 85) hx hb dX11_soonest_81 (by decide) ?_
                        refine lv_istore_n (lv' := [(3, .int (nI k)), (7, .int (nI 1)), (6, .int (zFew (gZ q) k nx)), (0, .ref (ad 200)), (1, .int x), (2, .int w), (4, .int ls0), (5, .int (nI k))]) hx hb dX11_soonest_85 rfl hl (by decide) rfl (fun ls hl => ?_)
                        refine lv_iload hx hb dX11_soonest_86 (lv_at hl 1 rfl) ?_
                        refine m_if_eq (tgt := 96) hx hb dX11_soonest_88 (by decide) (fun c_23 => ?_) (fun c_23 => ?_)
                        · exact absurd c_23 (by decide)
                        · skip
                          refine lv_iload hx hb dX11_soonest_91 (lv_at hl 2 rfl) ?_
                          refine lv_goto (tgt := 98) hx hb dX11_soonest_93 (by decide) ?_
                          refine lv_istore (lv' := [(4, .int (zFew (gZ q) k nx)), (3, .int (nI k)), (7, .int (nI 1)), (6, .int (zFew (gZ q) k nx)), (0, .ref (ad 200)), (1, .int x), (2, .int w), (5, .int (nI k))]) hx hb dX11_soonest_98 hl (by decide) rfl (fun ls hl => ?_)
                          refine lv_iinc (v := nI (k + 1)) (lv' := [(5, .int (nI (k + 1))), (4, .int (zFew (gZ q) k nx)), (3, .int (nI k)), (7, .int (nI 1)), (6, .int (zFew (gZ q) k nx)), (0, .ref (ad 200)), (1, .int x), (2, .int w)]) hx hb dX11_soonest_100 hl (k := 7) rfl (m_inc k 1) (by decide) rfl (fun ls hl => ?_)
                          refine lv_goto (tgt := 31) hx hb dX11_soonest_103 (by decide) ?_
                          exact ih_31  (nI k) (zFew (gZ q) k nx) (k + 1)  _ _ _ (by omega) (by rw [zSoon_s rfl (fFew_c _ _) hq (by omega), if_pos ⟨c_13, Or.inr (Int32.not_le.mp c_19)⟩]) (by omega) hW (lv_sub hl [5, 6, 7, 2, 1, 0] rfl)
          exact loop_31 (gNe q - 0 + 1) (-1) (-1) 0  _ _ _ (by omega) (by rfl) (by omega) hW (lv_sub hl [3, 4, 5, 2, 1, 0] rfl)
        · exact absurd c_10 (by decide)
      · skip
        refine m_if_ne (tgt := 23) hx hb dX11_soonest_17 (by decide) (fun c_24 => ?_) (fun c_24 => ?_)
        · exact absurd c_24 (by decide)
        · skip
          refine lv_bipush (v := -7) hx hb dX11_soonest_20 (by decide) ?_
          exact m_iret S hr hlk hW dX11_soonest_22 (by exact ⟨by simp only [aSoonest, if_pos w_3, hcx, if_neg w_9]; try rfl, rfl⟩)
    · exact absurd c_5 (by decide)
  · skip
    refine m_if_ne (tgt := 11) hx hb dX11_soonest_5 (by decide) (fun c_25 => ?_) (fun c_25 => ?_)
    · exact absurd c_25 (by decide)
    · skip
      refine lv_bipush (v := -5) hx hb dX11_soonest_8 (by decide) ?_
      exact m_iret S hr hlk hW dX11_soonest_10 (by exact ⟨by simp only [aSoonest, if_neg w_4]; try rfl, rfl⟩)
set_option maxHeartbeats 4000000 in
set_option maxRecDepth 100000 in
theorem c_X11_duel (l : Launch) (G : mG) (ad : Nat → Nat) (sh : Nat → Option mSh) (V : mV) (q : Sg) (x y tn w : Int32) (hI : MI sh V q) : mM l yX11_duel wsX11_duel ({ frames := 6, cells := 0, slots := 0, locals := 145 } : Room) G ad sh V [.ref (ad 200), .int x, .int y, .int tn, .int w] 0 0 (mPi ad sh (fun r V' => (aDuel q x y tn w) = r ∧ (MK V V'))) := by
  refine mM.of (cc := cX11_duel) (maxL := 10) (ret := (some .int)) (by decide) rfl (Nat.le_of_ble_eq_true rfl) ?_
  intro p e s m below meth c S hr hlk hnm hW ls hl
  obtain ⟨hx, hb, hml, hown, hts⟩ := id S
  have hl : lv_has ls 10 [(0, .ref (ad 200)), (1, .int x), (2, .int y), (3, .int tn), (4, .int w)] := hl
  have hS0 : True := trivial
  have hZ := hI.z
  have hne5 := hZ.ne5
  have hng6 := hZ.ng6
  have htn := hI.tn
  refine lv_aload_n hx hb dX11_duel_0 rfl (lv_at hl 0 rfl) ?_
  refine lv_iload_n hx hb dX11_duel_1 rfl (lv_at hl 1 rfl) ?_
  refine m_cip (m_rV S hW (c_X11_isEater l G ad sh V (gZ q) (gNe q) (gNg q) (gRl q) (gT q (gRl q)) x hZ) (cwV 1 hts (gCall [.methodLink RX11 179 yX11_isEater, .instanceMethod yX11_isEater, .selects RX11 yX11_isEater yX11_isEater, .initialized RX11] (List.forall_mem_cons.mpr ⟨(wa_19 _ (List.mem_of_getElem? (i := 3) (by decide +kernel))), (List.forall_mem_cons.mpr ⟨(wa_19 _ (List.mem_of_getElem? (i := 0) (by decide +kernel))), (List.forall_mem_cons.mpr ⟨(wa_19 _ (List.mem_of_getElem? (i := 1) (by decide +kernel))), (List.forall_mem_cons.mpr ⟨(wa_19 _ (List.mem_of_getElem? (i := 2) (by decide +kernel))), (List.forall_mem_cons.mpr ⟨(wa_1 _ (List.mem_of_getElem? (i := 5) (by decide +kernel))), (fun _ h => absurd h List.not_mem_nil)⟩)⟩)⟩)⟩)⟩)) rfl rfl rfl (by decide +kernel) ⟨Nat.le_of_ble_eq_true rfl, Nat.le_of_ble_eq_true rfl⟩) hZ.sp.1 kX11 rfl hl.1 rfl (Nat.le_of_ble_eq_true rfl) dX11_duel_2 ⟨Nat.le_of_ble_eq_true rfl, Nat.le_of_ble_eq_true rfl⟩) hW (fun r_2 H locs hp_1 hW => ?_)
  rcases hp_1 with ⟨rfl, w_3⟩ | ⟨rfl, w_4⟩
  · skip
    obtain ⟨nx, hnx, hwnx, hlnx⟩ := w_3.ex
    have hcx : x.toNatClampNeg = nx := by rw [hnx]; exact nI_clamp (by omega)
    refine m_if_eq (tgt := 21) hx hb dX11_duel_5 (by decide) (fun c_5 => ?_) (fun c_5 => ?_)
    · exact absurd c_5 (by decide)
    · skip
      refine lv_aload_n hx hb dX11_duel_8 rfl (lv_at hl 0 rfl) ?_
      refine lv_iload_n hx hb dX11_duel_9 rfl (lv_at hl 2 rfl) ?_
      refine m_cip (m_rV S hW (c_X11_isEater l G ad sh V (gZ q) (gNe q) (gNg q) (gRl q) (gT q (gRl q)) y hZ) (cwV 1 hts (gCall [.methodLink RX11 179 yX11_isEater, .instanceMethod yX11_isEater, .selects RX11 yX11_isEater yX11_isEater, .initialized RX11] (List.forall_mem_cons.mpr ⟨(wa_19 _ (List.mem_of_getElem? (i := 3) (by decide +kernel))), (List.forall_mem_cons.mpr ⟨(wa_19 _ (List.mem_of_getElem? (i := 0) (by decide +kernel))), (List.forall_mem_cons.mpr ⟨(wa_19 _ (List.mem_of_getElem? (i := 1) (by decide +kernel))), (List.forall_mem_cons.mpr ⟨(wa_19 _ (List.mem_of_getElem? (i := 2) (by decide +kernel))), (List.forall_mem_cons.mpr ⟨(wa_1 _ (List.mem_of_getElem? (i := 5) (by decide +kernel))), (fun _ h => absurd h List.not_mem_nil)⟩)⟩)⟩)⟩)⟩)) rfl rfl rfl (by decide +kernel) ⟨Nat.le_of_ble_eq_true rfl, Nat.le_of_ble_eq_true rfl⟩) hZ.sp.1 kX11 rfl hl.1 rfl (Nat.le_of_ble_eq_true rfl) dX11_duel_10 ⟨Nat.le_of_ble_eq_true rfl, Nat.le_of_ble_eq_true rfl⟩) hW (fun r_7 H locs hp_6 hW => ?_)
      rcases hp_6 with ⟨rfl, w_8⟩ | ⟨rfl, w_9⟩
      · skip
        obtain ⟨ny, hny, hwny, hlny⟩ := w_8.ex
        have hcy : y.toNatClampNeg = ny := by rw [hny]; exact nI_clamp (by omega)
        refine m_if_eq (tgt := 21) hx hb dX11_duel_13 (by decide) (fun c_10 => ?_) (fun c_10 => ?_)
        · exact absurd c_10 (by decide)
        · skip
          refine lv_iload_n hx hb dX11_duel_16 rfl (lv_at hl 1 rfl) ?_
          refine m_top (y := nI nx) hnx ?_
          refine lv_iload_n hx hb dX11_duel_17 rfl (lv_at hl 2 rfl) ?_
          refine m_top (y := nI ny) hny ?_
          refine lv_icmp_ne (tgt := 24) hx hb dX11_duel_18 (by decide) (fun c_11 => ?_) (fun c_11 => ?_)
          · skip
            have c_11 : ¬ nx = ny := mt (nI_eq (by omega) (by omega)).mpr c_11
            have hxy : ¬ x = y := by rw [hnx, hny]; exact mt (nI_eq (by omega) (by omega)).mp (by omega)
            refine lv_iload_n hx hb dX11_duel_24 rfl (lv_at hl 3 rfl) ?_
            refine lv_iconst (v := nI 1) hx hb dX11_duel_25 (by decide) ?_
            refine lv_iconst (v := nI 2) hx hb dX11_duel_26 (by decide) ?_
            refine m_cip (m_rS S hW (c_X11_in l G ad sh V tn 1 2 (by first | assumption | omega) (by first | assumption | omega)) (va_cwS 3 hts (gCall [.methodLink RX11 84 yX11_in, .static yX11_in, .initialized RX11] (List.forall_mem_cons.mpr ⟨(wa_12 _ (List.mem_of_getElem? (i := 16) (by decide +kernel))), (List.forall_mem_cons.mpr ⟨(wa_12 _ (List.mem_of_getElem? (i := 14) (by decide +kernel))), (List.forall_mem_cons.mpr ⟨(wa_12 _ (List.mem_of_getElem? (i := 15) (by decide +kernel))), (List.forall_mem_cons.mpr ⟨(wa_1 _ (List.mem_of_getElem? (i := 5) (by decide +kernel))), (fun _ h => absurd h List.not_mem_nil)⟩)⟩)⟩)⟩)) rfl rfl rfl (by decide +kernel) ⟨Nat.le_of_ble_eq_true rfl, Nat.le_of_ble_eq_true rfl⟩) rfl hl.1 rfl (Nat.le_of_ble_eq_true rfl) dX11_duel_27 ⟨Nat.le_of_ble_eq_true rfl, Nat.le_of_ble_eq_true rfl⟩) hW (fun r_13 H locs hp_12 hW => ?_)
            rcases hp_12 with ⟨rfl, w_14⟩ | ⟨rfl, w_15⟩
            · skip
              obtain ⟨ntn, hntn, hwntn, hlntn⟩ := w_14.ex
              have hctn : tn.toNatClampNeg = ntn := by rw [hntn]; exact nI_clamp (by omega)
              refine m_if_eq (tgt := 43) hx hb dX11_duel_30 (by decide) (fun c_16 => ?_) (fun c_16 => ?_)
              · exact absurd c_16 (by decide)
              · skip
                refine lv_iload hx hb dX11_duel_33 (lv_at hl 4 rfl) ?_
                refine lv_iconst (v := nI 0) hx hb dX11_duel_35 (by decide) ?_
                refine lv_iconst (v := nI 1) hx hb dX11_duel_36 (by decide) ?_
                refine m_cip (m_rS S hW (c_X11_in l G ad sh V w 0 1 (by first | assumption | omega) (by first | assumption | omega)) (va_cwS 3 hts (gCall [.methodLink RX11 84 yX11_in, .static yX11_in, .initialized RX11] (List.forall_mem_cons.mpr ⟨(wa_12 _ (List.mem_of_getElem? (i := 16) (by decide +kernel))), (List.forall_mem_cons.mpr ⟨(wa_12 _ (List.mem_of_getElem? (i := 14) (by decide +kernel))), (List.forall_mem_cons.mpr ⟨(wa_12 _ (List.mem_of_getElem? (i := 15) (by decide +kernel))), (List.forall_mem_cons.mpr ⟨(wa_1 _ (List.mem_of_getElem? (i := 5) (by decide +kernel))), (fun _ h => absurd h List.not_mem_nil)⟩)⟩)⟩)⟩)) rfl rfl rfl (by decide +kernel) ⟨Nat.le_of_ble_eq_true rfl, Nat.le_of_ble_eq_true rfl⟩) rfl hl.1 rfl (Nat.le_of_ble_eq_true rfl) dX11_duel_37 ⟨Nat.le_of_ble_eq_true rfl, Nat.le_of_ble_eq_true rfl⟩) hW (fun r_18 H locs hp_17 hW => ?_)
                rcases hp_17 with ⟨rfl, w_19⟩ | ⟨rfl, w_20⟩
                · skip
                  refine m_if_ne (tgt := 46) hx hb dX11_duel_40 (by decide) (fun c_21 => ?_) (fun c_21 => ?_)
                  · skip
                    rcases (show ntn = 1 ∨ ntn = 2 by omega) with h0t | h0t
                    · skip
                      have hct : tn.toNatClampNeg = 1 := by rw [hntn, h0t]; exact nI_clamp (by decide)
                      refine lv_iconst (v := -1) hx hb dX11_duel_46 (by decide) ?_
                      refine lv_istore (lv' := [(5, .int (-1)), (0, .ref (ad 200)), (1, .int x), (2, .int y), (3, .int tn), (4, .int w)]) hx hb dX11_duel_47 hl (by decide) rfl (fun ls hl => ?_)
                      refine lv_iload_n hx hb dX11_duel_49 rfl (lv_at hl 4 rfl) ?_
                      refine m_top (y := nI 1) (by rw [hntn, h0t]) ?_
                      refine lv_iconst (v := nI 1) hx hb dX11_duel_50 (by decide) ?_
                      refine lv_icmp_ne (tgt := 58) hx hb dX11_duel_51 (by decide) (fun c_22 => ?_) (fun c_22 => ?_)
                      · exact absurd c_22 (by decide)
                      · skip
                        refine lv_iconst (v := nI 0) hx hb dX11_duel_54 (by decide) ?_
                        refine lv_goto (tgt := 64) hx hb dX11_duel_55 (by decide) ?_
                        refine lv_istore (lv' := [(6, .int (nI 0)), (5, .int (-1)), (0, .ref (ad 200)), (1, .int x), (2, .int y), (3, .int tn), (4, .int w)]) hx hb dX11_duel_64 hl (by decide) rfl (fun ls hl => ?_)
                        refine lv_iconst (v := nI 0) hx hb dX11_duel_66 (by decide) ?_
                        refine lv_istore (lv' := [(7, .int (nI 0)), (6, .int (nI 0)), (5, .int (-1)), (0, .ref (ad 200)), (1, .int x), (2, .int y), (3, .int tn), (4, .int w)]) hx hb dX11_duel_67 hl (by decide) rfl (fun ls hl => ?_)
                        have loop_69 : ∀ (n_69 : Nat) (bs mo : Int32) (k : Nat) (V1 : mV) (H : Heap) (locs : List Loc) (ls : Array Slot), (k ≤ 16 * gNg q) → (MK V V1) → ((bs, mo) = zDuM (gAsk q) (gNg q) 1 (gZ q) nx ny k) → (16 * gNg q - k) < n_69 → mC (mA ad sh s.heap.size) s.heap s G ad sh V1 H locs → lv_has ls 10 [(0, .ref (ad 200)), (1, .int x), (2, .int y), (3, .int tn), (4, .int w), (5, .int bs), (6, .int mo), (7, .int (nI k))] → W p l e ({ frames := 6, cells := 0, slots := 0, locals := 145 } : Room) s m ([.ref (ad 200), .int x, .int y, .int tn, .int w] : List Value).toArray below meth c H locs 0 0 (MQ below (mPost G ad sh s.heap.size (mPi ad sh (fun r V' => (aDuel q x y tn w) = r ∧ (MK V V')))) ([.ref (ad 200), .int x, .int y, .int tn, .int w] : List Value).toArray s 0 0 (mA ad sh s.heap.size)) (F0 m 69 ls []) := by
                          intro n_69
                          induction n_69 with
                          | zero => intro bs mo k V1 H locs ls hk hK1 hq hM_ hW hl; omega
                          | succ n_69 ih_69 =>
                            intro bs mo k V1 H locs ls hk hK1 hq hM_ hW hl
                            have hZ1 := hZ.k hK1
                            refine lv_iload hx hb dX11_duel_69 (lv_at hl 7 rfl) ?_
                            refine lv_bipush (v := nI 16) hx hb dX11_duel_71 (by decide) ?_
                            refine lv_aload_n hx hb dX11_duel_73 rfl (lv_at hl 0 rfl) ?_
                            refine m_geti S hW hZ.sp.1 0 rfl kX11 (iW11 _) (by decide) (List.mem_cons_of_mem _ (wa_15 _ (List.mem_of_getElem? (i := 1) (by decide +kernel)))) dX11_duel_74 ?_
                            refine m_top (y := nI (gNg q)) (hZ.k hK1).ng_ ?_
                            refine lv_imul hx hb dX11_duel_77 ?_
                            refine m_top (y := nI (16 * (gNg q))) (pk_mul 16 (gNg q)) ?_
                            refine lv_icmp_ge (tgt := 209) hx hb dX11_duel_78 (by decide) (fun c_23 => ?_) (fun c_23 => ?_)
                            · skip
                              have c_23 : (16 * (gNg q)) ≤ k := (nI_leI (by omega) (by omega)).mp c_23
                              refine lv_iload hx hb dX11_duel_209 (lv_at hl 4 rfl) ?_
                              refine m_if_ne (tgt := 219) hx hb dX11_duel_211 (by decide) (fun c_24 => ?_) (fun c_24 => ?_)
                              · skip
                                refine lv_iload hx hb dX11_duel_219 (lv_at hl 5 rfl) ?_
                                exact m_iret S hr hlk hW dX11_duel_221 (by rw [show k = gNg q * 16 by omega] at hq; exact ⟨by simp only [aDuel, if_pos w_3, hcx, if_pos w_8, hcy, if_neg hxy, if_pos w_14, if_pos w_19, hct, if_neg c_24]; rw [show zDuel (gAsk q) (gNg q) 1 (gZ q) nx ny = _ from zDuM_eq hZ.ok (hI.tx _ htn.2.2.2).2 hne5 hlnx hlny hng6 (by decide)]; rw [show zDuM (askT (gT q (gRl q))) (gNg q) 1 (gZ q) nx ny (gNg q * 16) = (bs, mo) from hq.symm], hK1⟩)
                              · skip
                                refine lv_iload hx hb dX11_duel_214 (lv_at hl 6 rfl) ?_
                                refine lv_goto (tgt := 221) hx hb dX11_duel_216 (by decide) ?_
                                exact m_iret S hr hlk hW dX11_duel_221 (by rw [show k = gNg q * 16 by omega] at hq; exact ⟨by simp only [aDuel, if_pos w_3, hcx, if_pos w_8, hcy, if_neg hxy, if_pos w_14, if_pos w_19, hct, if_pos c_24]; rw [show zDuel (gAsk q) (gNg q) 1 (gZ q) nx ny = _ from zDuM_eq hZ.ok (hI.tx _ htn.2.2.2).2 hne5 hlnx hlny hng6 (by decide)]; rw [show zDuM (askT (gT q (gRl q))) (gNg q) 1 (gZ q) nx ny (gNg q * 16) = (bs, mo) from hq.symm], hK1⟩)
                            · skip
                              have c_23 : ¬ (16 * (gNg q)) ≤ k := mt (nI_leI (by omega) (by omega)).mpr c_23
                              have hg16 : k / 16 < gNg q := by omega
                              have hp16 : k % 16 < 16 := Nat.mod_lt _ (by decide)
                              refine lv_aload_n hx hb dX11_duel_81 rfl (lv_at hl 0 rfl) ?_
                              refine lv_iload_n hx hb dX11_duel_82 rfl (lv_at hl 1 rfl) ?_
                              refine m_top (y := nI nx) hnx ?_
                              refine lv_iload hx hb dX11_duel_83 (lv_at hl 7 rfl) ?_
                              refine lv_bipush (v := nI 16) hx hb dX11_duel_85 (by decide) ?_
                              refine lv_idiv hx hb dX11_duel_87 (by decide) ?_
                              refine m_top (y := nI (k / 16)) (pk_div (by omega) (by omega) (by omega)) ?_
                              refine lv_iload hx hb dX11_duel_88 (lv_at hl 7 rfl) ?_
                              refine lv_bipush (v := nI 16) hx hb dX11_duel_90 (by decide) ?_
                              refine lv_irem hx hb dX11_duel_92 (by decide) ?_
                              refine m_top (y := nI (k % 16)) (pk_rem (by omega) (by omega) (by omega)) ?_
                              refine m_cip (m_rV S hW (c_X11_canBe l G ad sh V1 (gZ q) (gNe q) (gNg q) (gRl q) (gT q (gRl q)) nx (k / 16) (k % 16) hZ1 (by first | assumption | omega) hg16 hp16) (cwV 3 hts (gCall [.methodLink RX11 216 yX11_canBe, .instanceMethod yX11_canBe, .selects RX11 yX11_canBe yX11_canBe, .initialized RX11] (List.forall_mem_cons.mpr ⟨(wa_29 _ (List.mem_of_getElem? (i := 19) (by decide +kernel))), (List.forall_mem_cons.mpr ⟨(wa_29 _ (List.mem_of_getElem? (i := 16) (by decide +kernel))), (List.forall_mem_cons.mpr ⟨(wa_29 _ (List.mem_of_getElem? (i := 17) (by decide +kernel))), (List.forall_mem_cons.mpr ⟨(wa_29 _ (List.mem_of_getElem? (i := 18) (by decide +kernel))), (List.forall_mem_cons.mpr ⟨(wa_1 _ (List.mem_of_getElem? (i := 5) (by decide +kernel))), (fun _ h => absurd h List.not_mem_nil)⟩)⟩)⟩)⟩)⟩)) rfl rfl rfl (by decide +kernel) ⟨Nat.le_of_ble_eq_true rfl, Nat.le_of_ble_eq_true rfl⟩) hZ.sp.1 kX11 rfl hl.1 rfl (Nat.le_of_ble_eq_true rfl) dX11_duel_93 ⟨Nat.le_of_ble_eq_true rfl, Nat.le_of_ble_eq_true rfl⟩) hW (fun r_26 H locs hp_25 hW => ?_)
                              rcases hp_25 with ⟨rfl, w_27⟩ | ⟨rfl, w_28⟩
                              · skip
                                refine m_if_eq (tgt := 203) hx hb dX11_duel_96 (by decide) (fun c_29 => ?_) (fun c_29 => ?_)
                                · exact absurd c_29 (by decide)
                                · skip
                                  refine lv_aload_n hx hb dX11_duel_99 rfl (lv_at hl 0 rfl) ?_
                                  refine m_cv (m_rV S hW (c_X11_keeps l G ad sh V1 hZ.sp) (cwV 0 hts (gCall [.methodLink RX11 222 yX11_keeps, .instanceMethod yX11_keeps, .selects RX11 yX11_keeps yX11_keeps, .initialized RX11] (List.forall_mem_cons.mpr ⟨(wa_32 _ (List.mem_of_getElem? (i := 17) (by decide +kernel))), (List.forall_mem_cons.mpr ⟨(wa_32 _ (List.mem_of_getElem? (i := 14) (by decide +kernel))), (List.forall_mem_cons.mpr ⟨(wa_32 _ (List.mem_of_getElem? (i := 15) (by decide +kernel))), (List.forall_mem_cons.mpr ⟨(wa_32 _ (List.mem_of_getElem? (i := 16) (by decide +kernel))), (List.forall_mem_cons.mpr ⟨(wa_1 _ (List.mem_of_getElem? (i := 5) (by decide +kernel))), (fun _ h => absurd h List.not_mem_nil)⟩)⟩)⟩)⟩)⟩)) rfl rfl rfl (by decide +kernel) ⟨Nat.le_of_ble_eq_true rfl, Nat.le_of_ble_eq_true rfl⟩) hZ.sp.1 kX11 rfl hl.1 rfl (Nat.le_of_ble_eq_true rfl) dX11_duel_100 ⟨Nat.le_of_ble_eq_true rfl, Nat.le_of_ble_eq_true rfl⟩) hW (fun V_30 H locs hp_31 hW => ?_)
                                  have hk_33 := hp_31
                                  refine lv_aload_n hx hb dX11_duel_103 rfl (lv_at hl 0 rfl) ?_
                                  refine lv_iload_n hx hb dX11_duel_104 rfl (lv_at hl 1 rfl) ?_
                                  refine m_top (y := nI nx) hnx ?_
                                  refine lv_iload hx hb dX11_duel_105 (lv_at hl 7 rfl) ?_
                                  refine lv_bipush (v := nI 16) hx hb dX11_duel_107 (by decide) ?_
                                  refine lv_idiv hx hb dX11_duel_109 (by decide) ?_
                                  refine m_top (y := nI (k / 16)) (pk_div (by omega) (by omega) (by omega)) ?_
                                  refine lv_iload hx hb dX11_duel_110 (lv_at hl 7 rfl) ?_
                                  refine lv_bipush (v := nI 16) hx hb dX11_duel_112 (by decide) ?_
                                  refine lv_irem hx hb dX11_duel_114 (by decide) ?_
                                  refine m_top (y := nI (k % 16)) (pk_rem (by omega) (by omega) (by omega)) ?_
                                  refine m_ci (m_rV S hW (c_X11_bites l G ad sh V_30 (gZ q) (gNe q) (gNg q) (gRl q) (gT q (gRl q)) nx (k / 16) (k % 16) (hZ1.k ⟨fun a _ _ _ a9 _ => hk_33.1 a a9, fun k _ => by rw [hk_33.1 201 (by decide)], fun k _ => by rw [hk_33.1 204 (by decide)], fun k _ _ _ => by rw [hk_33.1 200 (by decide)]⟩) (by first | assumption | omega) hg16 hp16 w_27) (cwV 3 hts (gCall [.methodLink RX11 210 yX11_bites, .instanceMethod yX11_bites, .selects RX11 yX11_bites yX11_bites, .initialized RX11] (List.forall_mem_cons.mpr ⟨(wa_28 _ (List.mem_of_getElem? (i := 11) (by decide +kernel))), (List.forall_mem_cons.mpr ⟨(wa_28 _ (List.mem_of_getElem? (i := 8) (by decide +kernel))), (List.forall_mem_cons.mpr ⟨(wa_28 _ (List.mem_of_getElem? (i := 9) (by decide +kernel))), (List.forall_mem_cons.mpr ⟨(wa_28 _ (List.mem_of_getElem? (i := 10) (by decide +kernel))), (List.forall_mem_cons.mpr ⟨(wa_1 _ (List.mem_of_getElem? (i := 5) (by decide +kernel))), (fun _ h => absurd h List.not_mem_nil)⟩)⟩)⟩)⟩)⟩)) rfl rfl rfl (by decide +kernel) ⟨Nat.le_of_ble_eq_true rfl, Nat.le_of_ble_eq_true rfl⟩) hZ.sp.1 kX11 rfl hl.1 rfl (Nat.le_of_ble_eq_true rfl) dX11_duel_115 ⟨Nat.le_of_ble_eq_true rfl, Nat.le_of_ble_eq_true rfl⟩) hW (fun r_36 V_34 H locs hp_35 hW => ?_)
                                  obtain ⟨rfl, hZ_37, hB_38⟩ := hp_35
                                  refine lv_istore (lv' := [(8, .int (zGa (askT (gT q (gRl q))) (gZ q) nx (k / 16) (k % 16))), (0, .ref (ad 200)), (1, .int x), (2, .int y), (3, .int tn), (4, .int w), (5, .int bs), (6, .int mo), (7, .int (nI k))]) hx hb dX11_duel_118 hl (by decide) rfl (fun ls hl => ?_)
                                  refine lv_iload hx hb dX11_duel_120 (lv_at hl 0 rfl) ?_
                                  refine lv_iload_n hx hb dX11_duel_122 rfl (lv_at hl 4 rfl) ?_
                                  refine m_top (y := nI 1) (by rw [hntn, h0t]) ?_
                                  refine lv_iconst (v := nI 1) hx hb dX11_duel_123 (by decide) ?_
                                  refine lv_icmp_ne (tgt := 131) hx hb dX11_duel_124 (by decide) (fun c_39 => ?_) (fun c_39 => ?_)
                                  · exact absurd c_39 (by decide)
                                  · skip
                                    refine lv_iconst (v := nI 0) hx hb dX11_duel_127 (by decide) ?_
                                    refine lv_goto (tgt := 136) hx hb dX11_duel_128 (by decide) ?_
                                    refine lv_isub hx hb dX11_duel_136 ?_
                                    refine m_top (y := (zGa (gAsk q) (gZ q) nx (k / 16) (k % 16) - (if 1 = 1 then nI 0 else (zOneF (gAsk q) (zBi (gAsk q) (gZ q) nx (k / 16) (k % 16)) ny (gNg q * 16)).2))) (by rw [if_pos rfl]; rfl) ?_
                                    refine lv_istore (lv' := [(8, .int (zGa (gAsk q) (gZ q) nx (k / 16) (k % 16) - (if 1 = 1 then nI 0 else (zOneF (gAsk q) (zBi (gAsk q) (gZ q) nx (k / 16) (k % 16)) ny (gNg q * 16)).2))), (0, .ref (ad 200)), (1, .int x), (2, .int y), (3, .int tn), (4, .int w), (5, .int bs), (6, .int mo), (7, .int (nI k))]) hx hb dX11_duel_137 hl (by decide) rfl (fun ls hl => ?_)
                                    refine lv_aload_n hx hb dX11_duel_139 rfl (lv_at hl 1 rfl) ?_
                                    refine m_cv (m_rV S hW (c_X11_laysBack l G ad sh V_34 hZ.sp) (cwV 0 hts (gCall [.methodLink RX11 225 yX11_laysBack, .instanceMethod yX11_laysBack, .selects RX11 yX11_laysBack yX11_laysBack, .initialized RX11] (List.forall_mem_cons.mpr ⟨(wa_32 _ (List.mem_of_getElem? (i := 21) (by decide +kernel))), (List.forall_mem_cons.mpr ⟨(wa_32 _ (List.mem_of_getElem? (i := 18) (by decide +kernel))), (List.forall_mem_cons.mpr ⟨(wa_32 _ (List.mem_of_getElem? (i := 19) (by decide +kernel))), (List.forall_mem_cons.mpr ⟨(wa_32 _ (List.mem_of_getElem? (i := 20) (by decide +kernel))), (List.forall_mem_cons.mpr ⟨(wa_1 _ (List.mem_of_getElem? (i := 5) (by decide +kernel))), (fun _ h => absurd h List.not_mem_nil)⟩)⟩)⟩)⟩)⟩)) rfl rfl rfl (by decide +kernel) ⟨Nat.le_of_ble_eq_true rfl, Nat.le_of_ble_eq_true rfl⟩) hZ.sp.1 kX11 rfl hl.1 rfl (Nat.le_of_ble_eq_true rfl) dX11_duel_140 ⟨Nat.le_of_ble_eq_true rfl, Nat.le_of_ble_eq_true rfl⟩) hW (fun V_40 H locs hp_41 hW => ?_)
                                    have hl9_43 := hp_41
                                    refine lv_iload hx hb dX11_duel_143 (lv_at hl 6 rfl) ?_
                                    refine lv_iconst (v := -1) hx hb dX11_duel_145 (by decide) ?_
                                    refine lv_icmp_eq (tgt := 156) hx hb dX11_duel_146 (by decide) (fun c_44 => ?_) (fun c_44 => ?_)
                                    · skip
                                      refine lv_iconst (v := nI 1) hx hb dX11_duel_156 (by decide) ?_
                                      refine lv_goto (tgt := 161) hx hb dX11_duel_157 (by decide) ?_
                                      refine lv_istore (lv' := [(9, .int (nI 1)), (8, .int (zGa (gAsk q) (gZ q) nx (k / 16) (k % 16) - (if 1 = 1 then nI 0 else (zOneF (gAsk q) (zBi (gAsk q) (gZ q) nx (k / 16) (k % 16)) ny (gNg q * 16)).2))), (0, .ref (ad 200)), (1, .int x), (2, .int y), (3, .int tn), (4, .int w), (5, .int bs), (6, .int mo), (7, .int (nI k))]) hx hb dX11_duel_161 hl (by decide) rfl (fun ls hl => ?_)
                                      refine lv_iload hx hb dX11_duel_163 (lv_at hl 0 rfl) ?_
                                      refine m_if_eq (tgt := 185) hx hb dX11_duel_165 (by decide) (fun c_45 => ?_) (fun c_45 => ?_)
                                      · exact absurd c_45 (by decide)
                                      · skip
                                        refine lv_bipush (v := nI 100) hx hb dX11_duel_168 (by decide) ?_
                                        refine lv_iload hx hb dX11_duel_170 (lv_at hl 9 rfl) ?_
                                        refine lv_bipush (v := nI 16) hx hb dX11_duel_172 (by decide) ?_
                                        refine lv_idiv hx hb dX11_duel_174 (by decide) ?_
                                        refine m_top (y := nI (k / 16)) (pk_div (by omega) (by omega) (by omega)) ?_
                                        refine lv_imul hx hb dX11_duel_175 ?_
                                        refine m_top (y := nI (100 * (k / 16))) (pk_mul 100 (k / 16)) ?_
                                        refine lv_iload hx hb dX11_duel_176 (lv_at hl 9 rfl) ?_
                                        refine lv_bipush (v := nI 16) hx hb dX11_duel_178 (by decide) ?_
                                        refine lv_irem hx hb dX11_duel_180 (by decide) ?_
                                        refine m_top (y := nI (k % 16)) (pk_rem (by omega) (by omega) (by omega)) ?_
                                        refine lv_iadd hx hb dX11_duel_181 ?_
                                        refine m_top (y := nI ((100 * (k / 16)) + (k % 16))) (nI_add (100 * (k / 16)) (k % 16)) ?_
                                        refine lv_goto (tgt := 187) hx hb dX11_duel_182 (by decide) ?_
                                        refine lv_istore (lv' := [(5, .int (nI ((100 * (k / 16)) + (k % 16)))), (9, .int (nI 1)), (8, .int (zGa (gAsk q) (gZ q) nx (k / 16) (k % 16) - (if 1 = 1 then nI 0 else (zOneF (gAsk q) (zBi (gAsk q) (gZ q) nx (k / 16) (k % 16)) ny (gNg q * 16)).2))), (0, .ref (ad 200)), (1, .int x), (2, .int y), (3, .int tn), (4, .int w), (6, .int mo), (7, .int (nI k))]) hx hb dX11_duel_187 hl (by decide) rfl (fun ls hl => ?_)
                                        refine lv_iload hx hb dX11_duel_189 (lv_at hl 1 rfl) ?_
                                        refine m_if_eq (tgt := 199) hx hb dX11_duel_191 (by decide) (fun c_46 => ?_) (fun c_46 => ?_)
                                        · exact absurd c_46 (by decide)
                                        · skip
                                          refine lv_iload hx hb dX11_duel_194 (lv_at hl 2 rfl) ?_
                                          refine lv_goto (tgt := 201) hx hb dX11_duel_196 (by decide) ?_
                                          refine lv_istore (lv' := [(6, .int (zGa (gAsk q) (gZ q) nx (k / 16) (k % 16) - (if 1 = 1 then nI 0 else (zOneF (gAsk q) (zBi (gAsk q) (gZ q) nx (k / 16) (k % 16)) ny (gNg q * 16)).2))), (5, .int (nI ((100 * (k / 16)) + (k % 16)))), (9, .int (nI 1)), (8, .int (zGa (gAsk q) (gZ q) nx (k / 16) (k % 16) - (if 1 = 1 then nI 0 else (zOneF (gAsk q) (zBi (gAsk q) (gZ q) nx (k / 16) (k % 16)) ny (gNg q * 16)).2))), (0, .ref (ad 200)), (1, .int x), (2, .int y), (3, .int tn), (4, .int w), (7, .int (nI k))]) hx hb dX11_duel_201 hl (by decide) rfl (fun ls hl => ?_)
                                          refine lv_iinc (v := nI (k + 1)) (lv' := [(7, .int (nI (k + 1))), (6, .int (zGa (gAsk q) (gZ q) nx (k / 16) (k % 16) - (if 1 = 1 then nI 0 else (zOneF (gAsk q) (zBi (gAsk q) (gZ q) nx (k / 16) (k % 16)) ny (gNg q * 16)).2))), (5, .int (nI ((100 * (k / 16)) + (k % 16)))), (9, .int (nI 1)), (8, .int (zGa (gAsk q) (gZ q) nx (k / 16) (k % 16) - (if 1 = 1 then nI 0 else (zOneF (gAsk q) (zBi (gAsk q) (gZ q) nx (k / 16) (k % 16)) ny (gNg q * 16)).2))), (0, .ref (ad 200)), (1, .int x), (2, .int y), (3, .int tn), (4, .int w)]) hx hb dX11_duel_203 hl (k := 9) rfl (m_inc k 1) (by decide) rfl (fun ls hl => ?_)
                                          refine lv_goto (tgt := 69) hx hb dX11_duel_206 (by decide) ?_
                                          exact ih_69  (nI ((100 * (k / 16)) + (k % 16))) (zGa (gAsk q) (gZ q) nx (k / 16) (k % 16) - (if 1 = 1 then nI 0 else (zOneF (gAsk q) (zBi (gAsk q) (gZ q) nx (k / 16) (k % 16)) ny (gNg q * 16)).2)) (k + 1) V_40 _ _ _ (by omega) (by exact hK1.trans (MK.back hk_33 hB_38 hl9_43)) (by rw [zDuM_s hq (show zCan (gAsk q) (gZ q) nx (k / 16) (k % 16) from w_27), if_pos (Or.inl c_44)]) (by omega) hW (lv_sub hl [5, 6, 7, 8, 9, 2, 1, 0] rfl)
                                    · skip
                                      refine lv_iload hx hb dX11_duel_149 (lv_at hl 0 rfl) ?_
                                      refine lv_iload hx hb dX11_duel_151 (lv_at hl 7 rfl) ?_
                                      refine lv_icmp_le (tgt := 160) hx hb dX11_duel_153 (by decide) (fun c_47 => ?_) (fun c_47 => ?_)
                                      · skip
                                        refine lv_iconst (v := nI 0) hx hb dX11_duel_160 (by decide) ?_
                                        refine lv_istore (lv' := [(9, .int (nI 0)), (8, .int (zGa (gAsk q) (gZ q) nx (k / 16) (k % 16) - (if 1 = 1 then nI 0 else (zOneF (gAsk q) (zBi (gAsk q) (gZ q) nx (k / 16) (k % 16)) ny (gNg q * 16)).2))), (0, .ref (ad 200)), (1, .int x), (2, .int y), (3, .int tn), (4, .int w), (5, .int bs), (6, .int mo), (7, .int (nI k))]) hx hb dX11_duel_161 hl (by decide) rfl (fun ls hl => ?_)
                                        refine lv_iload hx hb dX11_duel_163 (lv_at hl 0 rfl) ?_
                                        refine m_if_eq (tgt := 185) hx hb dX11_duel_165 (by decide) (fun c_48 => ?_) (fun c_48 => ?_)
                                        · skip
                                          refine lv_iload hx hb dX11_duel_185 (lv_at hl 7 rfl) ?_
                                          refine lv_istore (lv' := [(5, .int bs), (9, .int (nI 0)), (8, .int (zGa (gAsk q) (gZ q) nx (k / 16) (k % 16) - (if 1 = 1 then nI 0 else (zOneF (gAsk q) (zBi (gAsk q) (gZ q) nx (k / 16) (k % 16)) ny (gNg q * 16)).2))), (0, .ref (ad 200)), (1, .int x), (2, .int y), (3, .int tn), (4, .int w), (6, .int mo), (7, .int (nI k))]) hx hb dX11_duel_187 hl (by decide) rfl (fun ls hl => ?_)
                                          refine lv_iload hx hb dX11_duel_189 (lv_at hl 1 rfl) ?_
                                          refine m_if_eq (tgt := 199) hx hb dX11_duel_191 (by decide) (fun c_49 => ?_) (fun c_49 => ?_)
                                          · skip
                                            refine lv_iload hx hb dX11_duel_199 (lv_at hl 8 rfl) ?_
                                            refine lv_istore (lv' := [(6, .int mo), (5, .int bs), (9, .int (nI 0)), (8, .int (zGa (gAsk q) (gZ q) nx (k / 16) (k % 16) - (if 1 = 1 then nI 0 else (zOneF (gAsk q) (zBi (gAsk q) (gZ q) nx (k / 16) (k % 16)) ny (gNg q * 16)).2))), (0, .ref (ad 200)), (1, .int x), (2, .int y), (3, .int tn), (4, .int w), (7, .int (nI k))]) hx hb dX11_duel_201 hl (by decide) rfl (fun ls hl => ?_)
                                            refine lv_iinc (v := nI (k + 1)) (lv' := [(7, .int (nI (k + 1))), (6, .int mo), (5, .int bs), (9, .int (nI 0)), (8, .int (zGa (gAsk q) (gZ q) nx (k / 16) (k % 16) - (if 1 = 1 then nI 0 else (zOneF (gAsk q) (zBi (gAsk q) (gZ q) nx (k / 16) (k % 16)) ny (gNg q * 16)).2))), (0, .ref (ad 200)), (1, .int x), (2, .int y), (3, .int tn), (4, .int w)]) hx hb dX11_duel_203 hl (k := 9) rfl (m_inc k 1) (by decide) rfl (fun ls hl => ?_)
                                            refine lv_goto (tgt := 69) hx hb dX11_duel_206 (by decide) ?_
                                            exact ih_69  bs mo (k + 1) V_40 _ _ _ (by omega) (by exact hK1.trans (MK.back hk_33 hB_38 hl9_43)) (by rw [zDuM_s hq (show zCan (gAsk q) (gZ q) nx (k / 16) (k % 16) from w_27), if_neg (fun z => z.elim (fun y => c_44 y) (fun y => absurd y (Int32.not_lt.mpr c_47)))]) (by omega) hW (lv_sub hl [5, 6, 7, 8, 9, 2, 1, 0] rfl)
                                          · exact absurd c_49 (by decide)
                                        · exact absurd c_48 (by decide)
                                      · skip
                                        refine lv_iconst (v := nI 1) hx hb dX11_duel_156 (by decide) ?_
                                        refine lv_goto (tgt := 161) hx hb dX11_duel_157 (by decide) ?_
                                        refine lv_istore (lv' := [(9, .int (nI 1)), (8, .int (zGa (gAsk q) (gZ q) nx (k / 16) (k % 16) - (if 1 = 1 then nI 0 else (zOneF (gAsk q) (zBi (gAsk q) (gZ q) nx (k / 16) (k % 16)) ny (gNg q * 16)).2))), (0, .ref (ad 200)), (1, .int x), (2, .int y), (3, .int tn), (4, .int w), (5, .int bs), (6, .int mo), (7, .int (nI k))]) hx hb dX11_duel_161 hl (by decide) rfl (fun ls hl => ?_)
                                        refine lv_iload hx hb dX11_duel_163 (lv_at hl 0 rfl) ?_
                                        refine m_if_eq (tgt := 185) hx hb dX11_duel_165 (by decide) (fun c_50 => ?_) (fun c_50 => ?_)
                                        · exact absurd c_50 (by decide)
                                        · skip
                                          refine lv_bipush (v := nI 100) hx hb dX11_duel_168 (by decide) ?_
                                          refine lv_iload hx hb dX11_duel_170 (lv_at hl 9 rfl) ?_
                                          refine lv_bipush (v := nI 16) hx hb dX11_duel_172 (by decide) ?_
                                          refine lv_idiv hx hb dX11_duel_174 (by decide) ?_
                                          refine m_top (y := nI (k / 16)) (pk_div (by omega) (by omega) (by omega)) ?_
                                          refine lv_imul hx hb dX11_duel_175 ?_
                                          refine m_top (y := nI (100 * (k / 16))) (pk_mul 100 (k / 16)) ?_
                                          refine lv_iload hx hb dX11_duel_176 (lv_at hl 9 rfl) ?_
                                          refine lv_bipush (v := nI 16) hx hb dX11_duel_178 (by decide) ?_
                                          refine lv_irem hx hb dX11_duel_180 (by decide) ?_
                                          refine m_top (y := nI (k % 16)) (pk_rem (by omega) (by omega) (by omega)) ?_
                                          refine lv_iadd hx hb dX11_duel_181 ?_
                                          refine m_top (y := nI ((100 * (k / 16)) + (k % 16))) (nI_add (100 * (k / 16)) (k % 16)) ?_
                                          refine lv_goto (tgt := 187) hx hb dX11_duel_182 (by decide) ?_
                                          refine lv_istore (lv' := [(5, .int (nI ((100 * (k / 16)) + (k % 16)))), (9, .int (nI 1)), (8, .int (zGa (gAsk q) (gZ q) nx (k / 16) (k % 16) - (if 1 = 1 then nI 0 else (zOneF (gAsk q) (zBi (gAsk q) (gZ q) nx (k / 16) (k % 16)) ny (gNg q * 16)).2))), (0, .ref (ad 200)), (1, .int x), (2, .int y), (3, .int tn), (4, .int w), (6, .int mo), (7, .int (nI k))]) hx hb dX11_duel_187 hl (by decide) rfl (fun ls hl => ?_)
                                          refine lv_iload hx hb dX11_duel_189 (lv_at hl 1 rfl) ?_
                                          refine m_if_eq (tgt := 199) hx hb dX11_duel_191 (by decide) (fun c_51 => ?_) (fun c_51 => ?_)
                                          · exact absurd c_51 (by decide)
                                          · skip
                                            refine lv_iload hx hb dX11_duel_194 (lv_at hl 2 rfl) ?_
                                            refine lv_goto (tgt := 201) hx hb dX11_duel_196 (by decide) ?_
                                            refine lv_istore (lv' := [(6, .int (zGa (gAsk q) (gZ q) nx (k / 16) (k % 16) - (if 1 = 1 then nI 0 else (zOneF (gAsk q) (zBi (gAsk q) (gZ q) nx (k / 16) (k % 16)) ny (gNg q * 16)).2))), (5, .int (nI ((100 * (k / 16)) + (k % 16)))), (9, .int (nI 1)), (8, .int (zGa (gAsk q) (gZ q) nx (k / 16) (k % 16) - (if 1 = 1 then nI 0 else (zOneF (gAsk q) (zBi (gAsk q) (gZ q) nx (k / 16) (k % 16)) ny (gNg q * 16)).2))), (0, .ref (ad 200)), (1, .int x), (2, .int y), (3, .int tn), (4, .int w), (7, .int (nI k))]) hx hb dX11_duel_201 hl (by decide) rfl (fun ls hl => ?_)
                                            refine lv_iinc (v := nI (k + 1)) (lv' := [(7, .int (nI (k + 1))), (6, .int (zGa (gAsk q) (gZ q) nx (k / 16) (k % 16) - (if 1 = 1 then nI 0 else (zOneF (gAsk q) (zBi (gAsk q) (gZ q) nx (k / 16) (k % 16)) ny (gNg q * 16)).2))), (5, .int (nI ((100 * (k / 16)) + (k % 16)))), (9, .int (nI 1)), (8, .int (zGa (gAsk q) (gZ q) nx (k / 16) (k % 16) - (if 1 = 1 then nI 0 else (zOneF (gAsk q) (zBi (gAsk q) (gZ q) nx (k / 16) (k % 16)) ny (gNg q * 16)).2))), (0, .ref (ad 200)), (1, .int x), (2, .int y), (3, .int tn), (4, .int w)]) hx hb dX11_duel_203 hl (k := 9) rfl (m_inc k 1) (by decide) rfl (fun ls hl => ?_)
                                            refine lv_goto (tgt := 69) hx hb dX11_duel_206 (by decide) ?_
                                            exact ih_69  (nI ((100 * (k / 16)) + (k % 16))) (zGa (gAsk q) (gZ q) nx (k / 16) (k % 16) - (if 1 = 1 then nI 0 else (zOneF (gAsk q) (zBi (gAsk q) (gZ q) nx (k / 16) (k % 16)) ny (gNg q * 16)).2)) (k + 1) V_40 _ _ _ (by omega) (by exact hK1.trans (MK.back hk_33 hB_38 hl9_43)) (by rw [zDuM_s hq (show zCan (gAsk q) (gZ q) nx (k / 16) (k % 16) from w_27), if_pos (Or.inr (Int32.not_le.mp c_47))]) (by omega) hW (lv_sub hl [5, 6, 7, 8, 9, 2, 1, 0] rfl)
                              · skip
                                refine m_if_eq (tgt := 203) hx hb dX11_duel_96 (by decide) (fun c_52 => ?_) (fun c_52 => ?_)
                                · skip
                                  refine lv_iinc (v := nI (k + 1)) (lv' := [(7, .int (nI (k + 1))), (0, .ref (ad 200)), (1, .int x), (2, .int y), (3, .int tn), (4, .int w), (5, .int bs), (6, .int mo)]) hx hb dX11_duel_203 hl (k := 7) rfl (m_inc k 1) (by decide) rfl (fun ls hl => ?_)
                                  refine lv_goto (tgt := 69) hx hb dX11_duel_206 (by decide) ?_
                                  exact ih_69  bs mo (k + 1) V1 _ _ _ (by omega) (by exact hK1) (by exact zDuM_n hq (show ¬ zCan (gAsk q) (gZ q) nx (k / 16) (k % 16) from w_28)) (by omega) hW (lv_sub hl [1, 2, 3, 4, 5, 6, 7, 0] rfl)
                                · exact absurd c_52 (by decide)
                        exact loop_69 (16 * gNg q - 0 + 1) (-1) (nI 0) 0 V _ _ _ (by omega) (by exact MK.rfl V) (by rw [zDuM, mF, if_pos rfl] <;> rfl) (by omega) hW (lv_sub hl [3, 4, 5, 6, 7, 2, 1, 0] rfl)
                    · skip
                      have hct : tn.toNatClampNeg = 2 := by rw [hntn, h0t]; exact nI_clamp (by decide)
                      refine lv_iconst (v := -1) hx hb dX11_duel_46 (by decide) ?_
                      refine lv_istore (lv' := [(5, .int (-1)), (0, .ref (ad 200)), (1, .int x), (2, .int y), (3, .int tn), (4, .int w)]) hx hb dX11_duel_47 hl (by decide) rfl (fun ls hl => ?_)
                      refine lv_iload_n hx hb dX11_duel_49 rfl (lv_at hl 4 rfl) ?_
                      refine m_top (y := nI 2) (by rw [hntn, h0t]) ?_
                      refine lv_iconst (v := nI 1) hx hb dX11_duel_50 (by decide) ?_
                      refine lv_icmp_ne (tgt := 58) hx hb dX11_duel_51 (by decide) (fun c_53 => ?_) (fun c_53 => ?_)
                      · skip
                        refine lv_aload_n hx hb dX11_duel_58 rfl (lv_at hl 1 rfl) ?_
                        refine lv_iload_n hx hb dX11_duel_59 rfl (lv_at hl 3 rfl) ?_
                        refine m_top (y := nI ny) hny ?_
                        refine m_cie (m_rV S hW (c_X11_duelOne l G ad sh V (gZ q) (gNe q) (gNg q) (gRl q) (gT q (gRl q)) ny hZ (by first | assumption | omega)) (cwV 1 hts (gCall [.methodLink RX11 236 yX11_duelOne, .instanceMethod yX11_duelOne, .selects RX11 yX11_duelOne yX11_duelOne, .initialized RX11] (List.forall_mem_cons.mpr ⟨(wa_34 _ (List.mem_of_getElem? (i := 4) (by decide +kernel))), (List.forall_mem_cons.mpr ⟨(wa_34 _ (List.mem_of_getElem? (i := 1) (by decide +kernel))), (List.forall_mem_cons.mpr ⟨(wa_34 _ (List.mem_of_getElem? (i := 2) (by decide +kernel))), (List.forall_mem_cons.mpr ⟨(wa_34 _ (List.mem_of_getElem? (i := 3) (by decide +kernel))), (List.forall_mem_cons.mpr ⟨(wa_1 _ (List.mem_of_getElem? (i := 5) (by decide +kernel))), (fun _ h => absurd h List.not_mem_nil)⟩)⟩)⟩)⟩)⟩)) rfl rfl rfl (by decide +kernel) ⟨Nat.le_of_ble_eq_true rfl, Nat.le_of_ble_eq_true rfl⟩) hZ.sp.1 kX11 rfl hl.1 rfl (Nat.le_of_ble_eq_true rfl) dX11_duel_60 ⟨Nat.le_of_ble_eq_true rfl, Nat.le_of_ble_eq_true rfl⟩) hW (fun H locs hW => ?_)
                        refine lv_ineg hx hb dX11_duel_63 ?_
                        refine lv_istore (lv' := [(6, .int (-((zOneF (askT (gT q (gRl q))) (gZ q) ny ((gNg q) * 16)).2))), (5, .int (-1)), (0, .ref (ad 200)), (1, .int x), (2, .int y), (3, .int tn), (4, .int w)]) hx hb dX11_duel_64 hl (by decide) rfl (fun ls hl => ?_)
                        refine lv_iconst (v := nI 0) hx hb dX11_duel_66 (by decide) ?_
                        refine lv_istore (lv' := [(7, .int (nI 0)), (6, .int (-((zOneF (askT (gT q (gRl q))) (gZ q) ny ((gNg q) * 16)).2))), (5, .int (-1)), (0, .ref (ad 200)), (1, .int x), (2, .int y), (3, .int tn), (4, .int w)]) hx hb dX11_duel_67 hl (by decide) rfl (fun ls hl => ?_)
                        have loop_69 : ∀ (n_69 : Nat) (bs mo : Int32) (k : Nat) (V1 : mV) (H : Heap) (locs : List Loc) (ls : Array Slot), (k ≤ 16 * gNg q) → (MK V V1) → ((bs, mo) = zDuM (gAsk q) (gNg q) 2 (gZ q) nx ny k) → (16 * gNg q - k) < n_69 → mC (mA ad sh s.heap.size) s.heap s G ad sh V1 H locs → lv_has ls 10 [(0, .ref (ad 200)), (1, .int x), (2, .int y), (3, .int tn), (4, .int w), (5, .int bs), (6, .int mo), (7, .int (nI k))] → W p l e ({ frames := 6, cells := 0, slots := 0, locals := 145 } : Room) s m ([.ref (ad 200), .int x, .int y, .int tn, .int w] : List Value).toArray below meth c H locs 0 0 (MQ below (mPost G ad sh s.heap.size (mPi ad sh (fun r V' => (aDuel q x y tn w) = r ∧ (MK V V')))) ([.ref (ad 200), .int x, .int y, .int tn, .int w] : List Value).toArray s 0 0 (mA ad sh s.heap.size)) (F0 m 69 ls []) := by
                          intro n_69
                          induction n_69 with
                          | zero => intro bs mo k V1 H locs ls hk hK1 hq hM_ hW hl; omega
                          | succ n_69 ih_69 =>
                            intro bs mo k V1 H locs ls hk hK1 hq hM_ hW hl
                            have hZ1 := hZ.k hK1
                            refine lv_iload hx hb dX11_duel_69 (lv_at hl 7 rfl) ?_
                            refine lv_bipush (v := nI 16) hx hb dX11_duel_71 (by decide) ?_
                            refine lv_aload_n hx hb dX11_duel_73 rfl (lv_at hl 0 rfl) ?_
                            refine m_geti S hW hZ.sp.1 0 rfl kX11 (iW11 _) (by decide) (List.mem_cons_of_mem _ (wa_15 _ (List.mem_of_getElem? (i := 1) (by decide +kernel)))) dX11_duel_74 ?_
                            refine m_top (y := nI (gNg q)) (hZ.k hK1).ng_ ?_
                            refine lv_imul hx hb dX11_duel_77 ?_
                            refine m_top (y := nI (16 * (gNg q))) (pk_mul 16 (gNg q)) ?_
                            refine lv_icmp_ge (tgt := 209) hx hb dX11_duel_78 (by decide) (fun c_54 => ?_) (fun c_54 => ?_)
                            · skip
                              have c_54 : (16 * (gNg q)) ≤ k := (nI_leI (by omega) (by omega)).mp c_54
                              refine lv_iload hx hb dX11_duel_209 (lv_at hl 4 rfl) ?_
                              refine m_if_ne (tgt := 219) hx hb dX11_duel_211 (by decide) (fun c_55 => ?_) (fun c_55 => ?_)
                              · skip
                                refine lv_iload hx hb dX11_duel_219 (lv_at hl 5 rfl) ?_
                                exact m_iret S hr hlk hW dX11_duel_221 (by rw [show k = gNg q * 16 by omega] at hq; exact ⟨by simp only [aDuel, if_pos w_3, hcx, if_pos w_8, hcy, if_neg hxy, if_pos w_14, if_pos w_19, hct, if_neg c_55]; rw [show zDuel (gAsk q) (gNg q) 2 (gZ q) nx ny = _ from zDuM_eq hZ.ok (hI.tx _ htn.2.2.2).2 hne5 hlnx hlny hng6 (by decide)]; rw [show zDuM (askT (gT q (gRl q))) (gNg q) 2 (gZ q) nx ny (gNg q * 16) = (bs, mo) from hq.symm], hK1⟩)
                              · skip
                                refine lv_iload hx hb dX11_duel_214 (lv_at hl 6 rfl) ?_
                                refine lv_goto (tgt := 221) hx hb dX11_duel_216 (by decide) ?_
                                exact m_iret S hr hlk hW dX11_duel_221 (by rw [show k = gNg q * 16 by omega] at hq; exact ⟨by simp only [aDuel, if_pos w_3, hcx, if_pos w_8, hcy, if_neg hxy, if_pos w_14, if_pos w_19, hct, if_pos c_55]; rw [show zDuel (gAsk q) (gNg q) 2 (gZ q) nx ny = _ from zDuM_eq hZ.ok (hI.tx _ htn.2.2.2).2 hne5 hlnx hlny hng6 (by decide)]; rw [show zDuM (askT (gT q (gRl q))) (gNg q) 2 (gZ q) nx ny (gNg q * 16) = (bs, mo) from hq.symm], hK1⟩)
                            · skip
                              have c_54 : ¬ (16 * (gNg q)) ≤ k := mt (nI_leI (by omega) (by omega)).mpr c_54
                              have hg16 : k / 16 < gNg q := by omega
                              have hp16 : k % 16 < 16 := Nat.mod_lt _ (by decide)
                              refine lv_aload_n hx hb dX11_duel_81 rfl (lv_at hl 0 rfl) ?_
                              refine lv_iload_n hx hb dX11_duel_82 rfl (lv_at hl 1 rfl) ?_
                              refine m_top (y := nI nx) hnx ?_
                              refine lv_iload hx hb dX11_duel_83 (lv_at hl 7 rfl) ?_
                              refine lv_bipush (v := nI 16) hx hb dX11_duel_85 (by decide) ?_
                              refine lv_idiv hx hb dX11_duel_87 (by decide) ?_
                              refine m_top (y := nI (k / 16)) (pk_div (by omega) (by omega) (by omega)) ?_
                              refine lv_iload hx hb dX11_duel_88 (lv_at hl 7 rfl) ?_
                              refine lv_bipush (v := nI 16) hx hb dX11_duel_90 (by decide) ?_
                              refine lv_irem hx hb dX11_duel_92 (by decide) ?_
                              refine m_top (y := nI (k % 16)) (pk_rem (by omega) (by omega) (by omega)) ?_
                              refine m_cip (m_rV S hW (c_X11_canBe l G ad sh V1 (gZ q) (gNe q) (gNg q) (gRl q) (gT q (gRl q)) nx (k / 16) (k % 16) hZ1 (by first | assumption | omega) hg16 hp16) (cwV 3 hts (gCall [.methodLink RX11 216 yX11_canBe, .instanceMethod yX11_canBe, .selects RX11 yX11_canBe yX11_canBe, .initialized RX11] (List.forall_mem_cons.mpr ⟨(wa_29 _ (List.mem_of_getElem? (i := 19) (by decide +kernel))), (List.forall_mem_cons.mpr ⟨(wa_29 _ (List.mem_of_getElem? (i := 16) (by decide +kernel))), (List.forall_mem_cons.mpr ⟨(wa_29 _ (List.mem_of_getElem? (i := 17) (by decide +kernel))), (List.forall_mem_cons.mpr ⟨(wa_29 _ (List.mem_of_getElem? (i := 18) (by decide +kernel))), (List.forall_mem_cons.mpr ⟨(wa_1 _ (List.mem_of_getElem? (i := 5) (by decide +kernel))), (fun _ h => absurd h List.not_mem_nil)⟩)⟩)⟩)⟩)⟩)) rfl rfl rfl (by decide +kernel) ⟨Nat.le_of_ble_eq_true rfl, Nat.le_of_ble_eq_true rfl⟩) hZ.sp.1 kX11 rfl hl.1 rfl (Nat.le_of_ble_eq_true rfl) dX11_duel_93 ⟨Nat.le_of_ble_eq_true rfl, Nat.le_of_ble_eq_true rfl⟩) hW (fun r_57 H locs hp_56 hW => ?_)
                              rcases hp_56 with ⟨rfl, w_58⟩ | ⟨rfl, w_59⟩
                              · skip
                                refine m_if_eq (tgt := 203) hx hb dX11_duel_96 (by decide) (fun c_60 => ?_) (fun c_60 => ?_)
                                · exact absurd c_60 (by decide)
                                · skip
                                  refine lv_aload_n hx hb dX11_duel_99 rfl (lv_at hl 0 rfl) ?_
                                  refine m_cv (m_rV S hW (c_X11_keeps l G ad sh V1 hZ.sp) (cwV 0 hts (gCall [.methodLink RX11 222 yX11_keeps, .instanceMethod yX11_keeps, .selects RX11 yX11_keeps yX11_keeps, .initialized RX11] (List.forall_mem_cons.mpr ⟨(wa_32 _ (List.mem_of_getElem? (i := 17) (by decide +kernel))), (List.forall_mem_cons.mpr ⟨(wa_32 _ (List.mem_of_getElem? (i := 14) (by decide +kernel))), (List.forall_mem_cons.mpr ⟨(wa_32 _ (List.mem_of_getElem? (i := 15) (by decide +kernel))), (List.forall_mem_cons.mpr ⟨(wa_32 _ (List.mem_of_getElem? (i := 16) (by decide +kernel))), (List.forall_mem_cons.mpr ⟨(wa_1 _ (List.mem_of_getElem? (i := 5) (by decide +kernel))), (fun _ h => absurd h List.not_mem_nil)⟩)⟩)⟩)⟩)⟩)) rfl rfl rfl (by decide +kernel) ⟨Nat.le_of_ble_eq_true rfl, Nat.le_of_ble_eq_true rfl⟩) hZ.sp.1 kX11 rfl hl.1 rfl (Nat.le_of_ble_eq_true rfl) dX11_duel_100 ⟨Nat.le_of_ble_eq_true rfl, Nat.le_of_ble_eq_true rfl⟩) hW (fun V_61 H locs hp_62 hW => ?_)
                                  have hk_64 := hp_62
                                  refine lv_aload_n hx hb dX11_duel_103 rfl (lv_at hl 0 rfl) ?_
                                  refine lv_iload_n hx hb dX11_duel_104 rfl (lv_at hl 1 rfl) ?_
                                  refine m_top (y := nI nx) hnx ?_
                                  refine lv_iload hx hb dX11_duel_105 (lv_at hl 7 rfl) ?_
                                  refine lv_bipush (v := nI 16) hx hb dX11_duel_107 (by decide) ?_
                                  refine lv_idiv hx hb dX11_duel_109 (by decide) ?_
                                  refine m_top (y := nI (k / 16)) (pk_div (by omega) (by omega) (by omega)) ?_
                                  refine lv_iload hx hb dX11_duel_110 (lv_at hl 7 rfl) ?_
                                  refine lv_bipush (v := nI 16) hx hb dX11_duel_112 (by decide) ?_
                                  refine lv_irem hx hb dX11_duel_114 (by decide) ?_
                                  refine m_top (y := nI (k % 16)) (pk_rem (by omega) (by omega) (by omega)) ?_
                                  refine m_ci (m_rV S hW (c_X11_bites l G ad sh V_61 (gZ q) (gNe q) (gNg q) (gRl q) (gT q (gRl q)) nx (k / 16) (k % 16) (hZ1.k ⟨fun a _ _ _ a9 _ => hk_64.1 a a9, fun k _ => by rw [hk_64.1 201 (by decide)], fun k _ => by rw [hk_64.1 204 (by decide)], fun k _ _ _ => by rw [hk_64.1 200 (by decide)]⟩) (by first | assumption | omega) hg16 hp16 w_58) (cwV 3 hts (gCall [.methodLink RX11 210 yX11_bites, .instanceMethod yX11_bites, .selects RX11 yX11_bites yX11_bites, .initialized RX11] (List.forall_mem_cons.mpr ⟨(wa_28 _ (List.mem_of_getElem? (i := 11) (by decide +kernel))), (List.forall_mem_cons.mpr ⟨(wa_28 _ (List.mem_of_getElem? (i := 8) (by decide +kernel))), (List.forall_mem_cons.mpr ⟨(wa_28 _ (List.mem_of_getElem? (i := 9) (by decide +kernel))), (List.forall_mem_cons.mpr ⟨(wa_28 _ (List.mem_of_getElem? (i := 10) (by decide +kernel))), (List.forall_mem_cons.mpr ⟨(wa_1 _ (List.mem_of_getElem? (i := 5) (by decide +kernel))), (fun _ h => absurd h List.not_mem_nil)⟩)⟩)⟩)⟩)⟩)) rfl rfl rfl (by decide +kernel) ⟨Nat.le_of_ble_eq_true rfl, Nat.le_of_ble_eq_true rfl⟩) hZ.sp.1 kX11 rfl hl.1 rfl (Nat.le_of_ble_eq_true rfl) dX11_duel_115 ⟨Nat.le_of_ble_eq_true rfl, Nat.le_of_ble_eq_true rfl⟩) hW (fun r_67 V_65 H locs hp_66 hW => ?_)
                                  obtain ⟨rfl, hZ_68, hB_69⟩ := hp_66
                                  refine lv_istore (lv' := [(8, .int (zGa (askT (gT q (gRl q))) (gZ q) nx (k / 16) (k % 16))), (0, .ref (ad 200)), (1, .int x), (2, .int y), (3, .int tn), (4, .int w), (5, .int bs), (6, .int mo), (7, .int (nI k))]) hx hb dX11_duel_118 hl (by decide) rfl (fun ls hl => ?_)
                                  refine lv_iload hx hb dX11_duel_120 (lv_at hl 0 rfl) ?_
                                  refine lv_iload_n hx hb dX11_duel_122 rfl (lv_at hl 4 rfl) ?_
                                  refine m_top (y := nI 2) (by rw [hntn, h0t]) ?_
                                  refine lv_iconst (v := nI 1) hx hb dX11_duel_123 (by decide) ?_
                                  refine lv_icmp_ne (tgt := 131) hx hb dX11_duel_124 (by decide) (fun c_70 => ?_) (fun c_70 => ?_)
                                  · skip
                                    refine lv_aload_n hx hb dX11_duel_131 rfl (lv_at hl 1 rfl) ?_
                                    refine lv_iload_n hx hb dX11_duel_132 rfl (lv_at hl 3 rfl) ?_
                                    refine m_top (y := nI ny) hny ?_
                                    refine m_cie (m_rV S hW (c_X11_duelOne l G ad sh V_65 (zBi (askT (gT q (gRl q))) (gZ q) nx (k / 16) (k % 16)) (gNe q) (gNg q) (gRl q) (gT q (gRl q)) ny hZ_68 (by first | assumption | omega)) (cwV 1 hts (gCall [.methodLink RX11 236 yX11_duelOne, .instanceMethod yX11_duelOne, .selects RX11 yX11_duelOne yX11_duelOne, .initialized RX11] (List.forall_mem_cons.mpr ⟨(wa_34 _ (List.mem_of_getElem? (i := 4) (by decide +kernel))), (List.forall_mem_cons.mpr ⟨(wa_34 _ (List.mem_of_getElem? (i := 1) (by decide +kernel))), (List.forall_mem_cons.mpr ⟨(wa_34 _ (List.mem_of_getElem? (i := 2) (by decide +kernel))), (List.forall_mem_cons.mpr ⟨(wa_34 _ (List.mem_of_getElem? (i := 3) (by decide +kernel))), (List.forall_mem_cons.mpr ⟨(wa_1 _ (List.mem_of_getElem? (i := 5) (by decide +kernel))), (fun _ h => absurd h List.not_mem_nil)⟩)⟩)⟩)⟩)⟩)) rfl rfl rfl (by decide +kernel) ⟨Nat.le_of_ble_eq_true rfl, Nat.le_of_ble_eq_true rfl⟩) hZ.sp.1 kX11 rfl hl.1 rfl (Nat.le_of_ble_eq_true rfl) dX11_duel_133 ⟨Nat.le_of_ble_eq_true rfl, Nat.le_of_ble_eq_true rfl⟩) hW (fun H locs hW => ?_)
                                    refine lv_isub hx hb dX11_duel_136 ?_
                                    refine m_top (y := (zGa (gAsk q) (gZ q) nx (k / 16) (k % 16) - (if 2 = 1 then nI 0 else (zOneF (gAsk q) (zBi (gAsk q) (gZ q) nx (k / 16) (k % 16)) ny (gNg q * 16)).2))) (by rw [if_neg (show ¬ (2 : Nat) = 1 by decide)]; rfl) ?_
                                    refine lv_istore (lv' := [(8, .int (zGa (gAsk q) (gZ q) nx (k / 16) (k % 16) - (if 2 = 1 then nI 0 else (zOneF (gAsk q) (zBi (gAsk q) (gZ q) nx (k / 16) (k % 16)) ny (gNg q * 16)).2))), (0, .ref (ad 200)), (1, .int x), (2, .int y), (3, .int tn), (4, .int w), (5, .int bs), (6, .int mo), (7, .int (nI k))]) hx hb dX11_duel_137 hl (by decide) rfl (fun ls hl => ?_)
                                    refine lv_aload_n hx hb dX11_duel_139 rfl (lv_at hl 1 rfl) ?_
                                    refine m_cv (m_rV S hW (c_X11_laysBack l G ad sh V_65 hZ.sp) (cwV 0 hts (gCall [.methodLink RX11 225 yX11_laysBack, .instanceMethod yX11_laysBack, .selects RX11 yX11_laysBack yX11_laysBack, .initialized RX11] (List.forall_mem_cons.mpr ⟨(wa_32 _ (List.mem_of_getElem? (i := 21) (by decide +kernel))), (List.forall_mem_cons.mpr ⟨(wa_32 _ (List.mem_of_getElem? (i := 18) (by decide +kernel))), (List.forall_mem_cons.mpr ⟨(wa_32 _ (List.mem_of_getElem? (i := 19) (by decide +kernel))), (List.forall_mem_cons.mpr ⟨(wa_32 _ (List.mem_of_getElem? (i := 20) (by decide +kernel))), (List.forall_mem_cons.mpr ⟨(wa_1 _ (List.mem_of_getElem? (i := 5) (by decide +kernel))), (fun _ h => absurd h List.not_mem_nil)⟩)⟩)⟩)⟩)⟩)) rfl rfl rfl (by decide +kernel) ⟨Nat.le_of_ble_eq_true rfl, Nat.le_of_ble_eq_true rfl⟩) hZ.sp.1 kX11 rfl hl.1 rfl (Nat.le_of_ble_eq_true rfl) dX11_duel_140 ⟨Nat.le_of_ble_eq_true rfl, Nat.le_of_ble_eq_true rfl⟩) hW (fun V_71 H locs hp_72 hW => ?_)
                                    have hl9_74 := hp_72
                                    refine lv_iload hx hb dX11_duel_143 (lv_at hl 6 rfl) ?_
                                    refine lv_iconst (v := -1) hx hb dX11_duel_145 (by decide) ?_
                                    refine lv_icmp_eq (tgt := 156) hx hb dX11_duel_146 (by decide) (fun c_75 => ?_) (fun c_75 => ?_)
                                    · skip
                                      refine lv_iconst (v := nI 1) hx hb dX11_duel_156 (by decide) ?_
                                      refine lv_goto (tgt := 161) hx hb dX11_duel_157 (by decide) ?_
                                      refine lv_istore (lv' := [(9, .int (nI 1)), (8, .int (zGa (gAsk q) (gZ q) nx (k / 16) (k % 16) - (if 2 = 1 then nI 0 else (zOneF (gAsk q) (zBi (gAsk q) (gZ q) nx (k / 16) (k % 16)) ny (gNg q * 16)).2))), (0, .ref (ad 200)), (1, .int x), (2, .int y), (3, .int tn), (4, .int w), (5, .int bs), (6, .int mo), (7, .int (nI k))]) hx hb dX11_duel_161 hl (by decide) rfl (fun ls hl => ?_)
                                      refine lv_iload hx hb dX11_duel_163 (lv_at hl 0 rfl) ?_
                                      refine m_if_eq (tgt := 185) hx hb dX11_duel_165 (by decide) (fun c_76 => ?_) (fun c_76 => ?_)
                                      · exact absurd c_76 (by decide)
                                      · skip
                                        refine lv_bipush (v := nI 100) hx hb dX11_duel_168 (by decide) ?_
                                        refine lv_iload hx hb dX11_duel_170 (lv_at hl 9 rfl) ?_
                                        refine lv_bipush (v := nI 16) hx hb dX11_duel_172 (by decide) ?_
                                        refine lv_idiv hx hb dX11_duel_174 (by decide) ?_
                                        refine m_top (y := nI (k / 16)) (pk_div (by omega) (by omega) (by omega)) ?_
                                        refine lv_imul hx hb dX11_duel_175 ?_
                                        refine m_top (y := nI (100 * (k / 16))) (pk_mul 100 (k / 16)) ?_
                                        refine lv_iload hx hb dX11_duel_176 (lv_at hl 9 rfl) ?_
                                        refine lv_bipush (v := nI 16) hx hb dX11_duel_178 (by decide) ?_
                                        refine lv_irem hx hb dX11_duel_180 (by decide) ?_
                                        refine m_top (y := nI (k % 16)) (pk_rem (by omega) (by omega) (by omega)) ?_
                                        refine lv_iadd hx hb dX11_duel_181 ?_
                                        refine m_top (y := nI ((100 * (k / 16)) + (k % 16))) (nI_add (100 * (k / 16)) (k % 16)) ?_
                                        refine lv_goto (tgt := 187) hx hb dX11_duel_182 (by decide) ?_
                                        refine lv_istore (lv' := [(5, .int (nI ((100 * (k / 16)) + (k % 16)))), (9, .int (nI 1)), (8, .int (zGa (gAsk q) (gZ q) nx (k / 16) (k % 16) - (if 2 = 1 then nI 0 else (zOneF (gAsk q) (zBi (gAsk q) (gZ q) nx (k / 16) (k % 16)) ny (gNg q * 16)).2))), (0, .ref (ad 200)), (1, .int x), (2, .int y), (3, .int tn), (4, .int w), (6, .int mo), (7, .int (nI k))]) hx hb dX11_duel_187 hl (by decide) rfl (fun ls hl => ?_)
                                        refine lv_iload hx hb dX11_duel_189 (lv_at hl 1 rfl) ?_
                                        refine m_if_eq (tgt := 199) hx hb dX11_duel_191 (by decide) (fun c_77 => ?_) (fun c_77 => ?_)
                                        · exact absurd c_77 (by decide)
                                        · skip
                                          refine lv_iload hx hb dX11_duel_194 (lv_at hl 2 rfl) ?_
                                          refine lv_goto (tgt := 201) hx hb dX11_duel_196 (by decide) ?_
                                          refine lv_istore (lv' := [(6, .int (zGa (gAsk q) (gZ q) nx (k / 16) (k % 16) - (if 2 = 1 then nI 0 else (zOneF (gAsk q) (zBi (gAsk q) (gZ q) nx (k / 16) (k % 16)) ny (gNg q * 16)).2))), (5, .int (nI ((100 * (k / 16)) + (k % 16)))), (9, .int (nI 1)), (8, .int (zGa (gAsk q) (gZ q) nx (k / 16) (k % 16) - (if 2 = 1 then nI 0 else (zOneF (gAsk q) (zBi (gAsk q) (gZ q) nx (k / 16) (k % 16)) ny (gNg q * 16)).2))), (0, .ref (ad 200)), (1, .int x), (2, .int y), (3, .int tn), (4, .int w), (7, .int (nI k))]) hx hb dX11_duel_201 hl (by decide) rfl (fun ls hl => ?_)
                                          refine lv_iinc (v := nI (k + 1)) (lv' := [(7, .int (nI (k + 1))), (6, .int (zGa (gAsk q) (gZ q) nx (k / 16) (k % 16) - (if 2 = 1 then nI 0 else (zOneF (gAsk q) (zBi (gAsk q) (gZ q) nx (k / 16) (k % 16)) ny (gNg q * 16)).2))), (5, .int (nI ((100 * (k / 16)) + (k % 16)))), (9, .int (nI 1)), (8, .int (zGa (gAsk q) (gZ q) nx (k / 16) (k % 16) - (if 2 = 1 then nI 0 else (zOneF (gAsk q) (zBi (gAsk q) (gZ q) nx (k / 16) (k % 16)) ny (gNg q * 16)).2))), (0, .ref (ad 200)), (1, .int x), (2, .int y), (3, .int tn), (4, .int w)]) hx hb dX11_duel_203 hl (k := 9) rfl (m_inc k 1) (by decide) rfl (fun ls hl => ?_)
                                          refine lv_goto (tgt := 69) hx hb dX11_duel_206 (by decide) ?_
                                          exact ih_69  (nI ((100 * (k / 16)) + (k % 16))) (zGa (gAsk q) (gZ q) nx (k / 16) (k % 16) - (if 2 = 1 then nI 0 else (zOneF (gAsk q) (zBi (gAsk q) (gZ q) nx (k / 16) (k % 16)) ny (gNg q * 16)).2)) (k + 1) V_71 _ _ _ (by omega) (by exact hK1.trans (MK.back hk_64 hB_69 hl9_74)) (by rw [zDuM_s hq (show zCan (gAsk q) (gZ q) nx (k / 16) (k % 16) from w_58), if_pos (Or.inl c_75)]) (by omega) hW (lv_sub hl [5, 6, 7, 8, 9, 2, 1, 0] rfl)
                                    · skip
                                      refine lv_iload hx hb dX11_duel_149 (lv_at hl 0 rfl) ?_
                                      refine lv_iload hx hb dX11_duel_151 (lv_at hl 7 rfl) ?_
                                      refine lv_icmp_le (tgt := 160) hx hb dX11_duel_153 (by decide) (fun c_78 => ?_) (fun c_78 => ?_)
                                      · skip
                                        refine lv_iconst (v := nI 0) hx hb dX11_duel_160 (by decide) ?_
                                        refine lv_istore (lv' := [(9, .int (nI 0)), (8, .int (zGa (gAsk q) (gZ q) nx (k / 16) (k % 16) - (if 2 = 1 then nI 0 else (zOneF (gAsk q) (zBi (gAsk q) (gZ q) nx (k / 16) (k % 16)) ny (gNg q * 16)).2))), (0, .ref (ad 200)), (1, .int x), (2, .int y), (3, .int tn), (4, .int w), (5, .int bs), (6, .int mo), (7, .int (nI k))]) hx hb dX11_duel_161 hl (by decide) rfl (fun ls hl => ?_)
                                        refine lv_iload hx hb dX11_duel_163 (lv_at hl 0 rfl) ?_
                                        refine m_if_eq (tgt := 185) hx hb dX11_duel_165 (by decide) (fun c_79 => ?_) (fun c_79 => ?_)
                                        · skip
                                          refine lv_iload hx hb dX11_duel_185 (lv_at hl 7 rfl) ?_
                                          refine lv_istore (lv' := [(5, .int bs), (9, .int (nI 0)), (8, .int (zGa (gAsk q) (gZ q) nx (k / 16) (k % 16) - (if 2 = 1 then nI 0 else (zOneF (gAsk q) (zBi (gAsk q) (gZ q) nx (k / 16) (k % 16)) ny (gNg q * 16)).2))), (0, .ref (ad 200)), (1, .int x), (2, .int y), (3, .int tn), (4, .int w), (6, .int mo), (7, .int (nI k))]) hx hb dX11_duel_187 hl (by decide) rfl (fun ls hl => ?_)
                                          refine lv_iload hx hb dX11_duel_189 (lv_at hl 1 rfl) ?_
                                          refine m_if_eq (tgt := 199) hx hb dX11_duel_191 (by decide) (fun c_80 => ?_) (fun c_80 => ?_)
                                          · skip
                                            refine lv_iload hx hb dX11_duel_199 (lv_at hl 8 rfl) ?_
                                            refine lv_istore (lv' := [(6, .int mo), (5, .int bs), (9, .int (nI 0)), (8, .int (zGa (gAsk q) (gZ q) nx (k / 16) (k % 16) - (if 2 = 1 then nI 0 else (zOneF (gAsk q) (zBi (gAsk q) (gZ q) nx (k / 16) (k % 16)) ny (gNg q * 16)).2))), (0, .ref (ad 200)), (1, .int x), (2, .int y), (3, .int tn), (4, .int w), (7, .int (nI k))]) hx hb dX11_duel_201 hl (by decide) rfl (fun ls hl => ?_)
                                            refine lv_iinc (v := nI (k + 1)) (lv' := [(7, .int (nI (k + 1))), (6, .int mo), (5, .int bs), (9, .int (nI 0)), (8, .int (zGa (gAsk q) (gZ q) nx (k / 16) (k % 16) - (if 2 = 1 then nI 0 else (zOneF (gAsk q) (zBi (gAsk q) (gZ q) nx (k / 16) (k % 16)) ny (gNg q * 16)).2))), (0, .ref (ad 200)), (1, .int x), (2, .int y), (3, .int tn), (4, .int w)]) hx hb dX11_duel_203 hl (k := 9) rfl (m_inc k 1) (by decide) rfl (fun ls hl => ?_)
                                            refine lv_goto (tgt := 69) hx hb dX11_duel_206 (by decide) ?_
                                            exact ih_69  bs mo (k + 1) V_71 _ _ _ (by omega) (by exact hK1.trans (MK.back hk_64 hB_69 hl9_74)) (by rw [zDuM_s hq (show zCan (gAsk q) (gZ q) nx (k / 16) (k % 16) from w_58), if_neg (fun z => z.elim (fun y => c_75 y) (fun y => absurd y (Int32.not_lt.mpr c_78)))]) (by omega) hW (lv_sub hl [5, 6, 7, 8, 9, 2, 1, 0] rfl)
                                          · exact absurd c_80 (by decide)
                                        · exact absurd c_79 (by decide)
                                      · skip
                                        refine lv_iconst (v := nI 1) hx hb dX11_duel_156 (by decide) ?_
                                        refine lv_goto (tgt := 161) hx hb dX11_duel_157 (by decide) ?_
                                        refine lv_istore (lv' := [(9, .int (nI 1)), (8, .int (zGa (gAsk q) (gZ q) nx (k / 16) (k % 16) - (if 2 = 1 then nI 0 else (zOneF (gAsk q) (zBi (gAsk q) (gZ q) nx (k / 16) (k % 16)) ny (gNg q * 16)).2))), (0, .ref (ad 200)), (1, .int x), (2, .int y), (3, .int tn), (4, .int w), (5, .int bs), (6, .int mo), (7, .int (nI k))]) hx hb dX11_duel_161 hl (by decide) rfl (fun ls hl => ?_)
                                        refine lv_iload hx hb dX11_duel_163 (lv_at hl 0 rfl) ?_
                                        refine m_if_eq (tgt := 185) hx hb dX11_duel_165 (by decide) (fun c_81 => ?_) (fun c_81 => ?_)
                                        · exact absurd c_81 (by decide)
                                        · skip
                                          refine lv_bipush (v := nI 100) hx hb dX11_duel_168 (by decide) ?_
                                          refine lv_iload hx hb dX11_duel_170 (lv_at hl 9 rfl) ?_
                                          refine lv_bipush (v := nI 16) hx hb dX11_duel_172 (by decide) ?_
                                          refine lv_idiv hx hb dX11_duel_174 (by decide) ?_
                                          refine m_top (y := nI (k / 16)) (pk_div (by omega) (by omega) (by omega)) ?_
                                          refine lv_imul hx hb dX11_duel_175 ?_
                                          refine m_top (y := nI (100 * (k / 16))) (pk_mul 100 (k / 16)) ?_
                                          refine lv_iload hx hb dX11_duel_176 (lv_at hl 9 rfl) ?_
                                          refine lv_bipush (v := nI 16) hx hb dX11_duel_178 (by decide) ?_
                                          refine lv_irem hx hb dX11_duel_180 (by decide) ?_
                                          refine m_top (y := nI (k % 16)) (pk_rem (by omega) (by omega) (by omega)) ?_
                                          refine lv_iadd hx hb dX11_duel_181 ?_
                                          refine m_top (y := nI ((100 * (k / 16)) + (k % 16))) (nI_add (100 * (k / 16)) (k % 16)) ?_
                                          refine lv_goto (tgt := 187) hx hb dX11_duel_182 (by decide) ?_
                                          refine lv_istore (lv' := [(5, .int (nI ((100 * (k / 16)) + (k % 16)))), (9, .int (nI 1)), (8, .int (zGa (gAsk q) (gZ q) nx (k / 16) (k % 16) - (if 2 = 1 then nI 0 else (zOneF (gAsk q) (zBi (gAsk q) (gZ q) nx (k / 16) (k % 16)) ny (gNg q * 16)).2))), (0, .ref (ad 200)), (1, .int x), (2, .int y), (3, .int tn), (4, .int w), (6, .int mo), (7, .int (nI k))]) hx hb dX11_duel_187 hl (by decide) rfl (fun ls hl => ?_)
                                          refine lv_iload hx hb dX11_duel_189 (lv_at hl 1 rfl) ?_
                                          refine m_if_eq (tgt := 199) hx hb dX11_duel_191 (by decide) (fun c_82 => ?_) (fun c_82 => ?_)
                                          · exact absurd c_82 (by decide)
                                          · skip
                                            refine lv_iload hx hb dX11_duel_194 (lv_at hl 2 rfl) ?_
                                            refine lv_goto (tgt := 201) hx hb dX11_duel_196 (by decide) ?_
                                            refine lv_istore (lv' := [(6, .int (zGa (gAsk q) (gZ q) nx (k / 16) (k % 16) - (if 2 = 1 then nI 0 else (zOneF (gAsk q) (zBi (gAsk q) (gZ q) nx (k / 16) (k % 16)) ny (gNg q * 16)).2))), (5, .int (nI ((100 * (k / 16)) + (k % 16)))), (9, .int (nI 1)), (8, .int (zGa (gAsk q) (gZ q) nx (k / 16) (k % 16) - (if 2 = 1 then nI 0 else (zOneF (gAsk q) (zBi (gAsk q) (gZ q) nx (k / 16) (k % 16)) ny (gNg q * 16)).2))), (0, .ref (ad 200)), (1, .int x), (2, .int y), (3, .int tn), (4, .int w), (7, .int (nI k))]) hx hb dX11_duel_201 hl (by decide) rfl (fun ls hl => ?_)
                                            refine lv_iinc (v := nI (k + 1)) (lv' := [(7, .int (nI (k + 1))), (6, .int (zGa (gAsk q) (gZ q) nx (k / 16) (k % 16) - (if 2 = 1 then nI 0 else (zOneF (gAsk q) (zBi (gAsk q) (gZ q) nx (k / 16) (k % 16)) ny (gNg q * 16)).2))), (5, .int (nI ((100 * (k / 16)) + (k % 16)))), (9, .int (nI 1)), (8, .int (zGa (gAsk q) (gZ q) nx (k / 16) (k % 16) - (if 2 = 1 then nI 0 else (zOneF (gAsk q) (zBi (gAsk q) (gZ q) nx (k / 16) (k % 16)) ny (gNg q * 16)).2))), (0, .ref (ad 200)), (1, .int x), (2, .int y), (3, .int tn), (4, .int w)]) hx hb dX11_duel_203 hl (k := 9) rfl (m_inc k 1) (by decide) rfl (fun ls hl => ?_)
                                            refine lv_goto (tgt := 69) hx hb dX11_duel_206 (by decide) ?_
                                            exact ih_69  (nI ((100 * (k / 16)) + (k % 16))) (zGa (gAsk q) (gZ q) nx (k / 16) (k % 16) - (if 2 = 1 then nI 0 else (zOneF (gAsk q) (zBi (gAsk q) (gZ q) nx (k / 16) (k % 16)) ny (gNg q * 16)).2)) (k + 1) V_71 _ _ _ (by omega) (by exact hK1.trans (MK.back hk_64 hB_69 hl9_74)) (by rw [zDuM_s hq (show zCan (gAsk q) (gZ q) nx (k / 16) (k % 16) from w_58), if_pos (Or.inr (Int32.not_le.mp c_78))]) (by omega) hW (lv_sub hl [5, 6, 7, 8, 9, 2, 1, 0] rfl)
                                  · exact absurd c_70 (by decide)
                              · skip
                                refine m_if_eq (tgt := 203) hx hb dX11_duel_96 (by decide) (fun c_83 => ?_) (fun c_83 => ?_)
                                · skip
                                  refine lv_iinc (v := nI (k + 1)) (lv' := [(7, .int (nI (k + 1))), (0, .ref (ad 200)), (1, .int x), (2, .int y), (3, .int tn), (4, .int w), (5, .int bs), (6, .int mo)]) hx hb dX11_duel_203 hl (k := 7) rfl (m_inc k 1) (by decide) rfl (fun ls hl => ?_)
                                  refine lv_goto (tgt := 69) hx hb dX11_duel_206 (by decide) ?_
                                  exact ih_69  bs mo (k + 1) V1 _ _ _ (by omega) (by exact hK1) (by exact zDuM_n hq (show ¬ zCan (gAsk q) (gZ q) nx (k / 16) (k % 16) from w_59)) (by omega) hW (lv_sub hl [1, 2, 3, 4, 5, 6, 7, 0] rfl)
                                · exact absurd c_83 (by decide)
                        exact loop_69 (16 * gNg q - 0 + 1) (-1) (-((zOneF (askT (gT q (gRl q))) (gZ q) ny ((gNg q) * 16)).2)) 0 V _ _ _ (by omega) (by exact MK.rfl V) (by rw [zDuM, mF, if_neg (show ¬ (2 : Nat) = 1 by decide)] <;> rfl) (by omega) hW (lv_sub hl [3, 4, 5, 6, 7, 2, 1, 0] rfl)
                      · exact absurd c_53 (by decide)
                  · exact absurd c_21 (by decide)
                · skip
                  refine m_if_ne (tgt := 46) hx hb dX11_duel_40 (by decide) (fun c_84 => ?_) (fun c_84 => ?_)
                  · exact absurd c_84 (by decide)
                  · skip
                    refine lv_ldc (v := -1000007) hx hb hown (hts (.constant RX11 235 (-1000007)) (List.mem_cons_of_mem _ (wa_34 _ (List.mem_of_getElem? (i := 0) (by decide +kernel))))) dX11_duel_43 ?_
                    exact m_iret S hr hlk hW dX11_duel_45 (by exact ⟨by simp only [aDuel, if_pos w_3, hcx, if_pos w_8, hcy, if_neg hxy, if_pos w_14, hctn, if_neg w_20]; try rfl, MK.rfl V⟩)
            · skip
              refine m_if_eq (tgt := 43) hx hb dX11_duel_30 (by decide) (fun c_85 => ?_) (fun c_85 => ?_)
              · skip
                refine lv_ldc (v := -1000007) hx hb hown (hts (.constant RX11 235 (-1000007)) (List.mem_cons_of_mem _ (wa_34 _ (List.mem_of_getElem? (i := 0) (by decide +kernel))))) dX11_duel_43 ?_
                exact m_iret S hr hlk hW dX11_duel_45 (by exact ⟨by simp only [aDuel, if_pos w_3, hcx, if_pos w_8, hcy, if_neg hxy, if_neg w_15]; try rfl, MK.rfl V⟩)
              · exact absurd c_85 (by decide)
          · skip
            have c_11 : nx = ny := (nI_eq (by omega) (by omega)).mp c_11
            have hxy : x = y := by rw [hnx, hny, show nx = ny by omega]
            refine lv_ldc (v := -1000005) hx hb hown (hts (.constant RX11 234 (-1000005)) (List.mem_cons_of_mem _ (wa_33 _ (List.mem_of_getElem? (i := 23) (by decide +kernel))))) dX11_duel_21 ?_
            exact m_iret S hr hlk hW dX11_duel_23 (by exact ⟨by simp only [aDuel, if_pos w_3, if_pos w_8, if_pos hxy]; try rfl, MK.rfl V⟩)
      · skip
        refine m_if_eq (tgt := 21) hx hb dX11_duel_13 (by decide) (fun c_86 => ?_) (fun c_86 => ?_)
        · skip
          refine lv_ldc (v := -1000005) hx hb hown (hts (.constant RX11 234 (-1000005)) (List.mem_cons_of_mem _ (wa_33 _ (List.mem_of_getElem? (i := 23) (by decide +kernel))))) dX11_duel_21 ?_
          exact m_iret S hr hlk hW dX11_duel_23 (by exact ⟨by simp only [aDuel, if_pos w_3, hcx, if_neg w_9]; try rfl, MK.rfl V⟩)
        · exact absurd c_86 (by decide)
  · skip
    refine m_if_eq (tgt := 21) hx hb dX11_duel_5 (by decide) (fun c_87 => ?_) (fun c_87 => ?_)
    · skip
      refine lv_ldc (v := -1000005) hx hb hown (hts (.constant RX11 234 (-1000005)) (List.mem_cons_of_mem _ (wa_33 _ (List.mem_of_getElem? (i := 23) (by decide +kernel))))) dX11_duel_21 ?_
      exact m_iret S hr hlk hW dX11_duel_23 (by exact ⟨by simp only [aDuel, if_neg w_4]; try rfl, MK.rfl V⟩)
    · exact absurd c_87 (by decide)
set_option maxHeartbeats 4000000 in
set_option maxRecDepth 100000 in
theorem c_X11_orderly (l : Launch) (G : mG) (ad : Nat → Nat) (sh : Nat → Option mSh) (V : mV) (q : Sg) (w : Int32) (hI : MI sh V q) : mM l yX11_orderly wsX11_orderly ({ frames := 7, cells := 0, slots := 0, locals := 171 } : Room) G ad sh V [.ref (ad 200), .int w] 0 0 (mPi ad sh (fun r V' => (aOrderly q w) = r ∧ (MK V V'))) := by
  refine mM.of (cc := cX11_orderly) (maxL := 9) (ret := (some .int)) (by decide) rfl (Nat.le_of_ble_eq_true rfl) ?_
  intro p e s m below meth c S hr hlk hnm hW ls hl
  obtain ⟨hx, hb, hml, hown, hts⟩ := id S
  have hl : lv_has ls 9 [(0, .ref (ad 200)), (1, .int w)] := hl
  have hS0 : True := trivial
  have hZ := hI.z
  have hne5 := hZ.ne5
  have hng6 := hZ.ng6
  have htn := hI.tn
  refine lv_iload_n hx hb dX11_orderly_0 rfl (lv_at hl 1 rfl) ?_
  refine lv_iconst (v := nI 0) hx hb dX11_orderly_1 (by decide) ?_
  refine lv_iconst (v := nI 1) hx hb dX11_orderly_2 (by decide) ?_
  refine m_cip (m_rS S hW (c_X11_in l G ad sh V w 0 1 (by first | assumption | omega) (by first | assumption | omega)) (va_cwS 3 hts (gCall [.methodLink RX11 84 yX11_in, .static yX11_in, .initialized RX11] (List.forall_mem_cons.mpr ⟨(wa_12 _ (List.mem_of_getElem? (i := 16) (by decide +kernel))), (List.forall_mem_cons.mpr ⟨(wa_12 _ (List.mem_of_getElem? (i := 14) (by decide +kernel))), (List.forall_mem_cons.mpr ⟨(wa_12 _ (List.mem_of_getElem? (i := 15) (by decide +kernel))), (List.forall_mem_cons.mpr ⟨(wa_1 _ (List.mem_of_getElem? (i := 5) (by decide +kernel))), (fun _ h => absurd h List.not_mem_nil)⟩)⟩)⟩)⟩)) rfl rfl rfl (by decide +kernel) ⟨Nat.le_of_ble_eq_true rfl, Nat.le_of_ble_eq_true rfl⟩) rfl hl.1 rfl (Nat.le_of_ble_eq_true rfl) dX11_orderly_3 ⟨Nat.le_of_ble_eq_true rfl, Nat.le_of_ble_eq_true rfl⟩) hW (fun r_2 H locs hp_1 hW => ?_)
  rcases hp_1 with ⟨rfl, w_3⟩ | ⟨rfl, w_4⟩
  · skip
    refine m_if_ne (tgt := 12) hx hb dX11_orderly_6 (by decide) (fun c_5 => ?_) (fun c_5 => ?_)
    · skip
      refine lv_iconst (v := -1) hx hb dX11_orderly_12 (by decide) ?_
      refine lv_istore_n (lv' := [(2, .int (-1)), (0, .ref (ad 200)), (1, .int w)]) hx hb dX11_orderly_13 rfl hl (by decide) rfl (fun ls hl => ?_)
      refine lv_iconst (v := nI 0) hx hb dX11_orderly_14 (by decide) ?_
      refine lv_istore_n (lv' := [(3, .int (nI 0)), (2, .int (-1)), (0, .ref (ad 200)), (1, .int w)]) hx hb dX11_orderly_15 rfl hl (by decide) rfl (fun ls hl => ?_)
      by_cases hz0 : gNe q = 0
      · skip
        refine lv_aload_n hx hb dX11_orderly_16 rfl (lv_at hl 2 rfl) ?_
        refine m_geti S hW hZ.sp.1 2 rfl kX11 (iW11 _) (by decide) (List.mem_cons_of_mem _ (wa_15 _ (List.mem_of_getElem? (i := 0) (by decide +kernel)))) dX11_orderly_17 ?_
        refine m_top (y := nI (gNe q)) hI.z.ne_ ?_
        refine m_if_ne (tgt := 27) hx hb dX11_orderly_20 (by decide) (fun c_6 => ?_) (fun c_6 => ?_)
        · skip
          have c_6 : ¬ (gNe q) = 0 := mt (nI_eq (by omega) (by omega)).mpr c_6
          exfalso; omega
        · skip
          have c_6 : (gNe q) = 0 := (nI_eq (by omega) (by omega)).mp c_6
          refine lv_iconst (v := nI 0) hx hb dX11_orderly_23 (by decide) ?_
          refine lv_goto (tgt := 28) hx hb dX11_orderly_24 (by decide) ?_
          refine lv_istore (lv' := [(4, .int (nI 0)), (3, .int (nI 0)), (2, .int (-1)), (0, .ref (ad 200)), (1, .int w)]) hx hb dX11_orderly_28 hl (by decide) rfl (fun ls hl => ?_)
          refine lv_iconst (v := nI 0) hx hb dX11_orderly_30 (by decide) ?_
          refine lv_istore (lv' := [(5, .int (nI 0)), (4, .int (nI 0)), (3, .int (nI 0)), (2, .int (-1)), (0, .ref (ad 200)), (1, .int w)]) hx hb dX11_orderly_31 hl (by decide) rfl (fun ls hl => ?_)
          have loop_33 : ∀ (n_33 : Nat) (nb k0 : Nat) (H : Heap) (locs : List Loc) (ls : Array Slot), (k0 ≤ gNe q) → (nb = 0) → (gNe q - k0) < n_33 → mC (mA ad sh s.heap.size) s.heap s G ad sh V H locs → lv_has ls 9 [(3, .int (nI 0)), (2, .int (-1)), (0, .ref (ad 200)), (1, .int w), (4, .int (nI nb)), (5, .int (nI k0))] → W p l e ({ frames := 7, cells := 0, slots := 0, locals := 171 } : Room) s m ([.ref (ad 200), .int w] : List Value).toArray below meth c H locs 0 0 (MQ below (mPost G ad sh s.heap.size (mPi ad sh (fun r V' => (aOrderly q w) = r ∧ (MK V V')))) ([.ref (ad 200), .int w] : List Value).toArray s 0 0 (mA ad sh s.heap.size)) (F0 m 33 ls []) := by
            intro n_33
            induction n_33 with
            | zero => intro nb k0 H locs ls hk0 hnb hM_ hW hl; omega
            | succ n_33 ih_33 =>
              intro nb k0 H locs ls hk0 hnb hM_ hW hl
              refine lv_iload hx hb dX11_orderly_33 (lv_at hl 5 rfl) ?_
              refine lv_aload_n hx hb dX11_orderly_35 rfl (lv_at hl 2 rfl) ?_
              refine m_geti S hW hZ.sp.1 2 rfl kX11 (iW11 _) (by decide) (List.mem_cons_of_mem _ (wa_15 _ (List.mem_of_getElem? (i := 0) (by decide +kernel)))) dX11_orderly_36 ?_
              refine m_top (y := nI (gNe q)) hI.z.ne_ ?_
              refine lv_icmp_ge (tgt := 57) hx hb dX11_orderly_39 (by decide) (fun c_7 => ?_) (fun c_7 => ?_)
              · skip
                have c_7 : (gNe q) ≤ k0 := (nI_leI (by omega) (by omega)).mp c_7
                have hnbl : nb ≤ 3125 := by omega
                refine lv_iconst (v := nI 0) hx hb dX11_orderly_57 (by decide) ?_
                refine lv_istore (lv' := [(5, .int (nI 0)), (3, .int (nI 0)), (2, .int (-1)), (0, .ref (ad 200)), (1, .int w), (4, .int (nI nb))]) hx hb dX11_orderly_58 hl (by decide) rfl (fun ls hl => ?_)
                have loop_60 : ∀ (n_60 : Nat) (bs mo : Int32) (mm : Nat) (V1 : mV) (H : Heap) (locs : List Loc) (ls : Array Slot), (mm ≤ nb) → (MK V V1) → ((bs, mo) = ordF (gAsk q) (gNe q) (gNg q) (gZ q) mm) → (nb - mm) < n_60 → mC (mA ad sh s.heap.size) s.heap s G ad sh V1 H locs → lv_has ls 9 [(0, .ref (ad 200)), (1, .int w), (4, .int (nI nb)), (2, .int bs), (3, .int mo), (5, .int (nI mm))] → W p l e ({ frames := 7, cells := 0, slots := 0, locals := 171 } : Room) s m ([.ref (ad 200), .int w] : List Value).toArray below meth c H locs 0 0 (MQ below (mPost G ad sh s.heap.size (mPi ad sh (fun r V' => (aOrderly q w) = r ∧ (MK V V')))) ([.ref (ad 200), .int w] : List Value).toArray s 0 0 (mA ad sh s.heap.size)) (F0 m 60 ls []) := by
                  intro n_60
                  induction n_60 with
                  | zero => intro bs mo mm V1 H locs ls hk hK1 hq hM_ hW hl; omega
                  | succ n_60 ih_60 =>
                    intro bs mo mm V1 H locs ls hk hK1 hq hM_ hW hl
                    have hZ1 := hZ.k hK1
                    have hnb3 : nb ≤ 3125 := hnbl
                    refine lv_iload hx hb dX11_orderly_60 (lv_at hl 5 rfl) ?_
                    refine lv_iload hx hb dX11_orderly_62 (lv_at hl 2 rfl) ?_
                    refine lv_icmp_ge (tgt := 168) hx hb dX11_orderly_64 (by decide) (fun c_8 => ?_) (fun c_8 => ?_)
                    · skip
                      have c_8 : nb ≤ mm := (nI_leI (by omega) (by omega)).mp c_8
                      refine lv_iload_n hx hb dX11_orderly_168 rfl (lv_at hl 1 rfl) ?_
                      refine m_if_ne (tgt := 176) hx hb dX11_orderly_169 (by decide) (fun c_9 => ?_) (fun c_9 => ?_)
                      · skip
                        refine lv_iload_n hx hb dX11_orderly_176 rfl (lv_at hl 4 rfl) ?_
                        exact m_iret S hr hlk hW dX11_orderly_177 (by have hm0 : mm = 0 := (by omega); rw [hm0] at hq; exact ⟨by simp only [aOrderly, if_pos w_3, if_pos hz0, if_neg c_9]; first | exact congrArg Prod.fst hq.symm | exact congrArg Prod.snd hq.symm, hK1⟩)
                      · skip
                        refine lv_iload_n hx hb dX11_orderly_172 rfl (lv_at hl 3 rfl) ?_
                        refine lv_goto (tgt := 177) hx hb dX11_orderly_173 (by decide) ?_
                        exact m_iret S hr hlk hW dX11_orderly_177 (by have hm0 : mm = 0 := (by omega); rw [hm0] at hq; exact ⟨by simp only [aOrderly, if_pos w_3, if_pos hz0, if_pos c_9]; first | exact congrArg Prod.fst hq.symm | exact congrArg Prod.snd hq.symm, hK1⟩)
                    · skip
                      have c_8 : ¬ nb ≤ mm := mt (nI_leI (by omega) (by omega)).mpr c_8
                      refine lv_aload_n hx hb dX11_orderly_67 rfl (lv_at hl 0 rfl) ?_
                      refine lv_iload hx hb dX11_orderly_68 (lv_at hl 5 rfl) ?_
                      refine m_ci (m_rV S hW (c_X11_tells l G ad sh V1 (gZ q) (gNe q) (gNg q) (gRl q) (gT q (gRl q)) mm hZ1 (by omega)) (cwV 1 hts (gCall [.methodLink RX11 228 yX11_tells, .instanceMethod yX11_tells, .selects RX11 yX11_tells yX11_tells, .initialized RX11] (List.forall_mem_cons.mpr ⟨(wa_32 _ (List.mem_of_getElem? (i := 9) (by decide +kernel))), (List.forall_mem_cons.mpr ⟨(wa_32 _ (List.mem_of_getElem? (i := 6) (by decide +kernel))), (List.forall_mem_cons.mpr ⟨(wa_32 _ (List.mem_of_getElem? (i := 7) (by decide +kernel))), (List.forall_mem_cons.mpr ⟨(wa_32 _ (List.mem_of_getElem? (i := 8) (by decide +kernel))), (List.forall_mem_cons.mpr ⟨(wa_1 _ (List.mem_of_getElem? (i := 5) (by decide +kernel))), (fun _ h => absurd h List.not_mem_nil)⟩)⟩)⟩)⟩)⟩)) rfl rfl rfl (by decide +kernel) ⟨Nat.le_of_ble_eq_true rfl, Nat.le_of_ble_eq_true rfl⟩) hZ.sp.1 kX11 rfl hl.1 rfl (Nat.le_of_ble_eq_true rfl) dX11_orderly_70 ⟨Nat.le_of_ble_eq_true rfl, Nat.le_of_ble_eq_true rfl⟩) hW (fun r_12 V_10 H locs hp_11 hW => ?_)
                      rcases hp_11 with ⟨rfl, w_13, hf_14, ho_15⟩ | ⟨rfl, w_16, hf_17, ho_18⟩
                      · skip
                        refine m_if_eq (tgt := 162) hx hb dX11_orderly_73 (by decide) (fun c_19 => ?_) (fun c_19 => ?_)
                        · exact absurd c_19 (by decide)
                        · skip
                          refine lv_aload_n hx hb dX11_orderly_76 rfl (lv_at hl 0 rfl) ?_
                          refine m_ci (m_rV S hW (c_X11_gainsByOrder l G ad sh V_10 (gZ q) (gNe q) (gNg q) (gRl q) (gT q (gRl q)) (odO (gNe q) mm) (hZ1.k (MK.of220 hf_14)) (fun k hk => ⟨ho_15 k hk, dgt_lt (by omega)⟩)) (cwV 0 hts (gCall [.methodLink RX11 231 yX11_gainsByOrder, .instanceMethod yX11_gainsByOrder, .selects RX11 yX11_gainsByOrder yX11_gainsByOrder, .initialized RX11] (List.forall_mem_cons.mpr ⟨(wa_32 _ (List.mem_of_getElem? (i := 13) (by decide +kernel))), (List.forall_mem_cons.mpr ⟨(wa_32 _ (List.mem_of_getElem? (i := 10) (by decide +kernel))), (List.forall_mem_cons.mpr ⟨(wa_32 _ (List.mem_of_getElem? (i := 11) (by decide +kernel))), (List.forall_mem_cons.mpr ⟨(wa_32 _ (List.mem_of_getElem? (i := 12) (by decide +kernel))), (List.forall_mem_cons.mpr ⟨(wa_1 _ (List.mem_of_getElem? (i := 5) (by decide +kernel))), (fun _ h => absurd h List.not_mem_nil)⟩)⟩)⟩)⟩)⟩)) rfl rfl rfl (by decide +kernel) ⟨Nat.le_of_ble_eq_true rfl, Nat.le_of_ble_eq_true rfl⟩) hZ.sp.1 kX11 rfl hl.1 rfl (Nat.le_of_ble_eq_true rfl) dX11_orderly_77 ⟨Nat.le_of_ble_eq_true rfl, Nat.le_of_ble_eq_true rfl⟩) hW (fun r_22 V_20 H locs hp_21 hW => ?_)
                          obtain ⟨rfl, hK_23, h220_24⟩ := hp_21
                          refine m_top (y := (gnO (gAsk q) (gNg q) (gZ q) (odO (gNe q) mm) (gNe q)).2) rfl ?_
                          refine lv_istore (lv' := [(6, .int ((gnO (gAsk q) (gNg q) (gZ q) (odO (gNe q) mm) (gNe q)).2)), (0, .ref (ad 200)), (1, .int w), (4, .int (nI nb)), (2, .int bs), (3, .int mo), (5, .int (nI mm))]) hx hb dX11_orderly_80 hl (by decide) rfl (fun ls hl => ?_)
                          refine lv_iconst (v := nI 0) hx hb dX11_orderly_82 (by decide) ?_
                          refine lv_istore (lv' := [(7, .int (nI 0)), (6, .int ((gnO (gAsk q) (gNg q) (gZ q) (odO (gNe q) mm) (gNe q)).2)), (0, .ref (ad 200)), (1, .int w), (4, .int (nI nb)), (2, .int bs), (3, .int mo), (5, .int (nI mm))]) hx hb dX11_orderly_83 hl (by decide) rfl (fun ls hl => ?_)
                          refine lv_iconst (v := nI 0) hx hb dX11_orderly_85 (by decide) ?_
                          refine lv_istore (lv' := [(8, .int (nI 0)), (7, .int (nI 0)), (6, .int ((gnO (gAsk q) (gNg q) (gZ q) (odO (gNe q) mm) (gNe q)).2)), (0, .ref (ad 200)), (1, .int w), (4, .int (nI nb)), (2, .int bs), (3, .int mo), (5, .int (nI mm))]) hx hb dX11_orderly_86 hl (by decide) rfl (fun ls hl => ?_)
                          have loop_88 : ∀ (n_88 : Nat) (dg kd : Nat) (H : Heap) (locs : List Loc) (ls : Array Slot), (kd ≤ gNe q) → (dg = digO (odO (gNe q) mm) kd) → (gNe q - kd) < n_88 → mC (mA ad sh s.heap.size) s.heap s G ad sh V_20 H locs → lv_has ls 9 [(6, .int ((gnO (gAsk q) (gNg q) (gZ q) (odO (gNe q) mm) (gNe q)).2)), (0, .ref (ad 200)), (1, .int w), (4, .int (nI nb)), (2, .int bs), (3, .int mo), (5, .int (nI mm)), (7, .int (nI dg)), (8, .int (nI kd))] → W p l e ({ frames := 7, cells := 0, slots := 0, locals := 171 } : Room) s m ([.ref (ad 200), .int w] : List Value).toArray below meth c H locs 0 0 (MQ below (mPost G ad sh s.heap.size (mPi ad sh (fun r V' => (aOrderly q w) = r ∧ (MK V V')))) ([.ref (ad 200), .int w] : List Value).toArray s 0 0 (mA ad sh s.heap.size)) (F0 m 88 ls []) := by
                            intro n_88
                            induction n_88 with
                            | zero => intro dg kd H locs ls hkd hdg hM_ hW hl; omega
                            | succ n_88 ih_88 =>
                              intro dg kd H locs ls hkd hdg hM_ hW hl
                              refine lv_iload hx hb dX11_orderly_88 (lv_at hl 8 rfl) ?_
                              refine lv_aload_n hx hb dX11_orderly_90 rfl (lv_at hl 1 rfl) ?_
                              refine m_geti S hW hZ.sp.1 2 rfl kX11 (iW11 _) (by decide) (List.mem_cons_of_mem _ (wa_15 _ (List.mem_of_getElem? (i := 0) (by decide +kernel)))) dX11_orderly_91 ?_
                              refine m_top (y := nI (gNe q)) ((hZ1.k ((MK.of220 hf_14).trans hK_23)).ne_) ?_
                              refine lv_icmp_ge (tgt := 120) hx hb dX11_orderly_94 (by decide) (fun c_25 => ?_) (fun c_25 => ?_)
                              · skip
                                have c_25 : (gNe q) ≤ kd := (nI_leI (by omega) (by omega)).mp c_25
                                refine lv_iload_n hx hb dX11_orderly_120 rfl (lv_at hl 4 rfl) ?_
                                refine lv_iconst (v := -1) hx hb dX11_orderly_121 (by decide) ?_
                                refine lv_icmp_eq (tgt := 131) hx hb dX11_orderly_122 (by decide) (fun c_26 => ?_) (fun c_26 => ?_)
                                · skip
                                  refine lv_iconst (v := nI 1) hx hb dX11_orderly_131 (by decide) ?_
                                  refine lv_goto (tgt := 136) hx hb dX11_orderly_132 (by decide) ?_
                                  refine lv_istore (lv' := [(8, .int (nI 1)), (6, .int ((gnO (gAsk q) (gNg q) (gZ q) (odO (gNe q) mm) (gNe q)).2)), (0, .ref (ad 200)), (1, .int w), (4, .int (nI nb)), (2, .int bs), (3, .int mo), (5, .int (nI mm)), (7, .int (nI dg))]) hx hb dX11_orderly_136 hl (by decide) rfl (fun ls hl => ?_)
                                  refine lv_iload hx hb dX11_orderly_138 (lv_at hl 0 rfl) ?_
                                  refine m_if_eq (tgt := 148) hx hb dX11_orderly_140 (by decide) (fun c_27 => ?_) (fun c_27 => ?_)
                                  · exact absurd c_27 (by decide)
                                  · skip
                                    refine lv_iload hx hb dX11_orderly_143 (lv_at hl 8 rfl) ?_
                                    refine lv_goto (tgt := 149) hx hb dX11_orderly_145 (by decide) ?_
                                    refine lv_istore_n (lv' := [(2, .int (nI dg)), (8, .int (nI 1)), (6, .int ((gnO (gAsk q) (gNg q) (gZ q) (odO (gNe q) mm) (gNe q)).2)), (0, .ref (ad 200)), (1, .int w), (4, .int (nI nb)), (3, .int mo), (5, .int (nI mm)), (7, .int (nI dg))]) hx hb dX11_orderly_149 rfl hl (by decide) rfl (fun ls hl => ?_)
                                    refine lv_iload hx hb dX11_orderly_150 (lv_at hl 1 rfl) ?_
                                    refine m_if_eq (tgt := 160) hx hb dX11_orderly_152 (by decide) (fun c_28 => ?_) (fun c_28 => ?_)
                                    · exact absurd c_28 (by decide)
                                    · skip
                                      refine lv_iload hx hb dX11_orderly_155 (lv_at hl 2 rfl) ?_
                                      refine lv_goto (tgt := 161) hx hb dX11_orderly_157 (by decide) ?_
                                      refine lv_istore_n (lv' := [(3, .int ((gnO (gAsk q) (gNg q) (gZ q) (odO (gNe q) mm) (gNe q)).2)), (2, .int (nI dg)), (8, .int (nI 1)), (6, .int ((gnO (gAsk q) (gNg q) (gZ q) (odO (gNe q) mm) (gNe q)).2)), (0, .ref (ad 200)), (1, .int w), (4, .int (nI nb)), (5, .int (nI mm)), (7, .int (nI dg))]) hx hb dX11_orderly_161 rfl hl (by decide) rfl (fun ls hl => ?_)
                                      refine lv_iinc (v := nI (mm + 1)) (lv' := [(5, .int (nI (mm + 1))), (3, .int ((gnO (gAsk q) (gNg q) (gZ q) (odO (gNe q) mm) (gNe q)).2)), (2, .int (nI dg)), (8, .int (nI 1)), (6, .int ((gnO (gAsk q) (gNg q) (gZ q) (odO (gNe q) mm) (gNe q)).2)), (0, .ref (ad 200)), (1, .int w), (4, .int (nI nb)), (7, .int (nI dg))]) hx hb dX11_orderly_162 hl (k := 7) rfl (m_inc mm 1) (by decide) rfl (fun ls hl => ?_)
                                      refine lv_goto (tgt := 60) hx hb dX11_orderly_165 (by decide) ?_
                                      exact ih_60  (nI dg) ((gnO (gAsk q) (gNg q) (gZ q) (odO (gNe q) mm) (gNe q)).2) (mm + 1) V_20 _ _ _ (by omega) (by exact (hK1.trans (MK.of220 hf_14)).trans hK_23) (by rw [ordF_s hq w_13, if_pos (Or.inl c_26)]; first | rfl | (rw [hdg, show kd = gNe q by omega])) (by omega) hW (lv_sub hl [5, 6, 7, 2, 1, 0] rfl)
                                · skip
                                  refine lv_iload hx hb dX11_orderly_125 (lv_at hl 0 rfl) ?_
                                  refine lv_iload_n hx hb dX11_orderly_127 rfl (lv_at hl 5 rfl) ?_
                                  refine lv_icmp_le (tgt := 135) hx hb dX11_orderly_128 (by decide) (fun c_29 => ?_) (fun c_29 => ?_)
                                  · skip
                                    refine lv_iconst (v := nI 0) hx hb dX11_orderly_135 (by decide) ?_
                                    refine lv_istore (lv' := [(8, .int (nI 0)), (6, .int ((gnO (gAsk q) (gNg q) (gZ q) (odO (gNe q) mm) (gNe q)).2)), (0, .ref (ad 200)), (1, .int w), (4, .int (nI nb)), (2, .int bs), (3, .int mo), (5, .int (nI mm)), (7, .int (nI dg))]) hx hb dX11_orderly_136 hl (by decide) rfl (fun ls hl => ?_)
                                    refine lv_iload hx hb dX11_orderly_138 (lv_at hl 0 rfl) ?_
                                    refine m_if_eq (tgt := 148) hx hb dX11_orderly_140 (by decide) (fun c_30 => ?_) (fun c_30 => ?_)
                                    · skip
                                      refine lv_iload_n hx hb dX11_orderly_148 rfl (lv_at hl 5 rfl) ?_
                                      refine lv_istore_n (lv' := [(2, .int bs), (8, .int (nI 0)), (6, .int ((gnO (gAsk q) (gNg q) (gZ q) (odO (gNe q) mm) (gNe q)).2)), (0, .ref (ad 200)), (1, .int w), (4, .int (nI nb)), (3, .int mo), (5, .int (nI mm)), (7, .int (nI dg))]) hx hb dX11_orderly_149 rfl hl (by decide) rfl (fun ls hl => ?_)
                                      refine lv_iload hx hb dX11_orderly_150 (lv_at hl 1 rfl) ?_
                                      refine m_if_eq (tgt := 160) hx hb dX11_orderly_152 (by decide) (fun c_31 => ?_) (fun c_31 => ?_)
                                      · skip
                                        refine lv_iload_n hx hb dX11_orderly_160 rfl (lv_at hl 6 rfl) ?_
                                        refine lv_istore_n (lv' := [(3, .int mo), (2, .int bs), (8, .int (nI 0)), (6, .int ((gnO (gAsk q) (gNg q) (gZ q) (odO (gNe q) mm) (gNe q)).2)), (0, .ref (ad 200)), (1, .int w), (4, .int (nI nb)), (5, .int (nI mm)), (7, .int (nI dg))]) hx hb dX11_orderly_161 rfl hl (by decide) rfl (fun ls hl => ?_)
                                        refine lv_iinc (v := nI (mm + 1)) (lv' := [(5, .int (nI (mm + 1))), (3, .int mo), (2, .int bs), (8, .int (nI 0)), (6, .int ((gnO (gAsk q) (gNg q) (gZ q) (odO (gNe q) mm) (gNe q)).2)), (0, .ref (ad 200)), (1, .int w), (4, .int (nI nb)), (7, .int (nI dg))]) hx hb dX11_orderly_162 hl (k := 7) rfl (m_inc mm 1) (by decide) rfl (fun ls hl => ?_)
                                        refine lv_goto (tgt := 60) hx hb dX11_orderly_165 (by decide) ?_
                                        exact ih_60  bs mo (mm + 1) V_20 _ _ _ (by omega) (by exact (hK1.trans (MK.of220 hf_14)).trans hK_23) (by rw [ordF_s hq w_13, if_neg (fun z => z.elim (fun y => c_26 y) (fun y => absurd y (Int32.not_lt.mpr c_29)))]) (by omega) hW (lv_sub hl [5, 6, 7, 2, 1, 0] rfl)
                                      · exact absurd c_31 (by decide)
                                    · exact absurd c_30 (by decide)
                                  · skip
                                    refine lv_iconst (v := nI 1) hx hb dX11_orderly_131 (by decide) ?_
                                    refine lv_goto (tgt := 136) hx hb dX11_orderly_132 (by decide) ?_
                                    refine lv_istore (lv' := [(8, .int (nI 1)), (6, .int ((gnO (gAsk q) (gNg q) (gZ q) (odO (gNe q) mm) (gNe q)).2)), (0, .ref (ad 200)), (1, .int w), (4, .int (nI nb)), (2, .int bs), (3, .int mo), (5, .int (nI mm)), (7, .int (nI dg))]) hx hb dX11_orderly_136 hl (by decide) rfl (fun ls hl => ?_)
                                    refine lv_iload hx hb dX11_orderly_138 (lv_at hl 0 rfl) ?_
                                    refine m_if_eq (tgt := 148) hx hb dX11_orderly_140 (by decide) (fun c_32 => ?_) (fun c_32 => ?_)
                                    · exact absurd c_32 (by decide)
                                    · skip
                                      refine lv_iload hx hb dX11_orderly_143 (lv_at hl 8 rfl) ?_
                                      refine lv_goto (tgt := 149) hx hb dX11_orderly_145 (by decide) ?_
                                      refine lv_istore_n (lv' := [(2, .int (nI dg)), (8, .int (nI 1)), (6, .int ((gnO (gAsk q) (gNg q) (gZ q) (odO (gNe q) mm) (gNe q)).2)), (0, .ref (ad 200)), (1, .int w), (4, .int (nI nb)), (3, .int mo), (5, .int (nI mm)), (7, .int (nI dg))]) hx hb dX11_orderly_149 rfl hl (by decide) rfl (fun ls hl => ?_)
                                      refine lv_iload hx hb dX11_orderly_150 (lv_at hl 1 rfl) ?_
                                      refine m_if_eq (tgt := 160) hx hb dX11_orderly_152 (by decide) (fun c_33 => ?_) (fun c_33 => ?_)
                                      · exact absurd c_33 (by decide)
                                      · skip
                                        refine lv_iload hx hb dX11_orderly_155 (lv_at hl 2 rfl) ?_
                                        refine lv_goto (tgt := 161) hx hb dX11_orderly_157 (by decide) ?_
                                        refine lv_istore_n (lv' := [(3, .int ((gnO (gAsk q) (gNg q) (gZ q) (odO (gNe q) mm) (gNe q)).2)), (2, .int (nI dg)), (8, .int (nI 1)), (6, .int ((gnO (gAsk q) (gNg q) (gZ q) (odO (gNe q) mm) (gNe q)).2)), (0, .ref (ad 200)), (1, .int w), (4, .int (nI nb)), (5, .int (nI mm)), (7, .int (nI dg))]) hx hb dX11_orderly_161 rfl hl (by decide) rfl (fun ls hl => ?_)
                                        refine lv_iinc (v := nI (mm + 1)) (lv' := [(5, .int (nI (mm + 1))), (3, .int ((gnO (gAsk q) (gNg q) (gZ q) (odO (gNe q) mm) (gNe q)).2)), (2, .int (nI dg)), (8, .int (nI 1)), (6, .int ((gnO (gAsk q) (gNg q) (gZ q) (odO (gNe q) mm) (gNe q)).2)), (0, .ref (ad 200)), (1, .int w), (4, .int (nI nb)), (7, .int (nI dg))]) hx hb dX11_orderly_162 hl (k := 7) rfl (m_inc mm 1) (by decide) rfl (fun ls hl => ?_)
                                        refine lv_goto (tgt := 60) hx hb dX11_orderly_165 (by decide) ?_
                                        exact ih_60  (nI dg) ((gnO (gAsk q) (gNg q) (gZ q) (odO (gNe q) mm) (gNe q)).2) (mm + 1) V_20 _ _ _ (by omega) (by exact (hK1.trans (MK.of220 hf_14)).trans hK_23) (by rw [ordF_s hq w_13, if_pos (Or.inr (Int32.not_le.mp c_29))]; first | rfl | (rw [hdg, show kd = gNe q by omega])) (by omega) hW (lv_sub hl [5, 6, 7, 2, 1, 0] rfl)
                              · skip
                                have c_25 : ¬ (gNe q) ≤ kd := mt (nI_leI (by omega) (by omega)).mpr c_25
                                refine lv_bipush (v := nI 10) hx hb dX11_orderly_97 (by decide) ?_
                                refine lv_iload hx hb dX11_orderly_99 (lv_at hl 7 rfl) ?_
                                refine lv_imul hx hb dX11_orderly_101 ?_
                                refine m_top (y := nI (10 * dg)) (pk_mul 10 dg) ?_
                                refine lv_aload_n hx hb dX11_orderly_102 rfl (lv_at hl 1 rfl) ?_
                                refine m_getr S hW hZ.sp.1 34 rfl (j := 220) rfl kX11 (iW11 _) (by decide) (List.mem_cons_of_mem _ (wa_11 _ (List.mem_of_getElem? (i := 21) (by decide +kernel)))) dX11_orderly_103 ?_
                                refine lv_iload hx hb dX11_orderly_106 (lv_at hl 8 rfl) ?_
                                refine m_iald S hW hZ.sp.2.2.2.2.2.2.2.2.2.2.2.2.2.2.2.2.2.2.2.2.1 kd rfl (by omega) (by decide) dX11_orderly_108 ?_
                                refine m_top (y := nI (odO (gNe q) mm kd)) (by rw [h220_24]; exact ho_15 _ (by omega)) ?_
                                refine lv_iadd hx hb dX11_orderly_109 ?_
                                refine m_top (y := nI ((10 * dg) + (odO (gNe q) mm kd))) (nI_add (10 * dg) (odO (gNe q) mm kd)) ?_
                                refine lv_iconst (v := nI 1) hx hb dX11_orderly_110 (by decide) ?_
                                refine lv_iadd hx hb dX11_orderly_111 ?_
                                refine m_top (y := nI (((10 * dg) + (odO (gNe q) mm kd)) + 1)) (nI_add ((10 * dg) + (odO (gNe q) mm kd)) 1) ?_
                                refine lv_istore (lv' := [(7, .int (nI (((10 * dg) + (odO (gNe q) mm kd)) + 1))), (6, .int ((gnO (gAsk q) (gNg q) (gZ q) (odO (gNe q) mm) (gNe q)).2)), (0, .ref (ad 200)), (1, .int w), (4, .int (nI nb)), (2, .int bs), (3, .int mo), (5, .int (nI mm)), (8, .int (nI kd))]) hx hb dX11_orderly_112 hl (by decide) rfl (fun ls hl => ?_)
                                refine lv_iinc (v := nI (kd + 1)) (lv' := [(8, .int (nI (kd + 1))), (7, .int (nI (((10 * dg) + (odO (gNe q) mm kd)) + 1))), (6, .int ((gnO (gAsk q) (gNg q) (gZ q) (odO (gNe q) mm) (gNe q)).2)), (0, .ref (ad 200)), (1, .int w), (4, .int (nI nb)), (2, .int bs), (3, .int mo), (5, .int (nI mm))]) hx hb dX11_orderly_114 hl (k := 8) rfl (m_inc kd 1) (by decide) rfl (fun ls hl => ?_)
                                refine lv_goto (tgt := 88) hx hb dX11_orderly_117 (by decide) ?_
                                exact ih_88  (((10 * dg) + (odO (gNe q) mm kd)) + 1) (kd + 1)  _ _ _ (by omega) (by rw [digO, ← hdg]) (by omega) hW (lv_sub hl [2, 3, 4, 5, 6, 7, 8, 1, 0] rfl)
                          exact loop_88 (gNe q - 0 + 1) 0 0  _ _ _ (by omega) (by rfl) (by omega) hW (lv_sub hl [2, 3, 4, 5, 6, 7, 8, 1, 0] rfl)
                      · skip
                        refine m_if_eq (tgt := 162) hx hb dX11_orderly_73 (by decide) (fun c_34 => ?_) (fun c_34 => ?_)
                        · skip
                          refine lv_iinc (v := nI (mm + 1)) (lv' := [(5, .int (nI (mm + 1))), (0, .ref (ad 200)), (1, .int w), (4, .int (nI nb)), (2, .int bs), (3, .int mo)]) hx hb dX11_orderly_162 hl (k := 5) rfl (m_inc mm 1) (by decide) rfl (fun ls hl => ?_)
                          refine lv_goto (tgt := 60) hx hb dX11_orderly_165 (by decide) ?_
                          exact ih_60  bs mo (mm + 1) V_10 _ _ _ (by omega) (by exact hK1.trans (MK.of220 hf_17)) (by exact ordF_n hq w_16) (by omega) hW (lv_sub hl [1, 2, 3, 4, 5, 0] rfl)
                        · exact absurd c_34 (by decide)
                exact loop_60 (nb - 0 + 1) (-1) (nI 0) 0 V _ _ _ (by omega) (by exact MK.rfl V) (by rfl) (by omega) hW (lv_sub hl [3, 4, 5, 2, 1, 0] rfl)
              · skip
                have c_7 : ¬ (gNe q) ≤ k0 := mt (nI_leI (by omega) (by omega)).mpr c_7
                refine lv_iload hx hb dX11_orderly_42 (lv_at hl 4 rfl) ?_
                refine lv_aload_n hx hb dX11_orderly_44 rfl (lv_at hl 2 rfl) ?_
                refine m_geti S hW hZ.sp.1 2 rfl kX11 (iW11 _) (by decide) (List.mem_cons_of_mem _ (wa_15 _ (List.mem_of_getElem? (i := 0) (by decide +kernel)))) dX11_orderly_45 ?_
                refine m_top (y := nI (gNe q)) hI.z.ne_ ?_
                refine lv_imul hx hb dX11_orderly_48 ?_
                refine m_top (y := nI (nb * (gNe q))) (pk_mul nb (gNe q)) ?_
                refine lv_istore (lv' := [(4, .int (nI (nb * (gNe q)))), (3, .int (nI 0)), (2, .int (-1)), (0, .ref (ad 200)), (1, .int w), (5, .int (nI k0))]) hx hb dX11_orderly_49 hl (by decide) rfl (fun ls hl => ?_)
                refine lv_iinc (v := nI (k0 + 1)) (lv' := [(5, .int (nI (k0 + 1))), (4, .int (nI (nb * (gNe q)))), (3, .int (nI 0)), (2, .int (-1)), (0, .ref (ad 200)), (1, .int w)]) hx hb dX11_orderly_51 hl (k := 5) rfl (m_inc k0 1) (by decide) rfl (fun ls hl => ?_)
                refine lv_goto (tgt := 33) hx hb dX11_orderly_54 (by decide) ?_
                exact ih_33  (nb * (gNe q)) (k0 + 1)  _ _ _ (by omega) (by omega) (by omega) hW (lv_sub hl [2, 3, 4, 5, 1, 0] rfl)
          exact loop_33 (gNe q - 0 + 1) 0 0  _ _ _ (by omega) (by rfl) (by omega) hW (lv_sub hl [2, 3, 4, 5, 1, 0] rfl)
      · skip
        refine lv_aload_n hx hb dX11_orderly_16 rfl (lv_at hl 2 rfl) ?_
        refine m_geti S hW hZ.sp.1 2 rfl kX11 (iW11 _) (by decide) (List.mem_cons_of_mem _ (wa_15 _ (List.mem_of_getElem? (i := 0) (by decide +kernel)))) dX11_orderly_17 ?_
        refine m_top (y := nI (gNe q)) hI.z.ne_ ?_
        refine m_if_ne (tgt := 27) hx hb dX11_orderly_20 (by decide) (fun c_35 => ?_) (fun c_35 => ?_)
        · skip
          have c_35 : ¬ (gNe q) = 0 := mt (nI_eq (by omega) (by omega)).mpr c_35
          refine lv_iconst (v := nI 1) hx hb dX11_orderly_27 (by decide) ?_
          refine lv_istore (lv' := [(4, .int (nI 1)), (3, .int (nI 0)), (2, .int (-1)), (0, .ref (ad 200)), (1, .int w)]) hx hb dX11_orderly_28 hl (by decide) rfl (fun ls hl => ?_)
          refine lv_iconst (v := nI 0) hx hb dX11_orderly_30 (by decide) ?_
          refine lv_istore (lv' := [(5, .int (nI 0)), (4, .int (nI 1)), (3, .int (nI 0)), (2, .int (-1)), (0, .ref (ad 200)), (1, .int w)]) hx hb dX11_orderly_31 hl (by decide) rfl (fun ls hl => ?_)
          have loop_33 : ∀ (n_33 : Nat) (nb k0 : Nat) (H : Heap) (locs : List Loc) (ls : Array Slot), (k0 ≤ gNe q) → (nb = gNe q ^ k0) → (gNe q - k0) < n_33 → mC (mA ad sh s.heap.size) s.heap s G ad sh V H locs → lv_has ls 9 [(3, .int (nI 0)), (2, .int (-1)), (0, .ref (ad 200)), (1, .int w), (4, .int (nI nb)), (5, .int (nI k0))] → W p l e ({ frames := 7, cells := 0, slots := 0, locals := 171 } : Room) s m ([.ref (ad 200), .int w] : List Value).toArray below meth c H locs 0 0 (MQ below (mPost G ad sh s.heap.size (mPi ad sh (fun r V' => (aOrderly q w) = r ∧ (MK V V')))) ([.ref (ad 200), .int w] : List Value).toArray s 0 0 (mA ad sh s.heap.size)) (F0 m 33 ls []) := by
            intro n_33
            induction n_33 with
            | zero => intro nb k0 H locs ls hk0 hnb hM_ hW hl; omega
            | succ n_33 ih_33 =>
              intro nb k0 H locs ls hk0 hnb hM_ hW hl
              refine lv_iload hx hb dX11_orderly_33 (lv_at hl 5 rfl) ?_
              refine lv_aload_n hx hb dX11_orderly_35 rfl (lv_at hl 2 rfl) ?_
              refine m_geti S hW hZ.sp.1 2 rfl kX11 (iW11 _) (by decide) (List.mem_cons_of_mem _ (wa_15 _ (List.mem_of_getElem? (i := 0) (by decide +kernel)))) dX11_orderly_36 ?_
              refine m_top (y := nI (gNe q)) hI.z.ne_ ?_
              refine lv_icmp_ge (tgt := 57) hx hb dX11_orderly_39 (by decide) (fun c_36 => ?_) (fun c_36 => ?_)
              · skip
                have c_36 : (gNe q) ≤ k0 := (nI_leI (by omega) (by omega)).mp c_36
                have hnbl : nb ≤ 3125 := by rw [hnb]; exact pow5 hne5 hk0
                have hnbe : nb = gNe q ^ gNe q := by rw [hnb, show k0 = gNe q by omega]
                refine lv_iconst (v := nI 0) hx hb dX11_orderly_57 (by decide) ?_
                refine lv_istore (lv' := [(5, .int (nI 0)), (3, .int (nI 0)), (2, .int (-1)), (0, .ref (ad 200)), (1, .int w), (4, .int (nI nb))]) hx hb dX11_orderly_58 hl (by decide) rfl (fun ls hl => ?_)
                have loop_60 : ∀ (n_60 : Nat) (bs mo : Int32) (mm : Nat) (V1 : mV) (H : Heap) (locs : List Loc) (ls : Array Slot), (mm ≤ nb) → (MK V V1) → ((bs, mo) = ordF (gAsk q) (gNe q) (gNg q) (gZ q) mm) → (nb - mm) < n_60 → mC (mA ad sh s.heap.size) s.heap s G ad sh V1 H locs → lv_has ls 9 [(0, .ref (ad 200)), (1, .int w), (4, .int (nI nb)), (2, .int bs), (3, .int mo), (5, .int (nI mm))] → W p l e ({ frames := 7, cells := 0, slots := 0, locals := 171 } : Room) s m ([.ref (ad 200), .int w] : List Value).toArray below meth c H locs 0 0 (MQ below (mPost G ad sh s.heap.size (mPi ad sh (fun r V' => (aOrderly q w) = r ∧ (MK V V')))) ([.ref (ad 200), .int w] : List Value).toArray s 0 0 (mA ad sh s.heap.size)) (F0 m 60 ls []) := by
                  intro n_60
                  induction n_60 with
                  | zero => intro bs mo mm V1 H locs ls hk hK1 hq hM_ hW hl; omega
                  | succ n_60 ih_60 =>
                    intro bs mo mm V1 H locs ls hk hK1 hq hM_ hW hl
                    have hZ1 := hZ.k hK1
                    have hnb3 : nb ≤ 3125 := hnbl
                    refine lv_iload hx hb dX11_orderly_60 (lv_at hl 5 rfl) ?_
                    refine lv_iload hx hb dX11_orderly_62 (lv_at hl 2 rfl) ?_
                    refine lv_icmp_ge (tgt := 168) hx hb dX11_orderly_64 (by decide) (fun c_37 => ?_) (fun c_37 => ?_)
                    · skip
                      have c_37 : nb ≤ mm := (nI_leI (by omega) (by omega)).mp c_37
                      refine lv_iload_n hx hb dX11_orderly_168 rfl (lv_at hl 1 rfl) ?_
                      refine m_if_ne (tgt := 176) hx hb dX11_orderly_169 (by decide) (fun c_38 => ?_) (fun c_38 => ?_)
                      · skip
                        refine lv_iload_n hx hb dX11_orderly_176 rfl (lv_at hl 4 rfl) ?_
                        exact m_iret S hr hlk hW dX11_orderly_177 (by have hmm : mm = gNe q ^ gNe q := (by omega); rw [hmm, ordF_eq (gAsk q) (by omega) (by omega)] at hq; exact ⟨by simp only [aOrderly, if_pos w_3, if_neg hz0, if_neg c_38]; rw [← hq], hK1⟩)
                      · skip
                        refine lv_iload_n hx hb dX11_orderly_172 rfl (lv_at hl 3 rfl) ?_
                        refine lv_goto (tgt := 177) hx hb dX11_orderly_173 (by decide) ?_
                        exact m_iret S hr hlk hW dX11_orderly_177 (by have hmm : mm = gNe q ^ gNe q := (by omega); rw [hmm, ordF_eq (gAsk q) (by omega) (by omega)] at hq; exact ⟨by simp only [aOrderly, if_pos w_3, if_neg hz0, if_pos c_38]; rw [← hq], hK1⟩)
                    · skip
                      have c_37 : ¬ nb ≤ mm := mt (nI_leI (by omega) (by omega)).mpr c_37
                      refine lv_aload_n hx hb dX11_orderly_67 rfl (lv_at hl 0 rfl) ?_
                      refine lv_iload hx hb dX11_orderly_68 (lv_at hl 5 rfl) ?_
                      refine m_ci (m_rV S hW (c_X11_tells l G ad sh V1 (gZ q) (gNe q) (gNg q) (gRl q) (gT q (gRl q)) mm hZ1 (by omega)) (cwV 1 hts (gCall [.methodLink RX11 228 yX11_tells, .instanceMethod yX11_tells, .selects RX11 yX11_tells yX11_tells, .initialized RX11] (List.forall_mem_cons.mpr ⟨(wa_32 _ (List.mem_of_getElem? (i := 9) (by decide +kernel))), (List.forall_mem_cons.mpr ⟨(wa_32 _ (List.mem_of_getElem? (i := 6) (by decide +kernel))), (List.forall_mem_cons.mpr ⟨(wa_32 _ (List.mem_of_getElem? (i := 7) (by decide +kernel))), (List.forall_mem_cons.mpr ⟨(wa_32 _ (List.mem_of_getElem? (i := 8) (by decide +kernel))), (List.forall_mem_cons.mpr ⟨(wa_1 _ (List.mem_of_getElem? (i := 5) (by decide +kernel))), (fun _ h => absurd h List.not_mem_nil)⟩)⟩)⟩)⟩)⟩)) rfl rfl rfl (by decide +kernel) ⟨Nat.le_of_ble_eq_true rfl, Nat.le_of_ble_eq_true rfl⟩) hZ.sp.1 kX11 rfl hl.1 rfl (Nat.le_of_ble_eq_true rfl) dX11_orderly_70 ⟨Nat.le_of_ble_eq_true rfl, Nat.le_of_ble_eq_true rfl⟩) hW (fun r_41 V_39 H locs hp_40 hW => ?_)
                      rcases hp_40 with ⟨rfl, w_42, hf_43, ho_44⟩ | ⟨rfl, w_45, hf_46, ho_47⟩
                      · skip
                        refine m_if_eq (tgt := 162) hx hb dX11_orderly_73 (by decide) (fun c_48 => ?_) (fun c_48 => ?_)
                        · exact absurd c_48 (by decide)
                        · skip
                          refine lv_aload_n hx hb dX11_orderly_76 rfl (lv_at hl 0 rfl) ?_
                          refine m_ci (m_rV S hW (c_X11_gainsByOrder l G ad sh V_39 (gZ q) (gNe q) (gNg q) (gRl q) (gT q (gRl q)) (odO (gNe q) mm) (hZ1.k (MK.of220 hf_43)) (fun k hk => ⟨ho_44 k hk, dgt_lt (by omega)⟩)) (cwV 0 hts (gCall [.methodLink RX11 231 yX11_gainsByOrder, .instanceMethod yX11_gainsByOrder, .selects RX11 yX11_gainsByOrder yX11_gainsByOrder, .initialized RX11] (List.forall_mem_cons.mpr ⟨(wa_32 _ (List.mem_of_getElem? (i := 13) (by decide +kernel))), (List.forall_mem_cons.mpr ⟨(wa_32 _ (List.mem_of_getElem? (i := 10) (by decide +kernel))), (List.forall_mem_cons.mpr ⟨(wa_32 _ (List.mem_of_getElem? (i := 11) (by decide +kernel))), (List.forall_mem_cons.mpr ⟨(wa_32 _ (List.mem_of_getElem? (i := 12) (by decide +kernel))), (List.forall_mem_cons.mpr ⟨(wa_1 _ (List.mem_of_getElem? (i := 5) (by decide +kernel))), (fun _ h => absurd h List.not_mem_nil)⟩)⟩)⟩)⟩)⟩)) rfl rfl rfl (by decide +kernel) ⟨Nat.le_of_ble_eq_true rfl, Nat.le_of_ble_eq_true rfl⟩) hZ.sp.1 kX11 rfl hl.1 rfl (Nat.le_of_ble_eq_true rfl) dX11_orderly_77 ⟨Nat.le_of_ble_eq_true rfl, Nat.le_of_ble_eq_true rfl⟩) hW (fun r_51 V_49 H locs hp_50 hW => ?_)
                          obtain ⟨rfl, hK_52, h220_53⟩ := hp_50
                          refine m_top (y := (gnO (gAsk q) (gNg q) (gZ q) (odO (gNe q) mm) (gNe q)).2) rfl ?_
                          refine lv_istore (lv' := [(6, .int ((gnO (gAsk q) (gNg q) (gZ q) (odO (gNe q) mm) (gNe q)).2)), (0, .ref (ad 200)), (1, .int w), (4, .int (nI nb)), (2, .int bs), (3, .int mo), (5, .int (nI mm))]) hx hb dX11_orderly_80 hl (by decide) rfl (fun ls hl => ?_)
                          refine lv_iconst (v := nI 0) hx hb dX11_orderly_82 (by decide) ?_
                          refine lv_istore (lv' := [(7, .int (nI 0)), (6, .int ((gnO (gAsk q) (gNg q) (gZ q) (odO (gNe q) mm) (gNe q)).2)), (0, .ref (ad 200)), (1, .int w), (4, .int (nI nb)), (2, .int bs), (3, .int mo), (5, .int (nI mm))]) hx hb dX11_orderly_83 hl (by decide) rfl (fun ls hl => ?_)
                          refine lv_iconst (v := nI 0) hx hb dX11_orderly_85 (by decide) ?_
                          refine lv_istore (lv' := [(8, .int (nI 0)), (7, .int (nI 0)), (6, .int ((gnO (gAsk q) (gNg q) (gZ q) (odO (gNe q) mm) (gNe q)).2)), (0, .ref (ad 200)), (1, .int w), (4, .int (nI nb)), (2, .int bs), (3, .int mo), (5, .int (nI mm))]) hx hb dX11_orderly_86 hl (by decide) rfl (fun ls hl => ?_)
                          have loop_88 : ∀ (n_88 : Nat) (dg kd : Nat) (H : Heap) (locs : List Loc) (ls : Array Slot), (kd ≤ gNe q) → (dg = digO (odO (gNe q) mm) kd) → (gNe q - kd) < n_88 → mC (mA ad sh s.heap.size) s.heap s G ad sh V_49 H locs → lv_has ls 9 [(6, .int ((gnO (gAsk q) (gNg q) (gZ q) (odO (gNe q) mm) (gNe q)).2)), (0, .ref (ad 200)), (1, .int w), (4, .int (nI nb)), (2, .int bs), (3, .int mo), (5, .int (nI mm)), (7, .int (nI dg)), (8, .int (nI kd))] → W p l e ({ frames := 7, cells := 0, slots := 0, locals := 171 } : Room) s m ([.ref (ad 200), .int w] : List Value).toArray below meth c H locs 0 0 (MQ below (mPost G ad sh s.heap.size (mPi ad sh (fun r V' => (aOrderly q w) = r ∧ (MK V V')))) ([.ref (ad 200), .int w] : List Value).toArray s 0 0 (mA ad sh s.heap.size)) (F0 m 88 ls []) := by
                            intro n_88
                            induction n_88 with
                            | zero => intro dg kd H locs ls hkd hdg hM_ hW hl; omega
                            | succ n_88 ih_88 =>
                              intro dg kd H locs ls hkd hdg hM_ hW hl
                              refine lv_iload hx hb dX11_orderly_88 (lv_at hl 8 rfl) ?_
                              refine lv_aload_n hx hb dX11_orderly_90 rfl (lv_at hl 1 rfl) ?_
                              refine m_geti S hW hZ.sp.1 2 rfl kX11 (iW11 _) (by decide) (List.mem_cons_of_mem _ (wa_15 _ (List.mem_of_getElem? (i := 0) (by decide +kernel)))) dX11_orderly_91 ?_
                              refine m_top (y := nI (gNe q)) ((hZ1.k ((MK.of220 hf_43).trans hK_52)).ne_) ?_
                              refine lv_icmp_ge (tgt := 120) hx hb dX11_orderly_94 (by decide) (fun c_54 => ?_) (fun c_54 => ?_)
                              · skip
                                have c_54 : (gNe q) ≤ kd := (nI_leI (by omega) (by omega)).mp c_54
                                refine lv_iload_n hx hb dX11_orderly_120 rfl (lv_at hl 4 rfl) ?_
                                refine lv_iconst (v := -1) hx hb dX11_orderly_121 (by decide) ?_
                                refine lv_icmp_eq (tgt := 131) hx hb dX11_orderly_122 (by decide) (fun c_55 => ?_) (fun c_55 => ?_)
                                · skip
                                  refine lv_iconst (v := nI 1) hx hb dX11_orderly_131 (by decide) ?_
                                  refine lv_goto (tgt := 136) hx hb dX11_orderly_132 (by decide) ?_
                                  refine lv_istore (lv' := [(8, .int (nI 1)), (6, .int ((gnO (gAsk q) (gNg q) (gZ q) (odO (gNe q) mm) (gNe q)).2)), (0, .ref (ad 200)), (1, .int w), (4, .int (nI nb)), (2, .int bs), (3, .int mo), (5, .int (nI mm)), (7, .int (nI dg))]) hx hb dX11_orderly_136 hl (by decide) rfl (fun ls hl => ?_)
                                  refine lv_iload hx hb dX11_orderly_138 (lv_at hl 0 rfl) ?_
                                  refine m_if_eq (tgt := 148) hx hb dX11_orderly_140 (by decide) (fun c_56 => ?_) (fun c_56 => ?_)
                                  · exact absurd c_56 (by decide)
                                  · skip
                                    refine lv_iload hx hb dX11_orderly_143 (lv_at hl 8 rfl) ?_
                                    refine lv_goto (tgt := 149) hx hb dX11_orderly_145 (by decide) ?_
                                    refine lv_istore_n (lv' := [(2, .int (nI dg)), (8, .int (nI 1)), (6, .int ((gnO (gAsk q) (gNg q) (gZ q) (odO (gNe q) mm) (gNe q)).2)), (0, .ref (ad 200)), (1, .int w), (4, .int (nI nb)), (3, .int mo), (5, .int (nI mm)), (7, .int (nI dg))]) hx hb dX11_orderly_149 rfl hl (by decide) rfl (fun ls hl => ?_)
                                    refine lv_iload hx hb dX11_orderly_150 (lv_at hl 1 rfl) ?_
                                    refine m_if_eq (tgt := 160) hx hb dX11_orderly_152 (by decide) (fun c_57 => ?_) (fun c_57 => ?_)
                                    · exact absurd c_57 (by decide)
                                    · skip
                                      refine lv_iload hx hb dX11_orderly_155 (lv_at hl 2 rfl) ?_
                                      refine lv_goto (tgt := 161) hx hb dX11_orderly_157 (by decide) ?_
                                      refine lv_istore_n (lv' := [(3, .int ((gnO (gAsk q) (gNg q) (gZ q) (odO (gNe q) mm) (gNe q)).2)), (2, .int (nI dg)), (8, .int (nI 1)), (6, .int ((gnO (gAsk q) (gNg q) (gZ q) (odO (gNe q) mm) (gNe q)).2)), (0, .ref (ad 200)), (1, .int w), (4, .int (nI nb)), (5, .int (nI mm)), (7, .int (nI dg))]) hx hb dX11_orderly_161 rfl hl (by decide) rfl (fun ls hl => ?_)
                                      refine lv_iinc (v := nI (mm + 1)) (lv' := [(5, .int (nI (mm + 1))), (3, .int ((gnO (gAsk q) (gNg q) (gZ q) (odO (gNe q) mm) (gNe q)).2)), (2, .int (nI dg)), (8, .int (nI 1)), (6, .int ((gnO (gAsk q) (gNg q) (gZ q) (odO (gNe q) mm) (gNe q)).2)), (0, .ref (ad 200)), (1, .int w), (4, .int (nI nb)), (7, .int (nI dg))]) hx hb dX11_orderly_162 hl (k := 7) rfl (m_inc mm 1) (by decide) rfl (fun ls hl => ?_)
                                      refine lv_goto (tgt := 60) hx hb dX11_orderly_165 (by decide) ?_
                                      exact ih_60  (nI dg) ((gnO (gAsk q) (gNg q) (gZ q) (odO (gNe q) mm) (gNe q)).2) (mm + 1) V_49 _ _ _ (by omega) (by exact (hK1.trans (MK.of220 hf_43)).trans hK_52) (by rw [ordF_s hq w_42, if_pos (Or.inl c_55)]; first | rfl | (rw [hdg, show kd = gNe q by omega])) (by omega) hW (lv_sub hl [5, 6, 7, 2, 1, 0] rfl)
                                · skip
                                  refine lv_iload hx hb dX11_orderly_125 (lv_at hl 0 rfl) ?_
                                  refine lv_iload_n hx hb dX11_orderly_127 rfl (lv_at hl 5 rfl) ?_
                                  refine lv_icmp_le (tgt := 135) hx hb dX11_orderly_128 (by decide) (fun c_58 => ?_) (fun c_58 => ?_)
                                  · skip
                                    refine lv_iconst (v := nI 0) hx hb dX11_orderly_135 (by decide) ?_
                                    refine lv_istore (lv' := [(8, .int (nI 0)), (6, .int ((gnO (gAsk q) (gNg q) (gZ q) (odO (gNe q) mm) (gNe q)).2)), (0, .ref (ad 200)), (1, .int w), (4, .int (nI nb)), (2, .int bs), (3, .int mo), (5, .int (nI mm)), (7, .int (nI dg))]) hx hb dX11_orderly_136 hl (by decide) rfl (fun ls hl => ?_)
                                    refine lv_iload hx hb dX11_orderly_138 (lv_at hl 0 rfl) ?_
                                    refine m_if_eq (tgt := 148) hx hb dX11_orderly_140 (by decide) (fun c_59 => ?_) (fun c_59 => ?_)
                                    · skip
                                      refine lv_iload_n hx hb dX11_orderly_148 rfl (lv_at hl 5 rfl) ?_
                                      refine lv_istore_n (lv' := [(2, .int bs), (8, .int (nI 0)), (6, .int ((gnO (gAsk q) (gNg q) (gZ q) (odO (gNe q) mm) (gNe q)).2)), (0, .ref (ad 200)), (1, .int w), (4, .int (nI nb)), (3, .int mo), (5, .int (nI mm)), (7, .int (nI dg))]) hx hb dX11_orderly_149 rfl hl (by decide) rfl (fun ls hl => ?_)
                                      refine lv_iload hx hb dX11_orderly_150 (lv_at hl 1 rfl) ?_
                                      refine m_if_eq (tgt := 160) hx hb dX11_orderly_152 (by decide) (fun c_60 => ?_) (fun c_60 => ?_)
                                      · skip
                                        refine lv_iload_n hx hb dX11_orderly_160 rfl (lv_at hl 6 rfl) ?_
                                        refine lv_istore_n (lv' := [(3, .int mo), (2, .int bs), (8, .int (nI 0)), (6, .int ((gnO (gAsk q) (gNg q) (gZ q) (odO (gNe q) mm) (gNe q)).2)), (0, .ref (ad 200)), (1, .int w), (4, .int (nI nb)), (5, .int (nI mm)), (7, .int (nI dg))]) hx hb dX11_orderly_161 rfl hl (by decide) rfl (fun ls hl => ?_)
                                        refine lv_iinc (v := nI (mm + 1)) (lv' := [(5, .int (nI (mm + 1))), (3, .int mo), (2, .int bs), (8, .int (nI 0)), (6, .int ((gnO (gAsk q) (gNg q) (gZ q) (odO (gNe q) mm) (gNe q)).2)), (0, .ref (ad 200)), (1, .int w), (4, .int (nI nb)), (7, .int (nI dg))]) hx hb dX11_orderly_162 hl (k := 7) rfl (m_inc mm 1) (by decide) rfl (fun ls hl => ?_)
                                        refine lv_goto (tgt := 60) hx hb dX11_orderly_165 (by decide) ?_
                                        exact ih_60  bs mo (mm + 1) V_49 _ _ _ (by omega) (by exact (hK1.trans (MK.of220 hf_43)).trans hK_52) (by rw [ordF_s hq w_42, if_neg (fun z => z.elim (fun y => c_55 y) (fun y => absurd y (Int32.not_lt.mpr c_58)))]) (by omega) hW (lv_sub hl [5, 6, 7, 2, 1, 0] rfl)
                                      · exact absurd c_60 (by decide)
                                    · exact absurd c_59 (by decide)
                                  · skip
                                    refine lv_iconst (v := nI 1) hx hb dX11_orderly_131 (by decide) ?_
                                    refine lv_goto (tgt := 136) hx hb dX11_orderly_132 (by decide) ?_
                                    refine lv_istore (lv' := [(8, .int (nI 1)), (6, .int ((gnO (gAsk q) (gNg q) (gZ q) (odO (gNe q) mm) (gNe q)).2)), (0, .ref (ad 200)), (1, .int w), (4, .int (nI nb)), (2, .int bs), (3, .int mo), (5, .int (nI mm)), (7, .int (nI dg))]) hx hb dX11_orderly_136 hl (by decide) rfl (fun ls hl => ?_)
                                    refine lv_iload hx hb dX11_orderly_138 (lv_at hl 0 rfl) ?_
                                    refine m_if_eq (tgt := 148) hx hb dX11_orderly_140 (by decide) (fun c_61 => ?_) (fun c_61 => ?_)
                                    · exact absurd c_61 (by decide)
                                    · skip
                                      refine lv_iload hx hb dX11_orderly_143 (lv_at hl 8 rfl) ?_
                                      refine lv_goto (tgt := 149) hx hb dX11_orderly_145 (by decide) ?_
                                      refine lv_istore_n (lv' := [(2, .int (nI dg)), (8, .int (nI 1)), (6, .int ((gnO (gAsk q) (gNg q) (gZ q) (odO (gNe q) mm) (gNe q)).2)), (0, .ref (ad 200)), (1, .int w), (4, .int (nI nb)), (3, .int mo), (5, .int (nI mm)), (7, .int (nI dg))]) hx hb dX11_orderly_149 rfl hl (by decide) rfl (fun ls hl => ?_)
                                      refine lv_iload hx hb dX11_orderly_150 (lv_at hl 1 rfl) ?_
                                      refine m_if_eq (tgt := 160) hx hb dX11_orderly_152 (by decide) (fun c_62 => ?_) (fun c_62 => ?_)
                                      · exact absurd c_62 (by decide)
                                      · skip
                                        refine lv_iload hx hb dX11_orderly_155 (lv_at hl 2 rfl) ?_
                                        refine lv_goto (tgt := 161) hx hb dX11_orderly_157 (by decide) ?_
                                        refine lv_istore_n (lv' := [(3, .int ((gnO (gAsk q) (gNg q) (gZ q) (odO (gNe q) mm) (gNe q)).2)), (2, .int (nI dg)), (8, .int (nI 1)), (6, .int ((gnO (gAsk q) (gNg q) (gZ q) (odO (gNe q) mm) (gNe q)).2)), (0, .ref (ad 200)), (1, .int w), (4, .int (nI nb)), (5, .int (nI mm)), (7, .int (nI dg))]) hx hb dX11_orderly_161 rfl hl (by decide) rfl (fun ls hl => ?_)
                                        refine lv_iinc (v := nI (mm + 1)) (lv' := [(5, .int (nI (mm + 1))), (3, .int ((gnO (gAsk q) (gNg q) (gZ q) (odO (gNe q) mm) (gNe q)).2)), (2, .int (nI dg)), (8, .int (nI 1)), (6, .int ((gnO (gAsk q) (gNg q) (gZ q) (odO (gNe q) mm) (gNe q)).2)), (0, .ref (ad 200)), (1, .int w), (4, .int (nI nb)), (7, .int (nI dg))]) hx hb dX11_orderly_162 hl (k := 7) rfl (m_inc mm 1) (by decide) rfl (fun ls hl => ?_)
                                        refine lv_goto (tgt := 60) hx hb dX11_orderly_165 (by decide) ?_
                                        exact ih_60  (nI dg) ((gnO (gAsk q) (gNg q) (gZ q) (odO (gNe q) mm) (gNe q)).2) (mm + 1) V_49 _ _ _ (by omega) (by exact (hK1.trans (MK.of220 hf_43)).trans hK_52) (by rw [ordF_s hq w_42, if_pos (Or.inr (Int32.not_le.mp c_58))]; first | rfl | (rw [hdg, show kd = gNe q by omega])) (by omega) hW (lv_sub hl [5, 6, 7, 2, 1, 0] rfl)
                              · skip
                                have c_54 : ¬ (gNe q) ≤ kd := mt (nI_leI (by omega) (by omega)).mpr c_54
                                refine lv_bipush (v := nI 10) hx hb dX11_orderly_97 (by decide) ?_
                                refine lv_iload hx hb dX11_orderly_99 (lv_at hl 7 rfl) ?_
                                refine lv_imul hx hb dX11_orderly_101 ?_
                                refine m_top (y := nI (10 * dg)) (pk_mul 10 dg) ?_
                                refine lv_aload_n hx hb dX11_orderly_102 rfl (lv_at hl 1 rfl) ?_
                                refine m_getr S hW hZ.sp.1 34 rfl (j := 220) rfl kX11 (iW11 _) (by decide) (List.mem_cons_of_mem _ (wa_11 _ (List.mem_of_getElem? (i := 21) (by decide +kernel)))) dX11_orderly_103 ?_
                                refine lv_iload hx hb dX11_orderly_106 (lv_at hl 8 rfl) ?_
                                refine m_iald S hW hZ.sp.2.2.2.2.2.2.2.2.2.2.2.2.2.2.2.2.2.2.2.2.1 kd rfl (by omega) (by decide) dX11_orderly_108 ?_
                                refine m_top (y := nI (odO (gNe q) mm kd)) (by rw [h220_53]; exact ho_44 _ (by omega)) ?_
                                refine lv_iadd hx hb dX11_orderly_109 ?_
                                refine m_top (y := nI ((10 * dg) + (odO (gNe q) mm kd))) (nI_add (10 * dg) (odO (gNe q) mm kd)) ?_
                                refine lv_iconst (v := nI 1) hx hb dX11_orderly_110 (by decide) ?_
                                refine lv_iadd hx hb dX11_orderly_111 ?_
                                refine m_top (y := nI (((10 * dg) + (odO (gNe q) mm kd)) + 1)) (nI_add ((10 * dg) + (odO (gNe q) mm kd)) 1) ?_
                                refine lv_istore (lv' := [(7, .int (nI (((10 * dg) + (odO (gNe q) mm kd)) + 1))), (6, .int ((gnO (gAsk q) (gNg q) (gZ q) (odO (gNe q) mm) (gNe q)).2)), (0, .ref (ad 200)), (1, .int w), (4, .int (nI nb)), (2, .int bs), (3, .int mo), (5, .int (nI mm)), (8, .int (nI kd))]) hx hb dX11_orderly_112 hl (by decide) rfl (fun ls hl => ?_)
                                refine lv_iinc (v := nI (kd + 1)) (lv' := [(8, .int (nI (kd + 1))), (7, .int (nI (((10 * dg) + (odO (gNe q) mm kd)) + 1))), (6, .int ((gnO (gAsk q) (gNg q) (gZ q) (odO (gNe q) mm) (gNe q)).2)), (0, .ref (ad 200)), (1, .int w), (4, .int (nI nb)), (2, .int bs), (3, .int mo), (5, .int (nI mm))]) hx hb dX11_orderly_114 hl (k := 8) rfl (m_inc kd 1) (by decide) rfl (fun ls hl => ?_)
                                refine lv_goto (tgt := 88) hx hb dX11_orderly_117 (by decide) ?_
                                exact ih_88  (((10 * dg) + (odO (gNe q) mm kd)) + 1) (kd + 1)  _ _ _ (by omega) (by rw [digO, ← hdg]) (by omega) hW (lv_sub hl [2, 3, 4, 5, 6, 7, 8, 1, 0] rfl)
                          exact loop_88 (gNe q - 0 + 1) 0 0  _ _ _ (by omega) (by rfl) (by omega) hW (lv_sub hl [2, 3, 4, 5, 6, 7, 8, 1, 0] rfl)
                      · skip
                        refine m_if_eq (tgt := 162) hx hb dX11_orderly_73 (by decide) (fun c_63 => ?_) (fun c_63 => ?_)
                        · skip
                          refine lv_iinc (v := nI (mm + 1)) (lv' := [(5, .int (nI (mm + 1))), (0, .ref (ad 200)), (1, .int w), (4, .int (nI nb)), (2, .int bs), (3, .int mo)]) hx hb dX11_orderly_162 hl (k := 5) rfl (m_inc mm 1) (by decide) rfl (fun ls hl => ?_)
                          refine lv_goto (tgt := 60) hx hb dX11_orderly_165 (by decide) ?_
                          exact ih_60  bs mo (mm + 1) V_39 _ _ _ (by omega) (by exact hK1.trans (MK.of220 hf_46)) (by exact ordF_n hq w_45) (by omega) hW (lv_sub hl [1, 2, 3, 4, 5, 0] rfl)
                        · exact absurd c_63 (by decide)
                exact loop_60 (nb - 0 + 1) (-1) (nI 0) 0 V _ _ _ (by omega) (by exact MK.rfl V) (by rfl) (by omega) hW (lv_sub hl [3, 4, 5, 2, 1, 0] rfl)
              · skip
                have c_36 : ¬ (gNe q) ≤ k0 := mt (nI_leI (by omega) (by omega)).mpr c_36
                refine lv_iload hx hb dX11_orderly_42 (lv_at hl 4 rfl) ?_
                refine lv_aload_n hx hb dX11_orderly_44 rfl (lv_at hl 2 rfl) ?_
                refine m_geti S hW hZ.sp.1 2 rfl kX11 (iW11 _) (by decide) (List.mem_cons_of_mem _ (wa_15 _ (List.mem_of_getElem? (i := 0) (by decide +kernel)))) dX11_orderly_45 ?_
                refine m_top (y := nI (gNe q)) hI.z.ne_ ?_
                refine lv_imul hx hb dX11_orderly_48 ?_
                refine m_top (y := nI (nb * (gNe q))) (pk_mul nb (gNe q)) ?_
                refine lv_istore (lv' := [(4, .int (nI (nb * (gNe q)))), (3, .int (nI 0)), (2, .int (-1)), (0, .ref (ad 200)), (1, .int w), (5, .int (nI k0))]) hx hb dX11_orderly_49 hl (by decide) rfl (fun ls hl => ?_)
                refine lv_iinc (v := nI (k0 + 1)) (lv' := [(5, .int (nI (k0 + 1))), (4, .int (nI (nb * (gNe q)))), (3, .int (nI 0)), (2, .int (-1)), (0, .ref (ad 200)), (1, .int w)]) hx hb dX11_orderly_51 hl (k := 5) rfl (m_inc k0 1) (by decide) rfl (fun ls hl => ?_)
                refine lv_goto (tgt := 33) hx hb dX11_orderly_54 (by decide) ?_
                exact ih_33  (nb * (gNe q)) (k0 + 1)  _ _ _ (by omega) (by rw [Nat.pow_succ, ← hnb]) (by omega) hW (lv_sub hl [2, 3, 4, 5, 1, 0] rfl)
          exact loop_33 (gNe q - 0 + 1) 1 0  _ _ _ (by omega) (by rw [Nat.pow_zero]) (by omega) hW (lv_sub hl [2, 3, 4, 5, 1, 0] rfl)
        · skip
          have c_35 : (gNe q) = 0 := (nI_eq (by omega) (by omega)).mp c_35
          exfalso; omega
    · exact absurd c_5 (by decide)
  · skip
    refine m_if_ne (tgt := 12) hx hb dX11_orderly_6 (by decide) (fun c_64 => ?_) (fun c_64 => ?_)
    · exact absurd c_64 (by decide)
    · skip
      refine lv_bipush (v := -2) hx hb dX11_orderly_9 (by decide) ?_
      exact m_iret S hr hlk hW dX11_orderly_11 (by exact ⟨by simp only [aOrderly, if_neg w_4]; try rfl, MK.rfl V⟩)
set_option maxHeartbeats 4000000 in
set_option maxRecDepth 100000 in
theorem c_X11_odds (l : Launch) (G : mG) (ad : Nat → Nat) (sh : Nat → Option mSh) (V : mV) (q : Sg) (sd nb x want pt : Int32) (hI : MI sh V q) : mM l yX11_odds wsX11_odds ({ frames := 6, cells := 0, slots := 0, locals := 152 } : Room) G ad sh V [.ref (ad 200), .int sd, .int nb, .int x, .int want, .int pt] 0 0 (mPl ad sh (fun r V' => (aOdds q sd nb x want pt) = r ∧ (MK V V'))) := by
  refine mM.of (cc := cX11_odds) (maxL := 10) (ret := (some .long)) (by decide) rfl (Nat.le_of_ble_eq_true rfl) ?_
  intro p e s m below meth c S hr hlk hnm hW ls hl
  obtain ⟨hx, hb, hml, hown, hts⟩ := id S
  have hl : lv_has ls 10 [(0, .ref (ad 200)), (1, .int sd), (2, .int nb), (3, .int x), (4, .int want), (5, .int pt)] := hl
  have hS0 : True := trivial
  have hZ := hI.z
  have hne5 := hZ.ne5
  have hng6 := hZ.ng6
  have htn := hI.tn
  refine lv_iload_n hx hb dX11_odds_0 rfl (lv_at hl 1 rfl) ?_
  refine lv_iconst (v := nI 0) hx hb dX11_odds_1 (by decide) ?_
  refine lv_ldcw (v := nI 99999) hx hb hown (hts (.constant RX11 278 (99999)) (List.mem_cons_of_mem _ (wa_42 _ (List.mem_of_getElem? (i := 13) (by decide +kernel))))) dX11_odds_2 ?_
  refine m_cip (m_rS S hW (c_X11_in l G ad sh V sd 0 99999 (by first | assumption | omega) (by first | assumption | omega)) (va_cwS 3 hts (gCall [.methodLink RX11 84 yX11_in, .static yX11_in, .initialized RX11] (List.forall_mem_cons.mpr ⟨(wa_12 _ (List.mem_of_getElem? (i := 16) (by decide +kernel))), (List.forall_mem_cons.mpr ⟨(wa_12 _ (List.mem_of_getElem? (i := 14) (by decide +kernel))), (List.forall_mem_cons.mpr ⟨(wa_12 _ (List.mem_of_getElem? (i := 15) (by decide +kernel))), (List.forall_mem_cons.mpr ⟨(wa_1 _ (List.mem_of_getElem? (i := 5) (by decide +kernel))), (fun _ h => absurd h List.not_mem_nil)⟩)⟩)⟩)⟩)) rfl rfl rfl (by decide +kernel) ⟨Nat.le_of_ble_eq_true rfl, Nat.le_of_ble_eq_true rfl⟩) rfl hl.1 rfl (Nat.le_of_ble_eq_true rfl) dX11_odds_5 ⟨Nat.le_of_ble_eq_true rfl, Nat.le_of_ble_eq_true rfl⟩) hW (fun r_2 H locs hp_1 hW => ?_)
  rcases hp_1 with ⟨rfl, w_3⟩ | ⟨rfl, w_4⟩
  · skip
    obtain ⟨nsd, hnsd, hwnsd, hlnsd⟩ := w_3.ex
    have hcsd : sd.toNatClampNeg = nsd := by rw [hnsd]; exact nI_clamp (by omega)
    refine m_if_eq (tgt := 69) hx hb dX11_odds_8 (by decide) (fun c_5 => ?_) (fun c_5 => ?_)
    · exact absurd c_5 (by decide)
    · skip
      refine lv_iload_n hx hb dX11_odds_11 rfl (lv_at hl 2 rfl) ?_
      refine lv_iconst (v := nI 0) hx hb dX11_odds_12 (by decide) ?_
      refine lv_sipush (v := nI 6040) hx hb dX11_odds_13 (by decide) ?_
      refine m_cip (m_rS S hW (c_X11_in l G ad sh V nb 0 6040 (by first | assumption | omega) (by first | assumption | omega)) (va_cwS 3 hts (gCall [.methodLink RX11 84 yX11_in, .static yX11_in, .initialized RX11] (List.forall_mem_cons.mpr ⟨(wa_12 _ (List.mem_of_getElem? (i := 16) (by decide +kernel))), (List.forall_mem_cons.mpr ⟨(wa_12 _ (List.mem_of_getElem? (i := 14) (by decide +kernel))), (List.forall_mem_cons.mpr ⟨(wa_12 _ (List.mem_of_getElem? (i := 15) (by decide +kernel))), (List.forall_mem_cons.mpr ⟨(wa_1 _ (List.mem_of_getElem? (i := 5) (by decide +kernel))), (fun _ h => absurd h List.not_mem_nil)⟩)⟩)⟩)⟩)) rfl rfl rfl (by decide +kernel) ⟨Nat.le_of_ble_eq_true rfl, Nat.le_of_ble_eq_true rfl⟩) rfl hl.1 rfl (Nat.le_of_ble_eq_true rfl) dX11_odds_16 ⟨Nat.le_of_ble_eq_true rfl, Nat.le_of_ble_eq_true rfl⟩) hW (fun r_7 H locs hp_6 hW => ?_)
      rcases hp_6 with ⟨rfl, w_8⟩ | ⟨rfl, w_9⟩
      · skip
        obtain ⟨nnb, hnnb, hwnnb, hlnnb⟩ := w_8.ex
        have hcnb : nb.toNatClampNeg = nnb := by rw [hnnb]; exact nI_clamp (by omega)
        refine m_if_eq (tgt := 69) hx hb dX11_odds_19 (by decide) (fun c_10 => ?_) (fun c_10 => ?_)
        · exact absurd c_10 (by decide)
        · skip
          refine lv_iload_n hx hb dX11_odds_22 rfl (lv_at hl 2 rfl) ?_
          refine m_top (y := nI nnb) hnnb ?_
          refine lv_bipush (v := nI 100) hx hb dX11_odds_23 (by decide) ?_
          refine lv_irem hx hb dX11_odds_25 (by decide) ?_
          refine m_top (y := nI (nnb % 100)) (pk_rem (by omega) (by omega) (by omega)) ?_
          refine lv_iconst (v := nI 1) hx hb dX11_odds_26 (by decide) ?_
          refine lv_bipush (v := nI 40) hx hb dX11_odds_27 (by decide) ?_
          refine m_cip (m_rS S hW (c_X11_in l G ad sh V (nI (nnb % 100)) 1 40 (by first | assumption | omega) (by first | assumption | omega)) (va_cwS 3 hts (gCall [.methodLink RX11 84 yX11_in, .static yX11_in, .initialized RX11] (List.forall_mem_cons.mpr ⟨(wa_12 _ (List.mem_of_getElem? (i := 16) (by decide +kernel))), (List.forall_mem_cons.mpr ⟨(wa_12 _ (List.mem_of_getElem? (i := 14) (by decide +kernel))), (List.forall_mem_cons.mpr ⟨(wa_12 _ (List.mem_of_getElem? (i := 15) (by decide +kernel))), (List.forall_mem_cons.mpr ⟨(wa_1 _ (List.mem_of_getElem? (i := 5) (by decide +kernel))), (fun _ h => absurd h List.not_mem_nil)⟩)⟩)⟩)⟩)) rfl rfl rfl (by decide +kernel) ⟨Nat.le_of_ble_eq_true rfl, Nat.le_of_ble_eq_true rfl⟩) rfl hl.1 rfl (Nat.le_of_ble_eq_true rfl) dX11_odds_29 ⟨Nat.le_of_ble_eq_true rfl, Nat.le_of_ble_eq_true rfl⟩) hW (fun r_12 H locs hp_11 hW => ?_)
          rcases hp_11 with ⟨rfl, w_13⟩ | ⟨rfl, w_14⟩
          · skip
            refine m_if_eq (tgt := 69) hx hb dX11_odds_32 (by decide) (fun c_15 => ?_) (fun c_15 => ?_)
            · exact absurd c_15 (by decide)
            · skip
              refine lv_aload_n hx hb dX11_odds_35 rfl (lv_at hl 0 rfl) ?_
              refine lv_iload_n hx hb dX11_odds_36 rfl (lv_at hl 3 rfl) ?_
              refine m_cip (m_rV S hW (c_X11_isEater l G ad sh V (gZ q) (gNe q) (gNg q) (gRl q) (gT q (gRl q)) x hZ) (cwV 1 hts (gCall [.methodLink RX11 179 yX11_isEater, .instanceMethod yX11_isEater, .selects RX11 yX11_isEater yX11_isEater, .initialized RX11] (List.forall_mem_cons.mpr ⟨(wa_19 _ (List.mem_of_getElem? (i := 3) (by decide +kernel))), (List.forall_mem_cons.mpr ⟨(wa_19 _ (List.mem_of_getElem? (i := 0) (by decide +kernel))), (List.forall_mem_cons.mpr ⟨(wa_19 _ (List.mem_of_getElem? (i := 1) (by decide +kernel))), (List.forall_mem_cons.mpr ⟨(wa_19 _ (List.mem_of_getElem? (i := 2) (by decide +kernel))), (List.forall_mem_cons.mpr ⟨(wa_1 _ (List.mem_of_getElem? (i := 5) (by decide +kernel))), (fun _ h => absurd h List.not_mem_nil)⟩)⟩)⟩)⟩)⟩)) rfl rfl rfl (by decide +kernel) ⟨Nat.le_of_ble_eq_true rfl, Nat.le_of_ble_eq_true rfl⟩) hZ.sp.1 kX11 rfl hl.1 rfl (Nat.le_of_ble_eq_true rfl) dX11_odds_37 ⟨Nat.le_of_ble_eq_true rfl, Nat.le_of_ble_eq_true rfl⟩) hW (fun r_17 H locs hp_16 hW => ?_)
              rcases hp_16 with ⟨rfl, w_18⟩ | ⟨rfl, w_19⟩
              · skip
                obtain ⟨nx, hnx, hwnx, hlnx⟩ := w_18.ex
                have hcx : x.toNatClampNeg = nx := by rw [hnx]; exact nI_clamp (by omega)
                refine m_if_eq (tgt := 69) hx hb dX11_odds_40 (by decide) (fun c_20 => ?_) (fun c_20 => ?_)
                · exact absurd c_20 (by decide)
                · skip
                  refine lv_iload hx hb dX11_odds_43 (lv_at hl 4 rfl) ?_
                  refine lv_iconst (v := nI 0) hx hb dX11_odds_45 (by decide) ?_
                  refine lv_sipush (v := nI 9999) hx hb dX11_odds_46 (by decide) ?_
                  refine m_cip (m_rS S hW (c_X11_in l G ad sh V want 0 9999 (by first | assumption | omega) (by first | assumption | omega)) (va_cwS 3 hts (gCall [.methodLink RX11 84 yX11_in, .static yX11_in, .initialized RX11] (List.forall_mem_cons.mpr ⟨(wa_12 _ (List.mem_of_getElem? (i := 16) (by decide +kernel))), (List.forall_mem_cons.mpr ⟨(wa_12 _ (List.mem_of_getElem? (i := 14) (by decide +kernel))), (List.forall_mem_cons.mpr ⟨(wa_12 _ (List.mem_of_getElem? (i := 15) (by decide +kernel))), (List.forall_mem_cons.mpr ⟨(wa_1 _ (List.mem_of_getElem? (i := 5) (by decide +kernel))), (fun _ h => absurd h List.not_mem_nil)⟩)⟩)⟩)⟩)) rfl rfl rfl (by decide +kernel) ⟨Nat.le_of_ble_eq_true rfl, Nat.le_of_ble_eq_true rfl⟩) rfl hl.1 rfl (Nat.le_of_ble_eq_true rfl) dX11_odds_49 ⟨Nat.le_of_ble_eq_true rfl, Nat.le_of_ble_eq_true rfl⟩) hW (fun r_22 H locs hp_21 hW => ?_)
                  rcases hp_21 with ⟨rfl, w_23⟩ | ⟨rfl, w_24⟩
                  · skip
                    refine m_if_eq (tgt := 69) hx hb dX11_odds_52 (by decide) (fun c_25 => ?_) (fun c_25 => ?_)
                    · exact absurd c_25 (by decide)
                    · skip
                      refine lv_iload hx hb dX11_odds_55 (lv_at hl 5 rfl) ?_
                      refine lv_iconst (v := nI 0) hx hb dX11_odds_57 (by decide) ?_
                      refine lv_iconst (v := nI 1) hx hb dX11_odds_58 (by decide) ?_
                      refine m_cip (m_rS S hW (c_X11_in l G ad sh V pt 0 1 (by first | assumption | omega) (by first | assumption | omega)) (va_cwS 3 hts (gCall [.methodLink RX11 84 yX11_in, .static yX11_in, .initialized RX11] (List.forall_mem_cons.mpr ⟨(wa_12 _ (List.mem_of_getElem? (i := 16) (by decide +kernel))), (List.forall_mem_cons.mpr ⟨(wa_12 _ (List.mem_of_getElem? (i := 14) (by decide +kernel))), (List.forall_mem_cons.mpr ⟨(wa_12 _ (List.mem_of_getElem? (i := 15) (by decide +kernel))), (List.forall_mem_cons.mpr ⟨(wa_1 _ (List.mem_of_getElem? (i := 5) (by decide +kernel))), (fun _ h => absurd h List.not_mem_nil)⟩)⟩)⟩)⟩)) rfl rfl rfl (by decide +kernel) ⟨Nat.le_of_ble_eq_true rfl, Nat.le_of_ble_eq_true rfl⟩) rfl hl.1 rfl (Nat.le_of_ble_eq_true rfl) dX11_odds_59 ⟨Nat.le_of_ble_eq_true rfl, Nat.le_of_ble_eq_true rfl⟩) hW (fun r_27 H locs hp_26 hW => ?_)
                      rcases hp_26 with ⟨rfl, w_28⟩ | ⟨rfl, w_29⟩
                      · skip
                        obtain ⟨npt, hnpt, hwnpt, hlnpt⟩ := w_28.ex
                        have hcpt : pt.toNatClampNeg = npt := by rw [hnpt]; exact nI_clamp (by omega)
                        refine m_if_eq (tgt := 69) hx hb dX11_odds_62 (by decide) (fun c_30 => ?_) (fun c_30 => ?_)
                        · exact absurd c_30 (by decide)
                        · skip
                          have hye9 := aOdds_yes (q := q) (sd := sd) (nb := nb) (x := x) (want := want) (pt := pt) w_3 hnnb (by omega) w_13 w_18 w_23 w_28
                          obtain ⟨hm1, hm2⟩ := (mIn_nI (n := nnb % 100) (by omega)).mp w_13
                          refine lv_iconst (v := nI 1) hx hb dX11_odds_65 (by decide) ?_
                          refine lv_goto (tgt := 70) hx hb dX11_odds_66 (by decide) ?_
                          refine lv_istore (lv' := [(6, .int (nI 1)), (0, .ref (ad 200)), (1, .int sd), (2, .int nb), (3, .int x), (4, .int want), (5, .int pt)]) hx hb dX11_odds_70 hl (by decide) rfl (fun ls hl => ?_)
                          refine lv_iload hx hb dX11_odds_72 (lv_at hl 0 rfl) ?_
                          refine m_if_eq (tgt := 84) hx hb dX11_odds_74 (by decide) (fun c_31 => ?_) (fun c_31 => ?_)
                          · exact absurd c_31 (by decide)
                          · skip
                            refine lv_aload_n hx hb dX11_odds_77 rfl (lv_at hl 1 rfl) ?_
                            refine m_geti S hW hZ.sp.1 0 rfl kX11 (iW11 _) (by decide) (List.mem_cons_of_mem _ (wa_15 _ (List.mem_of_getElem? (i := 1) (by decide +kernel)))) dX11_odds_78 ?_
                            refine m_top (y := nI (gNg q)) hI.z.ng_ ?_
                            refine m_if_ne (tgt := 88) hx hb dX11_odds_81 (by decide) (fun c_32 => ?_) (fun c_32 => ?_)
                            · skip
                              have c_32 : ¬ (gNg q) = 0 := mt (nI_eq (by omega) (by omega)).mpr c_32
                              have hg0 : ¬ gNg q = 0 := c_32
                              refine lv_lconst (v := (0)) hx hb dX11_odds_88 (by decide) ?_
                              refine m_topl (y := lN 0) (by decide +kernel) ?_
                              refine lv_lstore (lv' := [(7, .long (lN 0)), (6, .int (nI 1)), (0, .ref (ad 200)), (1, .int sd), (2, .int nb), (3, .int x), (4, .int want), (5, .int pt)]) hx hb dX11_odds_89 hl (by decide) rfl (fun ls hl => ?_)
                              refine lv_iconst (v := nI 0) hx hb dX11_odds_91 (by decide) ?_
                              refine lv_istore (lv' := [(9, .int (nI 0)), (7, .long (lN 0)), (6, .int (nI 1)), (0, .ref (ad 200)), (1, .int sd), (2, .int nb), (3, .int x), (4, .int want), (5, .int pt)]) hx hb dX11_odds_92 hl (by decide) rfl (fun ls hl => ?_)
                              have loop_94 : ∀ (n_94 : Nat) (so k : Nat) (V1 : mV) (H : Heap) (locs : List Loc) (ls : Array Slot), (k ≤ nnb % 100) → (MK V V1) → (so ≤ k) → (so = zAbove (gAsk q) (gNe q) (gNg q) nsd (nnb / 100) (gZ q) nx want k) → (nnb % 100 - k) < n_94 → mC (mA ad sh s.heap.size) s.heap s G ad sh V1 H locs → lv_has ls 10 [(6, .int (nI 1)), (0, .ref (ad 200)), (1, .int sd), (2, .int nb), (3, .int x), (4, .int want), (5, .int pt), (7, .long (lN so)), (9, .int (nI k))] → W p l e ({ frames := 6, cells := 0, slots := 0, locals := 152 } : Room) s m ([.ref (ad 200), .int sd, .int nb, .int x, .int want, .int pt] : List Value).toArray below meth c H locs 0 0 (MQ below (mPost G ad sh s.heap.size (mPl ad sh (fun r V' => (aOdds q sd nb x want pt) = r ∧ (MK V V')))) ([.ref (ad 200), .int sd, .int nb, .int x, .int want, .int pt] : List Value).toArray s 0 0 (mA ad sh s.heap.size)) (F0 m 94 ls []) := by
                                intro n_94
                                induction n_94 with
                                | zero => intro so k V1 H locs ls hk hK1 hsk hso hM_ hW hl; omega
                                | succ n_94 ih_94 =>
                                  intro so k V1 H locs ls hk hK1 hsk hso hM_ hW hl
                                  refine lv_iload hx hb dX11_odds_94 (lv_at hl 8 rfl) ?_
                                  refine lv_iload_n hx hb dX11_odds_96 rfl (lv_at hl 3 rfl) ?_
                                  refine m_top (y := nI nnb) hnnb ?_
                                  refine lv_bipush (v := nI 100) hx hb dX11_odds_97 (by decide) ?_
                                  refine lv_irem hx hb dX11_odds_99 (by decide) ?_
                                  refine m_top (y := nI (nnb % 100)) (pk_rem (by omega) (by omega) (by omega)) ?_
                                  refine lv_icmp_ge (tgt := 141) hx hb dX11_odds_100 (by decide) (fun c_33 => ?_) (fun c_33 => ?_)
                                  · skip
                                    have c_33 : (nnb % 100) ≤ k := (nI_leI (by omega) (by omega)).mp c_33
                                    refine lv_lload hx hb dX11_odds_141 (lv_at hl 7 rfl) ?_
                                    refine lv_iload_n hx hb dX11_odds_143 rfl (lv_at hl 3 rfl) ?_
                                    refine m_top (y := nI nnb) hnnb ?_
                                    refine lv_bipush (v := nI 100) hx hb dX11_odds_144 (by decide) ?_
                                    refine lv_irem hx hb dX11_odds_146 (by decide) ?_
                                    refine m_top (y := nI (nnb % 100)) (pk_rem (by omega) (by omega) (by omega)) ?_
                                    refine lv_i2l (v := (nI (nnb % 100)).toInt64) hx hb dX11_odds_147 rfl ?_
                                    refine m_topl (y := lN (nnb % 100)) (nI_l (by omega)) ?_
                                    refine lv_iload hx hb dX11_odds_148 (lv_at hl 6 rfl) ?_
                                    refine m_top (y := nI npt) hnpt ?_
                                    refine m_cle (m_rS S hW (c_X11_lowest l G ad sh V1 so (nnb % 100) npt (by omega) (by omega) (by omega) (by omega)) (va_cwS 3 hts (gCall [.methodLink RX11 285 yX11_lowest, .static yX11_lowest, .initialized RX11] (List.forall_mem_cons.mpr ⟨(wa_43 _ (List.mem_of_getElem? (i := 16) (by decide +kernel))), (List.forall_mem_cons.mpr ⟨(wa_43 _ (List.mem_of_getElem? (i := 14) (by decide +kernel))), (List.forall_mem_cons.mpr ⟨(wa_43 _ (List.mem_of_getElem? (i := 15) (by decide +kernel))), (List.forall_mem_cons.mpr ⟨(wa_1 _ (List.mem_of_getElem? (i := 5) (by decide +kernel))), (fun _ h => absurd h List.not_mem_nil)⟩)⟩)⟩)⟩)) rfl rfl rfl (by decide +kernel) ⟨Nat.le_of_ble_eq_true rfl, Nat.le_of_ble_eq_true rfl⟩) rfl hl.1 rfl (Nat.le_of_ble_eq_true rfl) dX11_odds_150 ⟨Nat.le_of_ble_eq_true rfl, Nat.le_of_ble_eq_true rfl⟩) hW (fun H locs hW => ?_)
                                    exact m_lret S hr hlk hW dX11_odds_153 (by have hga : gAbv q sd nb x want = so := (by rw [gAbv, hcsd, hcnb, hcx, hso, show k = nnb % 100 by omega]); exact ⟨by rw [hye9, if_neg hg0, hga, low_eq (by omega) (by omega)]; exact odd_e hnpt, hK1⟩)
                                  · skip
                                    have c_33 : ¬ (nnb % 100) ≤ k := mt (nI_leI (by omega) (by omega)).mpr c_33
                                    refine lv_aload_n hx hb dX11_odds_103 rfl (lv_at hl 1 rfl) ?_
                                    refine lv_iload_n hx hb dX11_odds_104 rfl (lv_at hl 2 rfl) ?_
                                    refine m_top (y := nI nsd) hnsd ?_
                                    refine lv_iload hx hb dX11_odds_105 (lv_at hl 8 rfl) ?_
                                    refine lv_iadd hx hb dX11_odds_107 ?_
                                    refine m_top (y := nI (nsd + k)) (nI_add nsd k) ?_
                                    refine lv_iload_n hx hb dX11_odds_108 rfl (lv_at hl 3 rfl) ?_
                                    refine m_top (y := nI nnb) hnnb ?_
                                    refine lv_bipush (v := nI 100) hx hb dX11_odds_109 (by decide) ?_
                                    refine lv_idiv hx hb dX11_odds_111 (by decide) ?_
                                    refine m_top (y := nI (nnb / 100)) (pk_div (by omega) (by omega) (by omega)) ?_
                                    refine lv_iload_n hx hb dX11_odds_112 rfl (lv_at hl 4 rfl) ?_
                                    refine m_top (y := nI nx) hnx ?_
                                    refine m_cv (m_rV S hW (c_X11_dayBy l G ad sh V1 (gZ q) (gNe q) (gNg q) (gRl q) (gT q (gRl q)) (nsd + k) (nnb / 100) nx (hZ.k hK1) hlnx (by omega) (by omega) (by omega) (by omega)) (cwV 3 hts (gCall [.methodLink RX11 279 yX11_dayBy, .instanceMethod yX11_dayBy, .selects RX11 yX11_dayBy yX11_dayBy, .initialized RX11] (List.forall_mem_cons.mpr ⟨(wa_42 _ (List.mem_of_getElem? (i := 19) (by decide +kernel))), (List.forall_mem_cons.mpr ⟨(wa_42 _ (List.mem_of_getElem? (i := 16) (by decide +kernel))), (List.forall_mem_cons.mpr ⟨(wa_42 _ (List.mem_of_getElem? (i := 17) (by decide +kernel))), (List.forall_mem_cons.mpr ⟨(wa_42 _ (List.mem_of_getElem? (i := 18) (by decide +kernel))), (List.forall_mem_cons.mpr ⟨(wa_1 _ (List.mem_of_getElem? (i := 5) (by decide +kernel))), (fun _ h => absurd h List.not_mem_nil)⟩)⟩)⟩)⟩)⟩)) rfl rfl rfl (by decide +kernel) ⟨Nat.le_of_ble_eq_true rfl, Nat.le_of_ble_eq_true rfl⟩) hZ.sp.1 kX11 rfl hl.1 rfl (Nat.le_of_ble_eq_true rfl) dX11_odds_113 ⟨Nat.le_of_ble_eq_true rfl, Nat.le_of_ble_eq_true rfl⟩) hW (fun V_34 H locs hp_35 hW => ?_)
                                    obtain ⟨hK_37, h36_38, h37_39⟩ := hp_35
                                    refine lv_lload hx hb dX11_odds_116 (lv_at hl 7 rfl) ?_
                                    refine lv_aload_n hx hb dX11_odds_118 rfl (lv_at hl 1 rfl) ?_
                                    refine m_geti S hW hZ.sp.1 36 rfl kX11 (iW11 _) (by decide) (List.mem_cons_of_mem _ (wa_42 _ (List.mem_of_getElem? (i := 14) (by decide +kernel)))) dX11_odds_119 ?_
                                    refine m_top (y := (zDraw (gAsk q) (gNe q) (gNg q) (nsd + k + 1) (gZ q) (nnb / 100) (4 + nx) 4)) h36_38 ?_
                                    refine lv_iload hx hb dX11_odds_122 (lv_at hl 5 rfl) ?_
                                    refine lv_icmp_lt (tgt := 131) hx hb dX11_odds_124 (by decide) (fun c_40 => ?_) (fun c_40 => ?_)
                                    · skip
                                      refine lv_lconst (v := (0)) hx hb dX11_odds_131 (by decide) ?_
                                      refine m_topl (y := lN 0) (by decide +kernel) ?_
                                      refine lv_ladd hx hb dX11_odds_132 ?_
                                      refine m_topl (y := lN (so + 0)) (lN_add so 0) ?_
                                      refine lv_lstore (lv' := [(7, .long (lN (so + 0))), (6, .int (nI 1)), (0, .ref (ad 200)), (1, .int sd), (2, .int nb), (3, .int x), (4, .int want), (5, .int pt), (9, .int (nI k))]) hx hb dX11_odds_133 hl (by decide) rfl (fun ls hl => ?_)
                                      refine lv_iinc (v := nI (k + 1)) (lv' := [(9, .int (nI (k + 1))), (7, .long (lN (so + 0))), (6, .int (nI 1)), (0, .ref (ad 200)), (1, .int sd), (2, .int nb), (3, .int x), (4, .int want), (5, .int pt)]) hx hb dX11_odds_135 hl (k := 8) rfl (m_inc k 1) (by decide) rfl (fun ls hl => ?_)
                                      refine lv_goto (tgt := 94) hx hb dX11_odds_138 (by decide) ?_
                                      exact ih_94  (so + 0) (k + 1) V_34 _ _ _ (by omega) (by exact hK1.trans hK_37) (by omega) (by rw [zAbove]; rw [if_pos c_40, ← hso] <;> rfl) (by omega) hW (lv_sub hl [2, 3, 4, 5, 6, 7, 8, 1, 0] rfl)
                                    · skip
                                      refine lv_lconst (v := (1)) hx hb dX11_odds_127 (by decide) ?_
                                      refine m_topl (y := lN 1) (by decide +kernel) ?_
                                      refine lv_goto (tgt := 132) hx hb dX11_odds_128 (by decide) ?_
                                      refine lv_ladd hx hb dX11_odds_132 ?_
                                      refine m_topl (y := lN (so + 1)) (lN_add so 1) ?_
                                      refine lv_lstore (lv' := [(7, .long (lN (so + 1))), (6, .int (nI 1)), (0, .ref (ad 200)), (1, .int sd), (2, .int nb), (3, .int x), (4, .int want), (5, .int pt), (9, .int (nI k))]) hx hb dX11_odds_133 hl (by decide) rfl (fun ls hl => ?_)
                                      refine lv_iinc (v := nI (k + 1)) (lv' := [(9, .int (nI (k + 1))), (7, .long (lN (so + 1))), (6, .int (nI 1)), (0, .ref (ad 200)), (1, .int sd), (2, .int nb), (3, .int x), (4, .int want), (5, .int pt)]) hx hb dX11_odds_135 hl (k := 8) rfl (m_inc k 1) (by decide) rfl (fun ls hl => ?_)
                                      refine lv_goto (tgt := 94) hx hb dX11_odds_138 (by decide) ?_
                                      exact ih_94  (so + 1) (k + 1) V_34 _ _ _ (by omega) (by exact hK1.trans hK_37) (by omega) (by rw [zAbove]; rw [if_neg c_40, ← hso]) (by omega) hW (lv_sub hl [2, 3, 4, 5, 6, 7, 8, 1, 0] rfl)
                              exact loop_94 (nnb % 100 - 0 + 1) 0 0 V _ _ _ (by omega) (by exact MK.rfl V) (by omega) (by rfl) (by omega) hW (lv_sub hl [2, 3, 4, 5, 6, 7, 8, 1, 0] rfl)
                            · skip
                              have c_32 : (gNg q) = 0 := (nI_eq (by omega) (by omega)).mp c_32
                              refine lv_ldc2 (v := (-4611686018427387904)) hx hb hown (hts (.constantLong RX11 283 (-4611686018427387904)) (List.mem_cons_of_mem _ (wa_43 _ (List.mem_of_getElem? (i := 13) (by decide +kernel))))) dX11_odds_84 ?_
                              exact m_lret S hr hlk hW dX11_odds_87 (by exact ⟨by rw [hye9, if_pos c_32], MK.rfl V⟩)
                      · skip
                        refine m_if_eq (tgt := 69) hx hb dX11_odds_62 (by decide) (fun c_41 => ?_) (fun c_41 => ?_)
                        · skip
                          have hno9 : aOdds q sd nb x want pt = -4611686018427387904 := aOdds_no (fun z => w_29 z.2.2.2.2.2)
                          refine lv_iconst (v := nI 0) hx hb dX11_odds_69 (by decide) ?_
                          refine lv_istore (lv' := [(6, .int (nI 0)), (0, .ref (ad 200)), (1, .int sd), (2, .int nb), (3, .int x), (4, .int want), (5, .int pt)]) hx hb dX11_odds_70 hl (by decide) rfl (fun ls hl => ?_)
                          refine lv_iload hx hb dX11_odds_72 (lv_at hl 0 rfl) ?_
                          refine m_if_eq (tgt := 84) hx hb dX11_odds_74 (by decide) (fun c_42 => ?_) (fun c_42 => ?_)
                          · skip
                            refine lv_ldc2 (v := (-4611686018427387904)) hx hb hown (hts (.constantLong RX11 283 (-4611686018427387904)) (List.mem_cons_of_mem _ (wa_43 _ (List.mem_of_getElem? (i := 13) (by decide +kernel))))) dX11_odds_84 ?_
                            exact m_lret S hr hlk hW dX11_odds_87 (by exact ⟨hno9, MK.rfl V⟩)
                          · exact absurd c_42 (by decide)
                        · exact absurd c_41 (by decide)
                  · skip
                    refine m_if_eq (tgt := 69) hx hb dX11_odds_52 (by decide) (fun c_43 => ?_) (fun c_43 => ?_)
                    · skip
                      have hno9 : aOdds q sd nb x want pt = -4611686018427387904 := aOdds_no (fun z => w_24 z.2.2.2.2.1)
                      refine lv_iconst (v := nI 0) hx hb dX11_odds_69 (by decide) ?_
                      refine lv_istore (lv' := [(6, .int (nI 0)), (0, .ref (ad 200)), (1, .int sd), (2, .int nb), (3, .int x), (4, .int want), (5, .int pt)]) hx hb dX11_odds_70 hl (by decide) rfl (fun ls hl => ?_)
                      refine lv_iload hx hb dX11_odds_72 (lv_at hl 0 rfl) ?_
                      refine m_if_eq (tgt := 84) hx hb dX11_odds_74 (by decide) (fun c_44 => ?_) (fun c_44 => ?_)
                      · skip
                        refine lv_ldc2 (v := (-4611686018427387904)) hx hb hown (hts (.constantLong RX11 283 (-4611686018427387904)) (List.mem_cons_of_mem _ (wa_43 _ (List.mem_of_getElem? (i := 13) (by decide +kernel))))) dX11_odds_84 ?_
                        exact m_lret S hr hlk hW dX11_odds_87 (by exact ⟨hno9, MK.rfl V⟩)
                      · exact absurd c_44 (by decide)
                    · exact absurd c_43 (by decide)
              · skip
                refine m_if_eq (tgt := 69) hx hb dX11_odds_40 (by decide) (fun c_45 => ?_) (fun c_45 => ?_)
                · skip
                  have hno9 : aOdds q sd nb x want pt = -4611686018427387904 := aOdds_no (fun z => w_19 z.2.2.2.1)
                  refine lv_iconst (v := nI 0) hx hb dX11_odds_69 (by decide) ?_
                  refine lv_istore (lv' := [(6, .int (nI 0)), (0, .ref (ad 200)), (1, .int sd), (2, .int nb), (3, .int x), (4, .int want), (5, .int pt)]) hx hb dX11_odds_70 hl (by decide) rfl (fun ls hl => ?_)
                  refine lv_iload hx hb dX11_odds_72 (lv_at hl 0 rfl) ?_
                  refine m_if_eq (tgt := 84) hx hb dX11_odds_74 (by decide) (fun c_46 => ?_) (fun c_46 => ?_)
                  · skip
                    refine lv_ldc2 (v := (-4611686018427387904)) hx hb hown (hts (.constantLong RX11 283 (-4611686018427387904)) (List.mem_cons_of_mem _ (wa_43 _ (List.mem_of_getElem? (i := 13) (by decide +kernel))))) dX11_odds_84 ?_
                    exact m_lret S hr hlk hW dX11_odds_87 (by exact ⟨hno9, MK.rfl V⟩)
                  · exact absurd c_46 (by decide)
                · exact absurd c_45 (by decide)
          · skip
            refine m_if_eq (tgt := 69) hx hb dX11_odds_32 (by decide) (fun c_47 => ?_) (fun c_47 => ?_)
            · skip
              have hno9 : aOdds q sd nb x want pt = -4611686018427387904 := aOdds_no (fun z => by have z3 := z.2.2.1; rw [hcnb] at z3; exact w_14 z3)
              refine lv_iconst (v := nI 0) hx hb dX11_odds_69 (by decide) ?_
              refine lv_istore (lv' := [(6, .int (nI 0)), (0, .ref (ad 200)), (1, .int sd), (2, .int nb), (3, .int x), (4, .int want), (5, .int pt)]) hx hb dX11_odds_70 hl (by decide) rfl (fun ls hl => ?_)
              refine lv_iload hx hb dX11_odds_72 (lv_at hl 0 rfl) ?_
              refine m_if_eq (tgt := 84) hx hb dX11_odds_74 (by decide) (fun c_48 => ?_) (fun c_48 => ?_)
              · skip
                refine lv_ldc2 (v := (-4611686018427387904)) hx hb hown (hts (.constantLong RX11 283 (-4611686018427387904)) (List.mem_cons_of_mem _ (wa_43 _ (List.mem_of_getElem? (i := 13) (by decide +kernel))))) dX11_odds_84 ?_
                exact m_lret S hr hlk hW dX11_odds_87 (by exact ⟨hno9, MK.rfl V⟩)
              · exact absurd c_48 (by decide)
            · exact absurd c_47 (by decide)
      · skip
        refine m_if_eq (tgt := 69) hx hb dX11_odds_19 (by decide) (fun c_49 => ?_) (fun c_49 => ?_)
        · skip
          have hno9 : aOdds q sd nb x want pt = -4611686018427387904 := aOdds_no (fun z => w_9 z.2.1)
          refine lv_iconst (v := nI 0) hx hb dX11_odds_69 (by decide) ?_
          refine lv_istore (lv' := [(6, .int (nI 0)), (0, .ref (ad 200)), (1, .int sd), (2, .int nb), (3, .int x), (4, .int want), (5, .int pt)]) hx hb dX11_odds_70 hl (by decide) rfl (fun ls hl => ?_)
          refine lv_iload hx hb dX11_odds_72 (lv_at hl 0 rfl) ?_
          refine m_if_eq (tgt := 84) hx hb dX11_odds_74 (by decide) (fun c_50 => ?_) (fun c_50 => ?_)
          · skip
            refine lv_ldc2 (v := (-4611686018427387904)) hx hb hown (hts (.constantLong RX11 283 (-4611686018427387904)) (List.mem_cons_of_mem _ (wa_43 _ (List.mem_of_getElem? (i := 13) (by decide +kernel))))) dX11_odds_84 ?_
            exact m_lret S hr hlk hW dX11_odds_87 (by exact ⟨hno9, MK.rfl V⟩)
          · exact absurd c_50 (by decide)
        · exact absurd c_49 (by decide)
  · skip
    refine m_if_eq (tgt := 69) hx hb dX11_odds_8 (by decide) (fun c_51 => ?_) (fun c_51 => ?_)
    · skip
      have hno9 : aOdds q sd nb x want pt = -4611686018427387904 := aOdds_no (fun z => w_4 z.1)
      refine lv_iconst (v := nI 0) hx hb dX11_odds_69 (by decide) ?_
      refine lv_istore (lv' := [(6, .int (nI 0)), (0, .ref (ad 200)), (1, .int sd), (2, .int nb), (3, .int x), (4, .int want), (5, .int pt)]) hx hb dX11_odds_70 hl (by decide) rfl (fun ls hl => ?_)
      refine lv_iload hx hb dX11_odds_72 (lv_at hl 0 rfl) ?_
      refine m_if_eq (tgt := 84) hx hb dX11_odds_74 (by decide) (fun c_52 => ?_) (fun c_52 => ?_)
      · skip
        refine lv_ldc2 (v := (-4611686018427387904)) hx hb hown (hts (.constantLong RX11 283 (-4611686018427387904)) (List.mem_cons_of_mem _ (wa_43 _ (List.mem_of_getElem? (i := 13) (by decide +kernel))))) dX11_odds_84 ?_
        exact m_lret S hr hlk hW dX11_odds_87 (by exact ⟨hno9, MK.rfl V⟩)
      · exact absurd c_52 (by decide)
    · exact absurd c_51 (by decide)
