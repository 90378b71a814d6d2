/-! days: told, filmed, by lots -/
theorem lN_ne0 {n : Nat} (h0 : 0 < n) (h : n < 2 ^ 63) : ¬ lN n = 0 := fun z => by
  have := (pk_lEQ (a := n) (b := 0) h (by decide)).mp z
  omega
def zStep (ask : fAsks) (z : fZ) (i g p : Nat) : fZ := if zCan ask z i g p then zBi ask z i g p else z
def fLot (s : Nat) : Nat → Nat
  | 0 => s
  | k + 1 => fLot s k * 48271 % 2147483647
def zDraw (ask : fAsks) (ne ng s : Nat) (z : fZ) : Nat → fZ
  | 0 => z
  | k + 1 => zStep ask (zDraw ask ne ng s z k) (fLot s (k + 1) % ne) (fLot s (k + 1) / 8 % ng) (fLot s (k + 1) / 64 % 16)
/-- a told day: the scene, and which bite can't be (or -1) -/
def zDay (ask : fAsks) (c : Nat → Int32) (z : fZ) : Nat → fZ × Int32
  | 0 => (z, -1)
  | m + 1 => if (zDay ask c z m).2 = -1 then (if zCan ask (zDay ask c z m).1 (c (3 * m)).toNatClampNeg (c (3 * m + 1)).toNatClampNeg (c (3 * m + 2)).toNatClampNeg then (zBi ask (zDay ask c z m).1 (c (3 * m)).toNatClampNeg (c (3 * m + 1)).toNatClampNeg (c (3 * m + 2)).toNatClampNeg, -1) else ((zDay ask c z m).1, nI m)) else zDay ask c z m
theorem zDay_stop {ask : fAsks} {c : Nat → Int32} {z : fZ} {m n : Nat} (h : ¬ (zDay ask c z m).2 = -1) (hn : m ≤ n) : zDay ask c z n = zDay ask c z m := by
  induction n with
  | zero => rw [show m = 0 by omega]
  | succ n ih =>
    by_cases hm : m = n + 1
    · rw [hm]
    · rw [zDay, ih (by omega), if_neg h]
def zFilm (ask : fAsks) (ne ng : Nat) (z : fZ) : Nat → fZ × (Nat → Int32) × Nat
  | 0 => (z, fun _ => nI 0, 0)
  | k + 1 =>
    if (zBest ask (zFilm ask ne ng z k).1 (k % ne) (ng * 16)).1 = -1 then zFilm ask ne ng z k
    else (zBi ask (zFilm ask ne ng z k).1 (k % ne) ((zBest ask (zFilm ask ne ng z k).1 (k % ne) (ng * 16)).1.toNatClampNeg / 100) ((zBest ask (zFilm ask ne ng z k).1 (k % ne) (ng * 16)).1.toNatClampNeg % 100),
      upd (upd (upd (zFilm ask ne ng z k).2.1 (3 * (zFilm ask ne ng z k).2.2) (nI (k % ne))) (3 * (zFilm ask ne ng z k).2.2 + 1) (nI ((zBest ask (zFilm ask ne ng z k).1 (k % ne) (ng * 16)).1.toNatClampNeg / 100))) (3 * (zFilm ask ne ng z k).2.2 + 2) (nI ((zBest ask (zFilm ask ne ng z k).1 (k % ne) (ng * 16)).1.toNatClampNeg % 100)),
      (zFilm ask ne ng z k).2.2 + 1)
theorem zFilm_n {ask : fAsks} {ne ng : Nat} {z : fZ} {k : Nat} (h : zBest ask (zFilm ask ne ng z k).1 (k % ne) (ng * 16) = (-1, nI 0)) : zFilm ask ne ng z (k + 1) = zFilm ask ne ng z k := by rw [zFilm, h, if_pos rfl]
theorem zFilm_s {ask : fAsks} {ne ng : Nat} {z : fZ} {k gg pp : Nat} {ga : Int32} (h : zBest ask (zFilm ask ne ng z k).1 (k % ne) (ng * 16) = (nI (100 * gg + pp), ga)) (h1 : gg < 6) (h2 : pp < 16) : zFilm ask ne ng z (k + 1) = (zBi ask (zFilm ask ne ng z k).1 (k % ne) gg pp, upd (upd (upd (zFilm ask ne ng z k).2.1 (3 * (zFilm ask ne ng z k).2.2) (nI (k % ne))) (3 * (zFilm ask ne ng z k).2.2 + 1) (nI gg)) (3 * (zFilm ask ne ng z k).2.2 + 2) (nI pp), (zFilm ask ne ng z k).2.2 + 1) := by
  rw [zFilm, h, if_neg (m_nneg (by omega)), nI_clamp (by omega), show (100 * gg + pp) / 100 = gg by omega, show (100 * gg + pp) % 100 = pp by omega]
def ThFd (V V' : mV) : Prop := ∀ a, a < 80 ∨ 104 ≤ a → V' a = V a
theorem ThOk.t110 {sh : Nat → Option mSh} {V : mV} {t ta tb tl ne ng : Nat} {ask : fAsks} {z : fZ} (h : ThOk sh V t ta tb tl ne ng ask z) : 110 ≤ t := by
  have := h.2.2.1.2.2.2.2.1
  omega
theorem ThOk.fr4 {sh : Nat → Option mSh} {V V' : mV} {t ta tb tl ne ng : Nat} {ask : fAsks} {z : fZ} (h : ThOk sh V t ta tb tl ne ng ask z) (h1 : ∀ a, 81 ≤ a → V' a = V a) (h2 : ∀ q, q < 6 → V' 80 q = V 80 q) : ThOk sh V' t ta tb tl ne ng ask z := by
  have ht := h.t110
  exact ⟨h.1, h.2.fr (fun a ha => h1 a (by omega)) (fun q _ hq => h2 q hq)⟩
theorem ThFd.bite {V V' : mV} {i g : Nat} {x wo co : Int32} (h : ThFd V V') (hi : i < 5) (hg : g < 6) : ThFd V (fBite V' 80 (80 + 4 + i) (80 + 10 + 2 * g) x wo co) := fun a ha => by
  rw [fBite, mU_no _ _ (by omega), mU_no _ _ (by omega), mU_no _ _ (by omega), mU_no _ _ (by omega)]
  exact h a ha
/-- a row tells a day, so far as it goes -/
def fDayOk (c : Nat → Int32) (ne ng sz : Nat) : Prop := ∀ m, 3 * m + 2 < sz → ∃ u v w : Nat, c (3 * m) = nI u ∧ c (3 * m + 1) = nI v ∧ c (3 * m + 2) = nI w ∧ u < ne ∧ v < ng ∧ w < 16
theorem fNar_0 : ∀ n, n < 128 → fNar (nI 0) (nI n) = nI n := by decide +kernel
section ZA
variable (l : Launch) (G : mG) (ad : Nat → Nat) (sh : Nat → Option mSh) (V : mV) (b t ta tb tl ne ng : Nat) (ask : fAsks) (z : fZ)
theorem c_X4_eaterAt_z (u : Nat) (hZ : SzOk sh V b t ta tb tl ne ng ask z) (hu : u < ne) : mM l yX4_eaterAt wsX4_eaterAt ({ frames := 1, cells := 0, slots := 0, locals := 22 } : Room) G ad sh V [.ref (ad b), .int (nI u)] 0 0 (mPrp ad sh V (fun r => some (b + 4 + u) = r)) := by
  have h5 := hZ.ne5
  refine (c_X4_eaterAt l G ad sh V b t ta tb tl ne ng (nI u) hZ.1 hZ.2.1).weak (fun v ad' sh' V' => ?_)
  rintro ⟨h1, h2, r, h3, h4, h6⟩
  refine ⟨h1, h2, r, h3, h4, ?_⟩
  rcases h6 with ⟨n, q1, q2, q3⟩ | ⟨q1, q2⟩
  · rw [(nI_eq (by omega) (by omega)).mp q2]
    exact q1
  · exact absurd ((mIn_nI (by omega)).mpr ⟨Nat.zero_le _, hu⟩) q2
theorem c_X4_goodAt_z (u : Nat) (hZ : SzOk sh V b t ta tb tl ne ng ask z) (hu : u < ng) : mM l yX4_goodAt wsX4_goodAt ({ frames := 1, cells := 0, slots := 0, locals := 22 } : Room) G ad sh V [.ref (ad b), .int (nI u)] 0 0 (mPrp ad sh V (fun r => some (b + 10 + 2 * u) = r)) := by
  have h5 := hZ.ng6
  refine (c_X4_goodAt l G ad sh V b t ta tb tl ne ng (nI u) hZ.1 hZ.2.1).weak (fun v ad' sh' V' => ?_)
  rintro ⟨h1, h2, r, h3, h4, h6⟩
  refine ⟨h1, h2, r, h3, h4, ?_⟩
  rcases h6 with ⟨n, q1, q2, q3⟩ | ⟨q1, q2⟩
  · rw [(nI_eq (by omega) (by omega)).mp q2]
    exact q1
  · exact absurd ((mIn_nI (by omega)).mpr ⟨Nat.zero_le _, hu⟩) q2
end ZA
set_option maxHeartbeats 4000000 in
set_option maxRecDepth 100000 in
theorem c_X8_drawDay (l : Launch) (G : mG) (ad : Nat → Nat) (sh : Nat → Option mSh) (V : mV) (t ta tb tl ne ng : Nat) (ask : fAsks) (z : fZ) (sd n : Nat) (hH : ThOk sh V t ta tb tl ne ng ask z) (hne0 : 0 < ne) (hng0 : 0 < ng) (hsd : sd < 200000) (hn : n < 100) : mM l yX8_drawDay wsX8_drawDay ({ frames := 5, cells := 0, slots := 0, locals := 166 } : Room) G ad sh V [.ref (ad 5), .int (nI sd), .int (nI n)] 0 0 (mPv ad sh (fun V' => (ThOk sh V' t ta tb tl ne ng ask (zDraw ask ne ng (sd + 1) z n)) ∧ (ThFd V V'))) := by
  refine mM.of (cc := cX8_drawDay) (maxL := 8) (ret := none) (by decide) rfl (Nat.le_of_ble_eq_true rfl) ?_
  intro p e s m below meth c S hr hlk hnm hW ls hl
  obtain ⟨hx, hb, hml, hown, hts⟩ := id S
  have hl : lv_has ls 8 [(0, .ref (ad 5)), (1, .int (nI sd)), (2, .int (nI n))] := hl
  have hS0 : True := trivial
  have hne5 := hH.2.ne5
  have hng6 := hH.2.ng6
  refine lv_aload_n hx hb dX8_drawDay_0 rfl (lv_at hl 0 rfl) ?_
  refine m_getr S hW hH.1 0 rfl (j := 80) rfl kX8 (iW8 _) (by decide) (List.mem_cons_of_mem _ (wa_10 _ (List.mem_of_getElem? (i := 15) (by decide +kernel)))) dX8_drawDay_1 ?_
  refine m_geti S hW hH.2.1.1 2 rfl kX4 (iW4 _) (by decide) (List.mem_cons_of_mem _ (wa_31 _ (List.mem_of_getElem? (i := 0) (by decide +kernel)))) dX8_drawDay_4 ?_
  refine m_top (y := nI ne) hH.2.2.1.1 ?_
  refine m_if_eq (tgt := 20) hx hb dX8_drawDay_7 (by decide) (fun c_1 => ?_) (fun c_1 => ?_)
  · skip
    have c_1 : ne = 0 := (nI_eq (by omega) (by omega)).mp c_1
    exfalso; omega
  · skip
    have c_1 : ¬ ne = 0 := mt (nI_eq (by omega) (by omega)).mpr c_1
    refine lv_aload_n hx hb dX8_drawDay_10 rfl (lv_at hl 0 rfl) ?_
    refine m_getr S hW hH.1 0 rfl (j := 80) rfl kX8 (iW8 _) (by decide) (List.mem_cons_of_mem _ (wa_10 _ (List.mem_of_getElem? (i := 15) (by decide +kernel)))) dX8_drawDay_11 ?_
    refine m_geti S hW hH.2.1.1 3 rfl kX4 (iW4 _) (by decide) (List.mem_cons_of_mem _ (wa_33 _ (List.mem_of_getElem? (i := 10) (by decide +kernel)))) dX8_drawDay_14 ?_
    refine m_top (y := nI ng) hH.2.2.1.2.1 ?_
    refine m_if_ne (tgt := 21) hx hb dX8_drawDay_17 (by decide) (fun c_2 => ?_) (fun c_2 => ?_)
    · skip
      have c_2 : ¬ ng = 0 := mt (nI_eq (by omega) (by omega)).mpr c_2
      refine lv_iload_n hx hb dX8_drawDay_21 rfl (lv_at hl 1 rfl) ?_
      refine lv_iconst (v := nI 1) hx hb dX8_drawDay_22 (by decide) ?_
      refine lv_iadd hx hb dX8_drawDay_23 ?_
      refine m_top (y := nI (sd + 1)) (nI_add sd 1) ?_
      refine lv_i2l (v := (nI (sd + 1)).toInt64) hx hb dX8_drawDay_24 rfl ?_
      refine m_topl (y := lN (sd + 1)) (nI_l (by omega)) ?_
      refine lv_lstore_n (lv' := [(3, .long (lN (sd + 1))), (0, .ref (ad 5)), (1, .int (nI sd)), (2, .int (nI n))]) hx hb dX8_drawDay_25 rfl hl (by decide) rfl (fun ls hl => ?_)
      refine lv_iconst (v := nI 0) hx hb dX8_drawDay_26 (by decide) ?_
      refine lv_istore (lv' := [(5, .int (nI 0)), (3, .long (lN (sd + 1))), (0, .ref (ad 5)), (1, .int (nI sd)), (2, .int (nI n))]) hx hb dX8_drawDay_27 hl (by decide) rfl (fun ls hl => ?_)
      have loop_29 : ∀ (n_29 : Nat) (lt k : Nat) (V1 : mV) (H : Heap) (locs : List Loc) (ls : Array Slot), (k ≤ n) → (lt = fLot (sd + 1) k ∧ lt < 2147483647) → (ThOk sh V1 t ta tb tl ne ng ask (zDraw ask ne ng (sd + 1) z k)) → (ThFd V V1) → (n - k) < n_29 → mC (mA ad sh s.heap.size) s.heap s G ad sh V1 H locs → lv_has ls 8 [(0, .ref (ad 5)), (1, .int (nI sd)), (2, .int (nI n)), (3, .long (lN lt)), (5, .int (nI k))] → W p l e ({ frames := 5, cells := 0, slots := 0, locals := 166 } : Room) s m ([.ref (ad 5), .int (nI sd), .int (nI n)] : List Value).toArray below meth c H locs 0 0 (MQ below (mPost G ad sh s.heap.size (mPv ad sh (fun V' => (ThOk sh V' t ta tb tl ne ng ask (zDraw ask ne ng (sd + 1) z n)) ∧ (ThFd V V')))) ([.ref (ad 5), .int (nI sd), .int (nI n)] : List Value).toArray s 0 0 (mA ad sh s.heap.size)) (F0 m 29 ls []) := by
        intro n_29
        induction n_29 with
        | zero => intro lt k V1 H locs ls hk hlt hH1 hfd hM_ hW hl; omega
        | succ n_29 ih_29 =>
          intro lt k V1 H locs ls hk hlt hH1 hfd hM_ hW hl
          refine lv_iload hx hb dX8_drawDay_29 (lv_at hl 4 rfl) ?_
          refine lv_iload_n hx hb dX8_drawDay_31 rfl (lv_at hl 2 rfl) ?_
          refine lv_icmp_ge (tgt := 119) hx hb dX8_drawDay_32 (by decide) (fun c_3 => ?_) (fun c_3 => ?_)
          · skip
            have c_3 : n ≤ k := (nI_leI (by omega) (by omega)).mp c_3
            exact m_vret S hr hlk hW dX8_drawDay_119 (by rw [show k = n by omega] at hH1; exact ⟨hH1, hfd⟩)
          · skip
            have c_3 : ¬ n ≤ k := mt (nI_leI (by omega) (by omega)).mpr c_3
            refine lv_lload_n hx hb dX8_drawDay_35 rfl (lv_at hl 3 rfl) ?_
            refine lv_ldc2 (v := (48271)) hx hb hown (hts (.constantLong RX8 133 (48271)) (List.mem_cons_of_mem _ (wa_42 _ (List.mem_of_getElem? (i := 4) (by decide +kernel))))) dX8_drawDay_36 ?_
            refine m_topl (y := lN 48271) (by decide +kernel) ?_
            refine lv_lmul hx hb dX8_drawDay_39 ?_
            refine m_topl (y := lN (lt * 48271)) (lN_mul lt 48271) ?_
            refine lv_ldc2 (v := (2147483647)) hx hb hown (hts (.constantLong RX8 135 (2147483647)) (List.mem_cons_of_mem _ (wa_42 _ (List.mem_of_getElem? (i := 5) (by decide +kernel))))) dX8_drawDay_40 ?_
            refine m_topl (y := lN 2147483647) (by decide +kernel) ?_
            refine lv_lrem hx hb dX8_drawDay_43 (by decide +kernel) ?_
            refine m_topl (y := lN ((lt * 48271) % 2147483647)) (pk_lRem (by omega) (by omega) (by omega)) ?_
            obtain ⟨lu, hlu⟩ : ∃ u, u = lt * 48271 % 2147483647 := ⟨_, rfl⟩
            have hlu2 : lu = fLot (sd + 1) (k + 1) := by rw [hlu, hlt.1]; rfl
            have hlu3 : lu < 2147483647 := by omega
            refine m_topl (y := lN lu) (by rw [hlu]) ?_
            refine lv_lstore_n (lv' := [(3, .long (lN lu)), (0, .ref (ad 5)), (1, .int (nI sd)), (2, .int (nI n)), (5, .int (nI k))]) hx hb dX8_drawDay_44 rfl hl (by decide) rfl (fun ls hl => ?_)
            refine lv_aload_n hx hb dX8_drawDay_45 rfl (lv_at hl 1 rfl) ?_
            refine m_getr S hW hH.1 0 rfl (j := 80) rfl kX8 (iW8 _) (by decide) (List.mem_cons_of_mem _ (wa_10 _ (List.mem_of_getElem? (i := 15) (by decide +kernel)))) dX8_drawDay_46 ?_
            refine m_getr S hW hH.2.1.1 0 rfl (j := (80 + 1)) rfl kX4 (iW4 _) (by decide) (List.mem_cons_of_mem _ (wa_31 _ (List.mem_of_getElem? (i := 5) (by decide +kernel)))) dX8_drawDay_49 ?_
            refine lv_lload_n hx hb dX8_drawDay_52 rfl (lv_at hl 0 rfl) ?_
            refine lv_aload_n hx hb dX8_drawDay_53 rfl (lv_at hl 1 rfl) ?_
            refine m_getr S hW hH.1 0 rfl (j := 80) rfl kX8 (iW8 _) (by decide) (List.mem_cons_of_mem _ (wa_10 _ (List.mem_of_getElem? (i := 15) (by decide +kernel)))) dX8_drawDay_54 ?_
            refine m_geti S hW hH.2.1.1 2 rfl kX4 (iW4 _) (by decide) (List.mem_cons_of_mem _ (wa_31 _ (List.mem_of_getElem? (i := 0) (by decide +kernel)))) dX8_drawDay_57 ?_
            refine m_top (y := nI ne) hH1.2.2.1.1 ?_
            refine lv_i2l (v := (nI ne).toInt64) hx hb dX8_drawDay_60 rfl ?_
            refine m_topl (y := lN ne) (nI_l (by omega)) ?_
            refine lv_lrem hx hb dX8_drawDay_61 (lN_ne0 (by omega) (by omega)) ?_
            refine m_topl (y := lN (lu % ne)) (pk_lRem (by omega) (by omega) (by omega)) ?_
            refine lv_l2i (v := (lN (lu % ne)).toInt32) hx hb dX8_drawDay_62 rfl ?_
            refine m_top (y := nI (lu % ne)) (lN_i _) ?_
            refine m_aald S hW 1 rfl hH.2.1.2.1 (lu % ne) rfl (by have := Nat.mod_lt lu hne0; omega) (by decide) (j := (80 + 4 + (lu % ne))) (if_pos (by have := Nat.mod_lt lu hne0; omega)) dX8_drawDay_63 ?_
            refine lv_astore (lv' := [(6, .ref (ad (80 + 4 + (lu % ne)))), (3, .long (lN lu)), (0, .ref (ad 5)), (1, .int (nI sd)), (2, .int (nI n)), (5, .int (nI k))]) hx hb dX8_drawDay_64 hl (by decide) rfl (fun ls hl => ?_)
            refine lv_aload_n hx hb dX8_drawDay_66 rfl (lv_at hl 2 rfl) ?_
            refine m_getr S hW hH.1 0 rfl (j := 80) rfl kX8 (iW8 _) (by decide) (List.mem_cons_of_mem _ (wa_10 _ (List.mem_of_getElem? (i := 15) (by decide +kernel)))) dX8_drawDay_67 ?_
            refine m_getr S hW hH.2.1.1 1 rfl (j := (80 + 2)) rfl kX4 (iW4 _) (by decide) (List.mem_cons_of_mem _ (wa_33 _ (List.mem_of_getElem? (i := 18) (by decide +kernel)))) dX8_drawDay_70 ?_
            refine lv_lload_n hx hb dX8_drawDay_73 rfl (lv_at hl 1 rfl) ?_
            refine lv_ldc2 (v := (8)) hx hb hown (hts (.constantLong RX8 137 (8)) (List.mem_cons_of_mem _ (wa_42 _ (List.mem_of_getElem? (i := 6) (by decide +kernel))))) dX8_drawDay_74 ?_
            refine m_topl (y := lN 8) (by decide +kernel) ?_
            refine lv_ldiv hx hb dX8_drawDay_77 (by decide +kernel) ?_
            refine m_topl (y := lN (lu / 8)) (pk_lDiv (by omega) (by omega) (by omega)) ?_
            refine lv_aload_n hx hb dX8_drawDay_78 rfl (lv_at hl 2 rfl) ?_
            refine m_getr S hW hH.1 0 rfl (j := 80) rfl kX8 (iW8 _) (by decide) (List.mem_cons_of_mem _ (wa_10 _ (List.mem_of_getElem? (i := 15) (by decide +kernel)))) dX8_drawDay_79 ?_
            refine m_geti S hW hH.2.1.1 3 rfl kX4 (iW4 _) (by decide) (List.mem_cons_of_mem _ (wa_33 _ (List.mem_of_getElem? (i := 10) (by decide +kernel)))) dX8_drawDay_82 ?_
            refine m_top (y := nI ng) hH1.2.2.1.2.1 ?_
            refine lv_i2l (v := (nI ng).toInt64) hx hb dX8_drawDay_85 rfl ?_
            refine m_topl (y := lN ng) (nI_l (by omega)) ?_
            refine lv_lrem hx hb dX8_drawDay_86 (lN_ne0 (by omega) (by omega)) ?_
            refine m_topl (y := lN ((lu / 8) % ng)) (pk_lRem (by omega) (by omega) (by omega)) ?_
            refine lv_l2i (v := (lN ((lu / 8) % ng)).toInt32) hx hb dX8_drawDay_87 rfl ?_
            refine m_top (y := nI ((lu / 8) % ng)) (lN_i _) ?_
            refine m_aald S hW 2 rfl hH.2.1.2.2.1 (lu / 8 % ng) rfl (by have := Nat.mod_lt (lu / 8) hng0; omega) (by decide) (j := (80 + 10 + 2 * (lu / 8 % ng))) (if_pos (by have := Nat.mod_lt (lu / 8) hng0; omega)) dX8_drawDay_88 ?_
            refine lv_astore (lv' := [(7, .ref (ad (80 + 10 + 2 * (lu / 8 % ng)))), (6, .ref (ad (80 + 4 + (lu % ne)))), (3, .long (lN lu)), (0, .ref (ad 5)), (1, .int (nI sd)), (2, .int (nI n)), (5, .int (nI k))]) hx hb dX8_drawDay_89 hl (by decide) rfl (fun ls hl => ?_)
            refine lv_aload_n hx hb dX8_drawDay_91 rfl (lv_at hl 3 rfl) ?_
            refine m_getr S hW hH.1 0 rfl (j := 80) rfl kX8 (iW8 _) (by decide) (List.mem_cons_of_mem _ (wa_10 _ (List.mem_of_getElem? (i := 15) (by decide +kernel)))) dX8_drawDay_92 ?_
            refine lv_aload hx hb dX8_drawDay_95 (lv_at hl 1 rfl) ?_
            refine lv_aload hx hb dX8_drawDay_97 (lv_at hl 0 rfl) ?_
            refine lv_lload_n hx hb dX8_drawDay_99 rfl (lv_at hl 2 rfl) ?_
            refine lv_ldc2 (v := (64)) hx hb hown (hts (.constantLong RX8 139 (64)) (List.mem_cons_of_mem _ (wa_42 _ (List.mem_of_getElem? (i := 7) (by decide +kernel))))) dX8_drawDay_100 ?_
            refine m_topl (y := lN 64) (by decide +kernel) ?_
            refine lv_ldiv hx hb dX8_drawDay_103 (by decide +kernel) ?_
            refine m_topl (y := lN (lu / 64)) (pk_lDiv (by omega) (by omega) (by omega)) ?_
            refine lv_ldc2 (v := (16)) hx hb hown (hts (.constantLong RX8 141 (16)) (List.mem_cons_of_mem _ (wa_42 _ (List.mem_of_getElem? (i := 8) (by decide +kernel))))) dX8_drawDay_104 ?_
            refine m_topl (y := lN 16) (by decide +kernel) ?_
            refine lv_lrem hx hb dX8_drawDay_107 (by decide +kernel) ?_
            refine m_topl (y := lN ((lu / 64) % 16)) (pk_lRem (by omega) (by omega) (by omega)) ?_
            refine lv_l2i (v := (lN ((lu / 64) % 16)).toInt32) hx hb dX8_drawDay_108 rfl ?_
            refine m_top (y := nI ((lu / 64) % 16)) (lN_i _) ?_
            refine m_ci (m_rV S hW (c_X4_tryBite_z l G ad sh V1 80 t ta tb tl ne ng ask (zDraw ask ne ng (sd + 1) z k) (lu % ne) (lu / 8 % ng) ((lu / 64) % 16) hH1.2 (Nat.mod_lt _ hne0) (Nat.mod_lt _ hng0)) (cwV 3 hts (gCall [.methodLink RX8 71 yX4_tryBite, .instanceMethod yX4_tryBite, .selects RX4 yX4_tryBite yX4_tryBite, .initialized RX4] (List.forall_mem_cons.mpr ⟨(wa_27 _ (List.mem_of_getElem? (i := 17) (by decide +kernel))), (List.forall_mem_cons.mpr ⟨(wa_31 _ (List.mem_of_getElem? (i := 21) (by decide +kernel))), (List.forall_mem_cons.mpr ⟨(wa_27 _ (List.mem_of_getElem? (i := 15) (by decide +kernel))), (List.forall_mem_cons.mpr ⟨(wa_27 _ (List.mem_of_getElem? (i := 16) (by decide +kernel))), (List.forall_mem_cons.mpr ⟨(wa_2 _ (List.mem_of_getElem? (i := 7) (by decide +kernel))), (fun _ h => absurd h List.not_mem_nil)⟩)⟩)⟩)⟩)⟩)) rfl rfl rfl (by decide +kernel) ⟨Nat.le_of_ble_eq_true rfl, Nat.le_of_ble_eq_true rfl⟩) hH.2.1.1 kX4 rfl hl.1 rfl (Nat.le_of_ble_eq_true rfl) dX8_drawDay_109 ⟨Nat.le_of_ble_eq_true rfl, Nat.le_of_ble_eq_true rfl⟩) hW (fun r_6 V_4 H locs hp_5 hW => ?_)
            rcases hp_5 with ⟨rfl, eV_4, nc_7⟩ | ⟨rfl, yc_8, hv_9⟩
            · skip
              refine lv_pop hx hb dX8_drawDay_112 rfl ?_
              refine lv_iinc (v := nI (k + 1)) (lv' := [(5, .int (nI (k + 1))), (7, .ref (ad (80 + 10 + 2 * (lu / 8 % ng)))), (6, .ref (ad (80 + 4 + (lu % ne)))), (3, .long (lN lu)), (0, .ref (ad 5)), (1, .int (nI sd)), (2, .int (nI n))]) hx hb dX8_drawDay_113 hl (k := 6) rfl (m_inc k 1) (by decide) rfl (fun ls hl => ?_)
              refine lv_goto (tgt := 29) hx hb dX8_drawDay_116 (by decide) ?_
              exact ih_29  lu (k + 1) V_4 _ _ _ (by omega) (by exact ⟨hlu2, hlu3⟩) (by rw [show zDraw ask ne ng (sd + 1) z (k + 1) = zStep ask (zDraw ask ne ng (sd + 1) z k) (lu % ne) (lu / 8 % ng) (lu / 64 % 16) by rw [hlu2]; rfl, zStep, if_neg nc_7, eV_4]; exact hH1) (by rw [eV_4]; exact hfd) (by omega) hW (lv_sub hl [4, 5, 6, 3, 0] rfl)
            · skip
              refine lv_pop hx hb dX8_drawDay_112 rfl ?_
              refine lv_iinc (v := nI (k + 1)) (lv' := [(5, .int (nI (k + 1))), (7, .ref (ad (80 + 10 + 2 * (lu / 8 % ng)))), (6, .ref (ad (80 + 4 + (lu % ne)))), (3, .long (lN lu)), (0, .ref (ad 5)), (1, .int (nI sd)), (2, .int (nI n))]) hx hb dX8_drawDay_113 hl (k := 6) rfl (m_inc k 1) (by decide) rfl (fun ls hl => ?_)
              refine lv_goto (tgt := 29) hx hb dX8_drawDay_116 (by decide) ?_
              exact ih_29  lu (k + 1) V_4 _ _ _ (by omega) (by exact ⟨hlu2, hlu3⟩) (by rw [show zDraw ask ne ng (sd + 1) z (k + 1) = zStep ask (zDraw ask ne ng (sd + 1) z k) (lu % ne) (lu / 8 % ng) (lu / 64 % 16) by rw [hlu2]; rfl, zStep, if_pos yc_8, hv_9]; exact hH1.bite (Nat.mod_lt _ hne0) (Nat.mod_lt _ hng0)) (by rw [hv_9]; exact hfd.bite (by have := Nat.mod_lt lu hne0; omega) (by have := Nat.mod_lt (lu / 8) hng0; omega)) (by omega) hW (lv_sub hl [4, 5, 6, 3, 0] rfl)
      exact loop_29 (n - 0 + 1) (sd + 1) 0 V _ _ _ (by omega) (by exact ⟨rfl, by omega⟩) (by exact hH) (by exact fun _ _ => rfl) (by omega) hW (lv_sub hl [2, 3, 4, 1, 0] rfl)
    · skip
      have c_2 : ng = 0 := (nI_eq (by omega) (by omega)).mp c_2
      exfalso; omega
set_option maxHeartbeats 4000000 in
set_option maxRecDepth 100000 in
theorem c_X8_followDay (l : Launch) (G : mG) (ad : Nat → Nat) (sh : Nat → Option mSh) (V : mV) (t ta tb tl ne ng : Nat) (ask : fAsks) (z : fZ) (i sz : Nat) (hH : ThOk sh V t ta tb tl ne ng ask z) (hi : sh i = some (sSheet i)) (hi' : sh (i + 4) = some (mI 40)) (hi14 : i < 20) (hsz : V i 1 = nI sz) (hsz4 : sz ≤ 40) (hsz3 : sz % 3 = 0) (hday : fDayOk (V (i + 4)) ne ng sz) : mM l yX8_followDay wsX8_followDay ({ frames := 5, cells := 0, slots := 0, locals := 166 } : Room) G ad sh V [.ref (ad 5), .ref (ad i)] 0 0 (mPi ad sh (fun r V' => (zDay ask (V (i + 4)) z (sz / 3)).2 = r ∧ (ThOk sh V' t ta tb tl ne ng ask (zDay ask (V (i + 4)) z (sz / 3)).1) ∧ (ThFd V V'))) := by
  refine mM.of (cc := cX8_followDay) (maxL := 5) (ret := (some .int)) (by decide) rfl (Nat.le_of_ble_eq_true rfl) ?_
  intro p e s m below meth c S hr hlk hnm hW ls hl
  obtain ⟨hx, hb, hml, hown, hts⟩ := id S
  have hl : lv_has ls 5 [(0, .ref (ad 5)), (1, .ref (ad i))] := hl
  have hS0 : True := trivial
  have hne5 := hH.2.ne5
  have hng6 := hH.2.ng6
  refine lv_iconst (v := nI 0) hx hb dX8_followDay_0 (by decide) ?_
  refine lv_istore_n (lv' := [(2, .int (nI 0)), (0, .ref (ad 5)), (1, .ref (ad i))]) hx hb dX8_followDay_1 rfl hl (by decide) rfl (fun ls hl => ?_)
  have loop_2 : ∀ (n_2 : Nat) (dk : Nat) (V1 : mV) (H : Heap) (locs : List Loc) (ls : Array Slot), (3 * dk ≤ sz) → (ThOk sh V1 t ta tb tl ne ng ask (zDay ask (V (i + 4)) z dk).1) → ((zDay ask (V (i + 4)) z dk).2 = -1) → (ThFd V V1) → (sz - 3 * dk) < n_2 → mC (mA ad sh s.heap.size) s.heap s G ad sh V1 H locs → lv_has ls 5 [(0, .ref (ad 5)), (1, .ref (ad i)), (2, .int (nI (3 * dk)))] → W p l e ({ frames := 5, cells := 0, slots := 0, locals := 166 } : Room) s m ([.ref (ad 5), .ref (ad i)] : List Value).toArray below meth c H locs 0 0 (MQ below (mPost G ad sh s.heap.size (mPi ad sh (fun r V' => (zDay ask (V (i + 4)) z (sz / 3)).2 = r ∧ (ThOk sh V' t ta tb tl ne ng ask (zDay ask (V (i + 4)) z (sz / 3)).1) ∧ (ThFd V V')))) ([.ref (ad 5), .ref (ad i)] : List Value).toArray s 0 0 (mA ad sh s.heap.size)) (F0 m 2 ls []) := by
    intro n_2
    induction n_2 with
    | zero => intro dk V1 H locs ls hk hH1 hst hfd hM_ hW hl; omega
    | succ n_2 ih_2 =>
      intro dk V1 H locs ls hk hH1 hst hfd hM_ hW hl
      refine lv_iload_n hx hb dX8_followDay_2 rfl (lv_at hl 2 rfl) ?_
      refine lv_iconst (v := nI 2) hx hb dX8_followDay_3 (by decide) ?_
      refine lv_iadd hx hb dX8_followDay_4 ?_
      refine m_top (y := nI ((3 * dk) + 2)) (nI_add (3 * dk) 2) ?_
      refine lv_aload_n hx hb dX8_followDay_5 rfl (lv_at hl 1 rfl) ?_
      refine m_geti S hW hi 1 rfl kX5 (iW5 _) (by decide) (List.mem_cons_of_mem _ (wa_39 _ (List.mem_of_getElem? (i := 5) (by decide +kernel)))) dX8_followDay_6 ?_
      refine m_top (y := nI sz) ((congrFun (hfd i (by omega)) 1).trans hsz) ?_
      refine lv_icmp_ge (tgt := 83) hx hb dX8_followDay_9 (by decide) (fun c_1 => ?_) (fun c_1 => ?_)
      · skip
        have c_1 : sz ≤ ((3 * dk) + 2) := (nI_leI (by omega) (by omega)).mp c_1
        refine lv_iconst (v := -1) hx hb dX8_followDay_83 (by decide) ?_
        exact m_iret S hr hlk hW dX8_followDay_84 (by rw [show sz / 3 = dk by omega]; exact ⟨hst, hH1, hfd⟩)
      · skip
        have c_1 : ¬ sz ≤ ((3 * dk) + 2) := mt (nI_leI (by omega) (by omega)).mpr c_1
        obtain ⟨u, v, w, hu, hv0, hw, hun, hvn, hwn⟩ := hday dk (by omega)
        have hce : V1 (i + 4) = V (i + 4) := hfd _ (by omega)
        refine lv_aload_n hx hb dX8_followDay_12 rfl (lv_at hl 0 rfl) ?_
        refine m_getr S hW hH.1 0 rfl (j := 80) rfl kX8 (iW8 _) (by decide) (List.mem_cons_of_mem _ (wa_10 _ (List.mem_of_getElem? (i := 15) (by decide +kernel)))) dX8_followDay_13 ?_
        refine lv_aload_n hx hb dX8_followDay_16 rfl (lv_at hl 1 rfl) ?_
        refine m_getr S hW hi 2 rfl (j := (i + 4)) rfl kX5 (iW5 _) (by decide) (List.mem_cons_of_mem _ (wa_39 _ (List.mem_of_getElem? (i := 6) (by decide +kernel)))) dX8_followDay_17 ?_
        refine lv_iload_n hx hb dX8_followDay_20 rfl (lv_at hl 2 rfl) ?_
        refine m_iald S hW hi' (3 * dk) rfl (by omega) (by decide) dX8_followDay_21 ?_
        refine m_top (y := nI u) (by rw [hce]; exact hu) ?_
        refine m_crp (m_rV S hW (c_X4_eaterAt_z l G ad sh V1 80 t ta tb tl ne ng ask ((zDay ask (V (i + 4)) z dk).1) u hH1.2 hun) (cwV 1 hts (gCall [.methodLink RX8 114 yX4_eaterAt, .instanceMethod yX4_eaterAt, .selects RX4 yX4_eaterAt yX4_eaterAt, .initialized RX4] (List.forall_mem_cons.mpr ⟨(wa_17 _ (List.mem_of_getElem? (i := 8) (by decide +kernel))), (List.forall_mem_cons.mpr ⟨(wa_39 _ (List.mem_of_getElem? (i := 7) (by decide +kernel))), (List.forall_mem_cons.mpr ⟨(wa_17 _ (List.mem_of_getElem? (i := 6) (by decide +kernel))), (List.forall_mem_cons.mpr ⟨(wa_17 _ (List.mem_of_getElem? (i := 7) (by decide +kernel))), (List.forall_mem_cons.mpr ⟨(wa_2 _ (List.mem_of_getElem? (i := 7) (by decide +kernel))), (fun _ h => absurd h List.not_mem_nil)⟩)⟩)⟩)⟩)⟩)) rfl rfl rfl (by decide +kernel) ⟨Nat.le_of_ble_eq_true rfl, Nat.le_of_ble_eq_true rfl⟩) hH.2.1.1 kX4 rfl hl.1 rfl (Nat.le_of_ble_eq_true rfl) dX8_followDay_22 ⟨Nat.le_of_ble_eq_true rfl, Nat.le_of_ble_eq_true rfl⟩) hW (fun r_3 H locs hp_2 hW => ?_)
        obtain rfl := hp_2
        refine W.eq (g2 := F0 m 25 ls [.ref (ad (80 + 4 + u))]) rfl ?_
        refine lv_astore_n (lv' := [(3, .ref (ad (80 + 4 + u))), (0, .ref (ad 5)), (1, .ref (ad i)), (2, .int (nI (3 * dk)))]) hx hb dX8_followDay_25 rfl hl (by decide) rfl (fun ls hl => ?_)
        refine lv_aload_n hx hb dX8_followDay_26 rfl (lv_at hl 1 rfl) ?_
        refine m_getr S hW hH.1 0 rfl (j := 80) rfl kX8 (iW8 _) (by decide) (List.mem_cons_of_mem _ (wa_10 _ (List.mem_of_getElem? (i := 15) (by decide +kernel)))) dX8_followDay_27 ?_
        refine lv_aload_n hx hb dX8_followDay_30 rfl (lv_at hl 2 rfl) ?_
        refine m_getr S hW hi 2 rfl (j := (i + 4)) rfl kX5 (iW5 _) (by decide) (List.mem_cons_of_mem _ (wa_39 _ (List.mem_of_getElem? (i := 6) (by decide +kernel)))) dX8_followDay_31 ?_
        refine lv_iload_n hx hb dX8_followDay_34 rfl (lv_at hl 3 rfl) ?_
        refine lv_iconst (v := nI 1) hx hb dX8_followDay_35 (by decide) ?_
        refine lv_iadd hx hb dX8_followDay_36 ?_
        refine m_top (y := nI ((3 * dk) + 1)) (nI_add (3 * dk) 1) ?_
        refine m_iald S hW hi' ((3 * dk) + 1) rfl (by omega) (by decide) dX8_followDay_37 ?_
        refine m_top (y := nI v) (by rw [hce]; exact hv0) ?_
        refine m_crp (m_rV S hW (c_X4_goodAt_z l G ad sh V1 80 t ta tb tl ne ng ask ((zDay ask (V (i + 4)) z dk).1) v hH1.2 hvn) (cwV 1 hts (gCall [.methodLink RX8 118 yX4_goodAt, .instanceMethod yX4_goodAt, .selects RX4 yX4_goodAt yX4_goodAt, .initialized RX4] (List.forall_mem_cons.mpr ⟨(wa_17 _ (List.mem_of_getElem? (i := 13) (by decide +kernel))), (List.forall_mem_cons.mpr ⟨(wa_39 _ (List.mem_of_getElem? (i := 8) (by decide +kernel))), (List.forall_mem_cons.mpr ⟨(wa_17 _ (List.mem_of_getElem? (i := 11) (by decide +kernel))), (List.forall_mem_cons.mpr ⟨(wa_17 _ (List.mem_of_getElem? (i := 12) (by decide +kernel))), (List.forall_mem_cons.mpr ⟨(wa_2 _ (List.mem_of_getElem? (i := 7) (by decide +kernel))), (fun _ h => absurd h List.not_mem_nil)⟩)⟩)⟩)⟩)⟩)) rfl rfl rfl (by decide +kernel) ⟨Nat.le_of_ble_eq_true rfl, Nat.le_of_ble_eq_true rfl⟩) hH.2.1.1 kX4 rfl hl.1 rfl (Nat.le_of_ble_eq_true rfl) dX8_followDay_38 ⟨Nat.le_of_ble_eq_true rfl, Nat.le_of_ble_eq_true rfl⟩) hW (fun r_5 H locs hp_4 hW => ?_)
        obtain rfl := hp_4
        refine W.eq (g2 := F0 m 41 ls [.ref (ad (80 + 10 + 2 * v))]) rfl ?_
        refine lv_astore (lv' := [(4, .ref (ad (80 + 10 + 2 * v))), (3, .ref (ad (80 + 4 + u))), (0, .ref (ad 5)), (1, .ref (ad i)), (2, .int (nI (3 * dk)))]) hx hb dX8_followDay_41 hl (by decide) rfl (fun ls hl => ?_)
        refine lv_aload_n hx hb dX8_followDay_43 rfl (lv_at hl 1 rfl) ?_
        refine lv_ifnull hx hb dX8_followDay_44 ?_
        refine lv_aload hx hb dX8_followDay_47 (lv_at hl 0 rfl) ?_
        refine lv_ifnull hx hb dX8_followDay_49 ?_
        refine lv_aload_n hx hb dX8_followDay_52 rfl (lv_at hl 2 rfl) ?_
        refine m_getr S hW hH.1 0 rfl (j := 80) rfl kX8 (iW8 _) (by decide) (List.mem_cons_of_mem _ (wa_10 _ (List.mem_of_getElem? (i := 15) (by decide +kernel)))) dX8_followDay_53 ?_
        refine lv_aload_n hx hb dX8_followDay_56 rfl (lv_at hl 1 rfl) ?_
        refine lv_aload hx hb dX8_followDay_57 (lv_at hl 0 rfl) ?_
        refine lv_aload_n hx hb dX8_followDay_59 rfl (lv_at hl 3 rfl) ?_
        refine m_getr S hW hi 2 rfl (j := (i + 4)) rfl kX5 (iW5 _) (by decide) (List.mem_cons_of_mem _ (wa_39 _ (List.mem_of_getElem? (i := 6) (by decide +kernel)))) dX8_followDay_60 ?_
        refine lv_iload_n hx hb dX8_followDay_63 rfl (lv_at hl 4 rfl) ?_
        refine lv_iconst (v := nI 2) hx hb dX8_followDay_64 (by decide) ?_
        refine lv_iadd hx hb dX8_followDay_65 ?_
        refine m_top (y := nI ((3 * dk) + 2)) (nI_add (3 * dk) 2) ?_
        refine m_iald S hW hi' ((3 * dk) + 2) rfl (by omega) (by decide) dX8_followDay_66 ?_
        refine m_top (y := nI w) (by rw [hce]; exact hw) ?_
        refine m_ci (m_rV S hW (c_X4_tryBite_z l G ad sh V1 80 t ta tb tl ne ng ask ((zDay ask (V (i + 4)) z dk).1) u v w hH1.2 hun hvn) (cwV 3 hts (gCall [.methodLink RX8 71 yX4_tryBite, .instanceMethod yX4_tryBite, .selects RX4 yX4_tryBite yX4_tryBite, .initialized RX4] (List.forall_mem_cons.mpr ⟨(wa_27 _ (List.mem_of_getElem? (i := 17) (by decide +kernel))), (List.forall_mem_cons.mpr ⟨(wa_31 _ (List.mem_of_getElem? (i := 21) (by decide +kernel))), (List.forall_mem_cons.mpr ⟨(wa_27 _ (List.mem_of_getElem? (i := 15) (by decide +kernel))), (List.forall_mem_cons.mpr ⟨(wa_27 _ (List.mem_of_getElem? (i := 16) (by decide +kernel))), (List.forall_mem_cons.mpr ⟨(wa_2 _ (List.mem_of_getElem? (i := 7) (by decide +kernel))), (fun _ h => absurd h List.not_mem_nil)⟩)⟩)⟩)⟩)⟩)) rfl rfl rfl (by decide +kernel) ⟨Nat.le_of_ble_eq_true rfl, Nat.le_of_ble_eq_true rfl⟩) hH.2.1.1 kX4 rfl hl.1 rfl (Nat.le_of_ble_eq_true rfl) dX8_followDay_67 ⟨Nat.le_of_ble_eq_true rfl, Nat.le_of_ble_eq_true rfl⟩) hW (fun r_8 V_6 H locs hp_7 hW => ?_)
        rcases hp_7 with ⟨rfl, eV_6, nc_9⟩ | ⟨rfl, yc_10, hv_11⟩
        · skip
          refine m_if_ne (tgt := 77) hx hb dX8_followDay_70 (by decide) (fun c_12 => ?_) (fun c_12 => ?_)
          · exact absurd c_12 (by decide)
          · skip
            refine lv_iload_n hx hb dX8_followDay_73 rfl (lv_at hl 4 rfl) ?_
            refine lv_iconst (v := nI 3) hx hb dX8_followDay_74 (by decide) ?_
            refine lv_idiv hx hb dX8_followDay_75 (by decide) ?_
            refine m_top (y := nI ((3 * dk) / 3)) (pk_div (by omega) (by omega) (by omega)) ?_
            have hz : zDay ask (V (i + 4)) z (dk + 1) = ((zDay ask (V (i + 4)) z dk).1, nI dk) := by rw [zDay, if_pos hst, hu, hv0, hw, nI_clamp (by omega), nI_clamp (by omega), nI_clamp (by omega), if_neg nc_9]
            have hz2 : zDay ask (V (i + 4)) z (sz / 3) = ((zDay ask (V (i + 4)) z dk).1, nI dk) := (zDay_stop (by rw [hz]; exact m_nneg (by omega)) (by omega)).trans hz
            exact m_iret S hr hlk hW dX8_followDay_76 (by rw [hz2, show 3 * dk / 3 = dk by omega, eV_6]; exact ⟨rfl, hH1, hfd⟩)
        · skip
          refine m_if_ne (tgt := 77) hx hb dX8_followDay_70 (by decide) (fun c_13 => ?_) (fun c_13 => ?_)
          · skip
            refine lv_iinc (v := nI (3 * dk + 3)) (lv' := [(2, .int (nI (3 * dk + 3))), (4, .ref (ad (80 + 10 + 2 * v))), (3, .ref (ad (80 + 4 + u))), (0, .ref (ad 5)), (1, .ref (ad i))]) hx hb dX8_followDay_77 hl (k := 4) rfl (m_inc (3 * dk) 3) (by decide) rfl (fun ls hl => ?_)
            refine lv_goto (tgt := 2) hx hb dX8_followDay_80 (by decide) ?_
            exact ih_2  (dk + 1) V_6 _ _ _ (by omega) (by have hz : zDay ask (V (i + 4)) z (dk + 1) = (zBi ask (zDay ask (V (i + 4)) z dk).1 u v w, -1) := (by rw [zDay, if_pos hst, hu, hv0, hw, nI_clamp (by omega), nI_clamp (by omega), nI_clamp (by omega), if_pos yc_10]); rw [hz, hv_11]; exact hH1.bite hun hvn) (by have hz : zDay ask (V (i + 4)) z (dk + 1) = (zBi ask (zDay ask (V (i + 4)) z dk).1 u v w, -1) := (by rw [zDay, if_pos hst, hu, hv0, hw, nI_clamp (by omega), nI_clamp (by omega), nI_clamp (by omega), if_pos yc_10]); rw [hz]) (by rw [hv_11]; exact hfd.bite (by omega) (by omega)) (by omega) hW (lv_sub hl [3, 4, 0] rfl)
          · exact absurd c_13 (by decide)
  exact loop_2 (sz - 3 * 0 + 1) 0 V _ _ _ (by omega) (by exact hH) (by rfl) (by exact fun _ _ => rfl) (by omega) hW (lv_sub hl [1, 2, 0] rfl)
