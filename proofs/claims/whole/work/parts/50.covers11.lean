/-! the reference: covers, days, lowest terms -/
theorem lg_cmp0 {a b : Nat} (ha : a < 2 ^ 63) (hb : b < 2 ^ 63) : lg_cmp (lN a) (lN b) = nI 0 ↔ a = b := by
  have h1 := pk_lLT hb ha
  have h2 := pk_lLT ha hb
  have h3 := pk_lEQ ha hb
  unfold lg_cmp
  by_cases h : a = b
  · subst h
    simp [Int64.lt_irrefl]
    rfl
  · rcases Nat.lt_or_gt_of_ne h with g | g
    · have g1 := h2.mpr g
      have g2 : ¬ lN b < lN a := fun z => by
        have := h1.mp z
        omega
      have g3 : ¬ lN a = lN b := fun z => h (h3.mp z)
      simp [g1, g2, g3, h]
      decide
    · have g1 := h1.mpr g
      have g2 : ¬ lN a < lN b := fun z => by
        have := h2.mp z
        omega
      have g3 : ¬ lN a = lN b := fun z => h (h3.mp z)
      simp [g1, g2, g3, h]
      decide
theorem gcd_st (x y : Nat) : Nat.gcd y (x % y) = Nat.gcd x y := by
  rw [Nat.gcd_comm y, ← Nat.gcd_rec, Nat.gcd_comm]
set_option maxHeartbeats 4000000 in
set_option maxRecDepth 100000 in
theorem c_X11_lowest (l : Launch) (G : mG) (ad : Nat → Nat) (sh : Nat → Option mSh) (V : mV) (na nb pt : Nat) (hna : na < 2 ^ 31) (hnb : nb < 2 ^ 31) (hb0 : 0 < nb) (hpt : pt < 2) : mM l yX11_lowest wsX11_lowest ({ frames := 0, cells := 0, slots := 0, locals := 0 } : Room) G ad sh V [.long (lN na), .long (lN nb), .int (nI pt)] 0 0 (mPle ad sh V (lN (if na = 0 then pt else (if pt = 0 then na else nb) / Nat.gcd na nb))) := by
  refine mM.of (cc := cX11_lowest) (maxL := 11) (ret := (some .long)) (by decide) rfl (Nat.le_of_ble_eq_true rfl) ?_
  intro p e s m below meth c S hr hlk hnm hW ls hl
  obtain ⟨hx, hb, hml, hown, hts⟩ := id S
  have hl : lv_has ls 11 [(0, .long (lN na)), (2, .long (lN nb)), (4, .int (nI pt))] := hl
  have hS0 : True := trivial
  refine lv_lload_n hx hb dX11_lowest_0 rfl (lv_at hl 0 rfl) ?_
  refine lv_lconst (v := (0)) hx hb dX11_lowest_1 (by decide) ?_
  refine m_topl (y := lN 0) (by decide +kernel) ?_
  refine W.lcmp hx hb dX11_lowest_2 ?_
  refine m_if_ne (tgt := 10) hx hb dX11_lowest_3 (by decide) (fun c_1 => ?_) (fun c_1 => ?_)
  · skip
    have hna0 : ¬ na = 0 := fun z => c_1 ((lg_cmp0 (by omega) (by omega)).mpr z)
    refine lv_lload_n hx hb dX11_lowest_10 rfl (lv_at hl 0 rfl) ?_
    refine lv_lstore (lv' := [(5, .long (lN na)), (0, .long (lN na)), (2, .long (lN nb)), (4, .int (nI pt))]) hx hb dX11_lowest_11 hl (by decide) rfl (fun ls hl => ?_)
    refine lv_lload_n hx hb dX11_lowest_13 rfl (lv_at hl 2 rfl) ?_
    refine lv_lstore (lv' := [(7, .long (lN nb)), (5, .long (lN na)), (0, .long (lN na)), (2, .long (lN nb)), (4, .int (nI pt))]) hx hb dX11_lowest_14 hl (by decide) rfl (fun ls hl => ?_)
    have loop_16 : ∀ (n_16 : Nat) (xx yy : Nat) (H : Heap) (locs : List Loc) (ls : Array Slot), (xx < 2 ^ 31) → (yy < 2 ^ 31) → (Nat.gcd xx yy = Nat.gcd na nb) → yy < n_16 → mC (mA ad sh s.heap.size) s.heap s G ad sh V H locs → lv_has ls 11 [(0, .long (lN na)), (2, .long (lN nb)), (4, .int (nI pt)), (5, .long (lN xx)), (7, .long (lN yy))] → W p l e ({ frames := 0, cells := 0, slots := 0, locals := 0 } : Room) s m ([.long (lN na), .long (lN nb), .int (nI pt)] : List Value).toArray below meth c H locs 0 0 (MQ below (mPost G ad sh s.heap.size (mPle ad sh V (lN (if na = 0 then pt else (if pt = 0 then na else nb) / Nat.gcd na nb)))) ([.long (lN na), .long (lN nb), .int (nI pt)] : List Value).toArray s 0 0 (mA ad sh s.heap.size)) (F0 m 16 ls []) := by
      intro n_16
      induction n_16 with
      | zero => intro xx yy H locs ls hxx hyy hgc hM_ hW hl; omega
      | succ n_16 ih_16 =>
        intro xx yy H locs ls hxx hyy hgc hM_ hW hl
        refine lv_lload hx hb dX11_lowest_16 (lv_at hl 4 rfl) ?_
        refine lv_lconst (v := (0)) hx hb dX11_lowest_18 (by decide) ?_
        refine m_topl (y := lN 0) (by decide +kernel) ?_
        refine W.lcmp hx hb dX11_lowest_19 ?_
        refine m_if_eq (tgt := 41) hx hb dX11_lowest_20 (by decide) (fun c_2 => ?_) (fun c_2 => ?_)
        · skip
          have hyy0 : yy = 0 := (lg_cmp0 (by omega) (by omega)).mp c_2
          have hxg : xx = Nat.gcd na nb := by rw [← hgc, hyy0, Nat.gcd_zero_right]
          have hx0 : 0 < xx := by rw [hxg]; exact Nat.gcd_pos_of_pos_right _ hb0
          refine lv_iload hx hb dX11_lowest_41 (lv_at hl 2 rfl) ?_
          refine m_if_ne (tgt := 50) hx hb dX11_lowest_43 (by decide) (fun c_3 => ?_) (fun c_3 => ?_)
          · skip
            have c_3 : ¬ pt = 0 := mt (nI_eq (by omega) (by omega)).mpr c_3
            refine lv_lload_n hx hb dX11_lowest_50 rfl (lv_at hl 1 rfl) ?_
            refine lv_lload hx hb dX11_lowest_51 (lv_at hl 3 rfl) ?_
            refine lv_ldiv hx hb dX11_lowest_53 (lN_ne0 (by omega) (by omega)) ?_
            refine m_topl (y := lN (nb / xx)) (pk_lDiv (by omega) (by omega) (by omega)) ?_
            exact m_lret S hr hlk hW dX11_lowest_54 ⟨rfl, (by rw [if_neg hna0, hxg]; first | (rw [if_pos c_3]; done) | (rw [if_neg c_3]; done))⟩
          · skip
            have c_3 : pt = 0 := (nI_eq (by omega) (by omega)).mp c_3
            refine lv_lload_n hx hb dX11_lowest_46 rfl (lv_at hl 0 rfl) ?_
            refine lv_goto (tgt := 51) hx hb dX11_lowest_47 (by decide) ?_
            refine lv_lload hx hb dX11_lowest_51 (lv_at hl 3 rfl) ?_
            refine lv_ldiv hx hb dX11_lowest_53 (lN_ne0 (by omega) (by omega)) ?_
            refine m_topl (y := lN (na / xx)) (pk_lDiv (by omega) (by omega) (by omega)) ?_
            exact m_lret S hr hlk hW dX11_lowest_54 ⟨rfl, (by rw [if_neg hna0, hxg]; first | (rw [if_pos c_3]; done) | (rw [if_neg c_3]; done))⟩
        · skip
          have hyy0 : ¬ yy = 0 := fun z => c_2 ((lg_cmp0 (by omega) (by omega)).mpr z)
          refine lv_lload hx hb dX11_lowest_23 (lv_at hl 3 rfl) ?_
          refine lv_lload hx hb dX11_lowest_25 (lv_at hl 4 rfl) ?_
          refine lv_lrem hx hb dX11_lowest_27 (lN_ne0 (by omega) (by omega)) ?_
          refine m_topl (y := lN (xx % yy)) (pk_lRem (by omega) (by omega) (by omega)) ?_
          refine lv_lstore (lv' := [(9, .long (lN (xx % yy))), (0, .long (lN na)), (2, .long (lN nb)), (4, .int (nI pt)), (5, .long (lN xx)), (7, .long (lN yy))]) hx hb dX11_lowest_28 hl (by decide) rfl (fun ls hl => ?_)
          refine lv_lload hx hb dX11_lowest_30 (lv_at hl 5 rfl) ?_
          refine lv_lstore (lv' := [(5, .long (lN yy)), (9, .long (lN (xx % yy))), (0, .long (lN na)), (2, .long (lN nb)), (4, .int (nI pt)), (7, .long (lN yy))]) hx hb dX11_lowest_32 hl (by decide) rfl (fun ls hl => ?_)
          refine lv_lload hx hb dX11_lowest_34 (lv_at hl 1 rfl) ?_
          refine lv_lstore (lv' := [(7, .long (lN (xx % yy))), (5, .long (lN yy)), (9, .long (lN (xx % yy))), (0, .long (lN na)), (2, .long (lN nb)), (4, .int (nI pt))]) hx hb dX11_lowest_36 hl (by decide) rfl (fun ls hl => ?_)
          refine lv_goto (tgt := 16) hx hb dX11_lowest_38 (by decide) ?_
          exact ih_16  yy (xx % yy)  _ _ _ (by omega) (by have := Nat.mod_lt xx (show 0 < yy by omega); omega) (by rw [gcd_st]; exact hgc) (by first | omega | exact Nat.lt_of_lt_of_le (Nat.mod_lt _ (by omega)) (by omega)) hW (lv_sub hl [3, 4, 5, 1, 0] rfl)
    exact loop_16 (nb + 1) na nb  _ _ _ (by omega) (by omega) (by rfl) (by first | omega | exact Nat.lt_of_lt_of_le (Nat.mod_lt _ (by omega)) (by omega)) hW (lv_sub hl [2, 3, 4, 1, 0] rfl)
  · skip
    have hna0 : na = 0 := (lg_cmp0 (by omega) (by omega)).mp c_1
    refine lv_iload hx hb dX11_lowest_6 (lv_at hl 2 rfl) ?_
    refine lv_i2l (v := (nI pt).toInt64) hx hb dX11_lowest_8 rfl ?_
    refine m_topl (y := lN pt) (nI_l (by omega)) ?_
    exact m_lret S hr hlk hW dX11_lowest_9 ⟨rfl, (by rw [if_pos hna0])⟩
set_option maxHeartbeats 4000000 in
set_option maxRecDepth 100000 in
theorem c_X11_fewestOf (l : Launch) (G : mG) (ad : Nat → Nat) (sh : Nat → Option mSh) (V : mV) (z : fZ) (ne ng rl : Nat) (tx : sT) (u g : Nat) (hZ : MZ sh V z ne ng rl tx) (he : u < ne) (hg : g < ng) : mM l yX11_fewestOf wsX11_fewestOf ({ frames := 2, cells := 0, slots := 0, locals := 48 } : Room) G ad sh V [.ref (ad 200), .int (nI u), .int (nI g)] 0 0 (mPe ad sh V (fwT (shM z u g) (zn z (10 + 2 * g) 2) (zn z (10 + 2 * g) 2 + 1) (zn z (10 + 2 * g) 2))) := by
  refine mM.of (cc := cX11_fewestOf) (maxL := 10) (ret := (some .int)) (by decide) rfl (Nat.le_of_ble_eq_true rfl) ?_
  intro p e s m below meth c S hr hlk hnm hW ls hl
  obtain ⟨hx, hb, hml, hown, hts⟩ := id S
  have hl : lv_has ls 10 [(0, .ref (ad 200)), (1, .int (nI u)), (2, .int (nI g))] := hl
  have hS0 : True := trivial
  have hne5 := hZ.ne5
  have hng6 := hZ.ng6
  obtain ⟨sp0, hsp0⟩ : ∃ vv_ : Nat, vv_ = shM z u g := ⟨_, rfl⟩
  obtain ⟨le0, hle0⟩ : ∃ vv_ : Nat, vv_ = zn z (10 + 2 * g) 2 := ⟨_, rfl⟩
  have hsp8 : sp0 < 128 := by rw [hsp0]; exact (hZ.ok.spm he hg).2
  have hle8 : le0 < 1024 := by rw [hle0]; exact (hZ.ok.le hg).2
  refine lv_aload_n hx hb dX11_fewestOf_0 rfl (lv_at hl 0 rfl) ?_
  refine lv_iload_n hx hb dX11_fewestOf_1 rfl (lv_at hl 1 rfl) ?_
  refine lv_iload_n hx hb dX11_fewestOf_2 rfl (lv_at hl 2 rfl) ?_
  refine m_cie (m_rV S hW (c_X11_shapeOf l G ad sh V z ne ng rl tx u g hZ (by first | assumption | omega) (by first | assumption | omega)) (cwV 2 hts (gCall [.methodLink RX11 189 yX11_shapeOf, .instanceMethod yX11_shapeOf, .selects RX11 yX11_shapeOf yX11_shapeOf, .initialized RX11] (List.forall_mem_cons.mpr ⟨(wa_24 _ (List.mem_of_getElem? (i := 20) (by decide +kernel))), (List.forall_mem_cons.mpr ⟨(wa_24 _ (List.mem_of_getElem? (i := 17) (by decide +kernel))), (List.forall_mem_cons.mpr ⟨(wa_24 _ (List.mem_of_getElem? (i := 18) (by decide +kernel))), (List.forall_mem_cons.mpr ⟨(wa_24 _ (List.mem_of_getElem? (i := 19) (by decide +kernel))), (List.forall_mem_cons.mpr ⟨(wa_1 _ (List.mem_of_getElem? (i := 5) (by decide +kernel))), (fun _ h => absurd h List.not_mem_nil)⟩)⟩)⟩)⟩)⟩)) rfl rfl rfl (by decide +kernel) ⟨Nat.le_of_ble_eq_true rfl, Nat.le_of_ble_eq_true rfl⟩) hZ.sp.1 kX11 rfl hl.1 rfl (Nat.le_of_ble_eq_true rfl) dX11_fewestOf_3 ⟨Nat.le_of_ble_eq_true rfl, Nat.le_of_ble_eq_true rfl⟩) hW (fun H locs hW => ?_)
  refine m_top (y := nI sp0) (by rw [hsp0]; exact (hZ.ok.spm he hg).1) ?_
  refine lv_istore_n (lv' := [(3, .int (nI sp0)), (0, .ref (ad 200)), (1, .int (nI u)), (2, .int (nI g))]) hx hb dX11_fewestOf_6 rfl hl (by decide) rfl (fun ls hl => ?_)
  refine lv_aload_n hx hb dX11_fewestOf_7 rfl (lv_at hl 1 rfl) ?_
  refine lv_iload_n hx hb dX11_fewestOf_8 rfl (lv_at hl 3 rfl) ?_
  refine m_cie (m_rV S hW (c_X11_leftOf l G ad sh V g (zn z (10 + 2 * g) 2) hZ.sp.1 hZ.sp.2.1 (hZ.rLe (by first | assumption | omega)) (by omega)) (cwV 1 hts (gCall [.methodLink RX11 167 yX11_leftOf, .instanceMethod yX11_leftOf, .selects RX11 yX11_leftOf yX11_leftOf, .initialized RX11] (List.forall_mem_cons.mpr ⟨(wa_19 _ (List.mem_of_getElem? (i := 19) (by decide +kernel))), (List.forall_mem_cons.mpr ⟨(wa_19 _ (List.mem_of_getElem? (i := 16) (by decide +kernel))), (List.forall_mem_cons.mpr ⟨(wa_19 _ (List.mem_of_getElem? (i := 17) (by decide +kernel))), (List.forall_mem_cons.mpr ⟨(wa_19 _ (List.mem_of_getElem? (i := 18) (by decide +kernel))), (List.forall_mem_cons.mpr ⟨(wa_1 _ (List.mem_of_getElem? (i := 5) (by decide +kernel))), (fun _ h => absurd h List.not_mem_nil)⟩)⟩)⟩)⟩)⟩)) rfl rfl rfl (by decide +kernel) ⟨Nat.le_of_ble_eq_true rfl, Nat.le_of_ble_eq_true rfl⟩) hZ.sp.1 kX11 rfl hl.1 rfl (Nat.le_of_ble_eq_true rfl) dX11_fewestOf_9 ⟨Nat.le_of_ble_eq_true rfl, Nat.le_of_ble_eq_true rfl⟩) hW (fun H locs hW => ?_)
  refine m_top (y := nI le0) (by rw [hle0]) ?_
  refine lv_istore (lv' := [(4, .int (nI le0)), (3, .int (nI sp0)), (0, .ref (ad 200)), (1, .int (nI u)), (2, .int (nI g))]) hx hb dX11_fewestOf_12 hl (by decide) rfl (fun ls hl => ?_)
  have k221 := hZ.sp.2.2.2.2.2.2.2.2.2.2.2.2.2.2.2.2.2.2.2.2.2
  have k200 := hZ.sp.1
  obtain ⟨lu0, hW⟩ := hW.learn k221
  have g200 : va_up sh 221 (some (mI 1024)) 200 = _ := (show va_up sh 221 (some (mI 1024)) 200 = sh 200 by simp only [va_up, if_neg (show ¬ 200 = 221 by decide)]).trans k200
  have g221 : va_up sh 221 (some (mI 1024)) 221 = some (mI 1024) := by simp [va_up]
  generalize hsh : va_up sh 221 (some (mI 1024)) = sh1 at hW g200 g221
  generalize hV0 : va_up V 221 lu0 = V0 at hW
  have hfr : ∀ a, a ≠ 221 → V0 a = V a := fun a ha => by rw [← hV0]; simp [va_up, ha]
  refine lv_aload_n hx hb dX11_fewestOf_14 rfl (lv_at hl 2 rfl) ?_
  refine m_getr S hW g200 35 rfl (j := 221) rfl kX11 (iW11 _) (by decide) (List.mem_cons_of_mem _ (wa_11 _ (List.mem_of_getElem? (i := 22) (by decide +kernel)))) dX11_fewestOf_15 ?_
  refine lv_iconst (v := nI 0) hx hb dX11_fewestOf_18 (by decide) ?_
  refine lv_iconst (v := nI 0) hx hb dX11_fewestOf_19 (by decide) ?_
  refine m_iast S hW g221 0 rfl (by decide) (by decide) dX11_fewestOf_20 (fun H locs hW => ?_)
  obtain ⟨V_1, eV_1⟩ : ∃ vv_ : mV, vv_ = mU V0 221 0 (nI 0) := ⟨_, rfl⟩
  rw [← eV_1] at hW
  refine lv_iconst (v := nI 1) hx hb dX11_fewestOf_21 (by decide) ?_
  refine lv_istore (lv' := [(5, .int (nI 1)), (4, .int (nI le0)), (3, .int (nI sp0)), (0, .ref (ad 200)), (1, .int (nI u)), (2, .int (nI g))]) hx hb dX11_fewestOf_22 hl (by decide) rfl (fun ls hl => ?_)
  have loop_24 : ∀ (n_24 : Nat) (ce : Nat) (V1 : mV) (H : Heap) (locs : List Loc) (ls : Array Slot), (1 ≤ ce ∧ ce ≤ le0 + 1) → (∀ a, a ≠ 221 → V1 a = V a) → (∀ j, j < ce → V1 221 j = fwT sp0 le0 ce j) → (le0 + 1 - ce) < n_24 → mC (mA ad sh s.heap.size) s.heap s G ad sh1 V1 H locs → lv_has ls 10 [(4, .int (nI le0)), (3, .int (nI sp0)), (0, .ref (ad 200)), (1, .int (nI u)), (2, .int (nI g)), (5, .int (nI ce))] → W p l e ({ frames := 2, cells := 0, slots := 0, locals := 48 } : Room) s m ([.ref (ad 200), .int (nI u), .int (nI g)] : List Value).toArray below meth c H locs 0 0 (MQ below (mPost G ad sh s.heap.size (mPe ad sh V (fwT (shM z u g) (zn z (10 + 2 * g) 2) (zn z (10 + 2 * g) 2 + 1) (zn z (10 + 2 * g) 2)))) ([.ref (ad 200), .int (nI u), .int (nI g)] : List Value).toArray s 0 0 (mA ad sh s.heap.size)) (F0 m 24 ls []) := by
    intro n_24
    induction n_24 with
    | zero => intro ce V1 H locs ls hce hfr htab hM_ hW hl; omega
    | succ n_24 ih_24 =>
      intro ce V1 H locs ls hce hfr htab hM_ hW hl
      refine lv_iload hx hb dX11_fewestOf_24 (lv_at hl 5 rfl) ?_
      refine lv_iload hx hb dX11_fewestOf_26 (lv_at hl 0 rfl) ?_
      refine lv_icmp_gt (tgt := 140) hx hb dX11_fewestOf_28 (by decide) (fun c_2 => ?_) (fun c_2 => ?_)
      · skip
        have c_2 : le0 < ce := (nI_ltI (by omega) (by omega)).mp c_2
        refine lv_aload_n hx hb dX11_fewestOf_140 rfl (lv_at hl 2 rfl) ?_
        refine m_getr S hW g200 35 rfl (j := 221) rfl kX11 (iW11 _) (by decide) (List.mem_cons_of_mem _ (wa_11 _ (List.mem_of_getElem? (i := 22) (by decide +kernel)))) dX11_fewestOf_141 ?_
        refine lv_iload hx hb dX11_fewestOf_144 (lv_at hl 0 rfl) ?_
        refine m_iald S hW g221 le0 rfl (by omega) (by decide) dX11_fewestOf_146 ?_
        refine m_top (y := (fwT sp0 le0 (le0 + 1) le0)) (by rw [htab le0 (by omega), show ce = le0 + 1 by omega]) ?_
        have hW := hW.forget (sh' := sh) (V' := V) g221 k221 (fun a ha => by rw [← hsh]; simp [va_up, ha]) (fun a ha => (hfr a ha).symm)
        exact m_iret S hr hlk hW dX11_fewestOf_147 ⟨rfl, (by rw [← hsp0, ← hle0])⟩
      · skip
        have c_2 : ¬ le0 < ce := mt (nI_ltI (by omega) (by omega)).mpr c_2
        refine lv_iconst (v := -1) hx hb dX11_fewestOf_31 (by decide) ?_
        refine lv_istore (lv' := [(6, .int (-1)), (4, .int (nI le0)), (3, .int (nI sp0)), (0, .ref (ad 200)), (1, .int (nI u)), (2, .int (nI g)), (5, .int (nI ce))]) hx hb dX11_fewestOf_32 hl (by decide) rfl (fun ls hl => ?_)
        refine lv_iconst (v := nI 0) hx hb dX11_fewestOf_34 (by decide) ?_
        refine lv_istore (lv' := [(7, .int (nI 0)), (6, .int (-1)), (4, .int (nI le0)), (3, .int (nI sp0)), (0, .ref (ad 200)), (1, .int (nI u)), (2, .int (nI g)), (5, .int (nI ce))]) hx hb dX11_fewestOf_35 hl (by decide) rfl (fun ls hl => ?_)
        have loop_37 : ∀ (n_37 : Nat) (ls0 : Int32) (pp0 : Nat) (H : Heap) (locs : List Loc) (ls : Array Slot), (pp0 ≤ 16) → (ls0 = fwP sp0 ce (fwT sp0 le0 ce) pp0) → (pp0 ≠ 0 → fIn ce le0) → (16 - pp0) < n_37 → mC (mA ad sh s.heap.size) s.heap s G ad sh1 V1 H locs → lv_has ls 10 [(4, .int (nI le0)), (3, .int (nI sp0)), (0, .ref (ad 200)), (1, .int (nI u)), (2, .int (nI g)), (5, .int (nI ce)), (6, .int ls0), (7, .int (nI pp0))] → W p l e ({ frames := 2, cells := 0, slots := 0, locals := 48 } : Room) s m ([.ref (ad 200), .int (nI u), .int (nI g)] : List Value).toArray below meth c H locs 0 0 (MQ below (mPost G ad sh s.heap.size (mPe ad sh V (fwT (shM z u g) (zn z (10 + 2 * g) 2) (zn z (10 + 2 * g) 2 + 1) (zn z (10 + 2 * g) 2)))) ([.ref (ad 200), .int (nI u), .int (nI g)] : List Value).toArray s 0 0 (mA ad sh s.heap.size)) (F0 m 37 ls []) := by
          intro n_37
          induction n_37 with
          | zero => intro ls0 pp0 H locs ls hk hls hsb hM_ hW hl; omega
          | succ n_37 ih_37 =>
            intro ls0 pp0 H locs ls hk hls hsb hM_ hW hl
            refine lv_iload hx hb dX11_fewestOf_37 (lv_at hl 7 rfl) ?_
            refine lv_bipush (v := nI 16) hx hb dX11_fewestOf_39 (by decide) ?_
            refine lv_icmp_ge (tgt := 125) hx hb dX11_fewestOf_41 (by decide) (fun c_3 => ?_) (fun c_3 => ?_)
            · skip
              have c_3 : 16 ≤ pp0 := (nI_leI (by omega) (by omega)).mp c_3
              have hfin : ls0 = if fIn ce le0 then fwP sp0 ce (fwT sp0 le0 ce) 16 else -1 := by
                have hp16 : pp0 = 16 := by omega
                rw [if_pos (hsb (by omega)), hls, hp16]
              refine lv_aload_n hx hb dX11_fewestOf_125 rfl (lv_at hl 2 rfl) ?_
              refine m_getr S hW g200 35 rfl (j := 221) rfl kX11 (iW11 _) (by decide) (List.mem_cons_of_mem _ (wa_11 _ (List.mem_of_getElem? (i := 22) (by decide +kernel)))) dX11_fewestOf_126 ?_
              refine lv_iload hx hb dX11_fewestOf_129 (lv_at hl 5 rfl) ?_
              refine lv_iload hx hb dX11_fewestOf_131 (lv_at hl 6 rfl) ?_
              refine m_iast S hW g221 ce rfl (by omega) (by decide) dX11_fewestOf_133 (fun H locs hW => ?_)
              obtain ⟨V_4, eV_4⟩ : ∃ vv_ : mV, vv_ = mU V1 221 ce (ls0) := ⟨_, rfl⟩
              rw [← eV_4] at hW
              refine lv_iinc (v := nI (ce + 1)) (lv' := [(5, .int (nI (ce + 1))), (4, .int (nI le0)), (3, .int (nI sp0)), (0, .ref (ad 200)), (1, .int (nI u)), (2, .int (nI g)), (6, .int ls0), (7, .int (nI pp0))]) hx hb dX11_fewestOf_134 hl (k := 5) rfl (m_inc ce 1) (by decide) rfl (fun ls hl => ?_)
              refine lv_goto (tgt := 24) hx hb dX11_fewestOf_137 (by decide) ?_
              exact ih_24  (ce + 1) V_4 _ _ _ (by omega) (by intro a ha; rw [eV_4, mU_no _ _ ha]; exact hfr a ha) (by intro j hj; rw [eV_4]; exact fwT_step (by omega) htab hfin j hj) (by omega) hW (lv_sub hl [1, 2, 3, 4, 5, 0] rfl)
            · skip
              have c_3 : ¬ 16 ≤ pp0 := mt (nI_leI (by omega) (by omega)).mpr c_3
              have hrl0 := fRest_le ce le0
              have hml0 : mkN sp0 ce pp0 < 1024 := mkN_lt (by omega)
              refine lv_iload hx hb dX11_fewestOf_44 (lv_at hl 5 rfl) ?_
              refine lv_iload hx hb dX11_fewestOf_46 (lv_at hl 0 rfl) ?_
              refine lv_iconst (v := -1) hx hb dX11_fewestOf_48 (by decide) ?_
              refine lv_ixor hx hb dX11_fewestOf_49 ?_
              refine lv_iand hx hb dX11_fewestOf_50 ?_
              refine m_top (y := nI (fRest ce le0)) (fRest_m (by omega)) ?_
              refine m_if_ne (tgt := 125) hx hb dX11_fewestOf_51 (by decide) (fun c_5 => ?_) (fun c_5 => ?_)
              · skip
                have c_5 : ¬ (fRest ce le0) = 0 := mt (nI_eq (by omega) (by omega)).mpr c_5
                have hfin : ls0 = if fIn ce le0 then fwP sp0 ce (fwT sp0 le0 ce) 16 else -1 := by
                  have hni : ¬ fIn ce le0 := c_5
                  have hp0 : pp0 = 0 := Decidable.byContradiction (fun z => hni (hsb z))
                  rw [if_neg hni, hls, hp0]; rfl
                refine lv_aload_n hx hb dX11_fewestOf_125 rfl (lv_at hl 2 rfl) ?_
                refine m_getr S hW g200 35 rfl (j := 221) rfl kX11 (iW11 _) (by decide) (List.mem_cons_of_mem _ (wa_11 _ (List.mem_of_getElem? (i := 22) (by decide +kernel)))) dX11_fewestOf_126 ?_
                refine lv_iload hx hb dX11_fewestOf_129 (lv_at hl 5 rfl) ?_
                refine lv_iload hx hb dX11_fewestOf_131 (lv_at hl 6 rfl) ?_
                refine m_iast S hW g221 ce rfl (by omega) (by decide) dX11_fewestOf_133 (fun H locs hW => ?_)
                obtain ⟨V_6, eV_6⟩ : ∃ vv_ : mV, vv_ = mU V1 221 ce (ls0) := ⟨_, rfl⟩
                rw [← eV_6] at hW
                refine lv_iinc (v := nI (ce + 1)) (lv' := [(5, .int (nI (ce + 1))), (4, .int (nI le0)), (3, .int (nI sp0)), (0, .ref (ad 200)), (1, .int (nI u)), (2, .int (nI g)), (6, .int ls0), (7, .int (nI pp0))]) hx hb dX11_fewestOf_134 hl (k := 5) rfl (m_inc ce 1) (by decide) rfl (fun ls hl => ?_)
                refine lv_goto (tgt := 24) hx hb dX11_fewestOf_137 (by decide) ?_
                exact ih_24  (ce + 1) V_6 _ _ _ (by omega) (by intro a ha; rw [eV_6, mU_no _ _ ha]; exact hfr a ha) (by intro j hj; rw [eV_6]; exact fwT_step (by omega) htab hfin j hj) (by omega) hW (lv_sub hl [1, 2, 3, 4, 5, 0] rfl)
              · skip
                have c_5 : (fRest ce le0) = 0 := (nI_eq (by omega) (by omega)).mp c_5
                refine lv_iload_n hx hb dX11_fewestOf_54 rfl (lv_at hl 1 rfl) ?_
                refine lv_iload hx hb dX11_fewestOf_55 (lv_at hl 5 rfl) ?_
                refine lv_iload hx hb dX11_fewestOf_57 (lv_at hl 7 rfl) ?_
                refine m_cie (m_rS S hW (c_X11_markBy l G ad sh1 V1 sp0 ce pp0 (by first | assumption | omega) (by first | assumption | omega) (by first | assumption | omega)) (va_cwS 3 hts (gCall [.methodLink RX11 192 yX11_markBy, .static yX11_markBy, .initialized RX11] (List.forall_mem_cons.mpr ⟨(wa_26 _ (List.mem_of_getElem? (i := 21) (by decide +kernel))), (List.forall_mem_cons.mpr ⟨(wa_26 _ (List.mem_of_getElem? (i := 19) (by decide +kernel))), (List.forall_mem_cons.mpr ⟨(wa_26 _ (List.mem_of_getElem? (i := 20) (by decide +kernel))), (List.forall_mem_cons.mpr ⟨(wa_1 _ (List.mem_of_getElem? (i := 5) (by decide +kernel))), (fun _ h => absurd h List.not_mem_nil)⟩)⟩)⟩)⟩)) rfl rfl rfl (by decide +kernel) ⟨Nat.le_of_ble_eq_true rfl, Nat.le_of_ble_eq_true rfl⟩) rfl hl.1 rfl (Nat.le_of_ble_eq_true rfl) dX11_fewestOf_59 ⟨Nat.le_of_ble_eq_true rfl, Nat.le_of_ble_eq_true rfl⟩) hW (fun H locs hW => ?_)
                refine lv_istore (lv' := [(8, .int (nI (mkN sp0 ce pp0))), (4, .int (nI le0)), (3, .int (nI sp0)), (0, .ref (ad 200)), (1, .int (nI u)), (2, .int (nI g)), (5, .int (nI ce)), (6, .int ls0), (7, .int (nI pp0))]) hx hb dX11_fewestOf_62 hl (by decide) rfl (fun ls hl => ?_)
                refine lv_iload hx hb dX11_fewestOf_64 (lv_at hl 0 rfl) ?_
                refine m_if_ne (tgt := 73) hx hb dX11_fewestOf_66 (by decide) (fun c_7 => ?_) (fun c_7 => ?_)
                · skip
                  have c_7 : ¬ (mkN sp0 ce pp0) = 0 := mt (nI_eq (by omega) (by omega)).mpr c_7
                  refine lv_aload_n hx hb dX11_fewestOf_73 rfl (lv_at hl 3 rfl) ?_
                  refine m_getr S hW g200 35 rfl (j := 221) rfl kX11 (iW11 _) (by decide) (List.mem_cons_of_mem _ (wa_11 _ (List.mem_of_getElem? (i := 22) (by decide +kernel)))) dX11_fewestOf_74 ?_
                  refine lv_iload hx hb dX11_fewestOf_77 (lv_at hl 6 rfl) ?_
                  refine lv_iload hx hb dX11_fewestOf_79 (lv_at hl 0 rfl) ?_
                  refine lv_iconst (v := -1) hx hb dX11_fewestOf_81 (by decide) ?_
                  refine lv_ixor hx hb dX11_fewestOf_82 ?_
                  refine lv_iand hx hb dX11_fewestOf_83 ?_
                  refine m_top (y := nI (fRest ce (mkN sp0 ce pp0))) (fRest_m (by omega)) ?_
                  refine m_iald S hW g221 (fRest ce (mkN sp0 ce pp0)) rfl (Nat.lt_of_le_of_lt (fRest_le _ _) (by omega)) (by decide) dX11_fewestOf_84 ?_
                  refine m_top (y := ((fwT sp0 le0 ce) (fRest ce (mkN sp0 ce pp0)))) (htab _ (fRest_lt2 (by omega) c_7)) ?_
                  refine lv_istore (lv' := [(9, .int ((fwT sp0 le0 ce) (fRest ce (mkN sp0 ce pp0)))), (8, .int (nI (mkN sp0 ce pp0))), (4, .int (nI le0)), (3, .int (nI sp0)), (0, .ref (ad 200)), (1, .int (nI u)), (2, .int (nI g)), (5, .int (nI ce)), (6, .int ls0), (7, .int (nI pp0))]) hx hb dX11_fewestOf_85 hl (by decide) rfl (fun ls hl => ?_)
                  refine lv_iload hx hb dX11_fewestOf_87 (lv_at hl 0 rfl) ?_
                  refine lv_iconst (v := -1) hx hb dX11_fewestOf_89 (by decide) ?_
                  refine lv_icmp_eq (tgt := 115) hx hb dX11_fewestOf_90 (by decide) (fun c_8 => ?_) (fun c_8 => ?_)
                  · skip
                    refine lv_iload hx hb dX11_fewestOf_115 (lv_at hl 8 rfl) ?_
                    refine lv_istore (lv' := [(6, .int ls0), (9, .int ((fwT sp0 le0 ce) (fRest ce (mkN sp0 ce pp0)))), (8, .int (nI (mkN sp0 ce pp0))), (4, .int (nI le0)), (3, .int (nI sp0)), (0, .ref (ad 200)), (1, .int (nI u)), (2, .int (nI g)), (5, .int (nI ce)), (7, .int (nI pp0))]) hx hb dX11_fewestOf_117 hl (by decide) rfl (fun ls hl => ?_)
                    refine lv_iinc (v := nI (pp0 + 1)) (lv' := [(7, .int (nI (pp0 + 1))), (6, .int ls0), (9, .int ((fwT sp0 le0 ce) (fRest ce (mkN sp0 ce pp0)))), (8, .int (nI (mkN sp0 ce pp0))), (4, .int (nI le0)), (3, .int (nI sp0)), (0, .ref (ad 200)), (1, .int (nI u)), (2, .int (nI g)), (5, .int (nI ce))]) hx hb dX11_fewestOf_119 hl (k := 9) rfl (m_inc pp0 1) (by decide) rfl (fun ls hl => ?_)
                    refine lv_goto (tgt := 37) hx hb dX11_fewestOf_122 (by decide) ?_
                    exact ih_37  ls0 (pp0 + 1)  _ _ _ (by omega) (by rw [fwP, if_neg (fun z => z.1 ((if_neg c_7).trans c_8))]; exact hls) (by intro _; exact c_5) (by omega) hW (lv_sub hl [4, 5, 6, 7, 8, 9, 1, 0] rfl)
                  · skip
                    refine lv_iload hx hb dX11_fewestOf_93 (lv_at hl 8 rfl) ?_
                    refine lv_iconst (v := -1) hx hb dX11_fewestOf_95 (by decide) ?_
                    refine lv_icmp_eq (tgt := 108) hx hb dX11_fewestOf_96 (by decide) (fun c_9 => ?_) (fun c_9 => ?_)
                    · skip
                      refine lv_iload hx hb dX11_fewestOf_108 (lv_at hl 0 rfl) ?_
                      refine lv_iconst (v := nI 1) hx hb dX11_fewestOf_110 (by decide) ?_
                      refine lv_iadd hx hb dX11_fewestOf_111 ?_
                      refine lv_goto (tgt := 117) hx hb dX11_fewestOf_112 (by decide) ?_
                      refine lv_istore (lv' := [(6, .int (((fwT sp0 le0 ce) (fRest ce (mkN sp0 ce pp0))) + (nI 1))), (9, .int ((fwT sp0 le0 ce) (fRest ce (mkN sp0 ce pp0)))), (8, .int (nI (mkN sp0 ce pp0))), (4, .int (nI le0)), (3, .int (nI sp0)), (0, .ref (ad 200)), (1, .int (nI u)), (2, .int (nI g)), (5, .int (nI ce)), (7, .int (nI pp0))]) hx hb dX11_fewestOf_117 hl (by decide) rfl (fun ls hl => ?_)
                      refine lv_iinc (v := nI (pp0 + 1)) (lv' := [(7, .int (nI (pp0 + 1))), (6, .int (((fwT sp0 le0 ce) (fRest ce (mkN sp0 ce pp0))) + (nI 1))), (9, .int ((fwT sp0 le0 ce) (fRest ce (mkN sp0 ce pp0)))), (8, .int (nI (mkN sp0 ce pp0))), (4, .int (nI le0)), (3, .int (nI sp0)), (0, .ref (ad 200)), (1, .int (nI u)), (2, .int (nI g)), (5, .int (nI ce))]) hx hb dX11_fewestOf_119 hl (k := 9) rfl (m_inc pp0 1) (by decide) rfl (fun ls hl => ?_)
                      refine lv_goto (tgt := 37) hx hb dX11_fewestOf_122 (by decide) ?_
                      exact ih_37  (((fwT sp0 le0 ce) (fRest ce (mkN sp0 ce pp0))) + (nI 1)) (pp0 + 1)  _ _ _ (by omega) (by rw [fwP, if_neg c_7, if_pos ⟨c_8, Or.inl (hls.symm.trans c_9)⟩]) (by intro _; exact c_5) (by omega) hW (lv_sub hl [4, 5, 6, 7, 8, 9, 1, 0] rfl)
                    · skip
                      refine lv_iload hx hb dX11_fewestOf_99 (lv_at hl 0 rfl) ?_
                      refine lv_iconst (v := nI 1) hx hb dX11_fewestOf_101 (by decide) ?_
                      refine lv_iadd hx hb dX11_fewestOf_102 ?_
                      refine lv_iload hx hb dX11_fewestOf_103 (lv_at hl 8 rfl) ?_
                      refine lv_icmp_ge (tgt := 115) hx hb dX11_fewestOf_105 (by decide) (fun c_10 => ?_) (fun c_10 => ?_)
                      · skip
                        refine lv_iload hx hb dX11_fewestOf_115 (lv_at hl 8 rfl) ?_
                        refine lv_istore (lv' := [(6, .int ls0), (9, .int ((fwT sp0 le0 ce) (fRest ce (mkN sp0 ce pp0)))), (8, .int (nI (mkN sp0 ce pp0))), (4, .int (nI le0)), (3, .int (nI sp0)), (0, .ref (ad 200)), (1, .int (nI u)), (2, .int (nI g)), (5, .int (nI ce)), (7, .int (nI pp0))]) hx hb dX11_fewestOf_117 hl (by decide) rfl (fun ls hl => ?_)
                        refine lv_iinc (v := nI (pp0 + 1)) (lv' := [(7, .int (nI (pp0 + 1))), (6, .int ls0), (9, .int ((fwT sp0 le0 ce) (fRest ce (mkN sp0 ce pp0)))), (8, .int (nI (mkN sp0 ce pp0))), (4, .int (nI le0)), (3, .int (nI sp0)), (0, .ref (ad 200)), (1, .int (nI u)), (2, .int (nI g)), (5, .int (nI ce))]) hx hb dX11_fewestOf_119 hl (k := 9) rfl (m_inc pp0 1) (by decide) rfl (fun ls hl => ?_)
                        refine lv_goto (tgt := 37) hx hb dX11_fewestOf_122 (by decide) ?_
                        exact ih_37  ls0 (pp0 + 1)  _ _ _ (by omega) (by rw [fwP, if_neg c_7, if_neg (fun z => z.2.elim (fun y => c_9 (hls.trans y)) (fun y => absurd (by rw [hls]; exact y) (Int32.not_lt.mpr c_10)))]; exact hls) (by intro _; exact c_5) (by omega) hW (lv_sub hl [4, 5, 6, 7, 8, 9, 1, 0] rfl)
                      · skip
                        refine lv_iload hx hb dX11_fewestOf_108 (lv_at hl 0 rfl) ?_
                        refine lv_iconst (v := nI 1) hx hb dX11_fewestOf_110 (by decide) ?_
                        refine lv_iadd hx hb dX11_fewestOf_111 ?_
                        refine lv_goto (tgt := 117) hx hb dX11_fewestOf_112 (by decide) ?_
                        refine lv_istore (lv' := [(6, .int (((fwT sp0 le0 ce) (fRest ce (mkN sp0 ce pp0))) + (nI 1))), (9, .int ((fwT sp0 le0 ce) (fRest ce (mkN sp0 ce pp0)))), (8, .int (nI (mkN sp0 ce pp0))), (4, .int (nI le0)), (3, .int (nI sp0)), (0, .ref (ad 200)), (1, .int (nI u)), (2, .int (nI g)), (5, .int (nI ce)), (7, .int (nI pp0))]) hx hb dX11_fewestOf_117 hl (by decide) rfl (fun ls hl => ?_)
                        refine lv_iinc (v := nI (pp0 + 1)) (lv' := [(7, .int (nI (pp0 + 1))), (6, .int (((fwT sp0 le0 ce) (fRest ce (mkN sp0 ce pp0))) + (nI 1))), (9, .int ((fwT sp0 le0 ce) (fRest ce (mkN sp0 ce pp0)))), (8, .int (nI (mkN sp0 ce pp0))), (4, .int (nI le0)), (3, .int (nI sp0)), (0, .ref (ad 200)), (1, .int (nI u)), (2, .int (nI g)), (5, .int (nI ce))]) hx hb dX11_fewestOf_119 hl (k := 9) rfl (m_inc pp0 1) (by decide) rfl (fun ls hl => ?_)
                        refine lv_goto (tgt := 37) hx hb dX11_fewestOf_122 (by decide) ?_
                        exact ih_37  (((fwT sp0 le0 ce) (fRest ce (mkN sp0 ce pp0))) + (nI 1)) (pp0 + 1)  _ _ _ (by omega) (by rw [fwP, if_neg c_7, if_pos ⟨c_8, Or.inr (by rw [← hls]; exact Int32.not_le.mp c_10)⟩]) (by intro _; exact c_5) (by omega) hW (lv_sub hl [4, 5, 6, 7, 8, 9, 1, 0] rfl)
                · skip
                  have c_7 : (mkN sp0 ce pp0) = 0 := (nI_eq (by omega) (by omega)).mp c_7
                  refine lv_iconst (v := -1) hx hb dX11_fewestOf_69 (by decide) ?_
                  refine lv_goto (tgt := 85) hx hb dX11_fewestOf_70 (by decide) ?_
                  refine lv_istore (lv' := [(9, .int (-1)), (8, .int (nI (mkN sp0 ce pp0))), (4, .int (nI le0)), (3, .int (nI sp0)), (0, .ref (ad 200)), (1, .int (nI u)), (2, .int (nI g)), (5, .int (nI ce)), (6, .int ls0), (7, .int (nI pp0))]) hx hb dX11_fewestOf_85 hl (by decide) rfl (fun ls hl => ?_)
                  refine lv_iload hx hb dX11_fewestOf_87 (lv_at hl 0 rfl) ?_
                  refine lv_iconst (v := -1) hx hb dX11_fewestOf_89 (by decide) ?_
                  refine lv_icmp_eq (tgt := 115) hx hb dX11_fewestOf_90 (by decide) (fun c_11 => ?_) (fun c_11 => ?_)
                  · skip
                    refine lv_iload hx hb dX11_fewestOf_115 (lv_at hl 8 rfl) ?_
                    refine lv_istore (lv' := [(6, .int ls0), (9, .int (-1)), (8, .int (nI (mkN sp0 ce pp0))), (4, .int (nI le0)), (3, .int (nI sp0)), (0, .ref (ad 200)), (1, .int (nI u)), (2, .int (nI g)), (5, .int (nI ce)), (7, .int (nI pp0))]) hx hb dX11_fewestOf_117 hl (by decide) rfl (fun ls hl => ?_)
                    refine lv_iinc (v := nI (pp0 + 1)) (lv' := [(7, .int (nI (pp0 + 1))), (6, .int ls0), (9, .int (-1)), (8, .int (nI (mkN sp0 ce pp0))), (4, .int (nI le0)), (3, .int (nI sp0)), (0, .ref (ad 200)), (1, .int (nI u)), (2, .int (nI g)), (5, .int (nI ce))]) hx hb dX11_fewestOf_119 hl (k := 9) rfl (m_inc pp0 1) (by decide) rfl (fun ls hl => ?_)
                    refine lv_goto (tgt := 37) hx hb dX11_fewestOf_122 (by decide) ?_
                    exact ih_37  ls0 (pp0 + 1)  _ _ _ (by omega) (by rw [fwP, if_neg (fun z => z.1 (if_pos c_7))]; exact hls) (by intro _; exact c_5) (by omega) hW (lv_sub hl [4, 5, 6, 7, 8, 9, 1, 0] rfl)
                  · exact absurd c_11 (by decide)
        exact loop_37 (16 - 0 + 1) (-1) 0  _ _ _ (by omega) (by rfl) (by intro z; exact absurd rfl z) (by omega) hW (lv_sub hl [2, 3, 4, 5, 6, 7, 1, 0] rfl)
  exact loop_24 (le0 + 1 - 1 + 1) 1 V_1 _ _ _ (by omega) (by intro a ha; rw [eV_1, mU_no _ _ ha]; exact hfr a ha) (by intro j hj; rw [show j = 0 by omega, eV_1, mU_eq, fwT_zero]) (by omega) hW (lv_sub hl [1, 2, 3, 4, 5, 0] rfl)
set_option maxHeartbeats 4000000 in
set_option maxRecDepth 100000 in
theorem c_X11_bitesBy (l : Launch) (G : mG) (ad : Nat → Nat) (sh : Nat → Option mSh) (V : mV) (z : fZ) (ne ng rl : Nat) (tx : sT) (c0 : Nat → Int32) (sx sz : Nat) (hZ : MZ sh V z ne ng rl tx) (hsx : sx < 4) (hsz : V 212 sx = nI sz) (hsz4 : sz ≤ 40) (hcl : ∀ k, k < 40 → V 213 (40 * sx + k) = c0 k) (hday : fDayOk c0 ne ng sz) : mM l yX11_bitesBy wsX11_bitesBy ({ frames := 5, cells := 0, slots := 0, locals := 123 } : Room) G ad sh V [.ref (ad 200), .int (nI sx)] 0 0 (mPi ad sh (fun r V' => (zDay (askT tx) c0 z (sz / 3)).2 = r ∧ (MZ sh V' (zDay (askT tx) c0 z (sz / 3)).1 ne ng rl tx) ∧ (MB V V'))) := by
  refine mM.of (cc := cX11_bitesBy) (maxL := 4) (ret := (some .int)) (by decide) rfl (Nat.le_of_ble_eq_true rfl) ?_
  intro p e s m below meth c S hr hlk hnm hW ls hl
  obtain ⟨hx, hb, hml, hown, hts⟩ := id S
  have hl : lv_has ls 4 [(0, .ref (ad 200)), (1, .int (nI sx))] := hl
  have hS0 : True := trivial
  have hne5 := hZ.ne5
  have hng6 := hZ.ng6
  refine lv_iconst (v := nI 0) hx hb dX11_bitesBy_0 (by decide) ?_
  refine lv_istore_n (lv' := [(2, .int (nI 0)), (0, .ref (ad 200)), (1, .int (nI sx))]) hx hb dX11_bitesBy_1 rfl hl (by decide) rfl (fun ls hl => ?_)
  have loop_2 : ∀ (n_2 : Nat) (dk : Nat) (V1 : mV) (H : Heap) (locs : List Loc) (ls : Array Slot), (dk ≤ sz / 3) → (MZ sh V1 (zDay (askT tx) c0 z dk).1 ne ng rl tx) → ((zDay (askT tx) c0 z dk).2 = -1) → (MB V V1) → (sz / 3 - dk) < n_2 → mC (mA ad sh s.heap.size) s.heap s G ad sh V1 H locs → lv_has ls 4 [(0, .ref (ad 200)), (1, .int (nI sx)), (2, .int (nI dk))] → W p l e ({ frames := 5, cells := 0, slots := 0, locals := 123 } : Room) s m ([.ref (ad 200), .int (nI sx)] : List Value).toArray below meth c H locs 0 0 (MQ below (mPost G ad sh s.heap.size (mPi ad sh (fun r V' => (zDay (askT tx) c0 z (sz / 3)).2 = r ∧ (MZ sh V' (zDay (askT tx) c0 z (sz / 3)).1 ne ng rl tx) ∧ (MB V V')))) ([.ref (ad 200), .int (nI sx)] : List Value).toArray s 0 0 (mA ad sh s.heap.size)) (F0 m 2 ls []) := by
    intro n_2
    induction n_2 with
    | zero => intro dk V1 H locs ls hk hZ1 hst hB hM_ hW hl; omega
    | succ n_2 ih_2 =>
      intro dk V1 H locs ls hk hZ1 hst hB hM_ hW hl
      refine lv_iload_n hx hb dX11_bitesBy_2 rfl (lv_at hl 2 rfl) ?_
      refine lv_aload_n hx hb dX11_bitesBy_3 rfl (lv_at hl 0 rfl) ?_
      refine m_getr S hW hZ.sp.1 18 rfl (j := 212) rfl kX11 (iW11 _) (by decide) (List.mem_cons_of_mem _ (wa_11 _ (List.mem_of_getElem? (i := 13) (by decide +kernel)))) dX11_bitesBy_4 ?_
      refine lv_iload_n hx hb dX11_bitesBy_7 rfl (lv_at hl 1 rfl) ?_
      refine m_iald S hW hZ.sp.2.2.2.2.2.2.2.2.2.2.2.2.1 sx rfl (by omega) (by decide) dX11_bitesBy_8 ?_
      refine m_top (y := nI sz) ((congrFun (hB.1 212 (by decide) (by decide) (by decide)) _).trans hsz) ?_
      refine lv_iconst (v := nI 3) hx hb dX11_bitesBy_9 (by decide) ?_
      refine lv_idiv hx hb dX11_bitesBy_10 (by decide) ?_
      refine m_top (y := nI (sz / 3)) (pk_div (by omega) (by omega) (by omega)) ?_
      refine lv_icmp_ge (tgt := 87) hx hb dX11_bitesBy_11 (by decide) (fun c_1 => ?_) (fun c_1 => ?_)
      · skip
        have c_1 : (sz / 3) ≤ dk := (nI_leI (by omega) (by omega)).mp c_1
        refine lv_iconst (v := -1) hx hb dX11_bitesBy_87 (by decide) ?_
        exact m_iret S hr hlk hW dX11_bitesBy_88 (by rw [show sz / 3 = dk by omega]; exact ⟨hst, hZ1, hB⟩)
      · skip
        have c_1 : ¬ (sz / 3) ≤ dk := mt (nI_leI (by omega) (by omega)).mpr c_1
        obtain ⟨du, dv, dw, hu, hv0, hw, hun, hvn, hwn⟩ := hday dk (by omega)
        have hc13 : V1 213 = V 213 := hB.1 213 (by decide) (by decide) (by decide)
        refine lv_bipush (v := nI 40) hx hb dX11_bitesBy_14 (by decide) ?_
        refine lv_iload_n hx hb dX11_bitesBy_16 rfl (lv_at hl 1 rfl) ?_
        refine lv_imul hx hb dX11_bitesBy_17 ?_
        refine m_top (y := nI (40 * sx)) (pk_mul 40 sx) ?_
        refine lv_iconst (v := nI 3) hx hb dX11_bitesBy_18 (by decide) ?_
        refine lv_iload_n hx hb dX11_bitesBy_19 rfl (lv_at hl 2 rfl) ?_
        refine lv_imul hx hb dX11_bitesBy_20 ?_
        refine m_top (y := nI (3 * dk)) (pk_mul 3 dk) ?_
        refine lv_iadd hx hb dX11_bitesBy_21 ?_
        refine m_top (y := nI ((40 * sx) + (3 * dk))) (nI_add (40 * sx) (3 * dk)) ?_
        refine lv_istore_n (lv' := [(3, .int (nI ((40 * sx) + (3 * dk)))), (0, .ref (ad 200)), (1, .int (nI sx)), (2, .int (nI dk))]) hx hb dX11_bitesBy_22 rfl hl (by decide) rfl (fun ls hl => ?_)
        refine lv_aload_n hx hb dX11_bitesBy_23 rfl (lv_at hl 1 rfl) ?_
        refine lv_aload_n hx hb dX11_bitesBy_24 rfl (lv_at hl 1 rfl) ?_
        refine m_getr S hW hZ.sp.1 19 rfl (j := 213) rfl kX11 (iW11 _) (by decide) (List.mem_cons_of_mem _ (wa_11 _ (List.mem_of_getElem? (i := 14) (by decide +kernel)))) dX11_bitesBy_25 ?_
        refine lv_iload_n hx hb dX11_bitesBy_28 rfl (lv_at hl 0 rfl) ?_
        refine m_iald S hW hZ.sp.2.2.2.2.2.2.2.2.2.2.2.2.2.1 ((40 * sx) + (3 * dk)) rfl (by omega) (by decide) dX11_bitesBy_29 ?_
        refine m_top (y := nI du) (by rw [hc13, show 40 * sx + 3 * dk = 40 * sx + (3 * dk + 0) by omega, hcl _ (by omega)]; exact hu) ?_
        refine lv_aload_n hx hb dX11_bitesBy_30 rfl (lv_at hl 1 rfl) ?_
        refine m_getr S hW hZ.sp.1 19 rfl (j := 213) rfl kX11 (iW11 _) (by decide) (List.mem_cons_of_mem _ (wa_11 _ (List.mem_of_getElem? (i := 14) (by decide +kernel)))) dX11_bitesBy_31 ?_
        refine lv_iload_n hx hb dX11_bitesBy_34 rfl (lv_at hl 0 rfl) ?_
        refine lv_iconst (v := nI 1) hx hb dX11_bitesBy_35 (by decide) ?_
        refine lv_iadd hx hb dX11_bitesBy_36 ?_
        refine m_top (y := nI (((40 * sx) + (3 * dk)) + 1)) (nI_add ((40 * sx) + (3 * dk)) 1) ?_
        refine m_iald S hW hZ.sp.2.2.2.2.2.2.2.2.2.2.2.2.2.1 (((40 * sx) + (3 * dk)) + 1) rfl (by omega) (by decide) dX11_bitesBy_37 ?_
        refine m_top (y := nI dv) (by rw [hc13, show 40 * sx + 3 * dk + 1 = 40 * sx + (3 * dk + 1) by omega, hcl _ (by omega)]; exact hv0) ?_
        refine lv_aload_n hx hb dX11_bitesBy_38 rfl (lv_at hl 1 rfl) ?_
        refine m_getr S hW hZ.sp.1 19 rfl (j := 213) rfl kX11 (iW11 _) (by decide) (List.mem_cons_of_mem _ (wa_11 _ (List.mem_of_getElem? (i := 14) (by decide +kernel)))) dX11_bitesBy_39 ?_
        refine lv_iload_n hx hb dX11_bitesBy_42 rfl (lv_at hl 0 rfl) ?_
        refine lv_iconst (v := nI 2) hx hb dX11_bitesBy_43 (by decide) ?_
        refine lv_iadd hx hb dX11_bitesBy_44 ?_
        refine m_top (y := nI (((40 * sx) + (3 * dk)) + 2)) (nI_add ((40 * sx) + (3 * dk)) 2) ?_
        refine m_iald S hW hZ.sp.2.2.2.2.2.2.2.2.2.2.2.2.2.1 (((40 * sx) + (3 * dk)) + 2) rfl (by omega) (by decide) dX11_bitesBy_45 ?_
        refine m_top (y := nI dw) (by rw [hc13, show 40 * sx + 3 * dk + 2 = 40 * sx + (3 * dk + 2) by omega, hcl _ (by omega)]; exact hw) ?_
        refine m_cip (m_rV S hW (c_X11_canBe l G ad sh V1 ((zDay (askT tx) c0 z dk).1) ne ng rl tx du dv dw hZ1 hun hvn hwn) (cwV 3 hts (gCall [.methodLink RX11 216 yX11_canBe, .instanceMethod yX11_canBe, .selects RX11 yX11_canBe yX11_canBe, .initialized RX11] (List.forall_mem_cons.mpr ⟨(wa_29 _ (List.mem_of_getElem? (i := 19) (by decide +kernel))), (List.forall_mem_cons.mpr ⟨(wa_29 _ (List.mem_of_getElem? (i := 16) (by decide +kernel))), (List.forall_mem_cons.mpr ⟨(wa_29 _ (List.mem_of_getElem? (i := 17) (by decide +kernel))), (List.forall_mem_cons.mpr ⟨(wa_29 _ (List.mem_of_getElem? (i := 18) (by decide +kernel))), (List.forall_mem_cons.mpr ⟨(wa_1 _ (List.mem_of_getElem? (i := 5) (by decide +kernel))), (fun _ h => absurd h List.not_mem_nil)⟩)⟩)⟩)⟩)⟩)) rfl rfl rfl (by decide +kernel) ⟨Nat.le_of_ble_eq_true rfl, Nat.le_of_ble_eq_true rfl⟩) hZ.sp.1 kX11 rfl hl.1 rfl (Nat.le_of_ble_eq_true rfl) dX11_bitesBy_46 ⟨Nat.le_of_ble_eq_true rfl, Nat.le_of_ble_eq_true rfl⟩) hW (fun r_3 H locs hp_2 hW => ?_)
        rcases hp_2 with ⟨rfl, w_4⟩ | ⟨rfl, w_5⟩
        · skip
          refine m_if_ne (tgt := 54) hx hb dX11_bitesBy_49 (by decide) (fun c_6 => ?_) (fun c_6 => ?_)
          · skip
            refine lv_aload_n hx hb dX11_bitesBy_54 rfl (lv_at hl 1 rfl) ?_
            refine lv_aload_n hx hb dX11_bitesBy_55 rfl (lv_at hl 1 rfl) ?_
            refine m_getr S hW hZ.sp.1 19 rfl (j := 213) rfl kX11 (iW11 _) (by decide) (List.mem_cons_of_mem _ (wa_11 _ (List.mem_of_getElem? (i := 14) (by decide +kernel)))) dX11_bitesBy_56 ?_
            refine lv_iload_n hx hb dX11_bitesBy_59 rfl (lv_at hl 0 rfl) ?_
            refine m_iald S hW hZ.sp.2.2.2.2.2.2.2.2.2.2.2.2.2.1 ((40 * sx) + (3 * dk)) rfl (by omega) (by decide) dX11_bitesBy_60 ?_
            refine m_top (y := nI du) (by rw [hc13, show 40 * sx + 3 * dk = 40 * sx + (3 * dk + 0) by omega, hcl _ (by omega)]; exact hu) ?_
            refine lv_aload_n hx hb dX11_bitesBy_61 rfl (lv_at hl 1 rfl) ?_
            refine m_getr S hW hZ.sp.1 19 rfl (j := 213) rfl kX11 (iW11 _) (by decide) (List.mem_cons_of_mem _ (wa_11 _ (List.mem_of_getElem? (i := 14) (by decide +kernel)))) dX11_bitesBy_62 ?_
            refine lv_iload_n hx hb dX11_bitesBy_65 rfl (lv_at hl 0 rfl) ?_
            refine lv_iconst (v := nI 1) hx hb dX11_bitesBy_66 (by decide) ?_
            refine lv_iadd hx hb dX11_bitesBy_67 ?_
            refine m_top (y := nI (((40 * sx) + (3 * dk)) + 1)) (nI_add ((40 * sx) + (3 * dk)) 1) ?_
            refine m_iald S hW hZ.sp.2.2.2.2.2.2.2.2.2.2.2.2.2.1 (((40 * sx) + (3 * dk)) + 1) rfl (by omega) (by decide) dX11_bitesBy_68 ?_
            refine m_top (y := nI dv) (by rw [hc13, show 40 * sx + 3 * dk + 1 = 40 * sx + (3 * dk + 1) by omega, hcl _ (by omega)]; exact hv0) ?_
            refine lv_aload_n hx hb dX11_bitesBy_69 rfl (lv_at hl 1 rfl) ?_
            refine m_getr S hW hZ.sp.1 19 rfl (j := 213) rfl kX11 (iW11 _) (by decide) (List.mem_cons_of_mem _ (wa_11 _ (List.mem_of_getElem? (i := 14) (by decide +kernel)))) dX11_bitesBy_70 ?_
            refine lv_iload_n hx hb dX11_bitesBy_73 rfl (lv_at hl 0 rfl) ?_
            refine lv_iconst (v := nI 2) hx hb dX11_bitesBy_74 (by decide) ?_
            refine lv_iadd hx hb dX11_bitesBy_75 ?_
            refine m_top (y := nI (((40 * sx) + (3 * dk)) + 2)) (nI_add ((40 * sx) + (3 * dk)) 2) ?_
            refine m_iald S hW hZ.sp.2.2.2.2.2.2.2.2.2.2.2.2.2.1 (((40 * sx) + (3 * dk)) + 2) rfl (by omega) (by decide) dX11_bitesBy_76 ?_
            refine m_top (y := nI dw) (by rw [hc13, show 40 * sx + 3 * dk + 2 = 40 * sx + (3 * dk + 2) by omega, hcl _ (by omega)]; exact hw) ?_
            refine m_ci (m_rV S hW (c_X11_bites l G ad sh V1 ((zDay (askT tx) c0 z dk).1) ne ng rl tx du dv dw hZ1 hun hvn hwn (by assumption)) (cwV 3 hts (gCall [.methodLink RX11 210 yX11_bites, .instanceMethod yX11_bites, .selects RX11 yX11_bites yX11_bites, .initialized RX11] (List.forall_mem_cons.mpr ⟨(wa_28 _ (List.mem_of_getElem? (i := 11) (by decide +kernel))), (List.forall_mem_cons.mpr ⟨(wa_28 _ (List.mem_of_getElem? (i := 8) (by decide +kernel))), (List.forall_mem_cons.mpr ⟨(wa_28 _ (List.mem_of_getElem? (i := 9) (by decide +kernel))), (List.forall_mem_cons.mpr ⟨(wa_28 _ (List.mem_of_getElem? (i := 10) (by decide +kernel))), (List.forall_mem_cons.mpr ⟨(wa_1 _ (List.mem_of_getElem? (i := 5) (by decide +kernel))), (fun _ h => absurd h List.not_mem_nil)⟩)⟩)⟩)⟩)⟩)) rfl rfl rfl (by decide +kernel) ⟨Nat.le_of_ble_eq_true rfl, Nat.le_of_ble_eq_true rfl⟩) hZ.sp.1 kX11 rfl hl.1 rfl (Nat.le_of_ble_eq_true rfl) dX11_bitesBy_77 ⟨Nat.le_of_ble_eq_true rfl, Nat.le_of_ble_eq_true rfl⟩) hW (fun r_9 V_7 H locs hp_8 hW => ?_)
            obtain ⟨rfl, hZ_10, hB_11⟩ := hp_8
            refine lv_pop hx hb dX11_bitesBy_80 rfl ?_
            refine lv_iinc (v := nI (dk + 1)) (lv' := [(2, .int (nI (dk + 1))), (3, .int (nI ((40 * sx) + (3 * dk)))), (0, .ref (ad 200)), (1, .int (nI sx))]) hx hb dX11_bitesBy_81 hl (k := 3) rfl (m_inc dk 1) (by decide) rfl (fun ls hl => ?_)
            refine lv_goto (tgt := 2) hx hb dX11_bitesBy_84 (by decide) ?_
            exact ih_2  (dk + 1) V_7 _ _ _ (by omega) (by have hz : zDay (askT tx) c0 z (dk + 1) = (zBi (askT tx) (zDay (askT tx) c0 z dk).1 du dv dw, -1) := (by rw [zDay, if_pos hst, hu, hv0, hw, nI_clamp (by omega), nI_clamp (by omega), nI_clamp (by omega), if_pos w_4]); rw [hz]; exact hZ_10) (by have hz : zDay (askT tx) c0 z (dk + 1) = (zBi (askT tx) (zDay (askT tx) c0 z dk).1 du dv dw, -1) := (by rw [zDay, if_pos hst, hu, hv0, hw, nI_clamp (by omega), nI_clamp (by omega), nI_clamp (by omega), if_pos w_4]); rw [hz]) (by exact hB.trans hB_11) (by omega) hW (lv_sub hl [2, 3, 0] rfl)
          · exact absurd c_6 (by decide)
        · skip
          refine m_if_ne (tgt := 54) hx hb dX11_bitesBy_49 (by decide) (fun c_12 => ?_) (fun c_12 => ?_)
          · exact absurd c_12 (by decide)
          · skip
            refine lv_iload_n hx hb dX11_bitesBy_52 rfl (lv_at hl 3 rfl) ?_
            have hz : zDay (askT tx) c0 z (dk + 1) = ((zDay (askT tx) c0 z dk).1, nI dk) := by rw [zDay, if_pos hst, hu, hv0, hw, nI_clamp (by omega), nI_clamp (by omega), nI_clamp (by omega), if_neg w_5]
            have hz2 : zDay (askT tx) c0 z (sz / 3) = ((zDay (askT tx) c0 z dk).1, nI dk) := (zDay_stop (by rw [hz]; exact m_nneg (by omega)) (by omega)).trans hz
            exact m_iret S hr hlk hW dX11_bitesBy_53 (by rw [hz2]; exact ⟨rfl, hZ1, hB⟩)
  exact loop_2 (sz / 3 - 0 + 1) 0 V _ _ _ (by omega) (by exact hZ) (by rfl) (by exact MB.rfl V) (by omega) hW (lv_sub hl [1, 2, 0] rfl)
set_option maxHeartbeats 4000000 in
set_option maxRecDepth 100000 in
theorem c_X11_firstWrong (l : Launch) (G : mG) (ad : Nat → Nat) (sh : Nat → Option mSh) (V : mV) (z : fZ) (ne ng rl : Nat) (tx : sT) (c0 : Nat → Int32) (sx sz : Nat) (hZ : MZ sh V z ne ng rl tx) (hsx : sx < 4) (hsz : V 212 sx = nI sz) (hsz4 : sz ≤ 40) (hcl : ∀ k, k < 40 → V 213 (40 * sx + k) = c0 k) (hday : fDayOk c0 ne ng sz) : mM l yX11_firstWrong wsX11_firstWrong ({ frames := 6, cells := 0, slots := 0, locals := 146 } : Room) G ad sh V [.ref (ad 200), .int (nI sx)] 0 0 (mPi ad sh (fun r V' => (zDay (askT tx) c0 z (sz / 3)).2 = r ∧ (MK V V'))) := by
  refine mM.of (cc := cX11_firstWrong) (maxL := 3) (ret := (some .int)) (by decide) rfl (Nat.le_of_ble_eq_true rfl) ?_
  intro p e s m below meth c S hr hlk hnm hW ls hl
  obtain ⟨hx, hb, hml, hown, hts⟩ := id S
  have hl : lv_has ls 3 [(0, .ref (ad 200)), (1, .int (nI sx))] := hl
  have hS0 : True := trivial
  have hne5 := hZ.ne5
  have hng6 := hZ.ng6
  refine lv_aload_n hx hb dX11_firstWrong_0 rfl (lv_at hl 0 rfl) ?_
  refine m_cv (m_rV S hW (c_X11_keeps l G ad sh V hZ.sp) (cwV 0 hts (gCall [.methodLink RX11 222 yX11_keeps, .instanceMethod yX11_keeps, .selects RX11 yX11_keeps yX11_keeps, .initialized RX11] (List.forall_mem_cons.mpr ⟨(wa_32 _ (List.mem_of_getElem? (i := 17) (by decide +kernel))), (List.forall_mem_cons.mpr ⟨(wa_32 _ (List.mem_of_getElem? (i := 14) (by decide +kernel))), (List.forall_mem_cons.mpr ⟨(wa_32 _ (List.mem_of_getElem? (i := 15) (by decide +kernel))), (List.forall_mem_cons.mpr ⟨(wa_32 _ (List.mem_of_getElem? (i := 16) (by decide +kernel))), (List.forall_mem_cons.mpr ⟨(wa_1 _ (List.mem_of_getElem? (i := 5) (by decide +kernel))), (fun _ h => absurd h List.not_mem_nil)⟩)⟩)⟩)⟩)⟩)) rfl rfl rfl (by decide +kernel) ⟨Nat.le_of_ble_eq_true rfl, Nat.le_of_ble_eq_true rfl⟩) hZ.sp.1 kX11 rfl hl.1 rfl (Nat.le_of_ble_eq_true rfl) dX11_firstWrong_1 ⟨Nat.le_of_ble_eq_true rfl, Nat.le_of_ble_eq_true rfl⟩) hW (fun V_1 H locs hp_2 hW => ?_)
  have hk_4 := hp_2
  refine lv_aload_n hx hb dX11_firstWrong_4 rfl (lv_at hl 0 rfl) ?_
  refine lv_iload_n hx hb dX11_firstWrong_5 rfl (lv_at hl 1 rfl) ?_
  refine m_ci (m_rV S hW (c_X11_bitesBy l G ad sh V_1 z ne ng rl tx c0 sx sz (hZ.k ⟨fun a _ _ _ a9 _ => hk_4.1 a a9, fun k _ => by rw [hk_4.1 201 (by decide)], fun k _ => by rw [hk_4.1 204 (by decide)], fun k _ _ _ => by rw [hk_4.1 200 (by decide)]⟩) (by first | assumption | omega) ((congrFun (hk_4.1 212 (by decide)) _).trans hsz) (by first | assumption | omega) (fun k hk => (congrFun (hk_4.1 213 (by decide)) _).trans (hcl k hk)) (by first | assumption | omega)) (cwV 1 hts (gCall [.methodLink RX11 253 yX11_bitesBy, .instanceMethod yX11_bitesBy, .selects RX11 yX11_bitesBy yX11_bitesBy, .initialized RX11] (List.forall_mem_cons.mpr ⟨(wa_40 _ (List.mem_of_getElem? (i := 0) (by decide +kernel))), (List.forall_mem_cons.mpr ⟨(wa_39 _ (List.mem_of_getElem? (i := 21) (by decide +kernel))), (List.forall_mem_cons.mpr ⟨(wa_39 _ (List.mem_of_getElem? (i := 22) (by decide +kernel))), (List.forall_mem_cons.mpr ⟨(wa_39 _ (List.mem_of_getElem? (i := 23) (by decide +kernel))), (List.forall_mem_cons.mpr ⟨(wa_1 _ (List.mem_of_getElem? (i := 5) (by decide +kernel))), (fun _ h => absurd h List.not_mem_nil)⟩)⟩)⟩)⟩)⟩)) rfl rfl rfl (by decide +kernel) ⟨Nat.le_of_ble_eq_true rfl, Nat.le_of_ble_eq_true rfl⟩) hZ.sp.1 kX11 rfl hl.1 rfl (Nat.le_of_ble_eq_true rfl) dX11_firstWrong_6 ⟨Nat.le_of_ble_eq_true rfl, Nat.le_of_ble_eq_true rfl⟩) hW (fun r_7 V_5 H locs hp_6 hW => ?_)
  obtain ⟨rfl, hZ_8, hB_9⟩ := hp_6
  refine lv_istore_n (lv' := [(2, .int ((zDay (askT tx) c0 z (sz / 3)).2)), (0, .ref (ad 200)), (1, .int (nI sx))]) hx hb dX11_firstWrong_9 rfl hl (by decide) rfl (fun ls hl => ?_)
  refine lv_aload_n hx hb dX11_firstWrong_10 rfl (lv_at hl 1 rfl) ?_
  refine m_cv (m_rV S hW (c_X11_laysBack l G ad sh V_5 hZ.sp) (cwV 0 hts (gCall [.methodLink RX11 225 yX11_laysBack, .instanceMethod yX11_laysBack, .selects RX11 yX11_laysBack yX11_laysBack, .initialized RX11] (List.forall_mem_cons.mpr ⟨(wa_32 _ (List.mem_of_getElem? (i := 21) (by decide +kernel))), (List.forall_mem_cons.mpr ⟨(wa_32 _ (List.mem_of_getElem? (i := 18) (by decide +kernel))), (List.forall_mem_cons.mpr ⟨(wa_32 _ (List.mem_of_getElem? (i := 19) (by decide +kernel))), (List.forall_mem_cons.mpr ⟨(wa_32 _ (List.mem_of_getElem? (i := 20) (by decide +kernel))), (List.forall_mem_cons.mpr ⟨(wa_1 _ (List.mem_of_getElem? (i := 5) (by decide +kernel))), (fun _ h => absurd h List.not_mem_nil)⟩)⟩)⟩)⟩)⟩)) rfl rfl rfl (by decide +kernel) ⟨Nat.le_of_ble_eq_true rfl, Nat.le_of_ble_eq_true rfl⟩) hZ.sp.1 kX11 rfl hl.1 rfl (Nat.le_of_ble_eq_true rfl) dX11_firstWrong_11 ⟨Nat.le_of_ble_eq_true rfl, Nat.le_of_ble_eq_true rfl⟩) hW (fun V_10 H locs hp_11 hW => ?_)
  have hl9_13 := hp_11
  refine lv_iload_n hx hb dX11_firstWrong_14 rfl (lv_at hl 0 rfl) ?_
  exact m_iret S hr hlk hW dX11_firstWrong_15 (by exact ⟨rfl, MK.back hk_4 hB_9 hl9_13⟩)
set_option maxHeartbeats 4000000 in
set_option maxRecDepth 100000 in
theorem c_X11_dayBy (l : Launch) (G : mG) (ad : Nat → Nat) (sh : Nat → Option mSh) (V : mV) (z : fZ) (ne ng rl : Nat) (tx : sT) (sd n u : Nat) (hZ : MZ sh V z ne ng rl tx) (he : u < ne) (hne0 : 0 < ne) (hng0 : 0 < ng) (hsd : sd < 200000) (hn : n < 100) : mM l yX11_dayBy wsX11_dayBy ({ frames := 5, cells := 0, slots := 0, locals := 123 } : Room) G ad sh V [.ref (ad 200), .int (nI sd), .int (nI n), .int (nI u)] 0 0 (mPv ad sh (fun V' => (MK V V') ∧ (V' 200 36 = zDraw (askT tx) ne ng (sd + 1) z n (4 + u) 4) ∧ (V' 200 37 = zDraw (askT tx) ne ng (sd + 1) z n (4 + u) 3))) := by
  refine mM.of (cc := cX11_dayBy) (maxL := 10) (ret := none) (by decide) rfl (Nat.le_of_ble_eq_true rfl) ?_
  intro p e s m below meth c S hr hlk hnm hW ls hl
  obtain ⟨hx, hb, hml, hown, hts⟩ := id S
  have hl : lv_has ls 10 [(0, .ref (ad 200)), (1, .int (nI sd)), (2, .int (nI n)), (3, .int (nI u))] := hl
  have hS0 : True := trivial
  have hne5 := hZ.ne5
  have hng6 := hZ.ng6
  refine lv_iload_n hx hb dX11_dayBy_0 rfl (lv_at hl 1 rfl) ?_
  refine lv_i2l (v := (nI sd).toInt64) hx hb dX11_dayBy_1 rfl ?_
  refine m_topl (y := lN sd) (nI_l (by omega)) ?_
  refine lv_lconst (v := (1)) hx hb dX11_dayBy_2 (by decide) ?_
  refine m_topl (y := lN 1) (by decide +kernel) ?_
  refine lv_ladd hx hb dX11_dayBy_3 ?_
  refine m_topl (y := lN (sd + 1)) (lN_add sd 1) ?_
  refine lv_lstore (lv' := [(4, .long (lN (sd + 1))), (0, .ref (ad 200)), (1, .int (nI sd)), (2, .int (nI n)), (3, .int (nI u))]) hx hb dX11_dayBy_4 hl (by decide) rfl (fun ls hl => ?_)
  refine lv_aload_n hx hb dX11_dayBy_6 rfl (lv_at hl 1 rfl) ?_
  refine m_cv (m_rV S hW (c_X11_keeps l G ad sh V hZ.sp) (cwV 0 hts (gCall [.methodLink RX11 222 yX11_keeps, .instanceMethod yX11_keeps, .selects RX11 yX11_keeps yX11_keeps, .initialized RX11] (List.forall_mem_cons.mpr ⟨(wa_32 _ (List.mem_of_getElem? (i := 17) (by decide +kernel))), (List.forall_mem_cons.mpr ⟨(wa_32 _ (List.mem_of_getElem? (i := 14) (by decide +kernel))), (List.forall_mem_cons.mpr ⟨(wa_32 _ (List.mem_of_getElem? (i := 15) (by decide +kernel))), (List.forall_mem_cons.mpr ⟨(wa_32 _ (List.mem_of_getElem? (i := 16) (by decide +kernel))), (List.forall_mem_cons.mpr ⟨(wa_1 _ (List.mem_of_getElem? (i := 5) (by decide +kernel))), (fun _ h => absurd h List.not_mem_nil)⟩)⟩)⟩)⟩)⟩)) rfl rfl rfl (by decide +kernel) ⟨Nat.le_of_ble_eq_true rfl, Nat.le_of_ble_eq_true rfl⟩) hZ.sp.1 kX11 rfl hl.1 rfl (Nat.le_of_ble_eq_true rfl) dX11_dayBy_7 ⟨Nat.le_of_ble_eq_true rfl, Nat.le_of_ble_eq_true rfl⟩) hW (fun V_1 H locs hp_2 hW => ?_)
  have hk_4 := hp_2
  refine lv_iconst (v := nI 0) hx hb dX11_dayBy_10 (by decide) ?_
  refine lv_istore (lv' := [(6, .int (nI 0)), (4, .long (lN (sd + 1))), (0, .ref (ad 200)), (1, .int (nI sd)), (2, .int (nI n)), (3, .int (nI u))]) hx hb dX11_dayBy_11 hl (by decide) rfl (fun ls hl => ?_)
  have loop_13 : ∀ (n_13 : Nat) (lt k : Nat) (V2 : mV) (H : Heap) (locs : List Loc) (ls : Array Slot), (k ≤ n) → (lt = fLot (sd + 1) k ∧ lt < 2147483647) → (MZ sh V2 (zDraw (askT tx) ne ng (sd + 1) z k) ne ng rl tx) → (MB V_1 V2) → (n - k) < n_13 → mC (mA ad sh s.heap.size) s.heap s G ad sh V2 H locs → lv_has ls 10 [(0, .ref (ad 200)), (1, .int (nI sd)), (2, .int (nI n)), (3, .int (nI u)), (4, .long (lN lt)), (6, .int (nI k))] → W p l e ({ frames := 5, cells := 0, slots := 0, locals := 123 } : Room) s m ([.ref (ad 200), .int (nI sd), .int (nI n), .int (nI u)] : List Value).toArray below meth c H locs 0 0 (MQ below (mPost G ad sh s.heap.size (mPv ad sh (fun V' => (MK V V') ∧ (V' 200 36 = zDraw (askT tx) ne ng (sd + 1) z n (4 + u) 4) ∧ (V' 200 37 = zDraw (askT tx) ne ng (sd + 1) z n (4 + u) 3)))) ([.ref (ad 200), .int (nI sd), .int (nI n), .int (nI u)] : List Value).toArray s 0 0 (mA ad sh s.heap.size)) (F0 m 13 ls []) := by
    intro n_13
    induction n_13 with
    | zero => intro lt k V2 H locs ls hk hlt hZ2 hB hM_ hW hl; omega
    | succ n_13 ih_13 =>
      intro lt k V2 H locs ls hk hlt hZ2 hB hM_ hW hl
      refine lv_iload hx hb dX11_dayBy_13 (lv_at hl 5 rfl) ?_
      refine lv_iload_n hx hb dX11_dayBy_15 rfl (lv_at hl 2 rfl) ?_
      refine lv_icmp_ge (tgt := 100) hx hb dX11_dayBy_16 (by decide) (fun c_5 => ?_) (fun c_5 => ?_)
      · skip
        have c_5 : n ≤ k := (nI_leI (by omega) (by omega)).mp c_5
        refine lv_aload_n hx hb dX11_dayBy_100 rfl (lv_at hl 0 rfl) ?_
        refine lv_aload_n hx hb dX11_dayBy_101 rfl (lv_at hl 0 rfl) ?_
        refine m_getr S hW hZ.sp.1 5 rfl (j := 204) rfl kX11 (iW11 _) (by decide) (List.mem_cons_of_mem _ (wa_11 _ (List.mem_of_getElem? (i := 5) (by decide +kernel)))) dX11_dayBy_102 ?_
        refine lv_iconst (v := nI 3) hx hb dX11_dayBy_105 (by decide) ?_
        refine lv_iload_n hx hb dX11_dayBy_106 rfl (lv_at hl 3 rfl) ?_
        refine lv_imul hx hb dX11_dayBy_107 ?_
        refine m_top (y := nI (3 * u)) (pk_mul 3 u) ?_
        refine lv_iconst (v := nI 2) hx hb dX11_dayBy_108 (by decide) ?_
        refine lv_iadd hx hb dX11_dayBy_109 ?_
        refine m_top (y := nI ((3 * u) + 2)) (nI_add (3 * u) 2) ?_
        refine m_iald S hW hZ.sp.2.2.2.2.1 ((3 * u) + 2) rfl (by omega) (by decide) dX11_dayBy_110 ?_
        refine m_top (y := (V2 204 (3 * u + 2))) rfl ?_
        refine m_puti S hW hZ.sp.1 36 rfl kX11 (iW11 _) tyX11 tyX11_ok nmX11 (by decide) (List.mem_cons_of_mem _ (wa_42 _ (List.mem_of_getElem? (i := 14) (by decide +kernel)))) (Or.inl rfl) rfl rfl dX11_dayBy_111 (fun H locs hW => ?_)
        obtain ⟨V_6, eV_6⟩ : ∃ vv_ : mV, vv_ = mU V2 200 36 ((V2 204 (3 * u + 2))) := ⟨_, rfl⟩
        rw [← eV_6] at hW
        refine lv_aload_n hx hb dX11_dayBy_114 rfl (lv_at hl 0 rfl) ?_
        refine lv_aload_n hx hb dX11_dayBy_115 rfl (lv_at hl 0 rfl) ?_
        refine m_getr S hW hZ.sp.1 5 rfl (j := 204) rfl kX11 (iW11 _) (by decide) (List.mem_cons_of_mem _ (wa_11 _ (List.mem_of_getElem? (i := 5) (by decide +kernel)))) dX11_dayBy_116 ?_
        refine lv_iconst (v := nI 3) hx hb dX11_dayBy_119 (by decide) ?_
        refine lv_iload_n hx hb dX11_dayBy_120 rfl (lv_at hl 3 rfl) ?_
        refine lv_imul hx hb dX11_dayBy_121 ?_
        refine m_top (y := nI (3 * u)) (pk_mul 3 u) ?_
        refine lv_iconst (v := nI 1) hx hb dX11_dayBy_122 (by decide) ?_
        refine lv_iadd hx hb dX11_dayBy_123 ?_
        refine m_top (y := nI ((3 * u) + 1)) (nI_add (3 * u) 1) ?_
        refine m_iald S hW hZ.sp.2.2.2.2.1 ((3 * u) + 1) rfl (by omega) (by decide) dX11_dayBy_124 ?_
        refine m_top (y := (V2 204 (3 * u + 1))) (by rw [eV_6, mU_no _ _ (by decide)]) ?_
        refine m_puti S hW hZ.sp.1 37 rfl kX11 (iW11 _) tyX11 tyX11_ok nmX11 (by decide) (List.mem_cons_of_mem _ (wa_42 _ (List.mem_of_getElem? (i := 15) (by decide +kernel)))) (Or.inl rfl) rfl rfl dX11_dayBy_125 (fun H locs hW => ?_)
        obtain ⟨V_7, eV_7⟩ : ∃ vv_ : mV, vv_ = mU V_6 200 37 ((V2 204 (3 * u + 1))) := ⟨_, rfl⟩
        rw [← eV_7] at hW
        refine lv_aload_n hx hb dX11_dayBy_128 rfl (lv_at hl 0 rfl) ?_
        refine m_cv (m_rV S hW (c_X11_laysBack l G ad sh V_7 hZ.sp) (cwV 0 hts (gCall [.methodLink RX11 225 yX11_laysBack, .instanceMethod yX11_laysBack, .selects RX11 yX11_laysBack yX11_laysBack, .initialized RX11] (List.forall_mem_cons.mpr ⟨(wa_32 _ (List.mem_of_getElem? (i := 21) (by decide +kernel))), (List.forall_mem_cons.mpr ⟨(wa_32 _ (List.mem_of_getElem? (i := 18) (by decide +kernel))), (List.forall_mem_cons.mpr ⟨(wa_32 _ (List.mem_of_getElem? (i := 19) (by decide +kernel))), (List.forall_mem_cons.mpr ⟨(wa_32 _ (List.mem_of_getElem? (i := 20) (by decide +kernel))), (List.forall_mem_cons.mpr ⟨(wa_1 _ (List.mem_of_getElem? (i := 5) (by decide +kernel))), (fun _ h => absurd h List.not_mem_nil)⟩)⟩)⟩)⟩)⟩)) rfl rfl rfl (by decide +kernel) ⟨Nat.le_of_ble_eq_true rfl, Nat.le_of_ble_eq_true rfl⟩) hZ.sp.1 kX11 rfl hl.1 rfl (Nat.le_of_ble_eq_true rfl) dX11_dayBy_129 ⟨Nat.le_of_ble_eq_true rfl, Nat.le_of_ble_eq_true rfl⟩) hW (fun V_8 H locs hp_9 hW => ?_)
        have hl9_11 := hp_9
        exact m_vret S hr hlk hW dX11_dayBy_132 (by rw [show k = n by omega] at hZ2; exact ⟨MK.back hk_4 (by rw [eV_7, eV_6]; exact (hB.p200 _ (Or.inr (Or.inl rfl))).p200 _ (Or.inr (Or.inr rfl))) hl9_11, by rw [hl9_11.1 200 (by decide) (by decide), eV_7, mU_ne _ _ (by decide), eV_6, mU_eq]; exact hZ2.rHa he, by rw [hl9_11.1 200 (by decide) (by decide), eV_7, mU_eq]; exact hZ2.rPu he⟩)
      · skip
        have c_5 : ¬ n ≤ k := mt (nI_leI (by omega) (by omega)).mpr c_5
        refine lv_lload hx hb dX11_dayBy_19 (lv_at hl 4 rfl) ?_
        refine lv_ldc2 (v := (48271)) hx hb hown (hts (.constantLong RX11 262 (48271)) (List.mem_cons_of_mem _ (wa_42 _ (List.mem_of_getElem? (i := 20) (by decide +kernel))))) dX11_dayBy_21 ?_
        refine m_topl (y := lN 48271) (by decide +kernel) ?_
        refine lv_lmul hx hb dX11_dayBy_24 ?_
        refine m_topl (y := lN (lt * 48271)) (lN_mul lt 48271) ?_
        refine lv_ldc2 (v := (2147483647)) hx hb hown (hts (.constantLong RX11 264 (2147483647)) (List.mem_cons_of_mem _ (wa_42 _ (List.mem_of_getElem? (i := 21) (by decide +kernel))))) dX11_dayBy_25 ?_
        refine m_topl (y := lN 2147483647) (by decide +kernel) ?_
        refine lv_lrem hx hb dX11_dayBy_28 (by decide +kernel) ?_
        refine m_topl (y := lN ((lt * 48271) % 2147483647)) (pk_lRem (by omega) (by omega) (by omega)) ?_
        obtain ⟨lu, hlu⟩ : ∃ u, u = lt * 48271 % 2147483647 := ⟨_, rfl⟩
        have hlu2 : lu = fLot (sd + 1) (k + 1) := by rw [hlu, hlt.1]; rfl
        have hlu3 : lu < 2147483647 := by omega
        refine m_topl (y := lN lu) (by rw [hlu]) ?_
        refine lv_lstore (lv' := [(4, .long (lN lu)), (0, .ref (ad 200)), (1, .int (nI sd)), (2, .int (nI n)), (3, .int (nI u)), (6, .int (nI k))]) hx hb dX11_dayBy_29 hl (by decide) rfl (fun ls hl => ?_)
        refine lv_lload hx hb dX11_dayBy_31 (lv_at hl 0 rfl) ?_
        refine lv_aload_n hx hb dX11_dayBy_33 rfl (lv_at hl 1 rfl) ?_
        refine m_geti S hW hZ.sp.1 2 rfl kX11 (iW11 _) (by decide) (List.mem_cons_of_mem _ (wa_15 _ (List.mem_of_getElem? (i := 0) (by decide +kernel)))) dX11_dayBy_34 ?_
        refine m_top (y := nI ne) hZ2.ne_ ?_
        refine lv_i2l (v := (nI ne).toInt64) hx hb dX11_dayBy_37 rfl ?_
        refine m_topl (y := lN ne) (nI_l (by omega)) ?_
        refine lv_lrem hx hb dX11_dayBy_38 (lN_ne0 (by omega) (by omega)) ?_
        refine m_topl (y := lN (lu % ne)) (pk_lRem (by omega) (by omega) (by omega)) ?_
        refine lv_l2i (v := (lN (lu % ne)).toInt32) hx hb dX11_dayBy_39 rfl ?_
        refine m_top (y := nI (lu % ne)) (lN_i _) ?_
        refine lv_istore (lv' := [(7, .int (nI (lu % ne))), (4, .long (lN lu)), (0, .ref (ad 200)), (1, .int (nI sd)), (2, .int (nI n)), (3, .int (nI u)), (6, .int (nI k))]) hx hb dX11_dayBy_40 hl (by decide) rfl (fun ls hl => ?_)
        refine lv_lload hx hb dX11_dayBy_42 (lv_at hl 1 rfl) ?_
        refine lv_ldc2 (v := (8)) hx hb hown (hts (.constantLong RX11 266 (8)) (List.mem_cons_of_mem _ (wa_42 _ (List.mem_of_getElem? (i := 22) (by decide +kernel))))) dX11_dayBy_44 ?_
        refine m_topl (y := lN 8) (by decide +kernel) ?_
        refine lv_ldiv hx hb dX11_dayBy_47 (by decide +kernel) ?_
        refine m_topl (y := lN (lu / 8)) (pk_lDiv (by omega) (by omega) (by omega)) ?_
        refine lv_aload_n hx hb dX11_dayBy_48 rfl (lv_at hl 2 rfl) ?_
        refine m_geti S hW hZ.sp.1 0 rfl kX11 (iW11 _) (by decide) (List.mem_cons_of_mem _ (wa_15 _ (List.mem_of_getElem? (i := 1) (by decide +kernel)))) dX11_dayBy_49 ?_
        refine m_top (y := nI ng) hZ2.ng_ ?_
        refine lv_i2l (v := (nI ng).toInt64) hx hb dX11_dayBy_52 rfl ?_
        refine m_topl (y := lN ng) (nI_l (by omega)) ?_
        refine lv_lrem hx hb dX11_dayBy_53 (lN_ne0 (by omega) (by omega)) ?_
        refine m_topl (y := lN ((lu / 8) % ng)) (pk_lRem (by omega) (by omega) (by omega)) ?_
        refine lv_l2i (v := (lN ((lu / 8) % ng)).toInt32) hx hb dX11_dayBy_54 rfl ?_
        refine m_top (y := nI ((lu / 8) % ng)) (lN_i _) ?_
        refine lv_istore (lv' := [(8, .int (nI ((lu / 8) % ng))), (7, .int (nI (lu % ne))), (4, .long (lN lu)), (0, .ref (ad 200)), (1, .int (nI sd)), (2, .int (nI n)), (3, .int (nI u)), (6, .int (nI k))]) hx hb dX11_dayBy_55 hl (by decide) rfl (fun ls hl => ?_)
        refine lv_lload hx hb dX11_dayBy_57 (lv_at hl 2 rfl) ?_
        refine lv_ldc2 (v := (64)) hx hb hown (hts (.constantLong RX11 268 (64)) (List.mem_cons_of_mem _ (wa_42 _ (List.mem_of_getElem? (i := 23) (by decide +kernel))))) dX11_dayBy_59 ?_
        refine m_topl (y := lN 64) (by decide +kernel) ?_
        refine lv_ldiv hx hb dX11_dayBy_62 (by decide +kernel) ?_
        refine m_topl (y := lN (lu / 64)) (pk_lDiv (by omega) (by omega) (by omega)) ?_
        refine lv_ldc2 (v := (16)) hx hb hown (hts (.constantLong RX11 270 (16)) (List.mem_cons_of_mem _ (wa_43 _ (List.mem_of_getElem? (i := 0) (by decide +kernel))))) dX11_dayBy_63 ?_
        refine m_topl (y := lN 16) (by decide +kernel) ?_
        refine lv_lrem hx hb dX11_dayBy_66 (by decide +kernel) ?_
        refine m_topl (y := lN ((lu / 64) % 16)) (pk_lRem (by omega) (by omega) (by omega)) ?_
        refine lv_l2i (v := (lN ((lu / 64) % 16)).toInt32) hx hb dX11_dayBy_67 rfl ?_
        refine m_top (y := nI ((lu / 64) % 16)) (lN_i _) ?_
        refine lv_istore (lv' := [(9, .int (nI ((lu / 64) % 16))), (8, .int (nI ((lu / 8) % ng))), (7, .int (nI (lu % ne))), (4, .long (lN lu)), (0, .ref (ad 200)), (1, .int (nI sd)), (2, .int (nI n)), (3, .int (nI u)), (6, .int (nI k))]) hx hb dX11_dayBy_68 hl (by decide) rfl (fun ls hl => ?_)
        refine lv_aload_n hx hb dX11_dayBy_70 rfl (lv_at hl 4 rfl) ?_
        refine lv_iload hx hb dX11_dayBy_71 (lv_at hl 2 rfl) ?_
        refine lv_iload hx hb dX11_dayBy_73 (lv_at hl 1 rfl) ?_
        refine lv_iload hx hb dX11_dayBy_75 (lv_at hl 0 rfl) ?_
        refine m_cip (m_rV S hW (c_X11_canBe l G ad sh V2 (zDraw (askT tx) ne ng (sd + 1) z k) ne ng rl tx (lu % ne) ((lu / 8) % ng) ((lu / 64) % 16) hZ2 (Nat.mod_lt _ hne0) (Nat.mod_lt _ hng0) (Nat.mod_lt _ (by decide))) (cwV 3 hts (gCall [.methodLink RX11 216 yX11_canBe, .instanceMethod yX11_canBe, .selects RX11 yX11_canBe yX11_canBe, .initialized RX11] (List.forall_mem_cons.mpr ⟨(wa_29 _ (List.mem_of_getElem? (i := 19) (by decide +kernel))), (List.forall_mem_cons.mpr ⟨(wa_29 _ (List.mem_of_getElem? (i := 16) (by decide +kernel))), (List.forall_mem_cons.mpr ⟨(wa_29 _ (List.mem_of_getElem? (i := 17) (by decide +kernel))), (List.forall_mem_cons.mpr ⟨(wa_29 _ (List.mem_of_getElem? (i := 18) (by decide +kernel))), (List.forall_mem_cons.mpr ⟨(wa_1 _ (List.mem_of_getElem? (i := 5) (by decide +kernel))), (fun _ h => absurd h List.not_mem_nil)⟩)⟩)⟩)⟩)⟩)) rfl rfl rfl (by decide +kernel) ⟨Nat.le_of_ble_eq_true rfl, Nat.le_of_ble_eq_true rfl⟩) hZ.sp.1 kX11 rfl hl.1 rfl (Nat.le_of_ble_eq_true rfl) dX11_dayBy_77 ⟨Nat.le_of_ble_eq_true rfl, Nat.le_of_ble_eq_true rfl⟩) hW (fun r_13 H locs hp_12 hW => ?_)
        rcases hp_12 with ⟨rfl, w_14⟩ | ⟨rfl, w_15⟩
        · skip
          refine m_if_eq (tgt := 94) hx hb dX11_dayBy_80 (by decide) (fun c_16 => ?_) (fun c_16 => ?_)
          · exact absurd c_16 (by decide)
          · skip
            refine lv_aload_n hx hb dX11_dayBy_83 rfl (lv_at hl 4 rfl) ?_
            refine lv_iload hx hb dX11_dayBy_84 (lv_at hl 2 rfl) ?_
            refine lv_iload hx hb dX11_dayBy_86 (lv_at hl 1 rfl) ?_
            refine lv_iload hx hb dX11_dayBy_88 (lv_at hl 0 rfl) ?_
            refine m_ci (m_rV S hW (c_X11_bites l G ad sh V2 (zDraw (askT tx) ne ng (sd + 1) z k) ne ng rl tx (lu % ne) ((lu / 8) % ng) ((lu / 64) % 16) hZ2 (Nat.mod_lt _ hne0) (Nat.mod_lt _ hng0) (Nat.mod_lt _ (by decide)) (by assumption)) (cwV 3 hts (gCall [.methodLink RX11 210 yX11_bites, .instanceMethod yX11_bites, .selects RX11 yX11_bites yX11_bites, .initialized RX11] (List.forall_mem_cons.mpr ⟨(wa_28 _ (List.mem_of_getElem? (i := 11) (by decide +kernel))), (List.forall_mem_cons.mpr ⟨(wa_28 _ (List.mem_of_getElem? (i := 8) (by decide +kernel))), (List.forall_mem_cons.mpr ⟨(wa_28 _ (List.mem_of_getElem? (i := 9) (by decide +kernel))), (List.forall_mem_cons.mpr ⟨(wa_28 _ (List.mem_of_getElem? (i := 10) (by decide +kernel))), (List.forall_mem_cons.mpr ⟨(wa_1 _ (List.mem_of_getElem? (i := 5) (by decide +kernel))), (fun _ h => absurd h List.not_mem_nil)⟩)⟩)⟩)⟩)⟩)) rfl rfl rfl (by decide +kernel) ⟨Nat.le_of_ble_eq_true rfl, Nat.le_of_ble_eq_true rfl⟩) hZ.sp.1 kX11 rfl hl.1 rfl (Nat.le_of_ble_eq_true rfl) dX11_dayBy_90 ⟨Nat.le_of_ble_eq_true rfl, Nat.le_of_ble_eq_true rfl⟩) hW (fun r_19 V_17 H locs hp_18 hW => ?_)
            obtain ⟨rfl, hZ_20, hB_21⟩ := hp_18
            refine lv_pop hx hb dX11_dayBy_93 rfl ?_
            refine lv_iinc (v := nI (k + 1)) (lv' := [(6, .int (nI (k + 1))), (9, .int (nI ((lu / 64) % 16))), (8, .int (nI ((lu / 8) % ng))), (7, .int (nI (lu % ne))), (4, .long (lN lu)), (0, .ref (ad 200)), (1, .int (nI sd)), (2, .int (nI n)), (3, .int (nI u))]) hx hb dX11_dayBy_94 hl (k := 8) rfl (m_inc k 1) (by decide) rfl (fun ls hl => ?_)
            refine lv_goto (tgt := 13) hx hb dX11_dayBy_97 (by decide) ?_
            exact ih_13  lu (k + 1) V_17 _ _ _ (by omega) (by exact ⟨hlu2, hlu3⟩) (by rw [show zDraw (askT tx) ne ng (sd + 1) z (k + 1) = zStep (askT tx) (zDraw (askT tx) ne ng (sd + 1) z k) (lu % ne) (lu / 8 % ng) (lu / 64 % 16) by rw [hlu2]; rfl, zStep, if_pos w_14]; exact hZ_20) (by exact hB.trans hB_21) (by omega) hW (lv_sub hl [5, 6, 7, 8, 4, 0] rfl)
        · skip
          refine m_if_eq (tgt := 94) hx hb dX11_dayBy_80 (by decide) (fun c_22 => ?_) (fun c_22 => ?_)
          · skip
            refine lv_iinc (v := nI (k + 1)) (lv' := [(6, .int (nI (k + 1))), (9, .int (nI ((lu / 64) % 16))), (8, .int (nI ((lu / 8) % ng))), (7, .int (nI (lu % ne))), (4, .long (lN lu)), (0, .ref (ad 200)), (1, .int (nI sd)), (2, .int (nI n)), (3, .int (nI u))]) hx hb dX11_dayBy_94 hl (k := 8) rfl (m_inc k 1) (by decide) rfl (fun ls hl => ?_)
            refine lv_goto (tgt := 13) hx hb dX11_dayBy_97 (by decide) ?_
            exact ih_13  lu (k + 1) V2 _ _ _ (by omega) (by exact ⟨hlu2, hlu3⟩) (by rw [show zDraw (askT tx) ne ng (sd + 1) z (k + 1) = zStep (askT tx) (zDraw (askT tx) ne ng (sd + 1) z k) (lu % ne) (lu / 8 % ng) (lu / 64 % 16) by rw [hlu2]; rfl, zStep, if_neg w_15]; exact hZ2) (by exact hB) (by omega) hW (lv_sub hl [5, 6, 7, 8, 4, 0] rfl)
          · exact absurd c_22 (by decide)
  exact loop_13 (n - 0 + 1) (sd + 1) 0 V_1 _ _ _ (by omega) (by exact ⟨rfl, by omega⟩) (by exact (hZ.k ⟨fun a _ _ _ a9 _ => hk_4.1 a a9, fun k _ => by rw [hk_4.1 201 (by decide)], fun k _ => by rw [hk_4.1 204 (by decide)], fun k _ _ _ => by rw [hk_4.1 200 (by decide)]⟩)) (by exact MB.rfl _) (by omega) hW (lv_sub hl [2, 3, 4, 5, 1, 0] rfl)
