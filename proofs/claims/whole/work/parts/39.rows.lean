/-! rows to rows, eaters of a row, odds -/
theorem m_room {y : Int32} {sz k : Nat} (hsz : sz ≤ 40) (hk : k < 2 ^ 31) (w : nI 0 ≤ y ∧ y ≤ nI sz - nI k) : ∃ a, y = nI a ∧ a + k ≤ sz ∧ a < 2 ^ 31 := by
  have h2 : (nI sz - nI k).toInt = (sz : Int) - (k : Int) := by
    rw [Int32.toInt_sub, nI_toInt (by omega), nI_toInt hk]
    exact Int.bmod_eq_of_le (by omega) (by omega)
  have h3 := Int32.le_iff_toInt_le.mp w.2
  have h1 := Int32.le_iff_toInt_le.mp w.1
  rw [h2] at h3
  have h0 : (nI 0).toInt = 0 := by decide
  rw [h0] at h1
  obtain ⟨a, ha, e⟩ := nI_of (x := y) (fun z => by
    have := Int32.lt_iff_toInt_lt.mp z
    have h0 : (0 : Int32).toInt = 0 := by decide
    omega)
  subst e
  rw [nI_toInt ha] at h3
  exact ⟨a, rfl, by omega, ha⟩
def aCopy (q : Sg) (x y o j n : Int32) : Int32 := if mIn x 0 4 then (if mIn o 0 4 then (if gSo q x.toNatClampNeg = -1 then -11 else if gSo q o.toNatClampNeg = -1 then -11 else if gSo q x.toNatClampNeg = gSo q o.toNatClampNeg then (if n < nI 0 then -12 else if nI 0 ≤ y ∧ y ≤ nI (gSz q x.toNatClampNeg) - n then (if nI 0 ≤ j ∧ j ≤ nI (gSz q o.toNatClampNeg) - n then n else -12) else -12) else -13) else -2) else -2
def gCpy (q : Sg) (x y o j n : Nat) : Sg := gSetS q o (gSo q o, gSz q o, fun k => if j ≤ k ∧ k < j + n then gCl q x (y + (k - j)) else gCl q o k)
def nCopy (q : Sg) (x y o j n : Int32) : Sg := if mIn x 0 4 then (if mIn o 0 4 then (if gSo q x.toNatClampNeg = -1 then q else if gSo q o.toNatClampNeg = -1 then q else if gSo q x.toNatClampNeg = gSo q o.toNatClampNeg then (if n < nI 0 then q else if nI 0 ≤ y ∧ y ≤ nI (gSz q x.toNatClampNeg) - n then (if nI 0 ≤ j ∧ j ≤ nI (gSz q o.toNatClampNeg) - n then gCpy q x.toNatClampNeg y.toNatClampNeg o.toNatClampNeg j.toNatClampNeg n.toNatClampNeg else q) else q) else q) else q) else q
abbrev okBy (sz : Nat) (y : Int32) (k : Nat) : Prop := nI 0 ≤ y ∧ y ≤ nI sz - nI (2 * k) - nI 2
def fBy (c : Nat → Int32) (sz : Nat) (y : Int32) : Nat → Nat → Sg → Nat → Sg × Int32
  | 0, _, q, m => (q, nI m)
  | f + 1, k, q, m => if okBy sz y k then fBy c sz y f (k + 1) (nEater q (c (y.toNatClampNeg + 2 * k)) (c (y.toNatClampNeg + 2 * k + 1))) (if aEater q (c (y.toNatClampNeg + 2 * k)) (c (y.toNatClampNeg + 2 * k + 1)) < nI 0 then m else m + 1) else (q, -12)
theorem okBy_ex {sz k : Nat} {y : Int32} (hsz : sz ≤ 40) (hk : k < 100) (w : okBy sz y k) : ∃ a, y = nI a ∧ a + 2 * k + 2 ≤ sz ∧ a < 2 ^ 31 := by
  have h2 : (nI sz - nI (2 * k)).toInt = (sz : Int) - ((2 * k : Nat) : Int) := pk_sub_toInt (by omega) (by omega)
  have h4 : (nI sz - nI (2 * k) - nI 2).toInt = (sz : Int) - ((2 * k : Nat) : Int) - 2 := by
    rw [Int32.toInt_sub, h2, show (nI 2).toInt = 2 by decide]
    exact Int.bmod_eq_of_le (by omega) (by omega)
  have h3 := Int32.le_iff_toInt_le.mp w.2
  have h1 := Int32.le_iff_toInt_le.mp w.1
  rw [h4] at h3
  have h0 : (nI 0).toInt = 0 := by decide
  rw [h0] at h1
  obtain ⟨a, ha, e⟩ := nI_of (x := y) (fun z => by
    have := Int32.lt_iff_toInt_lt.mp z
    have h0 : (0 : Int32).toInt = 0 := by decide
    omega)
  subst e
  rw [nI_toInt ha] at h3
  exact ⟨a, rfl, by omega, ha⟩
def aBy (q : Sg) (x so y n : Int32) : Int32 := if mIn x 0 4 then (if mIn so 0 3 then (if mIn n 0 6 then (if gSo q x.toNatClampNeg = -1 then -11 else if gSo q x.toNatClampNeg = so then (fBy (gCl q x.toNatClampNeg) (gSz q x.toNatClampNeg) y n.toNatClampNeg 0 q 0).2 else -13) else -2) else -2) else -2
def nBy (q : Sg) (x so y n : Int32) : Sg := if mIn x 0 4 then (if mIn so 0 3 then (if mIn n 0 6 then (if gSo q x.toNatClampNeg = -1 then q else if gSo q x.toNatClampNeg = so then (fBy (gCl q x.toNatClampNeg) (gSz q x.toNatClampNeg) y n.toNatClampNeg 0 q 0).1 else q) else q) else q) else q
theorem nEater_2 (q : Sg) (x y : Int32) : (nEater q x y).2 = q.2 := by
  unfold nEater
  split
  · split
    · split <;> rfl
    · rfl
  · rfl
/-- of so many seeds: how often the wanted is had -/
def zAbove (ask : fAsks) (ne ng sd lots : Nat) (z : fZ) (u : Nat) (want : Int32) : Nat → Nat
  | 0 => 0
  | k + 1 => if zDraw ask ne ng (sd + k + 1) z lots (4 + u) 4 < want then zAbove ask ne ng sd lots z u want k else zAbove ask ne ng sd lots z u want k + 1
theorem zAbove_le (ask : fAsks) (ne ng sd lots : Nat) (z : fZ) (u : Nat) (want : Int32) : ∀ k, zAbove ask ne ng sd lots z u want k ≤ k
  | 0 => Nat.le_refl _
  | k + 1 => by
    rw [zAbove]
    have := zAbove_le ask ne ng sd lots z u want k
    split <;> omega
def gAbv (q : Sg) (sd nb x want : Int32) : Nat := zAbove (gAsk q) (gNe q) (gNg q) sd.toNatClampNeg (nb.toNatClampNeg / 100) (gZ q) x.toNatClampNeg want (nb.toNatClampNeg % 100)
def aOdds (q : Sg) (sd nb x want pt : Int32) : Int64 := if mIn sd 0 100000 then (if nb < nI 0 then -4611686018427387904 else if mIn x 0 (gNe q) then (if mIn want 0 10000 then (if mIn pt 0 2 then (if gNg q = 0 then -4611686018427387904 else if nb.toNatClampNeg / 100 ≤ 60 then (if mIn (nI (nb.toNatClampNeg % 100)) 1 41 then (if pt = nI 0 then lN (gAbv q sd nb x want / fDiv (gAbv q sd nb x want) (nb.toNatClampNeg % 100) (nb.toNatClampNeg % 100)) else lN (nb.toNatClampNeg % 100 / fDiv (gAbv q sd nb x want) (nb.toNatClampNeg % 100) (nb.toNatClampNeg % 100))) else -4611686018427387904) else -4611686018427387904) else -4611686018427387904) else -4611686018427387904) else -4611686018427387904) else -4611686018427387904
theorem mCpy_c {V : mV} {i sp j dp n t : Nat} {c c' : Nat → Int32} (h : ∀ u, u < sp + n → V i u = c u) (h' : V j t = c' t) : mCpy V i sp j dp n j t = if dp ≤ t ∧ t < dp + n then c (sp + (t - dp)) else c' t := by
  simp only [mCpy, true_and]
  by_cases hc : dp ≤ t ∧ t < dp + n
  · rw [if_pos hc, if_pos hc, h _ (by omega)]
  · rw [if_neg hc, if_neg hc, h']
set_option maxHeartbeats 4000000 in
set_option maxRecDepth 100000 in
theorem c_X10_copy (l : Launch) (G : mG) (ad : Nat → Nat) (sh : Nat → Option mSh) (V : mV) (q : Sg) (x y o j n : Int32) (hX : XI sh V q) : mM l yX10_copy wsX10_copy ({ frames := 2, cells := 0, slots := 0, locals := 61 } : Room) G ad sh V [.ref (ad 0), .int x, .int y, .int o, .int j, .int n] 0 0 (mPi ad sh (fun r V' => (aCopy q x y o j n) = r ∧ (XI sh V' (nCopy q x y o j n)) ∧ (XF V V'))) := by
  refine mM.of (cc := cX10_copy) (maxL := 8) (ret := (some .int)) (by decide) rfl (Nat.le_of_ble_eq_true rfl) ?_
  intro p e s m below meth c S hr hlk hnm hW ls hl
  obtain ⟨hx, hb, hml, hown, hts⟩ := id S
  have hl : lv_has ls 8 [(0, .ref (ad 0)), (1, .int x), (2, .int y), (3, .int o), (4, .int j), (5, .int n)] := hl
  have hS0 : True := trivial
  have hne5 := hX.ne5
  have hng6 := hX.ng6
  have htn := hX.tn
  refine lv_aload_n hx hb dX10_copy_0 rfl (lv_at hl 0 rfl) ?_
  refine lv_iload_n hx hb dX10_copy_1 rfl (lv_at hl 1 rfl) ?_
  refine m_crp (m_rV S hW (c_X10_sheetAt l G ad sh V q x hX) (cwV 1 hts (gCall [.methodLink RX10 270 yX10_sheetAt, .instanceMethod yX10_sheetAt, .selects RX10 yX10_sheetAt yX10_sheetAt, .initialized RX10] (List.forall_mem_cons.mpr ⟨(wa_39 _ (List.mem_of_getElem? (i := 0) (by decide +kernel))), (List.forall_mem_cons.mpr ⟨(wa_38 _ (List.mem_of_getElem? (i := 21) (by decide +kernel))), (List.forall_mem_cons.mpr ⟨(wa_38 _ (List.mem_of_getElem? (i := 22) (by decide +kernel))), (List.forall_mem_cons.mpr ⟨(wa_38 _ (List.mem_of_getElem? (i := 23) (by decide +kernel))), (List.forall_mem_cons.mpr ⟨(wa_1 _ (List.mem_of_getElem? (i := 2) (by decide +kernel))), (fun _ h => absurd h List.not_mem_nil)⟩)⟩)⟩)⟩)⟩)) rfl rfl rfl (by decide +kernel) ⟨Nat.le_of_ble_eq_true rfl, Nat.le_of_ble_eq_true rfl⟩) hX.sp.1 kX10 rfl hl.1 rfl (Nat.le_of_ble_eq_true rfl) dX10_copy_2 ⟨Nat.le_of_ble_eq_true rfl, Nat.le_of_ble_eq_true rfl⟩) hW (fun r_2 H locs hp_1 hW => ?_)
  rcases hp_1 with ⟨k_3, rfl, hxk_4, hk4_5⟩ | ⟨rfl, hx0_6⟩
  · skip
    refine W.eq (g2 := F0 m 5 ls [.ref (ad (11 + k_3))]) rfl ?_
    have hpx : mIn x 0 4 := by rw [hxk_4]; exact (mIn_nI (by omega)).mpr ⟨Nat.zero_le _, hk4_5⟩
    have hcx : x.toNatClampNeg = k_3 := by rw [hxk_4]; exact nI_clamp (by omega)
    have hsl := hX.sl hk4_5
    refine lv_astore (lv' := [(6, .ref (ad (11 + k_3))), (0, .ref (ad 0)), (1, .int x), (2, .int y), (3, .int o), (4, .int j), (5, .int n)]) hx hb dX10_copy_5 hl (by decide) rfl (fun ls hl => ?_)
    refine lv_aload_n hx hb dX10_copy_7 rfl (lv_at hl 1 rfl) ?_
    refine lv_iload_n hx hb dX10_copy_8 rfl (lv_at hl 4 rfl) ?_
    refine m_crp (m_rV S hW (c_X10_sheetAt l G ad sh V q o hX) (cwV 1 hts (gCall [.methodLink RX10 270 yX10_sheetAt, .instanceMethod yX10_sheetAt, .selects RX10 yX10_sheetAt yX10_sheetAt, .initialized RX10] (List.forall_mem_cons.mpr ⟨(wa_39 _ (List.mem_of_getElem? (i := 0) (by decide +kernel))), (List.forall_mem_cons.mpr ⟨(wa_38 _ (List.mem_of_getElem? (i := 21) (by decide +kernel))), (List.forall_mem_cons.mpr ⟨(wa_38 _ (List.mem_of_getElem? (i := 22) (by decide +kernel))), (List.forall_mem_cons.mpr ⟨(wa_38 _ (List.mem_of_getElem? (i := 23) (by decide +kernel))), (List.forall_mem_cons.mpr ⟨(wa_1 _ (List.mem_of_getElem? (i := 2) (by decide +kernel))), (fun _ h => absurd h List.not_mem_nil)⟩)⟩)⟩)⟩)⟩)) rfl rfl rfl (by decide +kernel) ⟨Nat.le_of_ble_eq_true rfl, Nat.le_of_ble_eq_true rfl⟩) hX.sp.1 kX10 rfl hl.1 rfl (Nat.le_of_ble_eq_true rfl) dX10_copy_9 ⟨Nat.le_of_ble_eq_true rfl, Nat.le_of_ble_eq_true rfl⟩) hW (fun r_8 H locs hp_7 hW => ?_)
    rcases hp_7 with ⟨k_9, rfl, hxk_10, hk4_11⟩ | ⟨rfl, hx0_12⟩
    · skip
      refine W.eq (g2 := F0 m 12 ls [.ref (ad (11 + k_9))]) rfl ?_
      have hpo : mIn o 0 4 := by rw [hxk_10]; exact (mIn_nI (by omega)).mpr ⟨Nat.zero_le _, hk4_11⟩
      have hco : o.toNatClampNeg = k_9 := by rw [hxk_10]; exact nI_clamp (by omega)
      have hsl2 := hX.sl hk4_11
      refine lv_astore (lv' := [(7, .ref (ad (11 + k_9))), (6, .ref (ad (11 + k_3))), (0, .ref (ad 0)), (1, .int x), (2, .int y), (3, .int o), (4, .int j), (5, .int n)]) hx hb dX10_copy_12 hl (by decide) rfl (fun ls hl => ?_)
      refine lv_aload hx hb dX10_copy_14 (lv_at hl 1 rfl) ?_
      refine lv_ifnull hx hb dX10_copy_16 ?_
      refine lv_aload hx hb dX10_copy_19 (lv_at hl 0 rfl) ?_
      refine lv_ifnonnull (tgt := 27) hx hb dX10_copy_21 (by decide) ?_
      refine lv_aload hx hb dX10_copy_27 (lv_at hl 1 rfl) ?_
      refine m_geti S hW (hX.sp.2.2.2.2.2.2.1.2 k_3 hk4_5).1 0 rfl kX5 (iW5 _) (by decide) (List.mem_cons_of_mem _ (wa_38 _ (List.mem_of_getElem? (i := 18) (by decide +kernel)))) dX10_copy_29 ?_
      refine m_top (y := gSo q k_3) (hX.so hk4_5) ?_
      refine lv_iconst (v := -1) hx hb dX10_copy_32 (by decide) ?_
      refine lv_icmp_eq (tgt := 45) hx hb dX10_copy_33 (by decide) (fun c_13 => ?_) (fun c_13 => ?_)
      · skip
        refine lv_bipush (v := -11) hx hb dX10_copy_45 (by decide) ?_
        exact m_iret S hr hlk hW dX10_copy_47 (by exact ⟨by simp only [aCopy, if_pos hpx, hcx, if_pos hpo, hco, if_pos c_13]; try rfl, by simp only [nCopy, if_pos hpx, hcx, if_pos hpo, hco, if_pos c_13]; exact hX, XF.rfl V⟩)
      · skip
        refine lv_aload hx hb dX10_copy_36 (lv_at hl 0 rfl) ?_
        refine m_geti S hW (hX.sp.2.2.2.2.2.2.1.2 k_9 hk4_11).1 0 rfl kX5 (iW5 _) (by decide) (List.mem_cons_of_mem _ (wa_38 _ (List.mem_of_getElem? (i := 18) (by decide +kernel)))) dX10_copy_38 ?_
        refine m_top (y := gSo q k_9) (hX.so hk4_11) ?_
        refine lv_iconst (v := -1) hx hb dX10_copy_41 (by decide) ?_
        refine lv_icmp_ne (tgt := 48) hx hb dX10_copy_42 (by decide) (fun c_14 => ?_) (fun c_14 => ?_)
        · skip
          refine lv_aload hx hb dX10_copy_48 (lv_at hl 1 rfl) ?_
          refine m_geti S hW (hX.sp.2.2.2.2.2.2.1.2 k_3 hk4_5).1 0 rfl kX5 (iW5 _) (by decide) (List.mem_cons_of_mem _ (wa_38 _ (List.mem_of_getElem? (i := 18) (by decide +kernel)))) dX10_copy_50 ?_
          refine m_top (y := gSo q k_3) (hX.so hk4_5) ?_
          refine lv_aload hx hb dX10_copy_53 (lv_at hl 0 rfl) ?_
          refine m_geti S hW (hX.sp.2.2.2.2.2.2.1.2 k_9 hk4_11).1 0 rfl kX5 (iW5 _) (by decide) (List.mem_cons_of_mem _ (wa_38 _ (List.mem_of_getElem? (i := 18) (by decide +kernel)))) dX10_copy_55 ?_
          refine m_top (y := gSo q k_9) (hX.so hk4_11) ?_
          refine lv_icmp_eq (tgt := 64) hx hb dX10_copy_58 (by decide) (fun c_15 => ?_) (fun c_15 => ?_)
          · skip
            refine lv_iload hx hb dX10_copy_64 (lv_at hl 7 rfl) ?_
            refine m_if_lt (tgt := 102) hx hb dX10_copy_66 (by decide) (fun c_16 => ?_) (fun c_16 => ?_)
            · skip
              have hn0 : n < nI 0 := c_16
              refine lv_bipush (v := -12) hx hb dX10_copy_102 (by decide) ?_
              exact m_iret S hr hlk hW dX10_copy_104 (by exact ⟨by simp only [aCopy, if_pos hpx, hcx, if_pos hpo, hco, if_neg c_13, if_neg c_14, if_pos c_15, if_pos hn0]; try rfl, by simp only [nCopy, if_pos hpx, hcx, if_pos hpo, hco, if_neg c_13, if_neg c_14, if_pos c_15, if_pos hn0]; exact hX, XF.rfl V⟩)
            · skip
              have hn0 : ¬ n < nI 0 := c_16
              obtain ⟨nn, hln, hn⟩ := nI_of hn0
              have hcn : n.toNatClampNeg = nn := by rw [hn]; exact nI_clamp hln
              refine lv_iload_n hx hb dX10_copy_69 rfl (lv_at hl 4 rfl) ?_
              refine lv_iconst (v := nI 0) hx hb dX10_copy_70 (by decide) ?_
              refine lv_aload hx hb dX10_copy_71 (lv_at hl 1 rfl) ?_
              refine m_geti S hW (hX.sp.2.2.2.2.2.2.1.2 k_3 hk4_5).1 1 rfl kX5 (iW5 _) (by decide) (List.mem_cons_of_mem _ (wa_38 _ (List.mem_of_getElem? (i := 19) (by decide +kernel)))) dX10_copy_73 ?_
              refine m_top (y := nI (gSz q k_3)) (hX.ss hk4_5) ?_
              refine lv_iload hx hb dX10_copy_76 (lv_at hl 7 rfl) ?_
              refine m_top (y := nI nn) hn ?_
              refine lv_isub hx hb dX10_copy_78 ?_
              refine m_cip (m_rS S hW (c_X10_within_g l G ad sh V y ((nI (gSz q k_3)) - (nI nn))) (va_cwS 3 hts (gCall [.methodLink RX10 102 yX10_within, .static yX10_within, .initialized RX10] (List.forall_mem_cons.mpr ⟨(wa_8 _ (List.mem_of_getElem? (i := 17) (by decide +kernel))), (List.forall_mem_cons.mpr ⟨(wa_15 _ (List.mem_of_getElem? (i := 8) (by decide +kernel))), (List.forall_mem_cons.mpr ⟨(wa_8 _ (List.mem_of_getElem? (i := 16) (by decide +kernel))), (List.forall_mem_cons.mpr ⟨(wa_1 _ (List.mem_of_getElem? (i := 2) (by decide +kernel))), (fun _ h => absurd h List.not_mem_nil)⟩)⟩)⟩)⟩)) rfl rfl rfl (by decide +kernel) ⟨Nat.le_of_ble_eq_true rfl, Nat.le_of_ble_eq_true rfl⟩) rfl hl.1 rfl (Nat.le_of_ble_eq_true rfl) dX10_copy_79 ⟨Nat.le_of_ble_eq_true rfl, Nat.le_of_ble_eq_true rfl⟩) hW (fun r_18 H locs hp_17 hW => ?_)
              rcases hp_17 with ⟨rfl, w_19⟩ | ⟨rfl, w_20⟩
              · skip
                have hwy : (nI 0 ≤ y ∧ y ≤ nI (gSz q k_3) - n) := by rw [hn]; exact w_19
                obtain ⟨ny, hy, hry, hly⟩ := m_room hsl hln w_19
                have hcy : y.toNatClampNeg = ny := by rw [hy]; exact nI_clamp hly
                refine m_if_eq (tgt := 102) hx hb dX10_copy_82 (by decide) (fun c_21 => ?_) (fun c_21 => ?_)
                · exact absurd c_21 (by decide)
                · skip
                  refine lv_iload hx hb dX10_copy_85 (lv_at hl 6 rfl) ?_
                  refine lv_iconst (v := nI 0) hx hb dX10_copy_87 (by decide) ?_
                  refine lv_aload hx hb dX10_copy_88 (lv_at hl 0 rfl) ?_
                  refine m_geti S hW (hX.sp.2.2.2.2.2.2.1.2 k_9 hk4_11).1 1 rfl kX5 (iW5 _) (by decide) (List.mem_cons_of_mem _ (wa_38 _ (List.mem_of_getElem? (i := 19) (by decide +kernel)))) dX10_copy_90 ?_
                  refine m_top (y := nI (gSz q k_9)) (hX.ss hk4_11) ?_
                  refine lv_iload hx hb dX10_copy_93 (lv_at hl 7 rfl) ?_
                  refine m_top (y := nI nn) hn ?_
                  refine lv_isub hx hb dX10_copy_95 ?_
                  refine m_cip (m_rS S hW (c_X10_within_g l G ad sh V j ((nI (gSz q k_9)) - (nI nn))) (va_cwS 3 hts (gCall [.methodLink RX10 102 yX10_within, .static yX10_within, .initialized RX10] (List.forall_mem_cons.mpr ⟨(wa_8 _ (List.mem_of_getElem? (i := 17) (by decide +kernel))), (List.forall_mem_cons.mpr ⟨(wa_15 _ (List.mem_of_getElem? (i := 8) (by decide +kernel))), (List.forall_mem_cons.mpr ⟨(wa_8 _ (List.mem_of_getElem? (i := 16) (by decide +kernel))), (List.forall_mem_cons.mpr ⟨(wa_1 _ (List.mem_of_getElem? (i := 2) (by decide +kernel))), (fun _ h => absurd h List.not_mem_nil)⟩)⟩)⟩)⟩)) rfl rfl rfl (by decide +kernel) ⟨Nat.le_of_ble_eq_true rfl, Nat.le_of_ble_eq_true rfl⟩) rfl hl.1 rfl (Nat.le_of_ble_eq_true rfl) dX10_copy_96 ⟨Nat.le_of_ble_eq_true rfl, Nat.le_of_ble_eq_true rfl⟩) hW (fun r_23 H locs hp_22 hW => ?_)
                  rcases hp_22 with ⟨rfl, w_24⟩ | ⟨rfl, w_25⟩
                  · skip
                    have hwj : (nI 0 ≤ j ∧ j ≤ nI (gSz q k_9) - n) := by rw [hn]; exact w_24
                    obtain ⟨nj, hj, hrj, hlj⟩ := m_room hsl2 hln w_24
                    have hcj : j.toNatClampNeg = nj := by rw [hj]; exact nI_clamp hlj
                    refine m_if_ne (tgt := 105) hx hb dX10_copy_99 (by decide) (fun c_26 => ?_) (fun c_26 => ?_)
                    · skip
                      refine lv_aload hx hb dX10_copy_105 (lv_at hl 1 rfl) ?_
                      refine m_getr S hW (hX.sp.2.2.2.2.2.2.1.2 k_3 hk4_5).1 2 rfl (j := ((11 + k_3) + 4)) rfl kX5 (iW5 _) (by decide) (List.mem_cons_of_mem _ (wa_38 _ (List.mem_of_getElem? (i := 20) (by decide +kernel)))) dX10_copy_107 ?_
                      refine lv_iload_n hx hb dX10_copy_110 rfl (lv_at hl 4 rfl) ?_
                      refine m_top (y := nI ny) hy ?_
                      refine lv_aload hx hb dX10_copy_111 (lv_at hl 0 rfl) ?_
                      refine m_getr S hW (hX.sp.2.2.2.2.2.2.1.2 k_9 hk4_11).1 2 rfl (j := ((11 + k_9) + 4)) rfl kX5 (iW5 _) (by decide) (List.mem_cons_of_mem _ (wa_38 _ (List.mem_of_getElem? (i := 20) (by decide +kernel)))) dX10_copy_113 ?_
                      refine lv_iload hx hb dX10_copy_116 (lv_at hl 6 rfl) ?_
                      refine m_top (y := nI nj) hj ?_
                      refine lv_iload hx hb dX10_copy_118 (lv_at hl 7 rfl) ?_
                      refine m_top (y := nI nn) hn ?_
                      refine m_copy S hW hl.1 (show sh (11 + k_3 + 4) = some (mI 40) by rw [show 11 + k_3 + 4 = 15 + k_3 by omega]; exact (hX.sp.2.2.2.2.2.2.1.2 k_3 hk4_5).2) (show sh (11 + k_9 + 4) = some (mI 40) by rw [show 11 + k_9 + 4 = 15 + k_9 by omega]; exact (hX.sp.2.2.2.2.2.2.1.2 k_9 hk4_11).2) (List.mem_cons_of_mem _ (wa_45 _ (List.mem_of_getElem? (i := 10) (by decide +kernel)))) (List.mem_cons_of_mem _ (wa_8 _ (List.mem_of_getElem? (i := 23) (by decide +kernel)))) (List.mem_cons_of_mem _ (wa_9 _ (List.mem_of_getElem? (i := 0) (by decide +kernel)))) (List.mem_cons_of_mem _ (wa_9 _ (List.mem_of_getElem? (i := 1) (by decide +kernel)))) ny nj nn rfl rfl rfl (by omega) (by omega) (by decide) (by decide) (Nat.le_of_ble_eq_true rfl) (Nat.le_of_ble_eq_true rfl) dX10_copy_120 (fun H locs hW => ?_)
                      obtain ⟨V_27, eV_27⟩ : ∃ z : mV, z = mCpy V ((11 + k_3) + 4) ny ((11 + k_9) + 4) nj nn := ⟨_, rfl⟩
                      rw [← eV_27] at hW
                      refine lv_iload hx hb dX10_copy_123 (lv_at hl 7 rfl) ?_
                      refine m_top (y := nI nn) hn ?_
                      exact m_iret S hr hlk hW dX10_copy_125 (by exact ⟨by simp only [aCopy, if_pos hpx, hcx, if_pos hpo, hco, if_neg c_13, if_neg c_14, if_pos c_15, if_neg hn0, hcn, if_pos hwy, hcy, if_pos hwj, hcj]; exact hn, by simp only [nCopy, if_pos hpx, hcx, if_pos hpo, hco, if_neg c_13, if_neg c_14, if_pos c_15, if_neg hn0, hcn, if_pos hwy, hcy, if_pos hwj, hcj]; exact hX.setS hk4_11 (by rw [eV_27, mCpy_no _ (by omega)]; exact hX.so hk4_11) (by rw [eV_27, mCpy_no _ (by omega)]; exact hX.ss hk4_11) hsl2 (fun t ht => by rw [eV_27, show 15 + k_9 = 11 + k_9 + 4 by omega]; exact mCpy_c (fun u hu => hX.sc4 hk4_5 (by omega)) (hX.sc4 hk4_11 ht)) (fun a h1 h2 => by rw [eV_27, mCpy_no _ (by omega)]), fun c hc => by rw [eV_27, mCpy_no _ (by omega)]⟩)
                    · exact absurd c_26 (by decide)
                  · skip
                    have hwj : ¬ (nI 0 ≤ j ∧ j ≤ nI (gSz q k_9) - n) := by rw [hn]; exact w_25
                    refine m_if_ne (tgt := 105) hx hb dX10_copy_99 (by decide) (fun c_28 => ?_) (fun c_28 => ?_)
                    · exact absurd c_28 (by decide)
                    · skip
                      refine lv_bipush (v := -12) hx hb dX10_copy_102 (by decide) ?_
                      exact m_iret S hr hlk hW dX10_copy_104 (by exact ⟨by simp only [aCopy, if_pos hpx, hcx, if_pos hpo, hco, if_neg c_13, if_neg c_14, if_pos c_15, if_neg hn0, hcn, if_pos hwy, hcy, if_neg hwj]; try rfl, by simp only [nCopy, if_pos hpx, hcx, if_pos hpo, hco, if_neg c_13, if_neg c_14, if_pos c_15, if_neg hn0, hcn, if_pos hwy, hcy, if_neg hwj]; exact hX, XF.rfl V⟩)
              · skip
                have hwy : ¬ (nI 0 ≤ y ∧ y ≤ nI (gSz q k_3) - n) := by rw [hn]; exact w_20
                refine m_if_eq (tgt := 102) hx hb dX10_copy_82 (by decide) (fun c_29 => ?_) (fun c_29 => ?_)
                · skip
                  refine lv_bipush (v := -12) hx hb dX10_copy_102 (by decide) ?_
                  exact m_iret S hr hlk hW dX10_copy_104 (by exact ⟨by simp only [aCopy, if_pos hpx, hcx, if_pos hpo, hco, if_neg c_13, if_neg c_14, if_pos c_15, if_neg hn0, hcn, if_neg hwy]; try rfl, by simp only [nCopy, if_pos hpx, hcx, if_pos hpo, hco, if_neg c_13, if_neg c_14, if_pos c_15, if_neg hn0, hcn, if_neg hwy]; exact hX, XF.rfl V⟩)
                · exact absurd c_29 (by decide)
          · skip
            refine lv_bipush (v := -13) hx hb dX10_copy_61 (by decide) ?_
            exact m_iret S hr hlk hW dX10_copy_63 (by exact ⟨by simp only [aCopy, if_pos hpx, hcx, if_pos hpo, hco, if_neg c_13, if_neg c_14, if_neg c_15]; try rfl, by simp only [nCopy, if_pos hpx, hcx, if_pos hpo, hco, if_neg c_13, if_neg c_14, if_neg c_15]; exact hX, XF.rfl V⟩)
        · skip
          refine lv_bipush (v := -11) hx hb dX10_copy_45 (by decide) ?_
          exact m_iret S hr hlk hW dX10_copy_47 (by exact ⟨by simp only [aCopy, if_pos hpx, hcx, if_pos hpo, hco, if_neg c_13, if_pos c_14]; try rfl, by simp only [nCopy, if_pos hpx, hcx, if_pos hpo, hco, if_neg c_13, if_pos c_14]; exact hX, XF.rfl V⟩)
    · skip
      refine W.eq (g2 := F0 m 12 ls [.null]) rfl ?_
      refine lv_astoreN (lv' := [(7, .null), (6, .ref (ad (11 + k_3))), (0, .ref (ad 0)), (1, .int x), (2, .int y), (3, .int o), (4, .int j), (5, .int n)]) hx hb dX10_copy_12 hl (by decide) rfl (fun ls hl => ?_)
      refine lv_aload hx hb dX10_copy_14 (lv_at hl 1 rfl) ?_
      refine lv_ifnull hx hb dX10_copy_16 ?_
      refine lv_aloadN hx hb dX10_copy_19 (lv_at hl 0 rfl) ?_
      refine lv_ifnonnullN hx hb dX10_copy_21 ?_
      refine lv_bipush (v := -2) hx hb dX10_copy_24 (by decide) ?_
      exact m_iret S hr hlk hW dX10_copy_26 (by exact ⟨by simp only [aCopy, if_pos hpx, hcx, if_neg hx0_12]; try rfl, by simp only [nCopy, if_pos hpx, hcx, if_neg hx0_12]; exact hX, XF.rfl V⟩)
  · skip
    refine W.eq (g2 := F0 m 5 ls [.null]) rfl ?_
    refine lv_astoreN (lv' := [(6, .null), (0, .ref (ad 0)), (1, .int x), (2, .int y), (3, .int o), (4, .int j), (5, .int n)]) hx hb dX10_copy_5 hl (by decide) rfl (fun ls hl => ?_)
    refine lv_aload_n hx hb dX10_copy_7 rfl (lv_at hl 1 rfl) ?_
    refine lv_iload_n hx hb dX10_copy_8 rfl (lv_at hl 4 rfl) ?_
    refine m_crp (m_rV S hW (c_X10_sheetAt l G ad sh V q o hX) (cwV 1 hts (gCall [.methodLink RX10 270 yX10_sheetAt, .instanceMethod yX10_sheetAt, .selects RX10 yX10_sheetAt yX10_sheetAt, .initialized RX10] (List.forall_mem_cons.mpr ⟨(wa_39 _ (List.mem_of_getElem? (i := 0) (by decide +kernel))), (List.forall_mem_cons.mpr ⟨(wa_38 _ (List.mem_of_getElem? (i := 21) (by decide +kernel))), (List.forall_mem_cons.mpr ⟨(wa_38 _ (List.mem_of_getElem? (i := 22) (by decide +kernel))), (List.forall_mem_cons.mpr ⟨(wa_38 _ (List.mem_of_getElem? (i := 23) (by decide +kernel))), (List.forall_mem_cons.mpr ⟨(wa_1 _ (List.mem_of_getElem? (i := 2) (by decide +kernel))), (fun _ h => absurd h List.not_mem_nil)⟩)⟩)⟩)⟩)⟩)) rfl rfl rfl (by decide +kernel) ⟨Nat.le_of_ble_eq_true rfl, Nat.le_of_ble_eq_true rfl⟩) hX.sp.1 kX10 rfl hl.1 rfl (Nat.le_of_ble_eq_true rfl) dX10_copy_9 ⟨Nat.le_of_ble_eq_true rfl, Nat.le_of_ble_eq_true rfl⟩) hW (fun r_31 H locs hp_30 hW => ?_)
    rcases hp_30 with ⟨k_32, rfl, hxk_33, hk4_34⟩ | ⟨rfl, hx0_35⟩
    · skip
      refine W.eq (g2 := F0 m 12 ls [.ref (ad (11 + k_32))]) rfl ?_
      have hpo : mIn o 0 4 := by rw [hxk_33]; exact (mIn_nI (by omega)).mpr ⟨Nat.zero_le _, hk4_34⟩
      have hco : o.toNatClampNeg = k_32 := by rw [hxk_33]; exact nI_clamp (by omega)
      have hsl2 := hX.sl hk4_34
      refine lv_astore (lv' := [(7, .ref (ad (11 + k_32))), (6, .null), (0, .ref (ad 0)), (1, .int x), (2, .int y), (3, .int o), (4, .int j), (5, .int n)]) hx hb dX10_copy_12 hl (by decide) rfl (fun ls hl => ?_)
      refine lv_aloadN hx hb dX10_copy_14 (lv_at hl 1 rfl) ?_
      refine lv_ifnullN (tgt := 24) hx hb dX10_copy_16 (by decide) ?_
      refine lv_bipush (v := -2) hx hb dX10_copy_24 (by decide) ?_
      exact m_iret S hr hlk hW dX10_copy_26 (by exact ⟨by simp only [aCopy, if_neg hx0_6, if_pos hpo, hco]; try rfl, by simp only [nCopy, if_neg hx0_6, if_pos hpo, hco]; exact hX, XF.rfl V⟩)
    · skip
      refine W.eq (g2 := F0 m 12 ls [.null]) rfl ?_
      refine lv_astoreN (lv' := [(7, .null), (6, .null), (0, .ref (ad 0)), (1, .int x), (2, .int y), (3, .int o), (4, .int j), (5, .int n)]) hx hb dX10_copy_12 hl (by decide) rfl (fun ls hl => ?_)
      refine lv_aloadN hx hb dX10_copy_14 (lv_at hl 1 rfl) ?_
      refine lv_ifnullN (tgt := 24) hx hb dX10_copy_16 (by decide) ?_
      refine lv_bipush (v := -2) hx hb dX10_copy_24 (by decide) ?_
      exact m_iret S hr hlk hW dX10_copy_26 (by exact ⟨by simp only [aCopy, if_neg hx0_6, if_neg hx0_35]; try rfl, by simp only [nCopy, if_neg hx0_6, if_neg hx0_35]; exact hX, XF.rfl V⟩)
set_option maxHeartbeats 4000000 in
set_option maxRecDepth 100000 in
theorem c_X10_eatersBy (l : Launch) (G : mG) (ad : Nat → Nat) (sh : Nat → Option mSh) (V : mV) (q : Sg) (x so y n : Int32) (hX : XI sh V q) : mM l yX10_eatersBy wsX10_eatersBy ({ frames := 3, cells := 0, slots := 0, locals := 68 } : Room) G ad sh V [.ref (ad 0), .int x, .int so, .int y, .int n] 0 0 (mPi ad sh (fun r V' => (aBy q x so y n) = r ∧ (XI sh V' (nBy q x so y n)) ∧ (XF V V'))) := by
  refine mM.of (cc := cX10_eatersBy) (maxL := 9) (ret := (some .int)) (by decide) rfl (Nat.le_of_ble_eq_true rfl) ?_
  intro p e s m below meth c S hr hlk hnm hW ls hl
  obtain ⟨hx, hb, hml, hown, hts⟩ := id S
  have hl : lv_has ls 9 [(0, .ref (ad 0)), (1, .int x), (2, .int so), (3, .int y), (4, .int n)] := hl
  have hS0 : True := trivial
  have hne5 := hX.ne5
  have hng6 := hX.ng6
  have htn := hX.tn
  refine lv_aload_n hx hb dX10_eatersBy_0 rfl (lv_at hl 0 rfl) ?_
  refine lv_iload_n hx hb dX10_eatersBy_1 rfl (lv_at hl 1 rfl) ?_
  refine m_crp (m_rV S hW (c_X10_sheetAt l G ad sh V q x hX) (cwV 1 hts (gCall [.methodLink RX10 270 yX10_sheetAt, .instanceMethod yX10_sheetAt, .selects RX10 yX10_sheetAt yX10_sheetAt, .initialized RX10] (List.forall_mem_cons.mpr ⟨(wa_39 _ (List.mem_of_getElem? (i := 0) (by decide +kernel))), (List.forall_mem_cons.mpr ⟨(wa_38 _ (List.mem_of_getElem? (i := 21) (by decide +kernel))), (List.forall_mem_cons.mpr ⟨(wa_38 _ (List.mem_of_getElem? (i := 22) (by decide +kernel))), (List.forall_mem_cons.mpr ⟨(wa_38 _ (List.mem_of_getElem? (i := 23) (by decide +kernel))), (List.forall_mem_cons.mpr ⟨(wa_1 _ (List.mem_of_getElem? (i := 2) (by decide +kernel))), (fun _ h => absurd h List.not_mem_nil)⟩)⟩)⟩)⟩)⟩)) rfl rfl rfl (by decide +kernel) ⟨Nat.le_of_ble_eq_true rfl, Nat.le_of_ble_eq_true rfl⟩) hX.sp.1 kX10 rfl hl.1 rfl (Nat.le_of_ble_eq_true rfl) dX10_eatersBy_2 ⟨Nat.le_of_ble_eq_true rfl, Nat.le_of_ble_eq_true rfl⟩) hW (fun r_2 H locs hp_1 hW => ?_)
  rcases hp_1 with ⟨k_3, rfl, hxk_4, hk4_5⟩ | ⟨rfl, hx0_6⟩
  · skip
    refine W.eq (g2 := F0 m 5 ls [.ref (ad (11 + k_3))]) rfl ?_
    have hpx : mIn x 0 4 := by rw [hxk_4]; exact (mIn_nI (by omega)).mpr ⟨Nat.zero_le _, hk4_5⟩
    have hcx : x.toNatClampNeg = k_3 := by rw [hxk_4]; exact nI_clamp (by omega)
    have hsl := hX.sl hk4_5
    refine lv_astore (lv' := [(5, .ref (ad (11 + k_3))), (0, .ref (ad 0)), (1, .int x), (2, .int so), (3, .int y), (4, .int n)]) hx hb dX10_eatersBy_5 hl (by decide) rfl (fun ls hl => ?_)
    refine lv_aload hx hb dX10_eatersBy_7 (lv_at hl 0 rfl) ?_
    refine lv_ifnull hx hb dX10_eatersBy_9 ?_
    refine lv_iload_n hx hb dX10_eatersBy_12 rfl (lv_at hl 3 rfl) ?_
    refine lv_iconst (v := nI 0) hx hb dX10_eatersBy_13 (by decide) ?_
    refine lv_iconst (v := nI 2) hx hb dX10_eatersBy_14 (by decide) ?_
    refine m_cip (m_rS S hW (c_X10_within l G ad sh V so 0 2 (by first | assumption | omega) (by first | assumption | omega)) (va_cwS 3 hts (gCall [.methodLink RX10 102 yX10_within, .static yX10_within, .initialized RX10] (List.forall_mem_cons.mpr ⟨(wa_8 _ (List.mem_of_getElem? (i := 17) (by decide +kernel))), (List.forall_mem_cons.mpr ⟨(wa_15 _ (List.mem_of_getElem? (i := 8) (by decide +kernel))), (List.forall_mem_cons.mpr ⟨(wa_8 _ (List.mem_of_getElem? (i := 16) (by decide +kernel))), (List.forall_mem_cons.mpr ⟨(wa_1 _ (List.mem_of_getElem? (i := 2) (by decide +kernel))), (fun _ h => absurd h List.not_mem_nil)⟩)⟩)⟩)⟩)) rfl rfl rfl (by decide +kernel) ⟨Nat.le_of_ble_eq_true rfl, Nat.le_of_ble_eq_true rfl⟩) rfl hl.1 rfl (Nat.le_of_ble_eq_true rfl) dX10_eatersBy_15 ⟨Nat.le_of_ble_eq_true rfl, Nat.le_of_ble_eq_true rfl⟩) hW (fun r_8 H locs hp_7 hW => ?_)
    rcases hp_7 with ⟨rfl, w_9⟩ | ⟨rfl, w_10⟩
    · skip
      refine m_if_eq (tgt := 31) hx hb dX10_eatersBy_18 (by decide) (fun c_11 => ?_) (fun c_11 => ?_)
      · exact absurd c_11 (by decide)
      · skip
        refine lv_iload hx hb dX10_eatersBy_21 (lv_at hl 5 rfl) ?_
        refine lv_iconst (v := nI 0) hx hb dX10_eatersBy_23 (by decide) ?_
        refine lv_iconst (v := nI 5) hx hb dX10_eatersBy_24 (by decide) ?_
        refine m_cip (m_rS S hW (c_X10_within l G ad sh V n 0 5 (by first | assumption | omega) (by first | assumption | omega)) (va_cwS 3 hts (gCall [.methodLink RX10 102 yX10_within, .static yX10_within, .initialized RX10] (List.forall_mem_cons.mpr ⟨(wa_8 _ (List.mem_of_getElem? (i := 17) (by decide +kernel))), (List.forall_mem_cons.mpr ⟨(wa_15 _ (List.mem_of_getElem? (i := 8) (by decide +kernel))), (List.forall_mem_cons.mpr ⟨(wa_8 _ (List.mem_of_getElem? (i := 16) (by decide +kernel))), (List.forall_mem_cons.mpr ⟨(wa_1 _ (List.mem_of_getElem? (i := 2) (by decide +kernel))), (fun _ h => absurd h List.not_mem_nil)⟩)⟩)⟩)⟩)) rfl rfl rfl (by decide +kernel) ⟨Nat.le_of_ble_eq_true rfl, Nat.le_of_ble_eq_true rfl⟩) rfl hl.1 rfl (Nat.le_of_ble_eq_true rfl) dX10_eatersBy_25 ⟨Nat.le_of_ble_eq_true rfl, Nat.le_of_ble_eq_true rfl⟩) hW (fun r_13 H locs hp_12 hW => ?_)
        rcases hp_12 with ⟨rfl, w_14⟩ | ⟨rfl, w_15⟩
        · skip
          obtain ⟨nn, hnn, hwnn, hlnn⟩ := w_14.ex
          have hcn : n.toNatClampNeg = nn := by rw [hnn]; exact nI_clamp (by omega)
          refine m_if_ne (tgt := 34) hx hb dX10_eatersBy_28 (by decide) (fun c_16 => ?_) (fun c_16 => ?_)
          · skip
            refine lv_aload hx hb dX10_eatersBy_34 (lv_at hl 0 rfl) ?_
            refine m_geti S hW (hX.sp.2.2.2.2.2.2.1.2 k_3 hk4_5).1 0 rfl kX5 (iW5 _) (by decide) (List.mem_cons_of_mem _ (wa_38 _ (List.mem_of_getElem? (i := 18) (by decide +kernel)))) dX10_eatersBy_36 ?_
            refine m_top (y := gSo q k_3) (hX.so hk4_5) ?_
            refine lv_iconst (v := -1) hx hb dX10_eatersBy_39 (by decide) ?_
            refine lv_icmp_ne (tgt := 46) hx hb dX10_eatersBy_40 (by decide) (fun c_17 => ?_) (fun c_17 => ?_)
            · skip
              refine lv_aload hx hb dX10_eatersBy_46 (lv_at hl 0 rfl) ?_
              refine m_geti S hW (hX.sp.2.2.2.2.2.2.1.2 k_3 hk4_5).1 0 rfl kX5 (iW5 _) (by decide) (List.mem_cons_of_mem _ (wa_38 _ (List.mem_of_getElem? (i := 18) (by decide +kernel)))) dX10_eatersBy_48 ?_
              refine m_top (y := gSo q k_3) (hX.so hk4_5) ?_
              refine lv_iload_n hx hb dX10_eatersBy_51 rfl (lv_at hl 3 rfl) ?_
              refine lv_icmp_eq (tgt := 58) hx hb dX10_eatersBy_52 (by decide) (fun c_18 => ?_) (fun c_18 => ?_)
              · skip
                refine lv_iconst (v := nI 0) hx hb dX10_eatersBy_58 (by decide) ?_
                refine lv_istore (lv' := [(6, .int (nI 0)), (5, .ref (ad (11 + k_3))), (0, .ref (ad 0)), (1, .int x), (2, .int so), (3, .int y), (4, .int n)]) hx hb dX10_eatersBy_59 hl (by decide) rfl (fun ls hl => ?_)
                refine lv_iconst (v := nI 0) hx hb dX10_eatersBy_61 (by decide) ?_
                refine lv_istore (lv' := [(7, .int (nI 0)), (6, .int (nI 0)), (5, .ref (ad (11 + k_3))), (0, .ref (ad 0)), (1, .int x), (2, .int so), (3, .int y), (4, .int n)]) hx hb dX10_eatersBy_62 hl (by decide) rfl (fun ls hl => ?_)
                have loop_64 : ∀ (n_64 : Nat) (q1 : Sg) (mn k : Nat) (V1 : mV) (H : Heap) (locs : List Loc) (ls : Array Slot), (k ≤ nn) → (XI sh V1 q1) → (XF V V1) → (q1.2 = q.2) → (mn ≤ k) → (fBy (gCl q k_3) (gSz q k_3) y (nn - k) k q1 mn = fBy (gCl q k_3) (gSz q k_3) y nn 0 q 0) → (nn - k) < n_64 → mC (mA ad sh s.heap.size) s.heap s G ad sh V1 H locs → lv_has ls 9 [(5, .ref (ad (11 + k_3))), (0, .ref (ad 0)), (1, .int x), (2, .int so), (3, .int y), (4, .int n), (6, .int (nI mn)), (7, .int (nI k))] → W p l e ({ frames := 3, cells := 0, slots := 0, locals := 68 } : Room) s m ([.ref (ad 0), .int x, .int so, .int y, .int n] : List Value).toArray below meth c H locs 0 0 (MQ below (mPost G ad sh s.heap.size (mPi ad sh (fun r V' => (aBy q x so y n) = r ∧ (XI sh V' (nBy q x so y n)) ∧ (XF V V')))) ([.ref (ad 0), .int x, .int so, .int y, .int n] : List Value).toArray s 0 0 (mA ad sh s.heap.size)) (F0 m 64 ls []) := by
                  intro n_64
                  induction n_64 with
                  | zero => intro q1 mn k V1 H locs ls hk hX1 hF1 hq2 hmn hres hM_ hW hl; omega
                  | succ n_64 ih_64 =>
                    intro q1 mn k V1 H locs ls hk hX1 hF1 hq2 hmn hres hM_ hW hl
                    refine lv_iload hx hb dX10_eatersBy_64 (lv_at hl 7 rfl) ?_
                    refine lv_iload hx hb dX10_eatersBy_66 (lv_at hl 5 rfl) ?_
                    refine m_top (y := nI nn) hnn ?_
                    refine lv_icmp_ge (tgt := 136) hx hb dX10_eatersBy_68 (by decide) (fun c_19 => ?_) (fun c_19 => ?_)
                    · skip
                      have c_19 : nn ≤ k := (nI_leI (by omega) (by omega)).mp c_19
                      refine lv_iload hx hb dX10_eatersBy_136 (lv_at hl 6 rfl) ?_
                      have hz : fBy (gCl q k_3) (gSz q k_3) y nn 0 q 0 = (q1, nI mn) := by rw [← hres, show nn - k = 0 by omega]; rfl
                      exact m_iret S hr hlk hW dX10_eatersBy_138 (by exact ⟨by simp only [aBy, if_pos hpx, hcx, if_pos w_9, if_pos w_14, hcn, if_neg c_17, if_pos c_18]; rw [hz], by simp only [nBy, if_pos hpx, hcx, if_pos w_9, if_pos w_14, hcn, if_neg c_17, if_pos c_18]; rw [hz]; exact hX1, hF1⟩)
                    · skip
                      have c_19 : ¬ nn ≤ k := mt (nI_leI (by omega) (by omega)).mpr c_19
                      refine lv_iload_n hx hb dX10_eatersBy_71 rfl (lv_at hl 4 rfl) ?_
                      refine lv_iconst (v := nI 0) hx hb dX10_eatersBy_72 (by decide) ?_
                      refine lv_aload hx hb dX10_eatersBy_73 (lv_at hl 0 rfl) ?_
                      refine m_geti S hW (hX.sp.2.2.2.2.2.2.1.2 k_3 hk4_5).1 1 rfl kX5 (iW5 _) (by decide) (List.mem_cons_of_mem _ (wa_38 _ (List.mem_of_getElem? (i := 19) (by decide +kernel)))) dX10_eatersBy_75 ?_
                      refine m_top (y := nI (gSz q k_3)) ((hX1.ss hk4_5).trans (by rw [gSz, gSz, gSh, gSh, hq2])) ?_
                      refine lv_iconst (v := nI 2) hx hb dX10_eatersBy_78 (by decide) ?_
                      refine lv_iload hx hb dX10_eatersBy_79 (lv_at hl 7 rfl) ?_
                      refine lv_imul hx hb dX10_eatersBy_81 ?_
                      refine m_top (y := nI (2 * k)) (pk_mul 2 k) ?_
                      refine lv_isub hx hb dX10_eatersBy_82 ?_
                      refine lv_iconst (v := nI 2) hx hb dX10_eatersBy_83 (by decide) ?_
                      refine lv_isub hx hb dX10_eatersBy_84 ?_
                      refine m_cip (m_rS S hW (c_X10_within_g l G ad sh V1 y (((nI (gSz q k_3)) - (nI (2 * k))) - (nI 2))) (va_cwS 3 hts (gCall [.methodLink RX10 102 yX10_within, .static yX10_within, .initialized RX10] (List.forall_mem_cons.mpr ⟨(wa_8 _ (List.mem_of_getElem? (i := 17) (by decide +kernel))), (List.forall_mem_cons.mpr ⟨(wa_15 _ (List.mem_of_getElem? (i := 8) (by decide +kernel))), (List.forall_mem_cons.mpr ⟨(wa_8 _ (List.mem_of_getElem? (i := 16) (by decide +kernel))), (List.forall_mem_cons.mpr ⟨(wa_1 _ (List.mem_of_getElem? (i := 2) (by decide +kernel))), (fun _ h => absurd h List.not_mem_nil)⟩)⟩)⟩)⟩)) rfl rfl rfl (by decide +kernel) ⟨Nat.le_of_ble_eq_true rfl, Nat.le_of_ble_eq_true rfl⟩) rfl hl.1 rfl (Nat.le_of_ble_eq_true rfl) dX10_eatersBy_85 ⟨Nat.le_of_ble_eq_true rfl, Nat.le_of_ble_eq_true rfl⟩) hW (fun r_21 H locs hp_20 hW => ?_)
                      rcases hp_20 with ⟨rfl, w_22⟩ | ⟨rfl, w_23⟩
                      · skip
                        obtain ⟨ny, hy, hry, hly⟩ := okBy_ex (k := k) hsl (by omega) w_22
                        have hcy : y.toNatClampNeg = ny := by rw [hy]; exact nI_clamp hly
                        refine m_if_ne (tgt := 94) hx hb dX10_eatersBy_88 (by decide) (fun c_24 => ?_) (fun c_24 => ?_)
                        · skip
                          refine lv_iload_n hx hb dX10_eatersBy_94 rfl (lv_at hl 4 rfl) ?_
                          refine m_top (y := nI ny) hy ?_
                          refine lv_iconst (v := nI 2) hx hb dX10_eatersBy_95 (by decide) ?_
                          refine lv_iload hx hb dX10_eatersBy_96 (lv_at hl 7 rfl) ?_
                          refine lv_imul hx hb dX10_eatersBy_98 ?_
                          refine m_top (y := nI (2 * k)) (pk_mul 2 k) ?_
                          refine lv_iadd hx hb dX10_eatersBy_99 ?_
                          refine m_top (y := nI (ny + (2 * k))) (nI_add ny (2 * k)) ?_
                          refine lv_istore (lv' := [(8, .int (nI (ny + (2 * k)))), (5, .ref (ad (11 + k_3))), (0, .ref (ad 0)), (1, .int x), (2, .int so), (3, .int y), (4, .int n), (6, .int (nI mn)), (7, .int (nI k))]) hx hb dX10_eatersBy_100 hl (by decide) rfl (fun ls hl => ?_)
                          refine lv_aload_n hx hb dX10_eatersBy_102 rfl (lv_at hl 2 rfl) ?_
                          refine lv_aload hx hb dX10_eatersBy_103 (lv_at hl 1 rfl) ?_
                          refine m_getr S hW (hX.sp.2.2.2.2.2.2.1.2 k_3 hk4_5).1 2 rfl (j := ((11 + k_3) + 4)) rfl kX5 (iW5 _) (by decide) (List.mem_cons_of_mem _ (wa_38 _ (List.mem_of_getElem? (i := 20) (by decide +kernel)))) dX10_eatersBy_105 ?_
                          refine lv_iload hx hb dX10_eatersBy_108 (lv_at hl 0 rfl) ?_
                          refine m_iald S hW (show sh (11 + k_3 + 4) = some (mI 40) by rw [show 11 + k_3 + 4 = 15 + k_3 by omega]; exact (hX.sp.2.2.2.2.2.2.1.2 k_3 hk4_5).2) (ny + 2 * k) rfl (by omega) (by decide) dX10_eatersBy_110 ?_
                          refine m_top (y := (gCl q k_3 (ny + 2 * k))) ((hX1.sc4 hk4_5 (by omega)).trans (by rw [gCl, gCl, gSh, gSh, hq2])) ?_
                          refine lv_aload hx hb dX10_eatersBy_111 (lv_at hl 1 rfl) ?_
                          refine m_getr S hW (hX.sp.2.2.2.2.2.2.1.2 k_3 hk4_5).1 2 rfl (j := ((11 + k_3) + 4)) rfl kX5 (iW5 _) (by decide) (List.mem_cons_of_mem _ (wa_38 _ (List.mem_of_getElem? (i := 20) (by decide +kernel)))) dX10_eatersBy_113 ?_
                          refine lv_iload hx hb dX10_eatersBy_116 (lv_at hl 0 rfl) ?_
                          refine lv_iconst (v := nI 1) hx hb dX10_eatersBy_118 (by decide) ?_
                          refine lv_iadd hx hb dX10_eatersBy_119 ?_
                          refine m_top (y := nI ((ny + (2 * k)) + 1)) (nI_add (ny + (2 * k)) 1) ?_
                          refine m_iald S hW (show sh (11 + k_3 + 4) = some (mI 40) by rw [show 11 + k_3 + 4 = 15 + k_3 by omega]; exact (hX.sp.2.2.2.2.2.2.1.2 k_3 hk4_5).2) (ny + 2 * k + 1) rfl (by omega) (by decide) dX10_eatersBy_120 ?_
                          refine m_top (y := (gCl q k_3 (ny + 2 * k + 1))) ((hX1.sc4 hk4_5 (by omega)).trans (by rw [gCl, gCl, gSh, gSh, hq2])) ?_
                          refine m_ci (m_rV S hW (c_X10_comeEater l G ad sh V1 q1 (gCl q k_3 (ny + 2 * k)) (gCl q k_3 (ny + 2 * k + 1)) hX1) (cwV 2 hts (gCall [.methodLink RX10 149 yX10_comeEater, .instanceMethod yX10_comeEater, .selects RX10 yX10_comeEater yX10_comeEater, .initialized RX10] (List.forall_mem_cons.mpr ⟨(wa_22 _ (List.mem_of_getElem? (i := 13) (by decide +kernel))), (List.forall_mem_cons.mpr ⟨(wa_22 _ (List.mem_of_getElem? (i := 10) (by decide +kernel))), (List.forall_mem_cons.mpr ⟨(wa_22 _ (List.mem_of_getElem? (i := 11) (by decide +kernel))), (List.forall_mem_cons.mpr ⟨(wa_22 _ (List.mem_of_getElem? (i := 12) (by decide +kernel))), (List.forall_mem_cons.mpr ⟨(wa_1 _ (List.mem_of_getElem? (i := 2) (by decide +kernel))), (fun _ h => absurd h List.not_mem_nil)⟩)⟩)⟩)⟩)⟩)) rfl rfl rfl (by decide +kernel) ⟨Nat.le_of_ble_eq_true rfl, Nat.le_of_ble_eq_true rfl⟩) hX.sp.1 kX10 rfl hl.1 rfl (Nat.le_of_ble_eq_true rfl) dX10_eatersBy_121 ⟨Nat.le_of_ble_eq_true rfl, Nat.le_of_ble_eq_true rfl⟩) hW (fun r_27 V_25 H locs hp_26 hW => ?_)
                          obtain ⟨rfl, hX_28, hF_29⟩ := hp_26
                          refine m_if_lt (tgt := 130) hx hb dX10_eatersBy_124 (by decide) (fun c_30 => ?_) (fun c_30 => ?_)
                          · skip
                            refine lv_iinc (v := nI (k + 1)) (lv' := [(7, .int (nI (k + 1))), (8, .int (nI (ny + (2 * k)))), (5, .ref (ad (11 + k_3))), (0, .ref (ad 0)), (1, .int x), (2, .int so), (3, .int y), (4, .int n), (6, .int (nI mn))]) hx hb dX10_eatersBy_130 hl (k := 8) rfl (m_inc k 1) (by decide) rfl (fun ls hl => ?_)
                            refine lv_goto (tgt := 64) hx hb dX10_eatersBy_133 (by decide) ?_
                            exact ih_64  (nEater q1 (gCl q k_3 (ny + 2 * k)) (gCl q k_3 (ny + 2 * k + 1))) mn (k + 1) V_25 _ _ _ (by omega) (by exact hX_28) (by exact hF1.trans hF_29) (by rw [nEater_2]; exact hq2) (by omega) (by rw [← hres, show nn - k = (nn - (k + 1)) + 1 by omega, fBy, if_pos w_22, hcy, if_pos c_30]) (by omega) hW (lv_sub hl [2, 3, 4, 5, 6, 7, 8, 0] rfl)
                          · skip
                            refine lv_iinc (v := nI (mn + 1)) (lv' := [(6, .int (nI (mn + 1))), (8, .int (nI (ny + (2 * k)))), (5, .ref (ad (11 + k_3))), (0, .ref (ad 0)), (1, .int x), (2, .int so), (3, .int y), (4, .int n), (7, .int (nI k))]) hx hb dX10_eatersBy_127 hl (k := 7) rfl (m_inc mn 1) (by decide) rfl (fun ls hl => ?_)
                            refine lv_iinc (v := nI (k + 1)) (lv' := [(7, .int (nI (k + 1))), (6, .int (nI (mn + 1))), (8, .int (nI (ny + (2 * k)))), (5, .ref (ad (11 + k_3))), (0, .ref (ad 0)), (1, .int x), (2, .int so), (3, .int y), (4, .int n)]) hx hb dX10_eatersBy_130 hl (k := 8) rfl (m_inc k 1) (by decide) rfl (fun ls hl => ?_)
                            refine lv_goto (tgt := 64) hx hb dX10_eatersBy_133 (by decide) ?_
                            exact ih_64  (nEater q1 (gCl q k_3 (ny + 2 * k)) (gCl q k_3 (ny + 2 * k + 1))) (mn + 1) (k + 1) V_25 _ _ _ (by omega) (by exact hX_28) (by exact hF1.trans hF_29) (by rw [nEater_2]; exact hq2) (by omega) (by rw [← hres, show nn - k = (nn - (k + 1)) + 1 by omega, fBy, if_pos w_22, hcy, if_neg c_30]) (by omega) hW (lv_sub hl [3, 4, 5, 6, 7, 8, 1, 0] rfl)
                        · exact absurd c_24 (by decide)
                      · skip
                        refine m_if_ne (tgt := 94) hx hb dX10_eatersBy_88 (by decide) (fun c_31 => ?_) (fun c_31 => ?_)
                        · exact absurd c_31 (by decide)
                        · skip
                          refine lv_bipush (v := -12) hx hb dX10_eatersBy_91 (by decide) ?_
                          have hz : fBy (gCl q k_3) (gSz q k_3) y nn 0 q 0 = (q1, -12) := by rw [← hres, show nn - k = (nn - (k + 1)) + 1 by omega, fBy, if_neg w_23]
                          exact m_iret S hr hlk hW dX10_eatersBy_93 (by exact ⟨by simp only [aBy, if_pos hpx, hcx, if_pos w_9, if_pos w_14, hcn, if_neg c_17, if_pos c_18]; rw [hz], by simp only [nBy, if_pos hpx, hcx, if_pos w_9, if_pos w_14, hcn, if_neg c_17, if_pos c_18]; rw [hz]; exact hX1, hF1⟩)
                exact loop_64 (nn - 0 + 1) q 0 0 V _ _ _ (by omega) (by exact hX) (by exact XF.rfl V) (by rfl) (by omega) (by rfl) (by omega) hW (lv_sub hl [2, 3, 4, 5, 6, 7, 1, 0] rfl)
              · skip
                refine lv_bipush (v := -13) hx hb dX10_eatersBy_55 (by decide) ?_
                exact m_iret S hr hlk hW dX10_eatersBy_57 (by exact ⟨by simp only [aBy, if_pos hpx, hcx, if_pos w_9, if_pos w_14, hcn, if_neg c_17, if_neg c_18]; try rfl, by simp only [nBy, if_pos hpx, hcx, if_pos w_9, if_pos w_14, hcn, if_neg c_17, if_neg c_18]; exact hX, XF.rfl V⟩)
            · skip
              refine lv_bipush (v := -11) hx hb dX10_eatersBy_43 (by decide) ?_
              exact m_iret S hr hlk hW dX10_eatersBy_45 (by exact ⟨by simp only [aBy, if_pos hpx, hcx, if_pos w_9, if_pos w_14, hcn, if_pos c_17]; try rfl, by simp only [nBy, if_pos hpx, hcx, if_pos w_9, if_pos w_14, hcn, if_pos c_17]; exact hX, XF.rfl V⟩)
          · exact absurd c_16 (by decide)
        · skip
          refine m_if_ne (tgt := 34) hx hb dX10_eatersBy_28 (by decide) (fun c_32 => ?_) (fun c_32 => ?_)
          · exact absurd c_32 (by decide)
          · skip
            refine lv_bipush (v := -2) hx hb dX10_eatersBy_31 (by decide) ?_
            exact m_iret S hr hlk hW dX10_eatersBy_33 (by exact ⟨by simp only [aBy, if_pos hpx, hcx, if_pos w_9, if_neg w_15]; try rfl, by simp only [nBy, if_pos hpx, hcx, if_pos w_9, if_neg w_15]; exact hX, XF.rfl V⟩)
    · skip
      refine m_if_eq (tgt := 31) hx hb dX10_eatersBy_18 (by decide) (fun c_33 => ?_) (fun c_33 => ?_)
      · skip
        refine lv_bipush (v := -2) hx hb dX10_eatersBy_31 (by decide) ?_
        exact m_iret S hr hlk hW dX10_eatersBy_33 (by exact ⟨by simp only [aBy, if_pos hpx, hcx, if_neg w_10]; try rfl, by simp only [nBy, if_pos hpx, hcx, if_neg w_10]; exact hX, XF.rfl V⟩)
      · exact absurd c_33 (by decide)
  · skip
    refine W.eq (g2 := F0 m 5 ls [.null]) rfl ?_
    refine lv_astoreN (lv' := [(5, .null), (0, .ref (ad 0)), (1, .int x), (2, .int so), (3, .int y), (4, .int n)]) hx hb dX10_eatersBy_5 hl (by decide) rfl (fun ls hl => ?_)
    refine lv_aloadN hx hb dX10_eatersBy_7 (lv_at hl 0 rfl) ?_
    refine lv_ifnullN (tgt := 31) hx hb dX10_eatersBy_9 (by decide) ?_
    refine lv_bipush (v := -2) hx hb dX10_eatersBy_31 (by decide) ?_
    exact m_iret S hr hlk hW dX10_eatersBy_33 (by exact ⟨by simp only [aBy, if_neg hx0_6]; try rfl, by simp only [nBy, if_neg hx0_6]; exact hX, XF.rfl V⟩)
