/-! told days, marks -/
def fDayB (c : Nat → Int32) (ne ng : Nat) : Nat → Bool
  | 0 => true
  | k + 1 => fDayB c ne ng k && decide (mIn (c (3 * k)) 0 ne ∧ mIn (c (3 * k + 1)) 0 ng ∧ mIn (c (3 * k + 2)) 0 16)
theorem fDayB_s {c : Nat → Int32} {ne ng k : Nat} (h : fDayB c ne ng k = true) (h1 : mIn (c (3 * k)) 0 ne) (h2 : mIn (c (3 * k + 1)) 0 ng) (h3 : mIn (c (3 * k + 2)) 0 16) : fDayB c ne ng (k + 1) = true := by
  rw [fDayB, h, decide_eq_true ⟨h1, h2, h3⟩]
  rfl
theorem fDayB_f {c : Nat → Int32} {ne ng k : Nat} (h : ¬ (mIn (c (3 * k)) 0 ne ∧ mIn (c (3 * k + 1)) 0 ng ∧ mIn (c (3 * k + 2)) 0 16)) : ∀ {n : Nat}, k < n → ¬ fDayB c ne ng n = true
  | 0, hn => by omega
  | n + 1, hn => by
    intro z
    rw [fDayB, Bool.and_eq_true] at z
    by_cases hk : k = n
    · subst hk
      exact h (of_decide_eq_true z.2)
    · exact fDayB_f h (show k < n by omega) z.1
theorem fDayB_ok {c : Nat → Int32} {ne ng : Nat} : ∀ {n : Nat}, fDayB c ne ng n = true → ∀ k, k < n → mIn (c (3 * k)) 0 ne ∧ mIn (c (3 * k + 1)) 0 ng ∧ mIn (c (3 * k + 2)) 0 16
  | 0, _, k, hk => by omega
  | n + 1, h, k, hk => by
    rw [fDayB, Bool.and_eq_true] at h
    by_cases hkn : k = n
    · subst hkn
      exact of_decide_eq_true h.2
    · exact fDayB_ok h.1 k (by omega)
theorem fDayB_day {c : Nat → Int32} {ne ng sz : Nat} (h : fDayB c ne ng (sz / 3) = true) : fDayOk c ne ng sz := fun k hk => by
  obtain ⟨h1, h2, h3⟩ := fDayB_ok h k (by omega)
  obtain ⟨u, e1, -, f1⟩ := h1.ex
  obtain ⟨v, e2, -, f2⟩ := h2.ex
  obtain ⟨w, e3, -, f3⟩ := h3.ex
  exact ⟨u, v, w, e1, e2, e3, f1, f2, f3⟩
/-- sheet k's cells, its triples -/
def gCl (q : Sg) (k : Nat) : Nat → Int32 := (gSh q k).2.2
def gSz (q : Sg) (k : Nat) : Nat := (gSh q k).2.1
def gSo (q : Sg) (k : Nat) : Int32 := (gSh q k).1
/-- why sheet x tells no day -/
def aRef (q : Sg) (x : Int32) : Int32 := if mIn x 0 4 then (if gSo q x.toNatClampNeg = -1 then -11 else if gSz q x.toNatClampNeg % 3 = 0 then (if fDayB (gCl q x.toNatClampNeg) (gNe q) (gNg q) (gSz q x.toNatClampNeg / 3) = true then nI 0 else -2) else -2) else -2
theorem zDay_cong {ask : fAsks} {c c' : Nat → Int32} {z : fZ} : ∀ n, (∀ k, k < 3 * n → c k = c' k) → zDay ask c z n = zDay ask c' z n
  | 0, _ => rfl
  | n + 1, h => by rw [zDay, zDay, zDay_cong n (fun k hk => h k (by omega)), h (3 * n) (by omega), h (3 * n + 1) (by omega), h (3 * n + 2) (by omega)]
section XSHS
variable {sh : Nat → Option mSh} {V : mV} {q : Sg}
theorem XI.so (h : XI sh V q) {k : Nat} (hk : k < 4) : V (11 + k) 0 = gSo q k := (h.shs k hk).1
theorem XI.ss (h : XI sh V q) {k : Nat} (hk : k < 4) : V (11 + k) 1 = nI (gSz q k) := (h.shs k hk).2.1
theorem XI.sl (h : XI sh V q) {k : Nat} (hk : k < 4) : gSz q k ≤ 40 := (h.shs k hk).2.2.1
theorem XI.sc (h : XI sh V q) {k j : Nat} (hk : k < 4) (hj : j < 40) : V (15 + k) j = gCl q k j := (h.shs k hk).2.2.2 j hj
theorem XI.sc4 (h : XI sh V q) {k j : Nat} (hk : k < 4) (hj : j < 40) : V (11 + k + 4) j = gCl q k j := by
  rw [show 11 + k + 4 = 15 + k by omega]
  exact h.sc hk hj
theorem XI.day (h : XI sh V q) {k : Nat} (hk : k < 4) (hb : fDayB (gCl q k) (gNe q) (gNg q) (gSz q k / 3) = true) : fDayOk (V (11 + k + 4)) (gNe q) (gNg q) (gSz q k) := fun m hm => by
  have := h.sl hk
  rw [h.sc4 hk (by omega), h.sc4 hk (by omega), h.sc4 hk (by omega)]
  exact fDayB_day hb m hm
theorem XI.dayz (h : XI sh V q) {k : Nat} (hk : k < 4) (ask : fAsks) (z : fZ) : zDay ask (V (11 + k + 4)) z (gSz q k / 3) = zDay ask (gCl q k) z (gSz q k / 3) := zDay_cong _ (fun j hj => h.sc4 hk (by have := h.sl hk; omega))
end XSHS
/-- what comes of sheet k's day under a text -/
def zTold (q : Sg) (ask : fAsks) (k : Nat) : fZ × Int32 := zDay ask (gCl q k) (gZ q) (gSz q k / 3)
def aJudge (q : Sg) (x : Int32) : Int32 := if aRef q x = nI 0 then (zTold q (gAsk q) x.toNatClampNeg).2 else aRef q x
def aEnds (q : Sg) (x y w : Int32) : Int32 := if aRef q x = nI 0 then (if mIn w 0 3 then (if w = nI 2 then (if mIn y 0 (gNg q) then (zTold q (gAsk q) x.toNatClampNeg).1 (10 + 2 * y.toNatClampNeg) 2 else -5) else if mIn y 0 (gNe q) then (if w = nI 0 then (zTold q (gAsk q) x.toNatClampNeg).1 (4 + y.toNatClampNeg) 4 else (zTold q (gAsk q) x.toNatClampNeg).1 (4 + y.toNatClampNeg) 3) else -5) else -7) else aRef q x
def aLaws (q : Sg) (x : Int32) : Int32 := if aRef q x = nI 0 then fBitsOf (fun t => decide ((zTold q (askT (gT q t)) x.toNatClampNeg).2 = -1)) (gTxs q).length else aRef q x
set_option maxHeartbeats 4000000 in
set_option maxRecDepth 100000 in
theorem c_X10_sheetAt (l : Launch) (G : mG) (ad : Nat → Nat) (sh : Nat → Option mSh) (V : mV) (q : Sg) (x : Int32) (hX : XI sh V q) : mM l yX10_sheetAt wsX10_sheetAt ({ frames := 1, cells := 0, slots := 0, locals := 22 } : Room) G ad sh V [.ref (ad 0), .int x] 0 0 (mPrp ad sh V (fun r => (∃ (k : Nat), some (11 + k) = r ∧ (x = nI k) ∧ (k < 4)) ∨ (none = r ∧ (¬ mIn x 0 4)))) := by
  refine mM.of (cc := cX10_sheetAt) (maxL := 2) (ret := (some (.object "BiteFirst$Sheet"))) (by decide) rfl (Nat.le_of_ble_eq_true rfl) ?_
  intro p e s m below meth c S hr hlk hnm hW ls hl
  obtain ⟨hx, hb, hml, hown, hts⟩ := id S
  have hl : lv_has ls 2 [(0, .ref (ad 0)), (1, .int x)] := hl
  have hS0 : True := trivial
  have hne5 := hX.ne5
  have hng6 := hX.ng6
  have htn := hX.tn
  refine lv_iload_n hx hb dX10_sheetAt_0 rfl (lv_at hl 1 rfl) ?_
  refine lv_iconst (v := nI 0) hx hb dX10_sheetAt_1 (by decide) ?_
  refine lv_iconst (v := nI 3) hx hb dX10_sheetAt_2 (by decide) ?_
  refine m_cip (m_rS S hW (c_X10_within l G ad sh V x 0 3 (by first | assumption | omega) (by first | assumption | omega)) (va_cwS 3 hts (gCall [.methodLink RX10 102 yX10_within, .static yX10_within, .initialized RX10] (List.forall_mem_cons.mpr ⟨(wa_8 _ (List.mem_of_getElem? (i := 17) (by decide +kernel))), (List.forall_mem_cons.mpr ⟨(wa_15 _ (List.mem_of_getElem? (i := 8) (by decide +kernel))), (List.forall_mem_cons.mpr ⟨(wa_8 _ (List.mem_of_getElem? (i := 16) (by decide +kernel))), (List.forall_mem_cons.mpr ⟨(wa_1 _ (List.mem_of_getElem? (i := 2) (by decide +kernel))), (fun _ h => absurd h List.not_mem_nil)⟩)⟩)⟩)⟩)) rfl rfl rfl (by decide +kernel) ⟨Nat.le_of_ble_eq_true rfl, Nat.le_of_ble_eq_true rfl⟩) rfl hl.1 rfl (Nat.le_of_ble_eq_true rfl) dX10_sheetAt_3 ⟨Nat.le_of_ble_eq_true rfl, Nat.le_of_ble_eq_true rfl⟩) hW (fun r_2 H locs hp_1 hW => ?_)
  rcases hp_1 with ⟨rfl, w_3⟩ | ⟨rfl, w_4⟩
  · skip
    refine m_if_eq (tgt := 18) hx hb dX10_sheetAt_6 (by decide) (fun c_5 => ?_) (fun c_5 => ?_)
    · exact absurd c_5 (by decide)
    · skip
      refine lv_aload_n hx hb dX10_sheetAt_9 rfl (lv_at hl 0 rfl) ?_
      refine m_getr S hW hX.sp.1 9 rfl (j := 10) rfl kX10 (iW10 _) (by decide) (List.mem_cons_of_mem _ (wa_2 _ (List.mem_of_getElem? (i := 3) (by decide +kernel)))) dX10_sheetAt_10 ?_
      refine lv_iload_n hx hb dX10_sheetAt_13 rfl (lv_at hl 1 rfl) ?_
      obtain ⟨ix, eix, -, hix⟩ := w_3.ex
      refine m_aald S hW 3 rfl hX.sp.2.2.2.2.2.2.1.1 ix eix (by omega) (by decide) (j := (11 + ix)) (if_pos (by omega)) dX10_sheetAt_14 ?_
      refine lv_goto (tgt := 19) hx hb dX10_sheetAt_15 (by decide) ?_
      refine W.eq (g2 := F0 m 19 ls [va_rf (Option.map ad (some (11 + ix)))]) rfl ?_
      exact m_aret S hr hlk hW dX10_sheetAt_19 ⟨rfl, (by exact Or.inl ⟨ix, rfl, eix, hix⟩)⟩
  · skip
    refine m_if_eq (tgt := 18) hx hb dX10_sheetAt_6 (by decide) (fun c_6 => ?_) (fun c_6 => ?_)
    · skip
      refine lv_null hx hb dX10_sheetAt_18 ?_
      refine W.eq (g2 := F0 m 19 ls [va_rf (Option.map ad (none))]) rfl ?_
      exact m_aret S hr hlk hW dX10_sheetAt_19 ⟨rfl, (by exact Or.inr ⟨rfl, w_4⟩)⟩
    · exact absurd c_6 (by decide)
set_option maxHeartbeats 4000000 in
set_option maxRecDepth 100000 in
theorem c_X10_refusalOfDay (l : Launch) (G : mG) (ad : Nat → Nat) (sh : Nat → Option mSh) (V : mV) (q : Sg) (x : Int32) (hX : XI sh V q) : mM l yX10_refusalOfDay wsX10_refusalOfDay ({ frames := 10, cells := 0, slots := 0, locals := 300 } : Room) G ad sh V [.ref (ad 0), .int x] 0 0 (mPip ad sh V (fun r => (∃ (k : Nat), nI 0 = r ∧ (x = nI k) ∧ (k < 4) ∧ (¬ gSo q k = -1) ∧ (gSz q k % 3 = 0) ∧ (fDayB (gCl q k) (gNe q) (gNg q) (gSz q k / 3) = true) ∧ (aRef q x = nI 0)) ∨ (-2 = r ∧ (aRef q x = -2)) ∨ (-11 = r ∧ (aRef q x = -11)))) := by
  refine mM.of (cc := cX10_refusalOfDay) (maxL := 4) (ret := (some .int)) (by decide) rfl (Nat.le_of_ble_eq_true rfl) ?_
  intro p e s m below meth c S hr hlk hnm hW ls hl
  obtain ⟨hx, hb, hml, hown, hts⟩ := id S
  have hl : lv_has ls 4 [(0, .ref (ad 0)), (1, .int x)] := hl
  have hS0 : True := trivial
  have hne5 := hX.ne5
  have hng6 := hX.ng6
  have htn := hX.tn
  refine lv_aload_n hx hb dX10_refusalOfDay_0 rfl (lv_at hl 0 rfl) ?_
  refine lv_iload_n hx hb dX10_refusalOfDay_1 rfl (lv_at hl 1 rfl) ?_
  refine m_crp (m_rV S hW (c_X10_sheetAt l G ad sh V q x hX) (cwV 1 hts (gCall [.methodLink RX10 270 yX10_sheetAt, .instanceMethod yX10_sheetAt, .selects RX10 yX10_sheetAt yX10_sheetAt, .initialized RX10] (List.forall_mem_cons.mpr ⟨(wa_39 _ (List.mem_of_getElem? (i := 0) (by decide +kernel))), (List.forall_mem_cons.mpr ⟨(wa_38 _ (List.mem_of_getElem? (i := 21) (by decide +kernel))), (List.forall_mem_cons.mpr ⟨(wa_38 _ (List.mem_of_getElem? (i := 22) (by decide +kernel))), (List.forall_mem_cons.mpr ⟨(wa_38 _ (List.mem_of_getElem? (i := 23) (by decide +kernel))), (List.forall_mem_cons.mpr ⟨(wa_1 _ (List.mem_of_getElem? (i := 2) (by decide +kernel))), (fun _ h => absurd h List.not_mem_nil)⟩)⟩)⟩)⟩)⟩)) rfl rfl rfl (by decide +kernel) ⟨by dsimp only; omega, by dsimp only; omega⟩) hX.sp.1 kX10 rfl hl.1 rfl (Nat.le_of_ble_eq_true rfl) dX10_refusalOfDay_2 ⟨Nat.le_of_ble_eq_true rfl, Nat.le_of_ble_eq_true rfl⟩) hW (fun r_2 H locs hp_1 hW => ?_)
  rcases hp_1 with ⟨k_3, rfl, hxk_4, hk4_5⟩ | ⟨rfl, hx0_6⟩
  · skip
    refine W.eq (g2 := F0 m 5 ls [.ref (ad (11 + k_3))]) rfl ?_
    have hpx : mIn x 0 4 := by rw [hxk_4]; exact (mIn_nI (by omega)).mpr ⟨Nat.zero_le _, hk4_5⟩
    have hcx : x.toNatClampNeg = k_3 := by rw [hxk_4]; exact nI_clamp (by omega)
    have hsl := hX.sl hk4_5
    refine lv_astore_n (lv' := [(2, .ref (ad (11 + k_3))), (0, .ref (ad 0)), (1, .int x)]) hx hb dX10_refusalOfDay_5 rfl hl (by decide) rfl (fun ls hl => ?_)
    refine lv_aload_n hx hb dX10_refusalOfDay_6 rfl (lv_at hl 0 rfl) ?_
    refine lv_ifnonnull (tgt := 13) hx hb dX10_refusalOfDay_7 (by decide) ?_
    refine lv_aload_n hx hb dX10_refusalOfDay_13 rfl (lv_at hl 0 rfl) ?_
    refine m_geti S hW (hX.sp.2.2.2.2.2.2.1.2 k_3 hk4_5).1 0 rfl kX5 (iW5 _) (by decide) (List.mem_cons_of_mem _ (wa_38 _ (List.mem_of_getElem? (i := 18) (by decide +kernel)))) dX10_refusalOfDay_14 ?_
    refine m_top (y := gSo q k_3) (hX.so hk4_5) ?_
    refine lv_iconst (v := -1) hx hb dX10_refusalOfDay_17 (by decide) ?_
    refine lv_icmp_ne (tgt := 24) hx hb dX10_refusalOfDay_18 (by decide) (fun c_7 => ?_) (fun c_7 => ?_)
    · skip
      refine lv_aload_n hx hb dX10_refusalOfDay_24 rfl (lv_at hl 0 rfl) ?_
      refine m_geti S hW (hX.sp.2.2.2.2.2.2.1.2 k_3 hk4_5).1 1 rfl kX5 (iW5 _) (by decide) (List.mem_cons_of_mem _ (wa_38 _ (List.mem_of_getElem? (i := 19) (by decide +kernel)))) dX10_refusalOfDay_25 ?_
      refine m_top (y := nI (gSz q k_3)) (hX.ss hk4_5) ?_
      refine lv_iconst (v := nI 3) hx hb dX10_refusalOfDay_28 (by decide) ?_
      refine lv_irem hx hb dX10_refusalOfDay_29 (by decide) ?_
      refine m_top (y := nI ((gSz q k_3) % 3)) (pk_rem (by omega) (by omega) (by omega)) ?_
      refine m_if_eq (tgt := 36) hx hb dX10_refusalOfDay_30 (by decide) (fun c_8 => ?_) (fun c_8 => ?_)
      · skip
        have c_8 : ((gSz q k_3) % 3) = 0 := (nI_eq (by omega) (by omega)).mp c_8
        refine lv_iconst (v := nI 0) hx hb dX10_refusalOfDay_36 (by decide) ?_
        refine lv_istore_n (lv' := [(3, .int (nI 0)), (2, .ref (ad (11 + k_3))), (0, .ref (ad 0)), (1, .int x)]) hx hb dX10_refusalOfDay_37 rfl hl (by decide) rfl (fun ls hl => ?_)
        have loop_38 : ∀ (n_38 : Nat) (dk : Nat) (H : Heap) (locs : List Loc) (ls : Array Slot), (3 * dk ≤ gSz q k_3) → (fDayB (gCl q k_3) (gNe q) (gNg q) dk = true) → (42 - 3 * dk) < n_38 → mC (mA ad sh s.heap.size) s.heap s G ad sh V H locs → lv_has ls 4 [(2, .ref (ad (11 + k_3))), (0, .ref (ad 0)), (1, .int x), (3, .int (nI (3 * dk)))] → W p l e ({ frames := 10, cells := 0, slots := 0, locals := 300 } : Room) s m ([.ref (ad 0), .int x] : List Value).toArray below meth c H locs 0 0 (MQ below (mPost G ad sh s.heap.size (mPip ad sh V (fun r => (∃ (k : Nat), nI 0 = r ∧ (x = nI k) ∧ (k < 4) ∧ (¬ gSo q k = -1) ∧ (gSz q k % 3 = 0) ∧ (fDayB (gCl q k) (gNe q) (gNg q) (gSz q k / 3) = true) ∧ (aRef q x = nI 0)) ∨ (-2 = r ∧ (aRef q x = -2)) ∨ (-11 = r ∧ (aRef q x = -11))))) ([.ref (ad 0), .int x] : List Value).toArray s 0 0 (mA ad sh s.heap.size)) (F0 m 38 ls []) := by
          intro n_38
          induction n_38 with
          | zero => intro dk H locs ls hk hdb hM_ hW hl; omega
          | succ n_38 ih_38 =>
            intro dk H locs ls hk hdb hM_ hW hl
            refine lv_iload_n hx hb dX10_refusalOfDay_38 rfl (lv_at hl 3 rfl) ?_
            refine lv_iconst (v := nI 2) hx hb dX10_refusalOfDay_39 (by decide) ?_
            refine lv_iadd hx hb dX10_refusalOfDay_40 ?_
            refine m_top (y := nI ((3 * dk) + 2)) (nI_add (3 * dk) 2) ?_
            refine lv_aload_n hx hb dX10_refusalOfDay_41 rfl (lv_at hl 0 rfl) ?_
            refine m_geti S hW (hX.sp.2.2.2.2.2.2.1.2 k_3 hk4_5).1 1 rfl kX5 (iW5 _) (by decide) (List.mem_cons_of_mem _ (wa_38 _ (List.mem_of_getElem? (i := 19) (by decide +kernel)))) dX10_refusalOfDay_42 ?_
            refine m_top (y := nI (gSz q k_3)) (hX.ss hk4_5) ?_
            refine lv_icmp_ge (tgt := 105) hx hb dX10_refusalOfDay_45 (by decide) (fun c_9 => ?_) (fun c_9 => ?_)
            · skip
              have c_9 : (gSz q k_3) ≤ ((3 * dk) + 2) := (nI_leI (by omega) (by omega)).mp c_9
              refine lv_iconst (v := nI 0) hx hb dX10_refusalOfDay_105 (by decide) ?_
              exact m_iret S hr hlk hW dX10_refusalOfDay_106 ⟨rfl, (by have hdz : gSz q k_3 / 3 = dk := (by omega); exact Or.inl ⟨k_3, rfl, hxk_4, hk4_5, c_7, by omega, by rw [hdz]; exact hdb, by simp only [aRef, if_pos hpx, hcx, if_neg c_7, if_pos (show gSz q k_3 % 3 = 0 by omega), hdz, if_pos hdb]⟩)⟩
            · skip
              have c_9 : ¬ (gSz q k_3) ≤ ((3 * dk) + 2) := mt (nI_leI (by omega) (by omega)).mpr c_9
              refine lv_aload_n hx hb dX10_refusalOfDay_48 rfl (lv_at hl 1 rfl) ?_
              refine m_getr S hW hX.sp.1 3 rfl (j := 20) rfl kX10 (iW10 _) (by decide) (List.mem_cons_of_mem _ (wa_2 _ (List.mem_of_getElem? (i := 8) (by decide +kernel)))) dX10_refusalOfDay_49 ?_
              refine lv_aload_n hx hb dX10_refusalOfDay_52 rfl (lv_at hl 0 rfl) ?_
              refine m_getr S hW (hX.sp.2.2.2.2.2.2.1.2 k_3 hk4_5).1 2 rfl (j := ((11 + k_3) + 4)) rfl kX5 (iW5 _) (by decide) (List.mem_cons_of_mem _ (wa_38 _ (List.mem_of_getElem? (i := 20) (by decide +kernel)))) dX10_refusalOfDay_53 ?_
              refine lv_iload_n hx hb dX10_refusalOfDay_56 rfl (lv_at hl 3 rfl) ?_
              refine m_iald S hW (show sh (11 + k_3 + 4) = some (mI 40) by rw [show 11 + k_3 + 4 = 15 + k_3 by omega]; exact (hX.sp.2.2.2.2.2.2.1.2 k_3 hk4_5).2) (3 * dk) rfl (by omega) (by decide) dX10_refusalOfDay_57 ?_
              refine m_top (y := gCl q k_3 (3 * dk)) (hX.sc4 hk4_5 (by omega)) ?_
              refine m_crp (m_rV S hW (c_X4_eaterAt l G ad sh V 20 (110 + 3 * gRl q) ((gT q (gRl q)).2.1) ((gT q (gRl q)).2.2) ((gT q (gRl q)).1.length) (gNe q) (gNg q) (gCl q k_3 (3 * dk)) hX.sz.1 hX.sz.2.1) (cwV 1 hts (gCall [.methodLink RX10 120 yX4_eaterAt, .instanceMethod yX4_eaterAt, .selects RX4 yX4_eaterAt yX4_eaterAt, .initialized RX4] (List.forall_mem_cons.mpr ⟨(wa_17 _ (List.mem_of_getElem? (i := 8) (by decide +kernel))), (List.forall_mem_cons.mpr ⟨(wa_17 _ (List.mem_of_getElem? (i := 5) (by decide +kernel))), (List.forall_mem_cons.mpr ⟨(wa_17 _ (List.mem_of_getElem? (i := 6) (by decide +kernel))), (List.forall_mem_cons.mpr ⟨(wa_17 _ (List.mem_of_getElem? (i := 7) (by decide +kernel))), (List.forall_mem_cons.mpr ⟨(wa_2 _ (List.mem_of_getElem? (i := 7) (by decide +kernel))), (fun _ h => absurd h List.not_mem_nil)⟩)⟩)⟩)⟩)⟩)) rfl rfl rfl (by decide +kernel) ⟨by dsimp only; omega, by dsimp only; omega⟩) hX.sz.1.1 kX4 rfl hl.1 rfl (Nat.le_of_ble_eq_true rfl) dX10_refusalOfDay_58 ⟨Nat.le_of_ble_eq_true rfl, Nat.le_of_ble_eq_true rfl⟩) hW (fun r_11 H locs hp_10 hW => ?_)
              rcases hp_10 with ⟨n_12, rfl, hxn_13, hn_14⟩ | ⟨rfl, hx0_15⟩
              · skip
                refine W.eq (g2 := F0 m 61 ls [.ref (ad (20 + 4 + n_12))]) rfl ?_
                have hm1 : mIn (gCl q k_3 (3 * dk)) 0 (gNe q) := by rw [hxn_13]; exact (mIn_nI (by omega)).mpr ⟨Nat.zero_le _, hn_14⟩
                refine lv_ifnull hx hb dX10_refusalOfDay_61 ?_
                refine lv_aload_n hx hb dX10_refusalOfDay_64 rfl (lv_at hl 1 rfl) ?_
                refine m_getr S hW hX.sp.1 3 rfl (j := 20) rfl kX10 (iW10 _) (by decide) (List.mem_cons_of_mem _ (wa_2 _ (List.mem_of_getElem? (i := 8) (by decide +kernel)))) dX10_refusalOfDay_65 ?_
                refine lv_aload_n hx hb dX10_refusalOfDay_68 rfl (lv_at hl 0 rfl) ?_
                refine m_getr S hW (hX.sp.2.2.2.2.2.2.1.2 k_3 hk4_5).1 2 rfl (j := ((11 + k_3) + 4)) rfl kX5 (iW5 _) (by decide) (List.mem_cons_of_mem _ (wa_38 _ (List.mem_of_getElem? (i := 20) (by decide +kernel)))) dX10_refusalOfDay_69 ?_
                refine lv_iload_n hx hb dX10_refusalOfDay_72 rfl (lv_at hl 3 rfl) ?_
                refine lv_iconst (v := nI 1) hx hb dX10_refusalOfDay_73 (by decide) ?_
                refine lv_iadd hx hb dX10_refusalOfDay_74 ?_
                refine m_top (y := nI ((3 * dk) + 1)) (nI_add (3 * dk) 1) ?_
                refine m_iald S hW (show sh (11 + k_3 + 4) = some (mI 40) by rw [show 11 + k_3 + 4 = 15 + k_3 by omega]; exact (hX.sp.2.2.2.2.2.2.1.2 k_3 hk4_5).2) ((3 * dk) + 1) rfl (by omega) (by decide) dX10_refusalOfDay_75 ?_
                refine m_top (y := gCl q k_3 (3 * dk + 1)) (hX.sc4 hk4_5 (by omega)) ?_
                refine m_crp (m_rV S hW (c_X4_goodAt l G ad sh V 20 (110 + 3 * gRl q) ((gT q (gRl q)).2.1) ((gT q (gRl q)).2.2) ((gT q (gRl q)).1.length) (gNe q) (gNg q) (gCl q k_3 (3 * dk + 1)) hX.sz.1 hX.sz.2.1) (cwV 1 hts (gCall [.methodLink RX10 124 yX4_goodAt, .instanceMethod yX4_goodAt, .selects RX4 yX4_goodAt yX4_goodAt, .initialized RX4] (List.forall_mem_cons.mpr ⟨(wa_17 _ (List.mem_of_getElem? (i := 13) (by decide +kernel))), (List.forall_mem_cons.mpr ⟨(wa_17 _ (List.mem_of_getElem? (i := 10) (by decide +kernel))), (List.forall_mem_cons.mpr ⟨(wa_17 _ (List.mem_of_getElem? (i := 11) (by decide +kernel))), (List.forall_mem_cons.mpr ⟨(wa_17 _ (List.mem_of_getElem? (i := 12) (by decide +kernel))), (List.forall_mem_cons.mpr ⟨(wa_2 _ (List.mem_of_getElem? (i := 7) (by decide +kernel))), (fun _ h => absurd h List.not_mem_nil)⟩)⟩)⟩)⟩)⟩)) rfl rfl rfl (by decide +kernel) ⟨by dsimp only; omega, by dsimp only; omega⟩) hX.sz.1.1 kX4 rfl hl.1 rfl (Nat.le_of_ble_eq_true rfl) dX10_refusalOfDay_76 ⟨Nat.le_of_ble_eq_true rfl, Nat.le_of_ble_eq_true rfl⟩) hW (fun r_17 H locs hp_16 hW => ?_)
                rcases hp_16 with ⟨n_18, rfl, hxn_19, hn_20⟩ | ⟨rfl, hx0_21⟩
                · skip
                  refine W.eq (g2 := F0 m 79 ls [.ref (ad (20 + 10 + 2 * n_18))]) rfl ?_
                  have hm2 : mIn (gCl q k_3 (3 * dk + 1)) 0 (gNg q) := by rw [hxn_19]; exact (mIn_nI (by omega)).mpr ⟨Nat.zero_le _, hn_20⟩
                  refine lv_ifnull hx hb dX10_refusalOfDay_79 ?_
                  refine lv_aload_n hx hb dX10_refusalOfDay_82 rfl (lv_at hl 0 rfl) ?_
                  refine m_getr S hW (hX.sp.2.2.2.2.2.2.1.2 k_3 hk4_5).1 2 rfl (j := ((11 + k_3) + 4)) rfl kX5 (iW5 _) (by decide) (List.mem_cons_of_mem _ (wa_38 _ (List.mem_of_getElem? (i := 20) (by decide +kernel)))) dX10_refusalOfDay_83 ?_
                  refine lv_iload_n hx hb dX10_refusalOfDay_86 rfl (lv_at hl 3 rfl) ?_
                  refine lv_iconst (v := nI 2) hx hb dX10_refusalOfDay_87 (by decide) ?_
                  refine lv_iadd hx hb dX10_refusalOfDay_88 ?_
                  refine m_top (y := nI ((3 * dk) + 2)) (nI_add (3 * dk) 2) ?_
                  refine m_iald S hW (show sh (11 + k_3 + 4) = some (mI 40) by rw [show 11 + k_3 + 4 = 15 + k_3 by omega]; exact (hX.sp.2.2.2.2.2.2.1.2 k_3 hk4_5).2) ((3 * dk) + 2) rfl (by omega) (by decide) dX10_refusalOfDay_89 ?_
                  refine m_top (y := gCl q k_3 (3 * dk + 2)) (hX.sc4 hk4_5 (by omega)) ?_
                  refine m_cip (m_rS S hW (c_X10_isPlace l G ad sh V (gCl q k_3 (3 * dk + 2))) (va_cwS 1 hts (gCall [.methodLink RX10 173 yX10_isPlace, .static yX10_isPlace, .initialized RX10] (List.forall_mem_cons.mpr ⟨(wa_25 _ (List.mem_of_getElem? (i := 3) (by decide +kernel))), (List.forall_mem_cons.mpr ⟨(wa_25 _ (List.mem_of_getElem? (i := 1) (by decide +kernel))), (List.forall_mem_cons.mpr ⟨(wa_25 _ (List.mem_of_getElem? (i := 2) (by decide +kernel))), (List.forall_mem_cons.mpr ⟨(wa_1 _ (List.mem_of_getElem? (i := 2) (by decide +kernel))), (fun _ h => absurd h List.not_mem_nil)⟩)⟩)⟩)⟩)) rfl rfl rfl (by decide +kernel) ⟨by dsimp only; omega, by dsimp only; omega⟩) rfl hl.1 rfl (Nat.le_of_ble_eq_true rfl) dX10_refusalOfDay_90 ⟨Nat.le_of_ble_eq_true rfl, Nat.le_of_ble_eq_true rfl⟩) hW (fun r_23 H locs hp_22 hW => ?_)
                  rcases hp_22 with ⟨rfl, w_24⟩ | ⟨rfl, w_25⟩
                  · skip
                    refine m_if_ne (tgt := 99) hx hb dX10_refusalOfDay_93 (by decide) (fun c_26 => ?_) (fun c_26 => ?_)
                    · skip
                      refine lv_iinc (v := nI (3 * dk + 3)) (lv' := [(3, .int (nI (3 * dk + 3))), (2, .ref (ad (11 + k_3))), (0, .ref (ad 0)), (1, .int x)]) hx hb dX10_refusalOfDay_99 hl (k := 3) rfl (m_inc (3 * dk) 3) (by decide) rfl (fun ls hl => ?_)
                      refine lv_goto (tgt := 38) hx hb dX10_refusalOfDay_102 (by decide) ?_
                      exact ih_38  (dk + 1)  _ _ _ (by omega) (by exact fDayB_s hdb hm1 hm2 w_24) (by omega) hW (lv_sub hl [1, 2, 3, 0] rfl)
                    · exact absurd c_26 (by decide)
                  · skip
                    refine m_if_ne (tgt := 99) hx hb dX10_refusalOfDay_93 (by decide) (fun c_27 => ?_) (fun c_27 => ?_)
                    · exact absurd c_27 (by decide)
                    · skip
                      refine lv_bipush (v := -2) hx hb dX10_refusalOfDay_96 (by decide) ?_
                      have hnd : ¬ fDayB (gCl q k_3) (gNe q) (gNg q) (gSz q k_3 / 3) = true := fDayB_f (k := dk) (fun z => w_25 z.2.2) (by omega)
                      exact m_iret S hr hlk hW dX10_refusalOfDay_98 ⟨rfl, (by exact Or.inr (Or.inl ⟨rfl, by simp only [aRef, if_pos hpx, hcx, if_neg c_7, if_pos (show gSz q k_3 % 3 = 0 by omega), if_neg hnd]⟩))⟩
                · skip
                  refine W.eq (g2 := F0 m 79 ls [.null]) rfl ?_
                  refine lv_ifnullN (tgt := 96) hx hb dX10_refusalOfDay_79 (by decide) ?_
                  refine lv_bipush (v := -2) hx hb dX10_refusalOfDay_96 (by decide) ?_
                  have hnd : ¬ fDayB (gCl q k_3) (gNe q) (gNg q) (gSz q k_3 / 3) = true := fDayB_f (k := dk) (fun z => hx0_21 z.2.1) (by omega)
                  exact m_iret S hr hlk hW dX10_refusalOfDay_98 ⟨rfl, (by exact Or.inr (Or.inl ⟨rfl, by simp only [aRef, if_pos hpx, hcx, if_neg c_7, if_pos (show gSz q k_3 % 3 = 0 by omega), if_neg hnd]⟩))⟩
              · skip
                refine W.eq (g2 := F0 m 61 ls [.null]) rfl ?_
                refine lv_ifnullN (tgt := 96) hx hb dX10_refusalOfDay_61 (by decide) ?_
                refine lv_bipush (v := -2) hx hb dX10_refusalOfDay_96 (by decide) ?_
                have hnd : ¬ fDayB (gCl q k_3) (gNe q) (gNg q) (gSz q k_3 / 3) = true := fDayB_f (k := dk) (fun z => hx0_15 z.1) (by omega)
                exact m_iret S hr hlk hW dX10_refusalOfDay_98 ⟨rfl, (by exact Or.inr (Or.inl ⟨rfl, by simp only [aRef, if_pos hpx, hcx, if_neg c_7, if_pos (show gSz q k_3 % 3 = 0 by omega), if_neg hnd]⟩))⟩
        exact loop_38 (42 - 3 * 0 + 1) 0  _ _ _ (by omega) (by rfl) (by omega) hW (lv_sub hl [1, 2, 3, 0] rfl)
      · skip
        have c_8 : ¬ ((gSz q k_3) % 3) = 0 := mt (nI_eq (by omega) (by omega)).mpr c_8
        refine lv_bipush (v := -2) hx hb dX10_refusalOfDay_33 (by decide) ?_
        exact m_iret S hr hlk hW dX10_refusalOfDay_35 ⟨rfl, (by exact Or.inr (Or.inl ⟨rfl, by simp only [aRef, if_pos hpx, hcx, if_neg c_7, if_neg c_8]; try rfl⟩))⟩
    · skip
      refine lv_bipush (v := -11) hx hb dX10_refusalOfDay_21 (by decide) ?_
      exact m_iret S hr hlk hW dX10_refusalOfDay_23 ⟨rfl, (by exact Or.inr (Or.inr ⟨rfl, by simp only [aRef, if_pos hpx, hcx, if_pos c_7]⟩))⟩
  · skip
    refine W.eq (g2 := F0 m 5 ls [.null]) rfl ?_
    refine lv_astore_nN (lv' := [(2, .null), (0, .ref (ad 0)), (1, .int x)]) hx hb dX10_refusalOfDay_5 rfl hl (by decide) rfl (fun ls hl => ?_)
    refine lv_aload_nN hx hb dX10_refusalOfDay_6 rfl (lv_at hl 0 rfl) ?_
    refine lv_ifnonnullN hx hb dX10_refusalOfDay_7 ?_
    refine lv_bipush (v := -2) hx hb dX10_refusalOfDay_10 (by decide) ?_
    exact m_iret S hr hlk hW dX10_refusalOfDay_12 ⟨rfl, (by exact Or.inr (Or.inl ⟨rfl, by simp only [aRef, if_neg hx0_6]; try rfl⟩))⟩
set_option maxHeartbeats 4000000 in
set_option maxRecDepth 100000 in
theorem c_X10_judge (l : Launch) (G : mG) (ad : Nat → Nat) (sh : Nat → Option mSh) (V : mV) (q : Sg) (x : Int32) (hX : XI sh V q) : mM l yX10_judge wsX10_judge ({ frames := 40, cells := 0, slots := 0, locals := 1200 } : Room) G ad sh V [.ref (ad 0), .int x] 0 0 (mPi ad sh (fun r V' => (aJudge q x) = r ∧ (XK V V'))) := by
  refine mM.of (cc := cX10_judge) (maxL := 3) (ret := (some .int)) (by decide) rfl (Nat.le_of_ble_eq_true rfl) ?_
  intro p e s m below meth c S hr hlk hnm hW ls hl
  obtain ⟨hx, hb, hml, hown, hts⟩ := id S
  have hl : lv_has ls 3 [(0, .ref (ad 0)), (1, .int x)] := hl
  have hS0 : True := trivial
  have hne5 := hX.ne5
  have hng6 := hX.ng6
  have htn := hX.tn
  refine lv_aload_n hx hb dX10_judge_0 rfl (lv_at hl 0 rfl) ?_
  refine lv_iload_n hx hb dX10_judge_1 rfl (lv_at hl 1 rfl) ?_
  refine m_cip (m_rV S hW (c_X10_refusalOfDay l G ad sh V q x hX) (cwV 1 hts (gCall [.methodLink RX10 263 yX10_refusalOfDay, .instanceMethod yX10_refusalOfDay, .selects RX10 yX10_refusalOfDay yX10_refusalOfDay, .initialized RX10] (List.forall_mem_cons.mpr ⟨(wa_38 _ (List.mem_of_getElem? (i := 17) (by decide +kernel))), (List.forall_mem_cons.mpr ⟨(wa_38 _ (List.mem_of_getElem? (i := 14) (by decide +kernel))), (List.forall_mem_cons.mpr ⟨(wa_38 _ (List.mem_of_getElem? (i := 15) (by decide +kernel))), (List.forall_mem_cons.mpr ⟨(wa_38 _ (List.mem_of_getElem? (i := 16) (by decide +kernel))), (List.forall_mem_cons.mpr ⟨(wa_1 _ (List.mem_of_getElem? (i := 2) (by decide +kernel))), (fun _ h => absurd h List.not_mem_nil)⟩)⟩)⟩)⟩)⟩)) rfl rfl rfl (by decide +kernel) ⟨by dsimp only; omega, by dsimp only; omega⟩) hX.sp.1 kX10 rfl hl.1 rfl (Nat.le_of_ble_eq_true rfl) dX10_judge_2 ⟨Nat.le_of_ble_eq_true rfl, Nat.le_of_ble_eq_true rfl⟩) hW (fun r_2 H locs hp_1 hW => ?_)
  rcases hp_1 with ⟨k_3, rfl, hxk_4, hk4_5, hso_6, h3_7, hdb_8, hr_9⟩ | ⟨rfl, hr_10⟩ | ⟨rfl, hr_11⟩
  · skip
    have hcx : x.toNatClampNeg = k_3 := by rw [hxk_4]; exact nI_clamp (by omega)
    have hsl := hX.sl hk4_5
    refine lv_istore_n (lv' := [(2, .int (nI 0)), (0, .ref (ad 0)), (1, .int x)]) hx hb dX10_judge_5 rfl hl (by decide) rfl (fun ls hl => ?_)
    refine lv_iload_n hx hb dX10_judge_6 rfl (lv_at hl 0 rfl) ?_
    refine m_if_eq (tgt := 12) hx hb dX10_judge_7 (by decide) (fun c_12 => ?_) (fun c_12 => ?_)
    · skip
      refine lv_aload_n hx hb dX10_judge_12 rfl (lv_at hl 1 rfl) ?_
      refine m_getr S hW hX.sp.1 6 rfl (j := 5) rfl kX10 (iW10 _) (by decide) (List.mem_cons_of_mem _ (wa_2 _ (List.mem_of_getElem? (i := 13) (by decide +kernel)))) dX10_judge_13 ?_
      refine lv_aload_n hx hb dX10_judge_16 rfl (lv_at hl 1 rfl) ?_
      refine m_getr S hW hX.sp.1 3 rfl (j := 20) rfl kX10 (iW10 _) (by decide) (List.mem_cons_of_mem _ (wa_2 _ (List.mem_of_getElem? (i := 8) (by decide +kernel)))) dX10_judge_17 ?_
      refine m_cv (m_rV S hW (c_X8_startFrom_x l G ad sh V q (by first | assumption | omega)) (cwV 1 hts (gCall [.methodLink RX10 201 yX8_startFrom, .instanceMethod yX8_startFrom, .selects RX8 yX8_startFrom yX8_startFrom, .initialized RX8] (List.forall_mem_cons.mpr ⟨(wa_30 _ (List.mem_of_getElem? (i := 5) (by decide +kernel))), (List.forall_mem_cons.mpr ⟨(wa_30 _ (List.mem_of_getElem? (i := 2) (by decide +kernel))), (List.forall_mem_cons.mpr ⟨(wa_30 _ (List.mem_of_getElem? (i := 3) (by decide +kernel))), (List.forall_mem_cons.mpr ⟨(wa_30 _ (List.mem_of_getElem? (i := 4) (by decide +kernel))), (List.forall_mem_cons.mpr ⟨(wa_2 _ (List.mem_of_getElem? (i := 12) (by decide +kernel))), (fun _ h => absurd h List.not_mem_nil)⟩)⟩)⟩)⟩)⟩)) rfl rfl rfl (by decide +kernel) ⟨by dsimp only; omega, by dsimp only; omega⟩) hX.sp.2.2.2.1 kX8 rfl hl.1 rfl (Nat.le_of_ble_eq_true rfl) dX10_judge_20 ⟨Nat.le_of_ble_eq_true rfl, Nat.le_of_ble_eq_true rfl⟩) hW (fun V_13 H locs hp_14 hW => ?_)
      obtain ⟨hQ_16, hK_17, h51_18, h52_19⟩ := hp_14
      have hX1 := hX.k hK_17
      have hH1 : ThOk sh V_13 (110 + 3 * gRl q) (gT q (gRl q)).2.1 (gT q (gRl q)).2.2 (gT q (gRl q)).1.length (gNe q) (gNg q) (gAsk q) (gZ q) := hX1.th hQ_16 hX.rl
      have hK1 := hK_17
      refine lv_aload_n hx hb dX10_judge_23 rfl (lv_at hl 1 rfl) ?_
      refine m_getr S hW hX.sp.1 6 rfl (j := 5) rfl kX10 (iW10 _) (by decide) (List.mem_cons_of_mem _ (wa_2 _ (List.mem_of_getElem? (i := 13) (by decide +kernel)))) dX10_judge_24 ?_
      refine lv_aload_n hx hb dX10_judge_27 rfl (lv_at hl 1 rfl) ?_
      refine m_getr S hW hX.sp.1 9 rfl (j := 10) rfl kX10 (iW10 _) (by decide) (List.mem_cons_of_mem _ (wa_2 _ (List.mem_of_getElem? (i := 3) (by decide +kernel)))) dX10_judge_28 ?_
      refine lv_iload_n hx hb dX10_judge_31 rfl (lv_at hl 2 rfl) ?_
      refine m_aald S hW 3 rfl hX.sp.2.2.2.2.2.2.1.1 k_3 hxk_4 (by omega) (by decide) (j := (11 + k_3)) (if_pos (by omega)) dX10_judge_32 ?_
      refine m_ci (m_rV S hW (c_X8_followDay l G ad sh V_13 (110 + 3 * gRl q) ((gT q (gRl q)).2.1) ((gT q (gRl q)).2.2) ((gT q (gRl q)).1.length) (gNe q) (gNg q) (gAsk q) (gZ q) (11 + k_3) (gSz q k_3) hH1 ((hX.sp.2.2.2.2.2.2.1.2 k_3 (by omega)).1) (show sh (11 + k_3 + 4) = some (mI 40) by rw [show 11 + k_3 + 4 = 15 + k_3 by omega]; exact (hX.sp.2.2.2.2.2.2.1.2 k_3 (by omega)).2) (by omega) (hX1.ss hk4_5) hsl h3_7 (hX1.day hk4_5 hdb_8)) (cwV 1 hts (gCall [.methodLink RX10 266 yX8_followDay, .instanceMethod yX8_followDay, .selects RX8 yX8_followDay yX8_followDay, .initialized RX8] (List.forall_mem_cons.mpr ⟨(wa_39 _ (List.mem_of_getElem? (i := 4) (by decide +kernel))), (List.forall_mem_cons.mpr ⟨(wa_39 _ (List.mem_of_getElem? (i := 1) (by decide +kernel))), (List.forall_mem_cons.mpr ⟨(wa_39 _ (List.mem_of_getElem? (i := 2) (by decide +kernel))), (List.forall_mem_cons.mpr ⟨(wa_39 _ (List.mem_of_getElem? (i := 3) (by decide +kernel))), (List.forall_mem_cons.mpr ⟨(wa_2 _ (List.mem_of_getElem? (i := 12) (by decide +kernel))), (fun _ h => absurd h List.not_mem_nil)⟩)⟩)⟩)⟩)⟩)) rfl rfl rfl (by decide +kernel) ⟨by dsimp only; omega, by dsimp only; omega⟩) hX.sp.2.2.2.1 kX8 rfl hl.1 rfl (Nat.le_of_ble_eq_true rfl) dX10_judge_33 ⟨Nat.le_of_ble_eq_true rfl, Nat.le_of_ble_eq_true rfl⟩) hW (fun r_22 V_20 H locs hp_21 hW => ?_)
      obtain ⟨rfl, hH_23, hfd_24⟩ := hp_21
      exact m_iret S hr hlk hW dX10_judge_36 (by exact ⟨by simp only [aJudge, if_pos hr_9, hcx]; rw [hX1.dayz hk4_5]; rfl, hK1.td hfd_24⟩)
    · exact absurd c_12 (by decide)
  · skip
    refine lv_istore_n (lv' := [(2, .int (-2)), (0, .ref (ad 0)), (1, .int x)]) hx hb dX10_judge_5 rfl hl (by decide) rfl (fun ls hl => ?_)
    refine lv_iload_n hx hb dX10_judge_6 rfl (lv_at hl 0 rfl) ?_
    refine m_if_eq (tgt := 12) hx hb dX10_judge_7 (by decide) (fun c_25 => ?_) (fun c_25 => ?_)
    · exact absurd c_25 (by decide)
    · skip
      refine lv_iload_n hx hb dX10_judge_10 rfl (lv_at hl 0 rfl) ?_
      exact m_iret S hr hlk hW dX10_judge_11 (by exact ⟨by simp only [aJudge, hr_10, if_neg (show ¬ (-2 : Int32) = nI 0 by decide)], XK.rfl V⟩)
  · skip
    refine lv_istore_n (lv' := [(2, .int (-11)), (0, .ref (ad 0)), (1, .int x)]) hx hb dX10_judge_5 rfl hl (by decide) rfl (fun ls hl => ?_)
    refine lv_iload_n hx hb dX10_judge_6 rfl (lv_at hl 0 rfl) ?_
    refine m_if_eq (tgt := 12) hx hb dX10_judge_7 (by decide) (fun c_26 => ?_) (fun c_26 => ?_)
    · exact absurd c_26 (by decide)
    · skip
      refine lv_iload_n hx hb dX10_judge_10 rfl (lv_at hl 0 rfl) ?_
      exact m_iret S hr hlk hW dX10_judge_11 (by exact ⟨by simp only [aJudge, hr_11, if_neg (show ¬ (-11 : Int32) = nI 0 by decide)], XK.rfl V⟩)
