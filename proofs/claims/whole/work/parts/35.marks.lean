/-! soonest, marks, laws -/
theorem zv_g2 {V : mV} {b ne ng g k : Nat} {z : fZ} (h : z = zv V b ne ng) (hg : g < ng) (hk : k = 1 ∨ k = 2) : z (10 + 2 * g) k = V (b + 10 + 2 * g) k := by
  rw [h]
  exact zv_g V b ne k hg hk
theorem ScQ.rl {V : mV} {b : Nat} {z : fZ} {ne ng r : Nat} (h : ScQ V b (z, ne, ng, r)) (k : Nat) : ScQ (mU V b 5 (nI k)) b (z, ne, ng, k) := by
  obtain ⟨a1, a2, a3, a4, a5, a6⟩ := h
  refine ⟨by rw [mU_ne _ _ (by omega)]; exact a1, by rw [mU_ne _ _ (by omega)]; exact a2, a3, a4, mU_eq _ _ _ _, a6.trans (zv_congr (by rw [mU_ne _ _ (by omega)]) (fun e k he hk => by rw [mU_no _ _ (by omega)]) (fun g k hg hk => by rw [mU_no _ _ (by omega)]) (fun g k hg hk => by rw [mU_no _ _ (by omega)])).symm⟩
theorem fBitsOf_t {P : Nat → Bool} {k : Nat} (h : P k = true) : fBitsOf P (k + 1) = fBitsOf P k ||| (nI 1 <<< (nI k &&& 31)) := by rw [fBitsOf, if_pos h]
theorem fBitsOf_f {P : Nat → Bool} {k : Nat} (h : ¬ P k = true) : fBitsOf P (k + 1) = fBitsOf P k := by rw [fBitsOf, if_neg h]
def zFew (z : fZ) (u g : Nat) : Int32 := fFew (zSp z u g).toNatClampNeg (z (10 + 2 * g) 2).toNatClampNeg
def zSoon (z : fZ) (g : Nat) : Nat → Int32 × Int32
  | 0 => (-1, -1)
  | k + 1 => if nI 0 ≤ zFew z k g ∧ ((zSoon z g k).1 < nI 0 ∨ zFew z k g < (zSoon z g k).2) then (nI k, zFew z k g) else zSoon z g k
def aSoonest (q : Sg) (x w : Int32) : Int32 := if mIn x 0 (gNg q) then (if mIn w 0 2 then (if w = nI 0 then (zSoon (gZ q) x.toNatClampNeg (gNe q)).1 else (zSoon (gZ q) x.toNatClampNeg (gNe q)).2) else -7) else -5
abbrev zMkOk (z : fZ) (g : Nat) (x : Int32) : Prop := mIn x 1 1024 ∧ x &&& (z (10 + 2 * g) 2 ^^^ -1) = nI 0
def aWhose (q : Sg) (x y : Int32) : Int32 := if mIn x 0 (gNg q) then (if zMkOk (gZ q) x.toNatClampNeg y then fBitsOf (fun u => fCan (zSp (gZ q) u x.toNatClampNeg) (gZ q (10 + 2 * x.toNatClampNeg) 2) y) (gNe q) else -7) else -5
def zKd (z : fZ) (u g : Nat) (x : Int32) (n : Nat) : Bool := fCan (fShape (nI n) (z (4 + u) 1) (z (4 + u) 2) (z (10 + 2 * g) 1)) (z (10 + 2 * g) 2) x
def zMo (z : fZ) (u g : Nat) (x : Int32) (n : Nat) : Bool := fCan (fShape (z (4 + u) 0) (nI n) (z (4 + u) 2) (z (10 + 2 * g) 1)) (z (10 + 2 * g) 2) x
def zJw (z : fZ) (u g : Nat) (x : Int32) (n : Nat) : Bool := fCan (fShape (z (4 + u) 0) (z (4 + u) 1) (nI n) (z (10 + 2 * g) 1)) (z (10 + 2 * g) 2) x
def aKinds (q : Sg) (x y mk w : Int32) : Int32 := if mIn x 0 (gNe q) then (if mIn y 0 (gNg q) then (if zMkOk (gZ q) y.toNatClampNeg mk then (if w = nI 0 then fBitsOf (zKd (gZ q) x.toNatClampNeg y.toNatClampNeg mk) 6 else if w = nI 1 then fBitsOf (zMo (gZ q) x.toNatClampNeg y.toNatClampNeg mk) 10 else if w = nI 2 then nI (fCount (zJw (gZ q) x.toNatClampNeg y.toNatClampNeg mk) 63) else if w = nI 3 then fLeast (zJw (gZ q) x.toNatClampNeg y.toNatClampNeg mk) 63 1 else -7) else -7) else -5) else -6
section XKD
variable {sh : Nat → Option mSh} {V : mV} {q : Sg}
theorem XI.vKd (h : XI sh V q) {u g : Nat} (hu : u < gNe q) (hg : g < gNg q) (x : Int32) : (fun n => fCan (fShape (nI n) (V (20 + 4 + u) 1) (V (20 + 4 + u) 2) (V (20 + 10 + 2 * g) 1)) (V (20 + 10 + 2 * g) 2) x) = zKd (gZ q) u g x := by
  funext n
  rw [zKd, h.zE 1 hu (by omega), h.zE 2 hu (by omega), h.zG 1 hg (Or.inl rfl), h.zG 2 hg (Or.inr rfl)]
theorem XI.vMo (h : XI sh V q) {u g : Nat} (hu : u < gNe q) (hg : g < gNg q) (x : Int32) : (fun n => fCan (fShape (V (20 + 4 + u) 0) (nI n) (V (20 + 4 + u) 2) (V (20 + 10 + 2 * g) 1)) (V (20 + 10 + 2 * g) 2) x) = zMo (gZ q) u g x := by
  funext n
  rw [zMo, h.zE 0 hu (by omega), h.zE 2 hu (by omega), h.zG 1 hg (Or.inl rfl), h.zG 2 hg (Or.inr rfl)]
theorem XI.vJw (h : XI sh V q) {u g : Nat} (hu : u < gNe q) (hg : g < gNg q) (x : Int32) : (fun n => fCan (fShape (V (20 + 4 + u) 0) (V (20 + 4 + u) 1) (nI n) (V (20 + 10 + 2 * g) 1)) (V (20 + 10 + 2 * g) 2) x) = zJw (gZ q) u g x := by
  funext n
  rw [zJw, h.zE 0 hu (by omega), h.zE 1 hu (by omega), h.zG 1 hg (Or.inl rfl), h.zG 2 hg (Or.inr rfl)]
end XKD
theorem XK.fit {V V' : mV} (h : ∀ a, a ≠ 7 → V' a = V a) : XK V V' := ⟨fun a _ _ _ a7 _ _ _ => h a a7, fun k _ => by rw [h 20 (by omega)], by rw [h 9 (by omega)]⟩
theorem XK.cov {V V1 V2 : mV} (h : XK V V1) (hf : ∀ a, a ≠ 9 → V2 a = V1 a) (h9 : V2 9 0 = V1 9 0) : XK V V2 := h.trans ⟨fun a _ _ _ _ a9 _ _ => hf a a9, fun k _ => by rw [hf 20 (by omega)], h9⟩
set_option maxHeartbeats 4000000 in
set_option maxRecDepth 100000 in
theorem c_X10_ends (l : Launch) (G : mG) (ad : Nat → Nat) (sh : Nat → Option mSh) (V : mV) (q : Sg) (x y w : Int32) (hX : XI sh V q) : mM l yX10_ends wsX10_ends ({ frames := 40, cells := 0, slots := 0, locals := 1200 } : Room) G ad sh V [.ref (ad 0), .int x, .int y, .int w] 0 0 (mPi ad sh (fun r V' => (aEnds q x y w) = r ∧ (XK V V'))) := by
  refine mM.of (cc := cX10_ends) (maxL := 6) (ret := (some .int)) (by decide) rfl (Nat.le_of_ble_eq_true rfl) ?_
  intro p e s m below meth c S hr hlk hnm hW ls hl
  obtain ⟨hx, hb, hml, hown, hts⟩ := id S
  have hl : lv_has ls 6 [(0, .ref (ad 0)), (1, .int x), (2, .int y), (3, .int w)] := hl
  have hS0 : True := trivial
  have hne5 := hX.ne5
  have hng6 := hX.ng6
  have htn := hX.tn
  refine lv_aload_n hx hb dX10_ends_0 rfl (lv_at hl 0 rfl) ?_
  refine lv_iload_n hx hb dX10_ends_1 rfl (lv_at hl 1 rfl) ?_
  refine m_cip (m_rV S hW (c_X10_refusalOfDay l G ad sh V q x hX) (cwV 1 hts (gCall [.methodLink RX10 263 yX10_refusalOfDay, .instanceMethod yX10_refusalOfDay, .selects RX10 yX10_refusalOfDay yX10_refusalOfDay, .initialized RX10] (List.forall_mem_cons.mpr ⟨(wa_38 _ (List.mem_of_getElem? (i := 17) (by decide +kernel))), (List.forall_mem_cons.mpr ⟨(wa_38 _ (List.mem_of_getElem? (i := 14) (by decide +kernel))), (List.forall_mem_cons.mpr ⟨(wa_38 _ (List.mem_of_getElem? (i := 15) (by decide +kernel))), (List.forall_mem_cons.mpr ⟨(wa_38 _ (List.mem_of_getElem? (i := 16) (by decide +kernel))), (List.forall_mem_cons.mpr ⟨(wa_1 _ (List.mem_of_getElem? (i := 2) (by decide +kernel))), (fun _ h => absurd h List.not_mem_nil)⟩)⟩)⟩)⟩)⟩)) rfl rfl rfl (by decide +kernel) ⟨by dsimp only; omega, by dsimp only; omega⟩) hX.sp.1 kX10 rfl hl.1 rfl (Nat.le_of_ble_eq_true rfl) dX10_ends_2 ⟨Nat.le_of_ble_eq_true rfl, Nat.le_of_ble_eq_true rfl⟩) hW (fun r_2 H locs hp_1 hW => ?_)
  rcases hp_1 with ⟨k_3, rfl, hxk_4, hk4_5, hso_6, h3_7, hdb_8, hr_9⟩ | ⟨rfl, hr_10⟩ | ⟨rfl, hr_11⟩
  · skip
    have hcx : x.toNatClampNeg = k_3 := by rw [hxk_4]; exact nI_clamp (by omega)
    have hsl := hX.sl hk4_5
    refine lv_istore (lv' := [(4, .int (nI 0)), (0, .ref (ad 0)), (1, .int x), (2, .int y), (3, .int w)]) hx hb dX10_ends_5 hl (by decide) rfl (fun ls hl => ?_)
    refine lv_iload hx hb dX10_ends_7 (lv_at hl 0 rfl) ?_
    refine m_if_eq (tgt := 15) hx hb dX10_ends_9 (by decide) (fun c_12 => ?_) (fun c_12 => ?_)
    · skip
      refine lv_iload_n hx hb dX10_ends_15 rfl (lv_at hl 4 rfl) ?_
      refine lv_iconst (v := nI 0) hx hb dX10_ends_16 (by decide) ?_
      refine lv_iconst (v := nI 2) hx hb dX10_ends_17 (by decide) ?_
      refine m_cip (m_rS S hW (c_X10_within l G ad sh V w 0 2 (by first | assumption | omega) (by first | assumption | omega)) (va_cwS 3 hts (gCall [.methodLink RX10 102 yX10_within, .static yX10_within, .initialized RX10] (List.forall_mem_cons.mpr ⟨(wa_8 _ (List.mem_of_getElem? (i := 17) (by decide +kernel))), (List.forall_mem_cons.mpr ⟨(wa_15 _ (List.mem_of_getElem? (i := 8) (by decide +kernel))), (List.forall_mem_cons.mpr ⟨(wa_8 _ (List.mem_of_getElem? (i := 16) (by decide +kernel))), (List.forall_mem_cons.mpr ⟨(wa_1 _ (List.mem_of_getElem? (i := 2) (by decide +kernel))), (fun _ h => absurd h List.not_mem_nil)⟩)⟩)⟩)⟩)) rfl rfl rfl (by decide +kernel) ⟨by dsimp only; omega, by dsimp only; omega⟩) rfl hl.1 rfl (Nat.le_of_ble_eq_true rfl) dX10_ends_18 ⟨Nat.le_of_ble_eq_true rfl, Nat.le_of_ble_eq_true rfl⟩) hW (fun r_14 H locs hp_13 hW => ?_)
      rcases hp_13 with ⟨rfl, w_15⟩ | ⟨rfl, w_16⟩
      · skip
        refine m_if_ne (tgt := 27) hx hb dX10_ends_21 (by decide) (fun c_17 => ?_) (fun c_17 => ?_)
        · skip
          refine lv_aload_n hx hb dX10_ends_27 rfl (lv_at hl 1 rfl) ?_
          refine m_getr S hW hX.sp.1 6 rfl (j := 5) rfl kX10 (iW10 _) (by decide) (List.mem_cons_of_mem _ (wa_2 _ (List.mem_of_getElem? (i := 13) (by decide +kernel)))) dX10_ends_28 ?_
          refine lv_aload_n hx hb dX10_ends_31 rfl (lv_at hl 1 rfl) ?_
          refine m_getr S hW hX.sp.1 3 rfl (j := 20) rfl kX10 (iW10 _) (by decide) (List.mem_cons_of_mem _ (wa_2 _ (List.mem_of_getElem? (i := 8) (by decide +kernel)))) dX10_ends_32 ?_
          refine m_cv (m_rV S hW (c_X8_startFrom_x l G ad sh V q (by first | assumption | omega)) (cwV 1 hts (gCall [.methodLink RX10 201 yX8_startFrom, .instanceMethod yX8_startFrom, .selects RX8 yX8_startFrom yX8_startFrom, .initialized RX8] (List.forall_mem_cons.mpr ⟨(wa_30 _ (List.mem_of_getElem? (i := 5) (by decide +kernel))), (List.forall_mem_cons.mpr ⟨(wa_30 _ (List.mem_of_getElem? (i := 2) (by decide +kernel))), (List.forall_mem_cons.mpr ⟨(wa_30 _ (List.mem_of_getElem? (i := 3) (by decide +kernel))), (List.forall_mem_cons.mpr ⟨(wa_30 _ (List.mem_of_getElem? (i := 4) (by decide +kernel))), (List.forall_mem_cons.mpr ⟨(wa_2 _ (List.mem_of_getElem? (i := 12) (by decide +kernel))), (fun _ h => absurd h List.not_mem_nil)⟩)⟩)⟩)⟩)⟩)) rfl rfl rfl (by decide +kernel) ⟨by dsimp only; omega, by dsimp only; omega⟩) hX.sp.2.2.2.1 kX8 rfl hl.1 rfl (Nat.le_of_ble_eq_true rfl) dX10_ends_35 ⟨Nat.le_of_ble_eq_true rfl, Nat.le_of_ble_eq_true rfl⟩) hW (fun V_18 H locs hp_19 hW => ?_)
          obtain ⟨hQ_21, hK_22, h51_23, h52_24⟩ := hp_19
          have hX1 := hX.k hK_22
          have hH1 : ThOk sh V_18 (110 + 3 * gRl q) (gT q (gRl q)).2.1 (gT q (gRl q)).2.2 (gT q (gRl q)).1.length (gNe q) (gNg q) (gAsk q) (gZ q) := hX1.th hQ_21 hX.rl
          have hK1 := hK_22
          refine lv_aload_n hx hb dX10_ends_38 rfl (lv_at hl 1 rfl) ?_
          refine m_getr S hW hX.sp.1 6 rfl (j := 5) rfl kX10 (iW10 _) (by decide) (List.mem_cons_of_mem _ (wa_2 _ (List.mem_of_getElem? (i := 13) (by decide +kernel)))) dX10_ends_39 ?_
          refine lv_aload_n hx hb dX10_ends_42 rfl (lv_at hl 1 rfl) ?_
          refine m_getr S hW hX.sp.1 9 rfl (j := 10) rfl kX10 (iW10 _) (by decide) (List.mem_cons_of_mem _ (wa_2 _ (List.mem_of_getElem? (i := 3) (by decide +kernel)))) dX10_ends_43 ?_
          refine lv_iload_n hx hb dX10_ends_46 rfl (lv_at hl 2 rfl) ?_
          refine m_aald S hW 3 rfl hX.sp.2.2.2.2.2.2.1.1 k_3 hxk_4 (by omega) (by decide) (j := (11 + k_3)) (if_pos (by omega)) dX10_ends_47 ?_
          refine m_ci (m_rV S hW (c_X8_followDay l G ad sh V_18 (110 + 3 * gRl q) ((gT q (gRl q)).2.1) ((gT q (gRl q)).2.2) ((gT q (gRl q)).1.length) (gNe q) (gNg q) (gAsk q) (gZ q) (11 + k_3) (gSz q k_3) hH1 ((hX.sp.2.2.2.2.2.2.1.2 k_3 (by omega)).1) (show sh (11 + k_3 + 4) = some (mI 40) by rw [show 11 + k_3 + 4 = 15 + k_3 by omega]; exact (hX.sp.2.2.2.2.2.2.1.2 k_3 (by omega)).2) (by omega) (hX1.ss hk4_5) hsl h3_7 (hX1.day hk4_5 hdb_8)) (cwV 1 hts (gCall [.methodLink RX10 266 yX8_followDay, .instanceMethod yX8_followDay, .selects RX8 yX8_followDay yX8_followDay, .initialized RX8] (List.forall_mem_cons.mpr ⟨(wa_39 _ (List.mem_of_getElem? (i := 4) (by decide +kernel))), (List.forall_mem_cons.mpr ⟨(wa_39 _ (List.mem_of_getElem? (i := 1) (by decide +kernel))), (List.forall_mem_cons.mpr ⟨(wa_39 _ (List.mem_of_getElem? (i := 2) (by decide +kernel))), (List.forall_mem_cons.mpr ⟨(wa_39 _ (List.mem_of_getElem? (i := 3) (by decide +kernel))), (List.forall_mem_cons.mpr ⟨(wa_2 _ (List.mem_of_getElem? (i := 12) (by decide +kernel))), (fun _ h => absurd h List.not_mem_nil)⟩)⟩)⟩)⟩)⟩)) rfl rfl rfl (by decide +kernel) ⟨by dsimp only; omega, by dsimp only; omega⟩) hX.sp.2.2.2.1 kX8 rfl hl.1 rfl (Nat.le_of_ble_eq_true rfl) dX10_ends_48 ⟨Nat.le_of_ble_eq_true rfl, Nat.le_of_ble_eq_true rfl⟩) hW (fun r_27 V_25 H locs hp_26 hW => ?_)
          obtain ⟨rfl, hH_28, hfd_29⟩ := hp_26
          refine lv_pop hx hb dX10_ends_51 rfl ?_
          refine lv_iload_n hx hb dX10_ends_52 rfl (lv_at hl 4 rfl) ?_
          refine lv_iconst (v := nI 2) hx hb dX10_ends_53 (by decide) ?_
          refine lv_icmp_ne (tgt := 86) hx hb dX10_ends_54 (by decide) (fun c_30 => ?_) (fun c_30 => ?_)
          · skip
            refine lv_aload_n hx hb dX10_ends_86 rfl (lv_at hl 1 rfl) ?_
            refine m_getr S hW hX.sp.1 6 rfl (j := 5) rfl kX10 (iW10 _) (by decide) (List.mem_cons_of_mem _ (wa_2 _ (List.mem_of_getElem? (i := 13) (by decide +kernel)))) dX10_ends_87 ?_
            refine m_getr S hW hX.sp.2.2.2.1 0 rfl (j := 80) rfl kX8 (iW8 _) (by decide) (List.mem_cons_of_mem _ (wa_33 _ (List.mem_of_getElem? (i := 2) (by decide +kernel)))) dX10_ends_90 ?_
            refine lv_iload_n hx hb dX10_ends_93 rfl (lv_at hl 3 rfl) ?_
            refine m_crp (m_rV S hW (c_X4_eaterAt l G ad sh V_25 80 (110 + 3 * gRl q) ((gT q (gRl q)).2.1) ((gT q (gRl q)).2.2) ((gT q (gRl q)).1.length) (gNe q) (gNg q) y hH_28.2.1 hH_28.2.2.1) (cwV 1 hts (gCall [.methodLink RX10 120 yX4_eaterAt, .instanceMethod yX4_eaterAt, .selects RX4 yX4_eaterAt yX4_eaterAt, .initialized RX4] (List.forall_mem_cons.mpr ⟨(wa_17 _ (List.mem_of_getElem? (i := 8) (by decide +kernel))), (List.forall_mem_cons.mpr ⟨(wa_17 _ (List.mem_of_getElem? (i := 5) (by decide +kernel))), (List.forall_mem_cons.mpr ⟨(wa_17 _ (List.mem_of_getElem? (i := 6) (by decide +kernel))), (List.forall_mem_cons.mpr ⟨(wa_17 _ (List.mem_of_getElem? (i := 7) (by decide +kernel))), (List.forall_mem_cons.mpr ⟨(wa_2 _ (List.mem_of_getElem? (i := 7) (by decide +kernel))), (fun _ h => absurd h List.not_mem_nil)⟩)⟩)⟩)⟩)⟩)) rfl rfl rfl (by decide +kernel) ⟨by dsimp only; omega, by dsimp only; omega⟩) hX.sp.2.2.2.2.2.2.2.1.2.2.1 kX4 rfl hl.1 rfl (Nat.le_of_ble_eq_true rfl) dX10_ends_94 ⟨Nat.le_of_ble_eq_true rfl, Nat.le_of_ble_eq_true rfl⟩) hW (fun r_32 H locs hp_31 hW => ?_)
            rcases hp_31 with ⟨n_33, rfl, hxn_34, hn_35⟩ | ⟨rfl, hx0_36⟩
            · skip
              refine W.eq (g2 := F0 m 97 ls [.ref (ad (80 + 4 + n_33))]) rfl ?_
              have hpy : mIn y 0 (gNe q) := by rw [hxn_34]; exact (mIn_nI (by have := hX.ne5; have := hX.ng6; omega)).mpr ⟨Nat.zero_le _, hn_35⟩
              have hcy : y.toNatClampNeg = n_33 := by rw [hxn_34]; exact nI_clamp (by have := hX.ne5; have := hX.ng6; omega)
              refine lv_astore (lv' := [(5, .ref (ad (80 + 4 + n_33))), (4, .int (nI 0)), (0, .ref (ad 0)), (1, .int x), (2, .int y), (3, .int w)]) hx hb dX10_ends_97 hl (by decide) rfl (fun ls hl => ?_)
              refine lv_aload hx hb dX10_ends_99 (lv_at hl 0 rfl) ?_
              refine lv_ifnonnull (tgt := 107) hx hb dX10_ends_101 (by decide) ?_
              refine lv_iload_n hx hb dX10_ends_107 rfl (lv_at hl 5 rfl) ?_
              refine m_if_ne (tgt := 119) hx hb dX10_ends_108 (by decide) (fun c_37 => ?_) (fun c_37 => ?_)
              · skip
                refine lv_aload hx hb dX10_ends_119 (lv_at hl 0 rfl) ?_
                refine m_geti S hW (hH_28.2.1.2.2.2.2.1 n_33 (Nat.lt_of_lt_of_le hn_35 hH_28.2.2.1.2.2.1)) 3 rfl kX1 (iW1 _) (by decide) (List.mem_cons_of_mem _ (wa_23 _ (List.mem_of_getElem? (i := 14) (by decide +kernel)))) dX10_ends_121 ?_
                exact m_iret S hr hlk hW dX10_ends_124 (by exact ⟨by simp only [aEnds, if_pos hr_9, hcx, if_pos w_15, if_neg c_30, if_pos hpy, hcy, if_neg c_37]; rw [zTold, ← hX1.dayz hk4_5]; exact zv_e2 hH_28.2.2.2.2.2 hn_35 (by omega), hK1.td hfd_29⟩)
              · skip
                refine lv_aload hx hb dX10_ends_111 (lv_at hl 0 rfl) ?_
                refine m_geti S hW (hH_28.2.1.2.2.2.2.1 n_33 (Nat.lt_of_lt_of_le hn_35 hH_28.2.2.1.2.2.1)) 4 rfl kX1 (iW1 _) (by decide) (List.mem_cons_of_mem _ (wa_23 _ (List.mem_of_getElem? (i := 15) (by decide +kernel)))) dX10_ends_113 ?_
                refine lv_goto (tgt := 124) hx hb dX10_ends_116 (by decide) ?_
                exact m_iret S hr hlk hW dX10_ends_124 (by exact ⟨by simp only [aEnds, if_pos hr_9, hcx, if_pos w_15, if_neg c_30, if_pos hpy, hcy, if_pos c_37]; rw [zTold, ← hX1.dayz hk4_5]; exact zv_e2 hH_28.2.2.2.2.2 hn_35 (by omega), hK1.td hfd_29⟩)
            · skip
              refine W.eq (g2 := F0 m 97 ls [.null]) rfl ?_
              refine lv_astoreN (lv' := [(5, .null), (4, .int (nI 0)), (0, .ref (ad 0)), (1, .int x), (2, .int y), (3, .int w)]) hx hb dX10_ends_97 hl (by decide) rfl (fun ls hl => ?_)
              refine lv_aloadN hx hb dX10_ends_99 (lv_at hl 0 rfl) ?_
              refine lv_ifnonnullN hx hb dX10_ends_101 ?_
              refine lv_bipush (v := -5) hx hb dX10_ends_104 (by decide) ?_
              exact m_iret S hr hlk hW dX10_ends_106 (by exact ⟨by simp only [aEnds, if_pos hr_9, hcx, if_pos w_15, if_neg c_30, if_neg hx0_36], hK1.td hfd_29⟩)
          · skip
            refine lv_aload_n hx hb dX10_ends_57 rfl (lv_at hl 1 rfl) ?_
            refine m_getr S hW hX.sp.1 6 rfl (j := 5) rfl kX10 (iW10 _) (by decide) (List.mem_cons_of_mem _ (wa_2 _ (List.mem_of_getElem? (i := 13) (by decide +kernel)))) dX10_ends_58 ?_
            refine m_getr S hW hX.sp.2.2.2.1 0 rfl (j := 80) rfl kX8 (iW8 _) (by decide) (List.mem_cons_of_mem _ (wa_33 _ (List.mem_of_getElem? (i := 2) (by decide +kernel)))) dX10_ends_61 ?_
            refine lv_iload_n hx hb dX10_ends_64 rfl (lv_at hl 3 rfl) ?_
            refine m_crp (m_rV S hW (c_X4_goodAt l G ad sh V_25 80 (110 + 3 * gRl q) ((gT q (gRl q)).2.1) ((gT q (gRl q)).2.2) ((gT q (gRl q)).1.length) (gNe q) (gNg q) y hH_28.2.1 hH_28.2.2.1) (cwV 1 hts (gCall [.methodLink RX10 124 yX4_goodAt, .instanceMethod yX4_goodAt, .selects RX4 yX4_goodAt yX4_goodAt, .initialized RX4] (List.forall_mem_cons.mpr ⟨(wa_17 _ (List.mem_of_getElem? (i := 13) (by decide +kernel))), (List.forall_mem_cons.mpr ⟨(wa_17 _ (List.mem_of_getElem? (i := 10) (by decide +kernel))), (List.forall_mem_cons.mpr ⟨(wa_17 _ (List.mem_of_getElem? (i := 11) (by decide +kernel))), (List.forall_mem_cons.mpr ⟨(wa_17 _ (List.mem_of_getElem? (i := 12) (by decide +kernel))), (List.forall_mem_cons.mpr ⟨(wa_2 _ (List.mem_of_getElem? (i := 7) (by decide +kernel))), (fun _ h => absurd h List.not_mem_nil)⟩)⟩)⟩)⟩)⟩)) rfl rfl rfl (by decide +kernel) ⟨by dsimp only; omega, by dsimp only; omega⟩) hX.sp.2.2.2.2.2.2.2.1.2.2.1 kX4 rfl hl.1 rfl (Nat.le_of_ble_eq_true rfl) dX10_ends_65 ⟨Nat.le_of_ble_eq_true rfl, Nat.le_of_ble_eq_true rfl⟩) hW (fun r_39 H locs hp_38 hW => ?_)
            rcases hp_38 with ⟨n_40, rfl, hxn_41, hn_42⟩ | ⟨rfl, hx0_43⟩
            · skip
              refine W.eq (g2 := F0 m 68 ls [.ref (ad (80 + 10 + 2 * n_40))]) rfl ?_
              have hpy : mIn y 0 (gNg q) := by rw [hxn_41]; exact (mIn_nI (by have := hX.ne5; have := hX.ng6; omega)).mpr ⟨Nat.zero_le _, hn_42⟩
              have hcy : y.toNatClampNeg = n_40 := by rw [hxn_41]; exact nI_clamp (by have := hX.ne5; have := hX.ng6; omega)
              refine lv_astore (lv' := [(5, .ref (ad (80 + 10 + 2 * n_40))), (4, .int (nI 0)), (0, .ref (ad 0)), (1, .int x), (2, .int y), (3, .int w)]) hx hb dX10_ends_68 hl (by decide) rfl (fun ls hl => ?_)
              refine lv_aload hx hb dX10_ends_70 (lv_at hl 0 rfl) ?_
              refine lv_ifnonnull (tgt := 80) hx hb dX10_ends_72 (by decide) ?_
              refine lv_aload hx hb dX10_ends_80 (lv_at hl 0 rfl) ?_
              refine m_geti S hW (hH_28.2.1.2.2.2.2.2.1 n_40 (Nat.lt_of_lt_of_le hn_42 hH_28.2.2.1.2.2.2.1)) 2 rfl kX3 (iW3 _) (by decide) (List.mem_cons_of_mem _ (wa_34 _ (List.mem_of_getElem? (i := 9) (by decide +kernel)))) dX10_ends_82 ?_
              exact m_iret S hr hlk hW dX10_ends_85 (by exact ⟨by simp only [aEnds, if_pos hr_9, hcx, if_pos w_15, if_pos c_30, if_pos hpy, hcy]; rw [zTold, ← hX1.dayz hk4_5]; exact zv_g2 hH_28.2.2.2.2.2 hn_42 (Or.inr rfl), hK1.td hfd_29⟩)
            · skip
              refine W.eq (g2 := F0 m 68 ls [.null]) rfl ?_
              refine lv_astoreN (lv' := [(5, .null), (4, .int (nI 0)), (0, .ref (ad 0)), (1, .int x), (2, .int y), (3, .int w)]) hx hb dX10_ends_68 hl (by decide) rfl (fun ls hl => ?_)
              refine lv_aloadN hx hb dX10_ends_70 (lv_at hl 0 rfl) ?_
              refine lv_ifnonnullN hx hb dX10_ends_72 ?_
              refine lv_bipush (v := -5) hx hb dX10_ends_75 (by decide) ?_
              refine lv_goto (tgt := 85) hx hb dX10_ends_77 (by decide) ?_
              exact m_iret S hr hlk hW dX10_ends_85 (by exact ⟨by simp only [aEnds, if_pos hr_9, hcx, if_pos w_15, if_pos c_30, if_neg hx0_43], hK1.td hfd_29⟩)
        · exact absurd c_17 (by decide)
      · skip
        refine m_if_ne (tgt := 27) hx hb dX10_ends_21 (by decide) (fun c_44 => ?_) (fun c_44 => ?_)
        · exact absurd c_44 (by decide)
        · skip
          refine lv_bipush (v := -7) hx hb dX10_ends_24 (by decide) ?_
          exact m_iret S hr hlk hW dX10_ends_26 (by exact ⟨by simp only [aEnds, if_pos hr_9, hcx, if_neg w_16]; try rfl, XK.rfl V⟩)
    · exact absurd c_12 (by decide)
  · skip
    refine lv_istore (lv' := [(4, .int (-2)), (0, .ref (ad 0)), (1, .int x), (2, .int y), (3, .int w)]) hx hb dX10_ends_5 hl (by decide) rfl (fun ls hl => ?_)
    refine lv_iload hx hb dX10_ends_7 (lv_at hl 0 rfl) ?_
    refine m_if_eq (tgt := 15) hx hb dX10_ends_9 (by decide) (fun c_45 => ?_) (fun c_45 => ?_)
    · exact absurd c_45 (by decide)
    · skip
      refine lv_iload hx hb dX10_ends_12 (lv_at hl 0 rfl) ?_
      exact m_iret S hr hlk hW dX10_ends_14 (by exact ⟨by simp only [aEnds, hr_10, if_neg (show ¬ (-2 : Int32) = nI 0 by decide)]; try rfl, XK.rfl V⟩)
  · skip
    refine lv_istore (lv' := [(4, .int (-11)), (0, .ref (ad 0)), (1, .int x), (2, .int y), (3, .int w)]) hx hb dX10_ends_5 hl (by decide) rfl (fun ls hl => ?_)
    refine lv_iload hx hb dX10_ends_7 (lv_at hl 0 rfl) ?_
    refine m_if_eq (tgt := 15) hx hb dX10_ends_9 (by decide) (fun c_46 => ?_) (fun c_46 => ?_)
    · exact absurd c_46 (by decide)
    · skip
      refine lv_iload hx hb dX10_ends_12 (lv_at hl 0 rfl) ?_
      exact m_iret S hr hlk hW dX10_ends_14 (by exact ⟨by simp only [aEnds, hr_11, if_neg (show ¬ (-11 : Int32) = nI 0 by decide)]; try rfl, XK.rfl V⟩)
set_option maxHeartbeats 4000000 in
set_option maxRecDepth 100000 in
theorem c_X10_laws (l : Launch) (G : mG) (ad : Nat → Nat) (sh : Nat → Option mSh) (V : mV) (q : Sg) (x : Int32) (hX : XI sh V q) : mM l yX10_laws wsX10_laws ({ frames := 40, cells := 0, slots := 0, locals := 1200 } : Room) G ad sh V [.ref (ad 0), .int x] 0 0 (mPi ad sh (fun r V' => (aLaws q x) = r ∧ (XK V V'))) := by
  refine mM.of (cc := cX10_laws) (maxL := 5) (ret := (some .int)) (by decide) rfl (Nat.le_of_ble_eq_true rfl) ?_
  intro p e s m below meth c S hr hlk hnm hW ls hl
  obtain ⟨hx, hb, hml, hown, hts⟩ := id S
  have hl : lv_has ls 5 [(0, .ref (ad 0)), (1, .int x)] := hl
  have hS0 : True := trivial
  have hne5 := hX.ne5
  have hng6 := hX.ng6
  have htn := hX.tn
  refine lv_aload_n hx hb dX10_laws_0 rfl (lv_at hl 0 rfl) ?_
  refine lv_iload_n hx hb dX10_laws_1 rfl (lv_at hl 1 rfl) ?_
  refine m_cip (m_rV S hW (c_X10_refusalOfDay l G ad sh V q x hX) (cwV 1 hts (gCall [.methodLink RX10 263 yX10_refusalOfDay, .instanceMethod yX10_refusalOfDay, .selects RX10 yX10_refusalOfDay yX10_refusalOfDay, .initialized RX10] (List.forall_mem_cons.mpr ⟨(wa_38 _ (List.mem_of_getElem? (i := 17) (by decide +kernel))), (List.forall_mem_cons.mpr ⟨(wa_38 _ (List.mem_of_getElem? (i := 14) (by decide +kernel))), (List.forall_mem_cons.mpr ⟨(wa_38 _ (List.mem_of_getElem? (i := 15) (by decide +kernel))), (List.forall_mem_cons.mpr ⟨(wa_38 _ (List.mem_of_getElem? (i := 16) (by decide +kernel))), (List.forall_mem_cons.mpr ⟨(wa_1 _ (List.mem_of_getElem? (i := 2) (by decide +kernel))), (fun _ h => absurd h List.not_mem_nil)⟩)⟩)⟩)⟩)⟩)) rfl rfl rfl (by decide +kernel) ⟨by dsimp only; omega, by dsimp only; omega⟩) hX.sp.1 kX10 rfl hl.1 rfl (Nat.le_of_ble_eq_true rfl) dX10_laws_2 ⟨Nat.le_of_ble_eq_true rfl, Nat.le_of_ble_eq_true rfl⟩) hW (fun r_2 H locs hp_1 hW => ?_)
  rcases hp_1 with ⟨k_3, rfl, hxk_4, hk4_5, hso_6, h3_7, hdb_8, hr_9⟩ | ⟨rfl, hr_10⟩ | ⟨rfl, hr_11⟩
  · skip
    have hcx : x.toNatClampNeg = k_3 := by rw [hxk_4]; exact nI_clamp (by omega)
    have hsl := hX.sl hk4_5
    refine lv_istore_n (lv' := [(2, .int (nI 0)), (0, .ref (ad 0)), (1, .int x)]) hx hb dX10_laws_5 rfl hl (by decide) rfl (fun ls hl => ?_)
    refine lv_iload_n hx hb dX10_laws_6 rfl (lv_at hl 0 rfl) ?_
    refine m_if_eq (tgt := 12) hx hb dX10_laws_7 (by decide) (fun c_12 => ?_) (fun c_12 => ?_)
    · skip
      refine lv_iconst (v := nI 0) hx hb dX10_laws_12 (by decide) ?_
      refine lv_istore_n (lv' := [(3, .int (nI 0)), (2, .int (nI 0)), (0, .ref (ad 0)), (1, .int x)]) hx hb dX10_laws_13 rfl hl (by decide) rfl (fun ls hl => ?_)
      refine lv_iconst (v := nI 0) hx hb dX10_laws_14 (by decide) ?_
      refine lv_istore (lv' := [(4, .int (nI 0)), (3, .int (nI 0)), (2, .int (nI 0)), (0, .ref (ad 0)), (1, .int x)]) hx hb dX10_laws_15 hl (by decide) rfl (fun ls hl => ?_)
      have loop_17 : ∀ (n_17 : Nat) (sm : Int32) (k : Nat) (V1 : mV) (H : Heap) (locs : List Loc) (ls : Array Slot), (k ≤ (gTxs q).length) → (XK V V1) → (sm = fBitsOf (fun t => decide ((zTold q (askT (gT q t)) x.toNatClampNeg).2 = -1)) k) → ((gTxs q).length - k) < n_17 → mC (mA ad sh s.heap.size) s.heap s G ad sh V1 H locs → lv_has ls 5 [(2, .int (nI 0)), (0, .ref (ad 0)), (1, .int x), (3, .int sm), (4, .int (nI k))] → W p l e ({ frames := 40, cells := 0, slots := 0, locals := 1200 } : Room) s m ([.ref (ad 0), .int x] : List Value).toArray below meth c H locs 0 0 (MQ below (mPost G ad sh s.heap.size (mPi ad sh (fun r V' => (aLaws q x) = r ∧ (XK V V')))) ([.ref (ad 0), .int x] : List Value).toArray s 0 0 (mA ad sh s.heap.size)) (F0 m 17 ls []) := by
        intro n_17
        induction n_17 with
        | zero => intro sm k V1 H locs ls hk hK hs hM_ hW hl; omega
        | succ n_17 ih_17 =>
          intro sm k V1 H locs ls hk hK hs hM_ hW hl
          have hXl := hX.k hK
          refine lv_iload hx hb dX10_laws_17 (lv_at hl 4 rfl) ?_
          refine lv_aload_n hx hb dX10_laws_19 rfl (lv_at hl 1 rfl) ?_
          refine m_geti S hW hX.sp.1 2 rfl kX10 (iW10 _) (by decide) (List.mem_cons_of_mem _ (wa_2 _ (List.mem_of_getElem? (i := 4) (by decide +kernel)))) dX10_laws_20 ?_
          refine m_top (y := nI ((gTxs q).length)) hXl.tn.1 ?_
          refine lv_icmp_ge (tgt := 84) hx hb dX10_laws_23 (by decide) (fun c_13 => ?_) (fun c_13 => ?_)
          · skip
            have c_13 : ((gTxs q).length) ≤ k := (nI_leI (by omega) (by omega)).mp c_13
            refine lv_iload_n hx hb dX10_laws_84 rfl (lv_at hl 3 rfl) ?_
            exact m_iret S hr hlk hW dX10_laws_85 (by exact ⟨by simp only [aLaws, if_pos hr_9]; rw [hs, show k = (gTxs q).length by omega], hK⟩)
          · skip
            have c_13 : ¬ ((gTxs q).length) ≤ k := mt (nI_leI (by omega) (by omega)).mpr c_13
            refine lv_aload_n hx hb dX10_laws_26 rfl (lv_at hl 1 rfl) ?_
            refine m_getr S hW hX.sp.1 6 rfl (j := 5) rfl kX10 (iW10 _) (by decide) (List.mem_cons_of_mem _ (wa_2 _ (List.mem_of_getElem? (i := 13) (by decide +kernel)))) dX10_laws_27 ?_
            refine lv_aload_n hx hb dX10_laws_30 rfl (lv_at hl 1 rfl) ?_
            refine m_getr S hW hX.sp.1 3 rfl (j := 20) rfl kX10 (iW10 _) (by decide) (List.mem_cons_of_mem _ (wa_2 _ (List.mem_of_getElem? (i := 8) (by decide +kernel)))) dX10_laws_31 ?_
            refine m_cv (m_rV S hW (c_X8_startFrom_x l G ad sh V1 q hXl) (cwV 1 hts (gCall [.methodLink RX10 201 yX8_startFrom, .instanceMethod yX8_startFrom, .selects RX8 yX8_startFrom yX8_startFrom, .initialized RX8] (List.forall_mem_cons.mpr ⟨(wa_30 _ (List.mem_of_getElem? (i := 5) (by decide +kernel))), (List.forall_mem_cons.mpr ⟨(wa_30 _ (List.mem_of_getElem? (i := 2) (by decide +kernel))), (List.forall_mem_cons.mpr ⟨(wa_30 _ (List.mem_of_getElem? (i := 3) (by decide +kernel))), (List.forall_mem_cons.mpr ⟨(wa_30 _ (List.mem_of_getElem? (i := 4) (by decide +kernel))), (List.forall_mem_cons.mpr ⟨(wa_2 _ (List.mem_of_getElem? (i := 12) (by decide +kernel))), (fun _ h => absurd h List.not_mem_nil)⟩)⟩)⟩)⟩)⟩)) rfl rfl rfl (by decide +kernel) ⟨by dsimp only; omega, by dsimp only; omega⟩) hX.sp.2.2.2.1 kX8 rfl hl.1 rfl (Nat.le_of_ble_eq_true rfl) dX10_laws_34 ⟨Nat.le_of_ble_eq_true rfl, Nat.le_of_ble_eq_true rfl⟩) hW (fun V_14 H locs hp_15 hW => ?_)
            obtain ⟨hQ_17, hK_18, h51_19, h52_20⟩ := hp_15
            have hX2 := hXl.k hK_18
            have hQ2 : ScQ V_14 80 (gZ q, gNe q, gNg q, gRl q) := hQ_17
            have hK2 := hK.trans hK_18
            refine lv_aload_n hx hb dX10_laws_37 rfl (lv_at hl 1 rfl) ?_
            refine m_getr S hW hX.sp.1 6 rfl (j := 5) rfl kX10 (iW10 _) (by decide) (List.mem_cons_of_mem _ (wa_2 _ (List.mem_of_getElem? (i := 13) (by decide +kernel)))) dX10_laws_38 ?_
            refine m_getr S hW hX.sp.2.2.2.1 0 rfl (j := 80) rfl kX8 (iW8 _) (by decide) (List.mem_cons_of_mem _ (wa_33 _ (List.mem_of_getElem? (i := 2) (by decide +kernel)))) dX10_laws_41 ?_
            refine lv_aload_n hx hb dX10_laws_44 rfl (lv_at hl 1 rfl) ?_
            refine m_getr S hW hX.sp.1 1 rfl (j := 4) rfl kX10 (iW10 _) (by decide) (List.mem_cons_of_mem _ (wa_1 _ (List.mem_of_getElem? (i := 17) (by decide +kernel)))) dX10_laws_45 ?_
            refine lv_iload hx hb dX10_laws_48 (lv_at hl 4 rfl) ?_
            refine m_aald S hW 4 rfl hX.sp.2.2.1 k rfl (by omega) (by decide) (j := (110 + 3 * k)) (if_pos ⟨(by omega), ((hX2.tx k (by omega)).2).trans (by decide)⟩) dX10_laws_50 ?_
            refine m_putr S hW (nI k) hX.sp.2.2.2.2.2.2.2.1.2.2.1 5 rfl (show some (110 + 3 * (nI k).toNatClampNeg) = some (110 + 3 * k) by rw [nI_clamp (by omega)]) (by rw [(hX.txs (t := k) (by omega)).1]; exact fun z => by cases z) kX4 (iW4 _) tyX4 tyX4_ok nmX4 (by decide) (List.mem_cons_of_mem _ (wa_14 _ (List.mem_of_getElem? (i := 14) (by decide +kernel)))) (Or.inl rfl) (fun _ => rfl) (fun _ => rfl) dX10_laws_51 (fun H locs hW => ?_)
            obtain ⟨V_21, eV_21⟩ : ∃ z : mV, z = mU V_14 80 5 (nI k) := ⟨_, rfl⟩
            rw [← eV_21] at hW
            have hQ3 : ScQ V_21 80 (gZ q, gNe q, gNg q, k) := by rw [eV_21]; exact hQ2.rl k
            have hK3 : XK V V_21 := by rw [eV_21]; exact hK2.trans ⟨fun a _ _ _ _ _ _ a80 => by rw [mU_no _ _ (by omega)], fun j _ => by rw [mU_no _ _ (by omega)], by rw [mU_no _ _ (by omega)]⟩
            have hX3 := hX.k hK3
            have hH1 : ThOk sh V_21 (110 + 3 * k) (gT q k).2.1 (gT q k).2.2 (gT q k).1.length (gNe q) (gNg q) (askT (gT q k)) (gZ q) := hX3.th hQ3 (by omega)
            refine lv_aload_n hx hb dX10_laws_54 rfl (lv_at hl 1 rfl) ?_
            refine m_getr S hW hX.sp.1 6 rfl (j := 5) rfl kX10 (iW10 _) (by decide) (List.mem_cons_of_mem _ (wa_2 _ (List.mem_of_getElem? (i := 13) (by decide +kernel)))) dX10_laws_55 ?_
            refine lv_aload_n hx hb dX10_laws_58 rfl (lv_at hl 1 rfl) ?_
            refine m_getr S hW hX.sp.1 9 rfl (j := 10) rfl kX10 (iW10 _) (by decide) (List.mem_cons_of_mem _ (wa_2 _ (List.mem_of_getElem? (i := 3) (by decide +kernel)))) dX10_laws_59 ?_
            refine lv_iload_n hx hb dX10_laws_62 rfl (lv_at hl 2 rfl) ?_
            refine m_aald S hW 3 rfl hX.sp.2.2.2.2.2.2.1.1 k_3 hxk_4 (by omega) (by decide) (j := (11 + k_3)) (if_pos (by omega)) dX10_laws_63 ?_
            refine m_ci (m_rV S hW (c_X8_followDay l G ad sh V_21 (110 + 3 * k) ((gT q k).2.1) ((gT q k).2.2) ((gT q k).1.length) (gNe q) (gNg q) (askT (gT q k)) (gZ q) (11 + k_3) (gSz q k_3) hH1 ((hX.sp.2.2.2.2.2.2.1.2 k_3 (by omega)).1) (show sh (11 + k_3 + 4) = some (mI 40) by rw [show 11 + k_3 + 4 = 15 + k_3 by omega]; exact (hX.sp.2.2.2.2.2.2.1.2 k_3 (by omega)).2) (by omega) (hX3.ss hk4_5) hsl h3_7 (hX3.day hk4_5 hdb_8)) (cwV 1 hts (gCall [.methodLink RX10 266 yX8_followDay, .instanceMethod yX8_followDay, .selects RX8 yX8_followDay yX8_followDay, .initialized RX8] (List.forall_mem_cons.mpr ⟨(wa_39 _ (List.mem_of_getElem? (i := 4) (by decide +kernel))), (List.forall_mem_cons.mpr ⟨(wa_39 _ (List.mem_of_getElem? (i := 1) (by decide +kernel))), (List.forall_mem_cons.mpr ⟨(wa_39 _ (List.mem_of_getElem? (i := 2) (by decide +kernel))), (List.forall_mem_cons.mpr ⟨(wa_39 _ (List.mem_of_getElem? (i := 3) (by decide +kernel))), (List.forall_mem_cons.mpr ⟨(wa_2 _ (List.mem_of_getElem? (i := 12) (by decide +kernel))), (fun _ h => absurd h List.not_mem_nil)⟩)⟩)⟩)⟩)⟩)) rfl rfl rfl (by decide +kernel) ⟨by dsimp only; omega, by dsimp only; omega⟩) hX.sp.2.2.2.1 kX8 rfl hl.1 rfl (Nat.le_of_ble_eq_true rfl) dX10_laws_64 ⟨Nat.le_of_ble_eq_true rfl, Nat.le_of_ble_eq_true rfl⟩) hW (fun r_24 V_22 H locs hp_23 hW => ?_)
            obtain ⟨rfl, hH_25, hfd_26⟩ := hp_23
            refine lv_iconst (v := -1) hx hb dX10_laws_67 (by decide) ?_
            refine lv_icmp_ne (tgt := 78) hx hb dX10_laws_68 (by decide) (fun c_27 => ?_) (fun c_27 => ?_)
            · skip
              refine lv_iinc (v := nI (k + 1)) (lv' := [(4, .int (nI (k + 1))), (2, .int (nI 0)), (0, .ref (ad 0)), (1, .int x), (3, .int sm)]) hx hb dX10_laws_78 hl (k := 4) rfl (m_inc k 1) (by decide) rfl (fun ls hl => ?_)
              refine lv_goto (tgt := 17) hx hb dX10_laws_81 (by decide) ?_
              exact ih_17  sm (k + 1) V_22 _ _ _ (by omega) (by exact hK3.td hfd_26) (by rw [fBitsOf_f (fun z => c_27 ((show (zTold q (askT (gT q k)) x.toNatClampNeg).2 = _ from by rw [hcx, zTold, ← hX3.dayz hk4_5]).symm.trans (of_decide_eq_true z))), ← hs]) (by omega) hW (lv_sub hl [1, 2, 3, 4, 0] rfl)
            · skip
              refine lv_iload_n hx hb dX10_laws_71 rfl (lv_at hl 3 rfl) ?_
              refine lv_iconst (v := nI 1) hx hb dX10_laws_72 (by decide) ?_
              refine lv_iload hx hb dX10_laws_73 (lv_at hl 4 rfl) ?_
              refine lv_ishl hx hb dX10_laws_75 ?_
              refine lv_ior hx hb dX10_laws_76 ?_
              refine lv_istore_n (lv' := [(3, .int (sm ||| ((nI 1) <<< ((nI k) &&& 31)))), (2, .int (nI 0)), (0, .ref (ad 0)), (1, .int x), (4, .int (nI k))]) hx hb dX10_laws_77 rfl hl (by decide) rfl (fun ls hl => ?_)
              refine lv_iinc (v := nI (k + 1)) (lv' := [(4, .int (nI (k + 1))), (3, .int (sm ||| ((nI 1) <<< ((nI k) &&& 31)))), (2, .int (nI 0)), (0, .ref (ad 0)), (1, .int x)]) hx hb dX10_laws_78 hl (k := 4) rfl (m_inc k 1) (by decide) rfl (fun ls hl => ?_)
              refine lv_goto (tgt := 17) hx hb dX10_laws_81 (by decide) ?_
              exact ih_17  (sm ||| ((nI 1) <<< ((nI k) &&& 31))) (k + 1) V_22 _ _ _ (by omega) (by exact hK3.td hfd_26) (by rw [fBitsOf_t (decide_eq_true ((show (zTold q (askT (gT q k)) x.toNatClampNeg).2 = _ from by rw [hcx, zTold, ← hX3.dayz hk4_5]).trans c_27)), ← hs]) (by omega) hW (lv_sub hl [2, 3, 4, 1, 0] rfl)
      exact loop_17 ((gTxs q).length - 0 + 1) (nI 0) 0 V _ _ _ (by omega) (by exact XK.rfl V) (by rfl) (by omega) hW (lv_sub hl [2, 3, 4, 1, 0] rfl)
    · exact absurd c_12 (by decide)
  · skip
    refine lv_istore_n (lv' := [(2, .int (-2)), (0, .ref (ad 0)), (1, .int x)]) hx hb dX10_laws_5 rfl hl (by decide) rfl (fun ls hl => ?_)
    refine lv_iload_n hx hb dX10_laws_6 rfl (lv_at hl 0 rfl) ?_
    refine m_if_eq (tgt := 12) hx hb dX10_laws_7 (by decide) (fun c_28 => ?_) (fun c_28 => ?_)
    · exact absurd c_28 (by decide)
    · skip
      refine lv_iload_n hx hb dX10_laws_10 rfl (lv_at hl 0 rfl) ?_
      exact m_iret S hr hlk hW dX10_laws_11 (by exact ⟨by simp only [aLaws, hr_10, if_neg (show ¬ (-2 : Int32) = nI 0 by decide)], XK.rfl V⟩)
  · skip
    refine lv_istore_n (lv' := [(2, .int (-11)), (0, .ref (ad 0)), (1, .int x)]) hx hb dX10_laws_5 rfl hl (by decide) rfl (fun ls hl => ?_)
    refine lv_iload_n hx hb dX10_laws_6 rfl (lv_at hl 0 rfl) ?_
    refine m_if_eq (tgt := 12) hx hb dX10_laws_7 (by decide) (fun c_29 => ?_) (fun c_29 => ?_)
    · exact absurd c_29 (by decide)
    · skip
      refine lv_iload_n hx hb dX10_laws_10 rfl (lv_at hl 0 rfl) ?_
      exact m_iret S hr hlk hW dX10_laws_11 (by exact ⟨by simp only [aLaws, hr_11, if_neg (show ¬ (-11 : Int32) = nI 0 by decide)], XK.rfl V⟩)
set_option maxHeartbeats 4000000 in
set_option maxRecDepth 100000 in
theorem c_X10_soonest (l : Launch) (G : mG) (ad : Nat → Nat) (sh : Nat → Option mSh) (V : mV) (q : Sg) (x w : Int32) (hX : XI sh V q) (hZk : ZOk (gZ q) (gNe q) (gNg q)) : mM l yX10_soonest wsX10_soonest ({ frames := 2, cells := 0, slots := 0, locals := 88 } : Room) G ad sh V [.ref (ad 0), .int x, .int w] 0 0 (mPi ad sh (fun r V' => (aSoonest q x w) = r ∧ (XK V V'))) := by
  refine mM.of (cc := cX10_soonest) (maxL := 8) (ret := (some .int)) (by decide) rfl (Nat.le_of_ble_eq_true rfl) ?_
  intro p e s m below meth c S hr hlk hnm hW ls hl
  obtain ⟨hx, hb, hml, hown, hts⟩ := id S
  have hl : lv_has ls 8 [(0, .ref (ad 0)), (1, .int x), (2, .int w)] := hl
  have hS0 : True := trivial
  have hne5 := hX.ne5
  have hng6 := hX.ng6
  have htn := hX.tn
  refine lv_aload_n hx hb dX10_soonest_0 rfl (lv_at hl 0 rfl) ?_
  refine m_getr S hW hX.sp.1 3 rfl (j := 20) rfl kX10 (iW10 _) (by decide) (List.mem_cons_of_mem _ (wa_2 _ (List.mem_of_getElem? (i := 8) (by decide +kernel)))) dX10_soonest_1 ?_
  refine lv_iload_n hx hb dX10_soonest_4 rfl (lv_at hl 1 rfl) ?_
  refine m_crp (m_rV S hW (c_X4_goodAt l G ad sh V 20 (110 + 3 * gRl q) ((gT q (gRl q)).2.1) ((gT q (gRl q)).2.2) ((gT q (gRl q)).1.length) (gNe q) (gNg q) x hX.sz.1 hX.sz.2.1) (cwV 1 hts (gCall [.methodLink RX10 124 yX4_goodAt, .instanceMethod yX4_goodAt, .selects RX4 yX4_goodAt yX4_goodAt, .initialized RX4] (List.forall_mem_cons.mpr ⟨(wa_17 _ (List.mem_of_getElem? (i := 13) (by decide +kernel))), (List.forall_mem_cons.mpr ⟨(wa_17 _ (List.mem_of_getElem? (i := 10) (by decide +kernel))), (List.forall_mem_cons.mpr ⟨(wa_17 _ (List.mem_of_getElem? (i := 11) (by decide +kernel))), (List.forall_mem_cons.mpr ⟨(wa_17 _ (List.mem_of_getElem? (i := 12) (by decide +kernel))), (List.forall_mem_cons.mpr ⟨(wa_2 _ (List.mem_of_getElem? (i := 7) (by decide +kernel))), (fun _ h => absurd h List.not_mem_nil)⟩)⟩)⟩)⟩)⟩)) rfl rfl rfl (by decide +kernel) ⟨Nat.le_of_ble_eq_true rfl, Nat.le_of_ble_eq_true rfl⟩) hX.sz.1.1 kX4 rfl hl.1 rfl (Nat.le_of_ble_eq_true rfl) dX10_soonest_5 ⟨Nat.le_of_ble_eq_true rfl, Nat.le_of_ble_eq_true rfl⟩) hW (fun r_2 H locs hp_1 hW => ?_)
  rcases hp_1 with ⟨n_3, rfl, hxn_4, hn_5⟩ | ⟨rfl, hx0_6⟩
  · skip
    refine W.eq (g2 := F0 m 8 ls [.ref (ad (20 + 10 + 2 * n_3))]) rfl ?_
    have hpx : mIn x 0 (gNg q) := by rw [hxn_4]; exact (mIn_nI (by have := hX.ne5; have := hX.ng6; omega)).mpr ⟨Nat.zero_le _, hn_5⟩
    have hcx : x.toNatClampNeg = n_3 := by rw [hxn_4]; exact nI_clamp (by have := hX.ne5; have := hX.ng6; omega)
    refine lv_astore_n (lv' := [(3, .ref (ad (20 + 10 + 2 * n_3))), (0, .ref (ad 0)), (1, .int x), (2, .int w)]) hx hb dX10_soonest_8 rfl hl (by decide) rfl (fun ls hl => ?_)
    refine lv_aload_n hx hb dX10_soonest_9 rfl (lv_at hl 0 rfl) ?_
    refine lv_ifnonnull (tgt := 16) hx hb dX10_soonest_10 (by decide) ?_
    refine lv_iload_n hx hb dX10_soonest_16 rfl (lv_at hl 3 rfl) ?_
    refine lv_iconst (v := nI 0) hx hb dX10_soonest_17 (by decide) ?_
    refine lv_iconst (v := nI 1) hx hb dX10_soonest_18 (by decide) ?_
    refine m_cip (m_rS S hW (c_X10_within l G ad sh V w 0 1 (by first | assumption | omega) (by first | assumption | omega)) (va_cwS 3 hts (gCall [.methodLink RX10 102 yX10_within, .static yX10_within, .initialized RX10] (List.forall_mem_cons.mpr ⟨(wa_8 _ (List.mem_of_getElem? (i := 17) (by decide +kernel))), (List.forall_mem_cons.mpr ⟨(wa_15 _ (List.mem_of_getElem? (i := 8) (by decide +kernel))), (List.forall_mem_cons.mpr ⟨(wa_8 _ (List.mem_of_getElem? (i := 16) (by decide +kernel))), (List.forall_mem_cons.mpr ⟨(wa_1 _ (List.mem_of_getElem? (i := 2) (by decide +kernel))), (fun _ h => absurd h List.not_mem_nil)⟩)⟩)⟩)⟩)) rfl rfl rfl (by decide +kernel) ⟨Nat.le_of_ble_eq_true rfl, Nat.le_of_ble_eq_true rfl⟩) rfl hl.1 rfl (Nat.le_of_ble_eq_true rfl) dX10_soonest_19 ⟨Nat.le_of_ble_eq_true rfl, Nat.le_of_ble_eq_true rfl⟩) hW (fun r_8 H locs hp_7 hW => ?_)
    rcases hp_7 with ⟨rfl, w_9⟩ | ⟨rfl, w_10⟩
    · skip
      refine m_if_ne (tgt := 28) hx hb dX10_soonest_22 (by decide) (fun c_11 => ?_) (fun c_11 => ?_)
      · skip
        refine lv_iconst (v := -1) hx hb dX10_soonest_28 (by decide) ?_
        refine lv_istore (lv' := [(4, .int (-1)), (3, .ref (ad (20 + 10 + 2 * n_3))), (0, .ref (ad 0)), (1, .int x), (2, .int w)]) hx hb dX10_soonest_29 hl (by decide) rfl (fun ls hl => ?_)
        refine lv_iconst (v := -1) hx hb dX10_soonest_31 (by decide) ?_
        refine lv_istore (lv' := [(5, .int (-1)), (4, .int (-1)), (3, .ref (ad (20 + 10 + 2 * n_3))), (0, .ref (ad 0)), (1, .int x), (2, .int w)]) hx hb dX10_soonest_32 hl (by decide) rfl (fun ls hl => ?_)
        refine lv_iconst (v := nI 0) hx hb dX10_soonest_34 (by decide) ?_
        refine lv_istore (lv' := [(6, .int (nI 0)), (5, .int (-1)), (4, .int (-1)), (3, .ref (ad (20 + 10 + 2 * n_3))), (0, .ref (ad 0)), (1, .int x), (2, .int w)]) hx hb dX10_soonest_35 hl (by decide) rfl (fun ls hl => ?_)
        have loop_37 : ∀ (n_37 : Nat) (wh le0 : Int32) (k : Nat) (V1 : mV) (H : Heap) (locs : List Loc) (ls : Array Slot), (k ≤ gNe q) → (XK V V1) → ((wh, le0) = zSoon (gZ q) x.toNatClampNeg k) → (gNe q - k) < n_37 → mC (mA ad sh s.heap.size) s.heap s G ad sh V1 H locs → lv_has ls 8 [(3, .ref (ad (20 + 10 + 2 * n_3))), (0, .ref (ad 0)), (1, .int x), (2, .int w), (4, .int wh), (5, .int le0), (6, .int (nI k))] → W p l e ({ frames := 2, cells := 0, slots := 0, locals := 88 } : Room) s m ([.ref (ad 0), .int x, .int w] : List Value).toArray below meth c H locs 0 0 (MQ below (mPost G ad sh s.heap.size (mPi ad sh (fun r V' => (aSoonest q x w) = r ∧ (XK V V')))) ([.ref (ad 0), .int x, .int w] : List Value).toArray s 0 0 (mA ad sh s.heap.size)) (F0 m 37 ls []) := by
          intro n_37
          induction n_37 with
          | zero => intro wh le0 k V1 H locs ls hk hK hpr hM_ hW hl; omega
          | succ n_37 ih_37 =>
            intro wh le0 k V1 H locs ls hk hK hpr hM_ hW hl
            have hXl := hX.k hK
            refine lv_iload hx hb dX10_soonest_37 (lv_at hl 6 rfl) ?_
            refine lv_aload_n hx hb dX10_soonest_39 rfl (lv_at hl 1 rfl) ?_
            refine m_getr S hW hX.sp.1 3 rfl (j := 20) rfl kX10 (iW10 _) (by decide) (List.mem_cons_of_mem _ (wa_2 _ (List.mem_of_getElem? (i := 8) (by decide +kernel)))) dX10_soonest_40 ?_
            refine m_geti S hW hX.sz.1.1 2 rfl kX4 (iW4 _) (by decide) (List.mem_cons_of_mem _ (wa_14 _ (List.mem_of_getElem? (i := 11) (by decide +kernel)))) dX10_soonest_43 ?_
            refine m_top (y := nI (gNe q)) hXl.now.1 ?_
            refine lv_icmp_ge (tgt := 107) hx hb dX10_soonest_46 (by decide) (fun c_12 => ?_) (fun c_12 => ?_)
            · skip
              have c_12 : (gNe q) ≤ k := (nI_leI (by omega) (by omega)).mp c_12
              refine lv_iload_n hx hb dX10_soonest_107 rfl (lv_at hl 3 rfl) ?_
              refine m_if_ne (tgt := 116) hx hb dX10_soonest_108 (by decide) (fun c_13 => ?_) (fun c_13 => ?_)
              · skip
                refine lv_iload hx hb dX10_soonest_116 (lv_at hl 5 rfl) ?_
                exact m_iret S hr hlk hW dX10_soonest_118 (by exact ⟨by simp only [aSoonest, if_pos hpx, if_pos w_9, if_neg c_13]; rw [show gNe q = k by omega]; exact (congrArg Prod.snd hpr).symm, hK⟩)
              · skip
                refine lv_iload hx hb dX10_soonest_111 (lv_at hl 4 rfl) ?_
                refine lv_goto (tgt := 118) hx hb dX10_soonest_113 (by decide) ?_
                exact m_iret S hr hlk hW dX10_soonest_118 (by exact ⟨by simp only [aSoonest, if_pos hpx, if_pos w_9, if_pos c_13]; rw [show gNe q = k by omega]; exact (congrArg Prod.fst hpr).symm, hK⟩)
            · skip
              have c_12 : ¬ (gNe q) ≤ k := mt (nI_leI (by omega) (by omega)).mpr c_12
              obtain ⟨sp, hsp, esp⟩ := hZk.sp (show k < gNe q by omega) hn_5
              obtain ⟨-, ⟨le, hle, ele⟩, -⟩ := hZk.2.2 n_3 hn_5
              have hfe : zFew (gZ q) k n_3 = fFew sp le := by rw [zFew, esp, ele, nI_clamp (by omega), nI_clamp (by omega)]
              refine lv_aload_n hx hb dX10_soonest_49 rfl (lv_at hl 1 rfl) ?_
              refine m_getr S hW hX.sp.1 8 rfl (j := 8) rfl kX10 (iW10 _) (by decide) (List.mem_cons_of_mem _ (wa_2 _ (List.mem_of_getElem? (i := 1) (by decide +kernel)))) dX10_soonest_50 ?_
              refine lv_aload_n hx hb dX10_soonest_53 rfl (lv_at hl 1 rfl) ?_
              refine m_getr S hW hX.sp.1 3 rfl (j := 20) rfl kX10 (iW10 _) (by decide) (List.mem_cons_of_mem _ (wa_2 _ (List.mem_of_getElem? (i := 8) (by decide +kernel)))) dX10_soonest_54 ?_
              refine m_getr S hW hX.sz.1.1 0 rfl (j := (20 + 1)) rfl kX4 (iW4 _) (by decide) (List.mem_cons_of_mem _ (wa_35 _ (List.mem_of_getElem? (i := 4) (by decide +kernel)))) dX10_soonest_57 ?_
              refine lv_iload hx hb dX10_soonest_60 (lv_at hl 6 rfl) ?_
              refine m_aald S hW 1 rfl hX.sz.1.2.1 k rfl (by omega) (by decide) (j := (20 + 4 + k)) (if_pos (by omega)) dX10_soonest_62 ?_
              refine lv_aload_n hx hb dX10_soonest_63 rfl (lv_at hl 0 rfl) ?_
              refine m_cie (m_rV S hW (c_X1_shapeIn l G ad sh V1 (20 + 4 + k) (20 + 10 + 2 * n_3) (hX.sz.sE (show k < gNe q by omega)) (hX.sz.sG hn_5) (hX.sz.sW hn_5)) (cwV 1 hts (gCall [.methodLink RX10 169 yX1_shapeIn, .instanceMethod yX1_shapeIn, .selects RX1 yX1_shapeIn yX1_shapeIn, .initialized RX1] (List.forall_mem_cons.mpr ⟨(wa_24 _ (List.mem_of_getElem? (i := 11) (by decide +kernel))), (List.forall_mem_cons.mpr ⟨(wa_24 _ (List.mem_of_getElem? (i := 8) (by decide +kernel))), (List.forall_mem_cons.mpr ⟨(wa_24 _ (List.mem_of_getElem? (i := 9) (by decide +kernel))), (List.forall_mem_cons.mpr ⟨(wa_24 _ (List.mem_of_getElem? (i := 10) (by decide +kernel))), (List.forall_mem_cons.mpr ⟨(wa_3 _ (List.mem_of_getElem? (i := 3) (by decide +kernel))), (fun _ h => absurd h List.not_mem_nil)⟩)⟩)⟩)⟩)⟩)) rfl rfl rfl (by decide +kernel) ⟨Nat.le_of_ble_eq_true rfl, Nat.le_of_ble_eq_true rfl⟩) (hX.sz.1.2.2.2.2.1 k (by omega)) kX1 rfl hl.1 rfl (Nat.le_of_ble_eq_true rfl) dX10_soonest_64 ⟨Nat.le_of_ble_eq_true rfl, Nat.le_of_ble_eq_true rfl⟩) hW (fun H locs hW => ?_)
              refine m_top (y := nI sp) ((hXl.vSp (by omega) hn_5).trans esp) ?_
              refine lv_aload_n hx hb dX10_soonest_67 rfl (lv_at hl 0 rfl) ?_
              refine m_geti S hW (hX.sz.1.2.2.2.2.2.1 n_3 (Nat.lt_of_lt_of_le hn_5 hX.sz.2.1.2.2.2.1)) 2 rfl kX3 (iW3 _) (by decide) (List.mem_cons_of_mem _ (wa_34 _ (List.mem_of_getElem? (i := 9) (by decide +kernel)))) dX10_soonest_68 ?_
              refine m_top (y := nI le) ((hXl.zG 2 hn_5 (Or.inr rfl)).symm.trans ele) ?_
              refine m_ci (m_rV S hW (c_X0_fewestBites l G ad sh V1 sp le hX.sp.2.2.2.2.2.1.1 hX.sp.2.2.2.2.2.1.2 hXl.cov hsp hle) (cwV 2 hts (gCall [.methodLink RX10 230 yX0_fewestBites, .instanceMethod yX0_fewestBites, .selects RX0 yX0_fewestBites yX0_fewestBites, .initialized RX0] (List.forall_mem_cons.mpr ⟨(wa_34 _ (List.mem_of_getElem? (i := 13) (by decide +kernel))), (List.forall_mem_cons.mpr ⟨(wa_34 _ (List.mem_of_getElem? (i := 10) (by decide +kernel))), (List.forall_mem_cons.mpr ⟨(wa_34 _ (List.mem_of_getElem? (i := 11) (by decide +kernel))), (List.forall_mem_cons.mpr ⟨(wa_34 _ (List.mem_of_getElem? (i := 12) (by decide +kernel))), (List.forall_mem_cons.mpr ⟨(wa_2 _ (List.mem_of_getElem? (i := 0) (by decide +kernel))), (fun _ h => absurd h List.not_mem_nil)⟩)⟩)⟩)⟩)⟩)) rfl rfl rfl (by decide +kernel) ⟨Nat.le_of_ble_eq_true rfl, Nat.le_of_ble_eq_true rfl⟩) hX.sp.2.2.2.2.2.1.1 kX0 rfl hl.1 rfl (Nat.le_of_ble_eq_true rfl) dX10_soonest_71 ⟨Nat.le_of_ble_eq_true rfl, Nat.le_of_ble_eq_true rfl⟩) hW (fun r_16 V_14 H locs hp_15 hW => ?_)
              obtain ⟨rfl, hfr_17, h90_18⟩ := hp_15
              refine lv_istore (lv' := [(7, .int (fFew sp le)), (3, .ref (ad (20 + 10 + 2 * n_3))), (0, .ref (ad 0)), (1, .int x), (2, .int w), (4, .int wh), (5, .int le0), (6, .int (nI k))]) hx hb dX10_soonest_74 hl (by decide) rfl (fun ls hl => ?_)
              refine lv_iload hx hb dX10_soonest_76 (lv_at hl 0 rfl) ?_
              refine m_if_lt (tgt := 101) hx hb dX10_soonest_78 (by decide) (fun c_19 => ?_) (fun c_19 => ?_)
              · skip
                refine lv_iinc (v := nI (k + 1)) (lv' := [(6, .int (nI (k + 1))), (7, .int (fFew sp le)), (3, .ref (ad (20 + 10 + 2 * n_3))), (0, .ref (ad 0)), (1, .int x), (2, .int w), (4, .int wh), (5, .int le0)]) hx hb dX10_soonest_101 hl (k := 7) rfl (m_inc k 1) (by decide) rfl (fun ls hl => ?_)
                refine lv_goto (tgt := 37) hx hb dX10_soonest_104 (by decide) ?_
                exact ih_37  wh le0 (k + 1) V_14 _ _ _ (by omega) (by exact hK.cov hfr_17 (h90_18.trans hXl.cov.symm)) (by have hq := hpr.symm; rw [show x.toNatClampNeg = n_3 from hcx] at hq ⊢; rw [zSoon, hfe, hq]; exact (if_neg (fun z => absurd z.1 (Int32.not_le.mpr c_19))).symm) (by omega) hW (lv_sub hl [2, 3, 4, 5, 6, 7, 0] rfl)
              · skip
                refine lv_iload hx hb dX10_soonest_81 (lv_at hl 5 rfl) ?_
                refine m_if_lt (tgt := 93) hx hb dX10_soonest_83 (by decide) (fun c_20 => ?_) (fun c_20 => ?_)
                · skip
                  refine lv_iload hx hb dX10_soonest_93 (lv_at hl 7 rfl) ?_
                  refine lv_istore (lv' := [(4, .int (nI k)), (7, .int (fFew sp le)), (3, .ref (ad (20 + 10 + 2 * n_3))), (0, .ref (ad 0)), (1, .int x), (2, .int w), (5, .int le0), (6, .int (nI k))]) hx hb dX10_soonest_95 hl (by decide) rfl (fun ls hl => ?_)
                  refine lv_iload hx hb dX10_soonest_97 (lv_at hl 1 rfl) ?_
                  refine lv_istore (lv' := [(5, .int (fFew sp le)), (4, .int (nI k)), (7, .int (fFew sp le)), (3, .ref (ad (20 + 10 + 2 * n_3))), (0, .ref (ad 0)), (1, .int x), (2, .int w), (6, .int (nI k))]) hx hb dX10_soonest_99 hl (by decide) rfl (fun ls hl => ?_)
                  refine lv_iinc (v := nI (k + 1)) (lv' := [(6, .int (nI (k + 1))), (5, .int (fFew sp le)), (4, .int (nI k)), (7, .int (fFew sp le)), (3, .ref (ad (20 + 10 + 2 * n_3))), (0, .ref (ad 0)), (1, .int x), (2, .int w)]) hx hb dX10_soonest_101 hl (k := 7) rfl (m_inc k 1) (by decide) rfl (fun ls hl => ?_)
                  refine lv_goto (tgt := 37) hx hb dX10_soonest_104 (by decide) ?_
                  exact ih_37  (nI k) (fFew sp le) (k + 1) V_14 _ _ _ (by omega) (by exact hK.cov hfr_17 (h90_18.trans hXl.cov.symm)) (by have hq := hpr.symm; rw [show x.toNatClampNeg = n_3 from hcx] at hq ⊢; rw [zSoon, hfe, hq]; exact (if_pos ⟨Int32.not_lt.mp c_19, Or.inl c_20⟩).symm) (by omega) hW (lv_sub hl [4, 5, 6, 7, 2, 1, 0] rfl)
                · skip
                  refine lv_iload hx hb dX10_soonest_86 (lv_at hl 0 rfl) ?_
                  refine lv_iload hx hb dX10_soonest_88 (lv_at hl 6 rfl) ?_
                  refine lv_icmp_ge (tgt := 101) hx hb dX10_soonest_90 (by decide) (fun c_21 => ?_) (fun c_21 => ?_)
                  · skip
                    refine lv_iinc (v := nI (k + 1)) (lv' := [(6, .int (nI (k + 1))), (7, .int (fFew sp le)), (3, .ref (ad (20 + 10 + 2 * n_3))), (0, .ref (ad 0)), (1, .int x), (2, .int w), (4, .int wh), (5, .int le0)]) hx hb dX10_soonest_101 hl (k := 7) rfl (m_inc k 1) (by decide) rfl (fun ls hl => ?_)
                    refine lv_goto (tgt := 37) hx hb dX10_soonest_104 (by decide) ?_
                    exact ih_37  wh le0 (k + 1) V_14 _ _ _ (by omega) (by exact hK.cov hfr_17 (h90_18.trans hXl.cov.symm)) (by have hq := hpr.symm; rw [show x.toNatClampNeg = n_3 from hcx] at hq ⊢; rw [zSoon, hfe, hq]; exact (if_neg (fun z => z.2.elim (fun y => c_20 y) (fun y => absurd y (Int32.not_lt.mpr c_21)))).symm) (by omega) hW (lv_sub hl [2, 3, 4, 5, 6, 7, 0] rfl)
                  · skip
                    refine lv_iload hx hb dX10_soonest_93 (lv_at hl 7 rfl) ?_
                    refine lv_istore (lv' := [(4, .int (nI k)), (7, .int (fFew sp le)), (3, .ref (ad (20 + 10 + 2 * n_3))), (0, .ref (ad 0)), (1, .int x), (2, .int w), (5, .int le0), (6, .int (nI k))]) hx hb dX10_soonest_95 hl (by decide) rfl (fun ls hl => ?_)
                    refine lv_iload hx hb dX10_soonest_97 (lv_at hl 1 rfl) ?_
                    refine lv_istore (lv' := [(5, .int (fFew sp le)), (4, .int (nI k)), (7, .int (fFew sp le)), (3, .ref (ad (20 + 10 + 2 * n_3))), (0, .ref (ad 0)), (1, .int x), (2, .int w), (6, .int (nI k))]) hx hb dX10_soonest_99 hl (by decide) rfl (fun ls hl => ?_)
                    refine lv_iinc (v := nI (k + 1)) (lv' := [(6, .int (nI (k + 1))), (5, .int (fFew sp le)), (4, .int (nI k)), (7, .int (fFew sp le)), (3, .ref (ad (20 + 10 + 2 * n_3))), (0, .ref (ad 0)), (1, .int x), (2, .int w)]) hx hb dX10_soonest_101 hl (k := 7) rfl (m_inc k 1) (by decide) rfl (fun ls hl => ?_)
                    refine lv_goto (tgt := 37) hx hb dX10_soonest_104 (by decide) ?_
                    exact ih_37  (nI k) (fFew sp le) (k + 1) V_14 _ _ _ (by omega) (by exact hK.cov hfr_17 (h90_18.trans hXl.cov.symm)) (by have hq := hpr.symm; rw [show x.toNatClampNeg = n_3 from hcx] at hq ⊢; rw [zSoon, hfe, hq]; exact (if_pos ⟨Int32.not_lt.mp c_19, Or.inr (Int32.not_le.mp c_21)⟩).symm) (by omega) hW (lv_sub hl [4, 5, 6, 7, 2, 1, 0] rfl)
        exact loop_37 (gNe q - 0 + 1) (-1) (-1) 0 V _ _ _ (by omega) (by exact XK.rfl V) (by rfl) (by omega) hW (lv_sub hl [3, 4, 5, 6, 2, 1, 0] rfl)
      · exact absurd c_11 (by decide)
    · skip
      refine m_if_ne (tgt := 28) hx hb dX10_soonest_22 (by decide) (fun c_22 => ?_) (fun c_22 => ?_)
      · exact absurd c_22 (by decide)
      · skip
        refine lv_bipush (v := -7) hx hb dX10_soonest_25 (by decide) ?_
        exact m_iret S hr hlk hW dX10_soonest_27 (by exact ⟨by simp only [aSoonest, if_pos hpx, hcx, if_neg w_10], XK.rfl V⟩)
  · skip
    refine W.eq (g2 := F0 m 8 ls [.null]) rfl ?_
    refine lv_astore_nN (lv' := [(3, .null), (0, .ref (ad 0)), (1, .int x), (2, .int w)]) hx hb dX10_soonest_8 rfl hl (by decide) rfl (fun ls hl => ?_)
    refine lv_aload_nN hx hb dX10_soonest_9 rfl (lv_at hl 0 rfl) ?_
    refine lv_ifnonnullN hx hb dX10_soonest_10 ?_
    refine lv_bipush (v := -5) hx hb dX10_soonest_13 (by decide) ?_
    exact m_iret S hr hlk hW dX10_soonest_15 (by exact ⟨by simp only [aSoonest, if_neg hx0_6], XK.rfl V⟩)
set_option maxHeartbeats 4000000 in
set_option maxRecDepth 100000 in
theorem c_X10_whose (l : Launch) (G : mG) (ad : Nat → Nat) (sh : Nat → Option mSh) (V : mV) (q : Sg) (x y : Int32) (hX : XI sh V q) : mM l yX10_whose wsX10_whose ({ frames := 3, cells := 0, slots := 0, locals := 69 } : Room) G ad sh V [.ref (ad 0), .int x, .int y] 0 0 (mPe ad sh V (aWhose q x y)) := by
  refine mM.of (cc := cX10_whose) (maxL := 6) (ret := (some .int)) (by decide) rfl (Nat.le_of_ble_eq_true rfl) ?_
  intro p e s m below meth c S hr hlk hnm hW ls hl
  obtain ⟨hx, hb, hml, hown, hts⟩ := id S
  have hl : lv_has ls 6 [(0, .ref (ad 0)), (1, .int x), (2, .int y)] := hl
  have hS0 : True := trivial
  have hne5 := hX.ne5
  have hng6 := hX.ng6
  have htn := hX.tn
  refine lv_aload_n hx hb dX10_whose_0 rfl (lv_at hl 0 rfl) ?_
  refine m_getr S hW hX.sp.1 3 rfl (j := 20) rfl kX10 (iW10 _) (by decide) (List.mem_cons_of_mem _ (wa_2 _ (List.mem_of_getElem? (i := 8) (by decide +kernel)))) dX10_whose_1 ?_
  refine lv_iload_n hx hb dX10_whose_4 rfl (lv_at hl 1 rfl) ?_
  refine m_crp (m_rV S hW (c_X4_goodAt l G ad sh V 20 (110 + 3 * gRl q) ((gT q (gRl q)).2.1) ((gT q (gRl q)).2.2) ((gT q (gRl q)).1.length) (gNe q) (gNg q) x hX.sz.1 hX.sz.2.1) (cwV 1 hts (gCall [.methodLink RX10 124 yX4_goodAt, .instanceMethod yX4_goodAt, .selects RX4 yX4_goodAt yX4_goodAt, .initialized RX4] (List.forall_mem_cons.mpr ⟨(wa_17 _ (List.mem_of_getElem? (i := 13) (by decide +kernel))), (List.forall_mem_cons.mpr ⟨(wa_17 _ (List.mem_of_getElem? (i := 10) (by decide +kernel))), (List.forall_mem_cons.mpr ⟨(wa_17 _ (List.mem_of_getElem? (i := 11) (by decide +kernel))), (List.forall_mem_cons.mpr ⟨(wa_17 _ (List.mem_of_getElem? (i := 12) (by decide +kernel))), (List.forall_mem_cons.mpr ⟨(wa_2 _ (List.mem_of_getElem? (i := 7) (by decide +kernel))), (fun _ h => absurd h List.not_mem_nil)⟩)⟩)⟩)⟩)⟩)) rfl rfl rfl (by decide +kernel) ⟨Nat.le_of_ble_eq_true rfl, Nat.le_of_ble_eq_true rfl⟩) hX.sz.1.1 kX4 rfl hl.1 rfl (Nat.le_of_ble_eq_true rfl) dX10_whose_5 ⟨Nat.le_of_ble_eq_true rfl, Nat.le_of_ble_eq_true rfl⟩) hW (fun r_2 H locs hp_1 hW => ?_)
  rcases hp_1 with ⟨n_3, rfl, hxn_4, hn_5⟩ | ⟨rfl, hx0_6⟩
  · skip
    refine W.eq (g2 := F0 m 8 ls [.ref (ad (20 + 10 + 2 * n_3))]) rfl ?_
    have hpx : mIn x 0 (gNg q) := by rw [hxn_4]; exact (mIn_nI (by have := hX.ne5; have := hX.ng6; omega)).mpr ⟨Nat.zero_le _, hn_5⟩
    have hcx : x.toNatClampNeg = n_3 := by rw [hxn_4]; exact nI_clamp (by have := hX.ne5; have := hX.ng6; omega)
    refine lv_astore_n (lv' := [(3, .ref (ad (20 + 10 + 2 * n_3))), (0, .ref (ad 0)), (1, .int x), (2, .int y)]) hx hb dX10_whose_8 rfl hl (by decide) rfl (fun ls hl => ?_)
    refine lv_aload_n hx hb dX10_whose_9 rfl (lv_at hl 0 rfl) ?_
    refine lv_ifnonnull (tgt := 16) hx hb dX10_whose_10 (by decide) ?_
    refine lv_aload_n hx hb dX10_whose_16 rfl (lv_at hl 0 rfl) ?_
    refine lv_iload_n hx hb dX10_whose_17 rfl (lv_at hl 3 rfl) ?_
    refine m_cip (m_rS S hW (c_X10_isMarkOf l G ad sh V (20 + 10 + 2 * n_3) y (hX.sz.sG hn_5) (hX.sz.sW hn_5)) (va_cwS 2 hts (gCall [.methodLink RX10 244 yX10_isMarkOf, .static yX10_isMarkOf, .initialized RX10] (List.forall_mem_cons.mpr ⟨(wa_36 _ (List.mem_of_getElem? (i := 10) (by decide +kernel))), (List.forall_mem_cons.mpr ⟨(wa_36 _ (List.mem_of_getElem? (i := 8) (by decide +kernel))), (List.forall_mem_cons.mpr ⟨(wa_36 _ (List.mem_of_getElem? (i := 9) (by decide +kernel))), (List.forall_mem_cons.mpr ⟨(wa_1 _ (List.mem_of_getElem? (i := 2) (by decide +kernel))), (fun _ h => absurd h List.not_mem_nil)⟩)⟩)⟩)⟩)) rfl rfl rfl (by decide +kernel) ⟨Nat.le_of_ble_eq_true rfl, Nat.le_of_ble_eq_true rfl⟩) rfl hl.1 rfl (Nat.le_of_ble_eq_true rfl) dX10_whose_18 ⟨Nat.le_of_ble_eq_true rfl, Nat.le_of_ble_eq_true rfl⟩) hW (fun r_8 H locs hp_7 hW => ?_)
    rcases hp_7 with ⟨rfl, w_9⟩ | ⟨rfl, w_10⟩
    · skip
      have hmk : zMkOk (gZ q) n_3 y := by rw [zMkOk, hX.zG 2 hn_5 (Or.inr rfl)]; exact w_9
      refine m_if_ne (tgt := 27) hx hb dX10_whose_21 (by decide) (fun c_11 => ?_) (fun c_11 => ?_)
      · skip
        refine lv_iconst (v := nI 0) hx hb dX10_whose_27 (by decide) ?_
        refine lv_istore (lv' := [(4, .int (nI 0)), (3, .ref (ad (20 + 10 + 2 * n_3))), (0, .ref (ad 0)), (1, .int x), (2, .int y)]) hx hb dX10_whose_28 hl (by decide) rfl (fun ls hl => ?_)
        refine lv_iconst (v := nI 0) hx hb dX10_whose_30 (by decide) ?_
        refine lv_istore (lv' := [(5, .int (nI 0)), (4, .int (nI 0)), (3, .ref (ad (20 + 10 + 2 * n_3))), (0, .ref (ad 0)), (1, .int x), (2, .int y)]) hx hb dX10_whose_31 hl (by decide) rfl (fun ls hl => ?_)
        have loop_33 : ∀ (n_33 : Nat) (sm : Int32) (k : Nat) (H : Heap) (locs : List Loc) (ls : Array Slot), (k ≤ gNe q) → (sm = fBitsOf (fun u => fCan (zSp (gZ q) u x.toNatClampNeg) (gZ q (10 + 2 * x.toNatClampNeg) 2) y) k) → (gNe q - k) < n_33 → mC (mA ad sh s.heap.size) s.heap s G ad sh V H locs → lv_has ls 6 [(3, .ref (ad (20 + 10 + 2 * n_3))), (0, .ref (ad 0)), (1, .int x), (2, .int y), (4, .int sm), (5, .int (nI k))] → W p l e ({ frames := 3, cells := 0, slots := 0, locals := 69 } : Room) s m ([.ref (ad 0), .int x, .int y] : List Value).toArray below meth c H locs 0 0 (MQ below (mPost G ad sh s.heap.size (mPe ad sh V (aWhose q x y))) ([.ref (ad 0), .int x, .int y] : List Value).toArray s 0 0 (mA ad sh s.heap.size)) (F0 m 33 ls []) := by
          intro n_33
          induction n_33 with
          | zero => intro sm k H locs ls hk hs hM_ hW hl; omega
          | succ n_33 ih_33 =>
            intro sm k H locs ls hk hs hM_ hW hl
            refine lv_iload hx hb dX10_whose_33 (lv_at hl 5 rfl) ?_
            refine lv_aload_n hx hb dX10_whose_35 rfl (lv_at hl 1 rfl) ?_
            refine m_getr S hW hX.sp.1 3 rfl (j := 20) rfl kX10 (iW10 _) (by decide) (List.mem_cons_of_mem _ (wa_2 _ (List.mem_of_getElem? (i := 8) (by decide +kernel)))) dX10_whose_36 ?_
            refine m_geti S hW hX.sz.1.1 2 rfl kX4 (iW4 _) (by decide) (List.mem_cons_of_mem _ (wa_14 _ (List.mem_of_getElem? (i := 11) (by decide +kernel)))) dX10_whose_39 ?_
            refine m_top (y := nI (gNe q)) hX.now.1 ?_
            refine lv_icmp_ge (tgt := 78) hx hb dX10_whose_42 (by decide) (fun c_12 => ?_) (fun c_12 => ?_)
            · skip
              have c_12 : (gNe q) ≤ k := (nI_leI (by omega) (by omega)).mp c_12
              refine lv_iload hx hb dX10_whose_78 (lv_at hl 4 rfl) ?_
              exact m_iret S hr hlk hW dX10_whose_80 ⟨rfl, (by simp only [aWhose, if_pos hpx, hcx, if_pos hmk]; rw [hcx] at hs; rw [hs, show gNe q = k by omega])⟩
            · skip
              have c_12 : ¬ (gNe q) ≤ k := mt (nI_leI (by omega) (by omega)).mpr c_12
              refine lv_aload_n hx hb dX10_whose_45 rfl (lv_at hl 1 rfl) ?_
              refine m_getr S hW hX.sp.1 3 rfl (j := 20) rfl kX10 (iW10 _) (by decide) (List.mem_cons_of_mem _ (wa_2 _ (List.mem_of_getElem? (i := 8) (by decide +kernel)))) dX10_whose_46 ?_
              refine m_getr S hW hX.sz.1.1 0 rfl (j := (20 + 1)) rfl kX4 (iW4 _) (by decide) (List.mem_cons_of_mem _ (wa_35 _ (List.mem_of_getElem? (i := 4) (by decide +kernel)))) dX10_whose_49 ?_
              refine lv_iload hx hb dX10_whose_52 (lv_at hl 5 rfl) ?_
              refine m_aald S hW 1 rfl hX.sz.1.2.1 k rfl (by omega) (by decide) (j := (20 + 4 + k)) (if_pos (by omega)) dX10_whose_54 ?_
              refine lv_aload_n hx hb dX10_whose_55 rfl (lv_at hl 0 rfl) ?_
              refine lv_iload_n hx hb dX10_whose_56 rfl (lv_at hl 3 rfl) ?_
              refine m_cip (m_rV S hW (c_X1_canLeave l G ad sh V (20 + 4 + k) (20 + 10 + 2 * n_3) y (hX.sz.sE (show k < gNe q by omega)) (hX.sz.sG hn_5) (hX.sz.sW hn_5)) (cwV 2 hts (gCall [.methodLink RX10 248 yX1_canLeave, .instanceMethod yX1_canLeave, .selects RX1 yX1_canLeave yX1_canLeave, .initialized RX1] (List.forall_mem_cons.mpr ⟨(wa_36 _ (List.mem_of_getElem? (i := 14) (by decide +kernel))), (List.forall_mem_cons.mpr ⟨(wa_36 _ (List.mem_of_getElem? (i := 11) (by decide +kernel))), (List.forall_mem_cons.mpr ⟨(wa_36 _ (List.mem_of_getElem? (i := 12) (by decide +kernel))), (List.forall_mem_cons.mpr ⟨(wa_36 _ (List.mem_of_getElem? (i := 13) (by decide +kernel))), (List.forall_mem_cons.mpr ⟨(wa_3 _ (List.mem_of_getElem? (i := 3) (by decide +kernel))), (fun _ h => absurd h List.not_mem_nil)⟩)⟩)⟩)⟩)⟩)) rfl rfl rfl (by decide +kernel) ⟨Nat.le_of_ble_eq_true rfl, Nat.le_of_ble_eq_true rfl⟩) (hX.sz.1.2.2.2.2.1 k (by omega)) kX1 rfl hl.1 rfl (Nat.le_of_ble_eq_true rfl) dX10_whose_57 ⟨Nat.le_of_ble_eq_true rfl, Nat.le_of_ble_eq_true rfl⟩) hW (fun r_14 H locs hp_13 hW => ?_)
              rcases hp_13 with ⟨rfl, w_15⟩ | ⟨rfl, w_16⟩
              · skip
                refine m_if_eq (tgt := 72) hx hb dX10_whose_60 (by decide) (fun c_17 => ?_) (fun c_17 => ?_)
                · exact absurd c_17 (by decide)
                · skip
                  refine lv_iload hx hb dX10_whose_63 (lv_at hl 4 rfl) ?_
                  refine lv_iconst (v := nI 1) hx hb dX10_whose_65 (by decide) ?_
                  refine lv_iload hx hb dX10_whose_66 (lv_at hl 5 rfl) ?_
                  refine lv_ishl hx hb dX10_whose_68 ?_
                  refine lv_ior hx hb dX10_whose_69 ?_
                  refine lv_istore (lv' := [(4, .int (sm ||| ((nI 1) <<< ((nI k) &&& 31)))), (3, .ref (ad (20 + 10 + 2 * n_3))), (0, .ref (ad 0)), (1, .int x), (2, .int y), (5, .int (nI k))]) hx hb dX10_whose_70 hl (by decide) rfl (fun ls hl => ?_)
                  refine lv_iinc (v := nI (k + 1)) (lv' := [(5, .int (nI (k + 1))), (4, .int (sm ||| ((nI 1) <<< ((nI k) &&& 31)))), (3, .ref (ad (20 + 10 + 2 * n_3))), (0, .ref (ad 0)), (1, .int x), (2, .int y)]) hx hb dX10_whose_72 hl (k := 5) rfl (m_inc k 1) (by decide) rfl (fun ls hl => ?_)
                  refine lv_goto (tgt := 33) hx hb dX10_whose_75 (by decide) ?_
                  exact ih_33  (sm ||| ((nI 1) <<< ((nI k) &&& 31))) (k + 1)  _ _ _ (by omega) (by have hw := w_15; rw [hX.vSp (show k < gNe q by omega) hn_5, ← hX.zG 2 hn_5 (Or.inr rfl)] at hw; rw [hcx] at hs ⊢; rw [fBitsOf_t (fCan_t hw), ← hs]) (by omega) hW (lv_sub hl [2, 3, 4, 5, 1, 0] rfl)
              · skip
                refine m_if_eq (tgt := 72) hx hb dX10_whose_60 (by decide) (fun c_18 => ?_) (fun c_18 => ?_)
                · skip
                  refine lv_iinc (v := nI (k + 1)) (lv' := [(5, .int (nI (k + 1))), (3, .ref (ad (20 + 10 + 2 * n_3))), (0, .ref (ad 0)), (1, .int x), (2, .int y), (4, .int sm)]) hx hb dX10_whose_72 hl (k := 5) rfl (m_inc k 1) (by decide) rfl (fun ls hl => ?_)
                  refine lv_goto (tgt := 33) hx hb dX10_whose_75 (by decide) ?_
                  exact ih_33  sm (k + 1)  _ _ _ (by omega) (by have hw := w_16; rw [hX.vSp (show k < gNe q by omega) hn_5, ← hX.zG 2 hn_5 (Or.inr rfl)] at hw; rw [hcx] at hs ⊢; rw [fBitsOf_f (fCan_f hw), ← hs]) (by omega) hW (lv_sub hl [1, 2, 3, 4, 5, 0] rfl)
                · exact absurd c_18 (by decide)
        exact loop_33 (gNe q - 0 + 1) (nI 0) 0  _ _ _ (by omega) (by rfl) (by omega) hW (lv_sub hl [2, 3, 4, 5, 1, 0] rfl)
      · exact absurd c_11 (by decide)
    · skip
      have hmk : ¬ zMkOk (gZ q) n_3 y := by rw [zMkOk, hX.zG 2 hn_5 (Or.inr rfl)]; exact w_10
      refine m_if_ne (tgt := 27) hx hb dX10_whose_21 (by decide) (fun c_19 => ?_) (fun c_19 => ?_)
      · exact absurd c_19 (by decide)
      · skip
        refine lv_bipush (v := -7) hx hb dX10_whose_24 (by decide) ?_
        exact m_iret S hr hlk hW dX10_whose_26 ⟨rfl, (by simp only [aWhose, if_pos hpx, hcx, if_neg hmk])⟩
  · skip
    refine W.eq (g2 := F0 m 8 ls [.null]) rfl ?_
    refine lv_astore_nN (lv' := [(3, .null), (0, .ref (ad 0)), (1, .int x), (2, .int y)]) hx hb dX10_whose_8 rfl hl (by decide) rfl (fun ls hl => ?_)
    refine lv_aload_nN hx hb dX10_whose_9 rfl (lv_at hl 0 rfl) ?_
    refine lv_ifnonnullN hx hb dX10_whose_10 ?_
    refine lv_bipush (v := -5) hx hb dX10_whose_13 (by decide) ?_
    exact m_iret S hr hlk hW dX10_whose_15 ⟨rfl, (by simp only [aWhose, if_neg hx0_6])⟩
set_option maxHeartbeats 4000000 in
set_option maxRecDepth 100000 in
theorem c_X10_kinds (l : Launch) (G : mG) (ad : Nat → Nat) (sh : Nat → Option mSh) (V : mV) (q : Sg) (x y mk w : Int32) (hX : XI sh V q) : mM l yX10_kinds wsX10_kinds ({ frames := 4, cells := 0, slots := 0, locals := 94 } : Room) G ad sh V [.ref (ad 0), .int x, .int y, .int mk, .int w] 0 0 (mPi ad sh (fun r V' => (aKinds q x y mk w) = r ∧ (XK V V'))) := by
  refine mM.of (cc := cX10_kinds) (maxL := 7) (ret := (some .int)) (by decide) rfl (Nat.le_of_ble_eq_true rfl) ?_
  intro p e s m below meth c S hr hlk hnm hW ls hl
  obtain ⟨hx, hb, hml, hown, hts⟩ := id S
  have hl : lv_has ls 7 [(0, .ref (ad 0)), (1, .int x), (2, .int y), (3, .int mk), (4, .int w)] := hl
  have hS0 : True := trivial
  have hne5 := hX.ne5
  have hng6 := hX.ng6
  have htn := hX.tn
  refine lv_aload_n hx hb dX10_kinds_0 rfl (lv_at hl 0 rfl) ?_
  refine m_getr S hW hX.sp.1 3 rfl (j := 20) rfl kX10 (iW10 _) (by decide) (List.mem_cons_of_mem _ (wa_2 _ (List.mem_of_getElem? (i := 8) (by decide +kernel)))) dX10_kinds_1 ?_
  refine lv_iload_n hx hb dX10_kinds_4 rfl (lv_at hl 1 rfl) ?_
  refine m_crp (m_rV S hW (c_X4_eaterAt l G ad sh V 20 (110 + 3 * gRl q) ((gT q (gRl q)).2.1) ((gT q (gRl q)).2.2) ((gT q (gRl q)).1.length) (gNe q) (gNg q) x hX.sz.1 hX.sz.2.1) (cwV 1 hts (gCall [.methodLink RX10 120 yX4_eaterAt, .instanceMethod yX4_eaterAt, .selects RX4 yX4_eaterAt yX4_eaterAt, .initialized RX4] (List.forall_mem_cons.mpr ⟨(wa_17 _ (List.mem_of_getElem? (i := 8) (by decide +kernel))), (List.forall_mem_cons.mpr ⟨(wa_17 _ (List.mem_of_getElem? (i := 5) (by decide +kernel))), (List.forall_mem_cons.mpr ⟨(wa_17 _ (List.mem_of_getElem? (i := 6) (by decide +kernel))), (List.forall_mem_cons.mpr ⟨(wa_17 _ (List.mem_of_getElem? (i := 7) (by decide +kernel))), (List.forall_mem_cons.mpr ⟨(wa_2 _ (List.mem_of_getElem? (i := 7) (by decide +kernel))), (fun _ h => absurd h List.not_mem_nil)⟩)⟩)⟩)⟩)⟩)) rfl rfl rfl (by decide +kernel) ⟨Nat.le_of_ble_eq_true rfl, Nat.le_of_ble_eq_true rfl⟩) hX.sz.1.1 kX4 rfl hl.1 rfl (Nat.le_of_ble_eq_true rfl) dX10_kinds_5 ⟨Nat.le_of_ble_eq_true rfl, Nat.le_of_ble_eq_true rfl⟩) hW (fun r_2 H locs hp_1 hW => ?_)
  rcases hp_1 with ⟨n_3, rfl, hxn_4, hn_5⟩ | ⟨rfl, hx0_6⟩
  · skip
    refine W.eq (g2 := F0 m 8 ls [.ref (ad (20 + 4 + n_3))]) rfl ?_
    have hpx : mIn x 0 (gNe q) := by rw [hxn_4]; exact (mIn_nI (by have := hX.ne5; have := hX.ng6; omega)).mpr ⟨Nat.zero_le _, hn_5⟩
    have hcx : x.toNatClampNeg = n_3 := by rw [hxn_4]; exact nI_clamp (by have := hX.ne5; have := hX.ng6; omega)
    refine lv_astore (lv' := [(5, .ref (ad (20 + 4 + n_3))), (0, .ref (ad 0)), (1, .int x), (2, .int y), (3, .int mk), (4, .int w)]) hx hb dX10_kinds_8 hl (by decide) rfl (fun ls hl => ?_)
    refine lv_aload_n hx hb dX10_kinds_10 rfl (lv_at hl 1 rfl) ?_
    refine m_getr S hW hX.sp.1 3 rfl (j := 20) rfl kX10 (iW10 _) (by decide) (List.mem_cons_of_mem _ (wa_2 _ (List.mem_of_getElem? (i := 8) (by decide +kernel)))) dX10_kinds_11 ?_
    refine lv_iload_n hx hb dX10_kinds_14 rfl (lv_at hl 3 rfl) ?_
    refine m_crp (m_rV S hW (c_X4_goodAt l G ad sh V 20 (110 + 3 * gRl q) ((gT q (gRl q)).2.1) ((gT q (gRl q)).2.2) ((gT q (gRl q)).1.length) (gNe q) (gNg q) y hX.sz.1 hX.sz.2.1) (cwV 1 hts (gCall [.methodLink RX10 124 yX4_goodAt, .instanceMethod yX4_goodAt, .selects RX4 yX4_goodAt yX4_goodAt, .initialized RX4] (List.forall_mem_cons.mpr ⟨(wa_17 _ (List.mem_of_getElem? (i := 13) (by decide +kernel))), (List.forall_mem_cons.mpr ⟨(wa_17 _ (List.mem_of_getElem? (i := 10) (by decide +kernel))), (List.forall_mem_cons.mpr ⟨(wa_17 _ (List.mem_of_getElem? (i := 11) (by decide +kernel))), (List.forall_mem_cons.mpr ⟨(wa_17 _ (List.mem_of_getElem? (i := 12) (by decide +kernel))), (List.forall_mem_cons.mpr ⟨(wa_2 _ (List.mem_of_getElem? (i := 7) (by decide +kernel))), (fun _ h => absurd h List.not_mem_nil)⟩)⟩)⟩)⟩)⟩)) rfl rfl rfl (by decide +kernel) ⟨Nat.le_of_ble_eq_true rfl, Nat.le_of_ble_eq_true rfl⟩) hX.sz.1.1 kX4 rfl hl.1 rfl (Nat.le_of_ble_eq_true rfl) dX10_kinds_15 ⟨Nat.le_of_ble_eq_true rfl, Nat.le_of_ble_eq_true rfl⟩) hW (fun r_8 H locs hp_7 hW => ?_)
    rcases hp_7 with ⟨n_9, rfl, hxn_10, hn_11⟩ | ⟨rfl, hx0_12⟩
    · skip
      refine W.eq (g2 := F0 m 18 ls [.ref (ad (20 + 10 + 2 * n_9))]) rfl ?_
      have hpy : mIn y 0 (gNg q) := by rw [hxn_10]; exact (mIn_nI (by have := hX.ne5; have := hX.ng6; omega)).mpr ⟨Nat.zero_le _, hn_11⟩
      have hcy : y.toNatClampNeg = n_9 := by rw [hxn_10]; exact nI_clamp (by have := hX.ne5; have := hX.ng6; omega)
      refine lv_astore (lv' := [(6, .ref (ad (20 + 10 + 2 * n_9))), (5, .ref (ad (20 + 4 + n_3))), (0, .ref (ad 0)), (1, .int x), (2, .int y), (3, .int mk), (4, .int w)]) hx hb dX10_kinds_18 hl (by decide) rfl (fun ls hl => ?_)
      refine lv_aload hx hb dX10_kinds_20 (lv_at hl 1 rfl) ?_
      refine lv_ifnonnull (tgt := 28) hx hb dX10_kinds_22 (by decide) ?_
      refine lv_aload hx hb dX10_kinds_28 (lv_at hl 0 rfl) ?_
      refine lv_ifnonnull (tgt := 36) hx hb dX10_kinds_30 (by decide) ?_
      refine lv_aload hx hb dX10_kinds_36 (lv_at hl 0 rfl) ?_
      refine lv_iload_n hx hb dX10_kinds_38 rfl (lv_at hl 5 rfl) ?_
      refine m_cip (m_rS S hW (c_X10_isMarkOf l G ad sh V (20 + 10 + 2 * n_9) mk (hX.sz.sG hn_11) (hX.sz.sW hn_11)) (va_cwS 2 hts (gCall [.methodLink RX10 244 yX10_isMarkOf, .static yX10_isMarkOf, .initialized RX10] (List.forall_mem_cons.mpr ⟨(wa_36 _ (List.mem_of_getElem? (i := 10) (by decide +kernel))), (List.forall_mem_cons.mpr ⟨(wa_36 _ (List.mem_of_getElem? (i := 8) (by decide +kernel))), (List.forall_mem_cons.mpr ⟨(wa_36 _ (List.mem_of_getElem? (i := 9) (by decide +kernel))), (List.forall_mem_cons.mpr ⟨(wa_1 _ (List.mem_of_getElem? (i := 2) (by decide +kernel))), (fun _ h => absurd h List.not_mem_nil)⟩)⟩)⟩)⟩)) rfl rfl rfl (by decide +kernel) ⟨Nat.le_of_ble_eq_true rfl, Nat.le_of_ble_eq_true rfl⟩) rfl hl.1 rfl (Nat.le_of_ble_eq_true rfl) dX10_kinds_39 ⟨Nat.le_of_ble_eq_true rfl, Nat.le_of_ble_eq_true rfl⟩) hW (fun r_14 H locs hp_13 hW => ?_)
      rcases hp_13 with ⟨rfl, w_15⟩ | ⟨rfl, w_16⟩
      · skip
        have hmk : zMkOk (gZ q) n_9 mk := by rw [zMkOk, hX.zG 2 hn_11 (Or.inr rfl)]; exact w_15
        refine m_if_ne (tgt := 48) hx hb dX10_kinds_42 (by decide) (fun c_17 => ?_) (fun c_17 => ?_)
        · skip
          refine lv_iload hx hb dX10_kinds_48 (lv_at hl 6 rfl) ?_
          by_cases c_18 : w = nI 0
          · skip
            refine lv_tableIn (off := 30) (tgt := 80) hx hb dX10_kinds_50 (by rw [c_18]; decide) (by rw [c_18]; decide) (by rw [c_18]; decide +kernel) (by decide) ?_
            refine lv_aload_n hx hb dX10_kinds_80 rfl (lv_at hl 2 rfl) ?_
            refine m_getr S hW hX.sp.1 7 rfl (j := 6) rfl kX10 (iW10 _) (by decide) (List.mem_cons_of_mem _ (wa_1 _ (List.mem_of_getElem? (i := 21) (by decide +kernel)))) dX10_kinds_81 ?_
            refine lv_aload hx hb dX10_kinds_84 (lv_at hl 1 rfl) ?_
            refine lv_aload hx hb dX10_kinds_86 (lv_at hl 0 rfl) ?_
            refine lv_iload_n hx hb dX10_kinds_88 rfl (lv_at hl 5 rfl) ?_
            refine m_ci (m_rV S hW (c_X2_kindsLeaving l G ad sh V (20 + 4 + n_3) (20 + 10 + 2 * n_9) mk hX.sp.2.2.2.2.1.1 hX.sp.2.2.2.2.1.2 (hX.sz.sE hn_5) (hX.sz.sG hn_11) (hX.sz.sW hn_11)) (cwV 3 hts (gCall [.methodLink RX10 251 yX2_kindsLeaving, .instanceMethod yX2_kindsLeaving, .selects RX2 yX2_kindsLeaving yX2_kindsLeaving, .initialized RX2] (List.forall_mem_cons.mpr ⟨(wa_37 _ (List.mem_of_getElem? (i := 11) (by decide +kernel))), (List.forall_mem_cons.mpr ⟨(wa_37 _ (List.mem_of_getElem? (i := 8) (by decide +kernel))), (List.forall_mem_cons.mpr ⟨(wa_37 _ (List.mem_of_getElem? (i := 9) (by decide +kernel))), (List.forall_mem_cons.mpr ⟨(wa_37 _ (List.mem_of_getElem? (i := 10) (by decide +kernel))), (List.forall_mem_cons.mpr ⟨(wa_1 _ (List.mem_of_getElem? (i := 20) (by decide +kernel))), (fun _ h => absurd h List.not_mem_nil)⟩)⟩)⟩)⟩)⟩)) rfl rfl rfl (by decide +kernel) ⟨Nat.le_of_ble_eq_true rfl, Nat.le_of_ble_eq_true rfl⟩) hX.sp.2.2.2.2.1.1 kX2 rfl hl.1 rfl (Nat.le_of_ble_eq_true rfl) dX10_kinds_89 ⟨Nat.le_of_ble_eq_true rfl, Nat.le_of_ble_eq_true rfl⟩) hW (fun r_21 V_19 H locs hp_20 hW => ?_)
            obtain ⟨rfl, hfr_22⟩ := hp_20
            exact m_iret S hr hlk hW dX10_kinds_92 (by exact ⟨by simp only [aKinds, if_pos hpx, hcx, if_pos hpy, hcy, if_pos hmk, if_pos c_18]; rw [← hX.vKd hn_5 hn_11], XK.fit hfr_22⟩)
          by_cases c_23 : w = nI 1
          · skip
            refine lv_tableIn (off := 43) (tgt := 93) hx hb dX10_kinds_50 (by rw [c_23]; decide) (by rw [c_23]; decide) (by rw [c_23]; decide +kernel) (by decide) ?_
            refine lv_aload_n hx hb dX10_kinds_93 rfl (lv_at hl 2 rfl) ?_
            refine m_getr S hW hX.sp.1 7 rfl (j := 6) rfl kX10 (iW10 _) (by decide) (List.mem_cons_of_mem _ (wa_1 _ (List.mem_of_getElem? (i := 21) (by decide +kernel)))) dX10_kinds_94 ?_
            refine lv_aload hx hb dX10_kinds_97 (lv_at hl 1 rfl) ?_
            refine lv_aload hx hb dX10_kinds_99 (lv_at hl 0 rfl) ?_
            refine lv_iload_n hx hb dX10_kinds_101 rfl (lv_at hl 5 rfl) ?_
            refine m_ci (m_rV S hW (c_X2_moresLeaving l G ad sh V (20 + 4 + n_3) (20 + 10 + 2 * n_9) mk hX.sp.2.2.2.2.1.1 hX.sp.2.2.2.2.1.2 (hX.sz.sE hn_5) (hX.sz.sG hn_11) (hX.sz.sW hn_11)) (cwV 3 hts (gCall [.methodLink RX10 254 yX2_moresLeaving, .instanceMethod yX2_moresLeaving, .selects RX2 yX2_moresLeaving yX2_moresLeaving, .initialized RX2] (List.forall_mem_cons.mpr ⟨(wa_37 _ (List.mem_of_getElem? (i := 16) (by decide +kernel))), (List.forall_mem_cons.mpr ⟨(wa_37 _ (List.mem_of_getElem? (i := 13) (by decide +kernel))), (List.forall_mem_cons.mpr ⟨(wa_37 _ (List.mem_of_getElem? (i := 14) (by decide +kernel))), (List.forall_mem_cons.mpr ⟨(wa_37 _ (List.mem_of_getElem? (i := 15) (by decide +kernel))), (List.forall_mem_cons.mpr ⟨(wa_1 _ (List.mem_of_getElem? (i := 20) (by decide +kernel))), (fun _ h => absurd h List.not_mem_nil)⟩)⟩)⟩)⟩)⟩)) rfl rfl rfl (by decide +kernel) ⟨Nat.le_of_ble_eq_true rfl, Nat.le_of_ble_eq_true rfl⟩) hX.sp.2.2.2.2.1.1 kX2 rfl hl.1 rfl (Nat.le_of_ble_eq_true rfl) dX10_kinds_102 ⟨Nat.le_of_ble_eq_true rfl, Nat.le_of_ble_eq_true rfl⟩) hW (fun r_26 V_24 H locs hp_25 hW => ?_)
            obtain ⟨rfl, hfr_27⟩ := hp_25
            exact m_iret S hr hlk hW dX10_kinds_105 (by exact ⟨by simp only [aKinds, if_pos hpx, hcx, if_pos hpy, hcy, if_pos hmk, if_neg c_18, if_pos c_23]; rw [← hX.vMo hn_5 hn_11], XK.fit hfr_27⟩)
          by_cases c_28 : w = nI 2
          · skip
            refine lv_tableIn (off := 56) (tgt := 106) hx hb dX10_kinds_50 (by rw [c_28]; decide) (by rw [c_28]; decide) (by rw [c_28]; decide +kernel) (by decide) ?_
            refine lv_aload_n hx hb dX10_kinds_106 rfl (lv_at hl 2 rfl) ?_
            refine m_getr S hW hX.sp.1 7 rfl (j := 6) rfl kX10 (iW10 _) (by decide) (List.mem_cons_of_mem _ (wa_1 _ (List.mem_of_getElem? (i := 21) (by decide +kernel)))) dX10_kinds_107 ?_
            refine lv_aload hx hb dX10_kinds_110 (lv_at hl 1 rfl) ?_
            refine lv_aload hx hb dX10_kinds_112 (lv_at hl 0 rfl) ?_
            refine lv_iload_n hx hb dX10_kinds_114 rfl (lv_at hl 5 rfl) ?_
            refine m_ci (m_rV S hW (c_X2_countJaws l G ad sh V (20 + 4 + n_3) (20 + 10 + 2 * n_9) mk hX.sp.2.2.2.2.1.1 hX.sp.2.2.2.2.1.2 (hX.sz.sE hn_5) (hX.sz.sG hn_11) (hX.sz.sW hn_11)) (cwV 3 hts (gCall [.methodLink RX10 257 yX2_countJaws, .instanceMethod yX2_countJaws, .selects RX2 yX2_countJaws yX2_countJaws, .initialized RX2] (List.forall_mem_cons.mpr ⟨(wa_37 _ (List.mem_of_getElem? (i := 20) (by decide +kernel))), (List.forall_mem_cons.mpr ⟨(wa_37 _ (List.mem_of_getElem? (i := 17) (by decide +kernel))), (List.forall_mem_cons.mpr ⟨(wa_37 _ (List.mem_of_getElem? (i := 18) (by decide +kernel))), (List.forall_mem_cons.mpr ⟨(wa_37 _ (List.mem_of_getElem? (i := 19) (by decide +kernel))), (List.forall_mem_cons.mpr ⟨(wa_1 _ (List.mem_of_getElem? (i := 20) (by decide +kernel))), (fun _ h => absurd h List.not_mem_nil)⟩)⟩)⟩)⟩)⟩)) rfl rfl rfl (by decide +kernel) ⟨Nat.le_of_ble_eq_true rfl, Nat.le_of_ble_eq_true rfl⟩) hX.sp.2.2.2.2.1.1 kX2 rfl hl.1 rfl (Nat.le_of_ble_eq_true rfl) dX10_kinds_115 ⟨Nat.le_of_ble_eq_true rfl, Nat.le_of_ble_eq_true rfl⟩) hW (fun r_31 V_29 H locs hp_30 hW => ?_)
            obtain ⟨rfl, hfr_32⟩ := hp_30
            exact m_iret S hr hlk hW dX10_kinds_118 (by exact ⟨by simp only [aKinds, if_pos hpx, hcx, if_pos hpy, hcy, if_pos hmk, if_neg c_18, if_neg c_23, if_pos c_28]; rw [← hX.vJw hn_5 hn_11], XK.fit hfr_32⟩)
          by_cases c_33 : w = nI 3
          · skip
            refine lv_tableIn (off := 69) (tgt := 119) hx hb dX10_kinds_50 (by rw [c_33]; decide) (by rw [c_33]; decide) (by rw [c_33]; decide +kernel) (by decide) ?_
            refine lv_aload_n hx hb dX10_kinds_119 rfl (lv_at hl 2 rfl) ?_
            refine m_getr S hW hX.sp.1 7 rfl (j := 6) rfl kX10 (iW10 _) (by decide) (List.mem_cons_of_mem _ (wa_1 _ (List.mem_of_getElem? (i := 21) (by decide +kernel)))) dX10_kinds_120 ?_
            refine lv_aload hx hb dX10_kinds_123 (lv_at hl 1 rfl) ?_
            refine lv_aload hx hb dX10_kinds_125 (lv_at hl 0 rfl) ?_
            refine lv_iload_n hx hb dX10_kinds_127 rfl (lv_at hl 5 rfl) ?_
            refine m_ci (m_rV S hW (c_X2_leastJaw l G ad sh V (20 + 4 + n_3) (20 + 10 + 2 * n_9) mk hX.sp.2.2.2.2.1.1 hX.sp.2.2.2.2.1.2 (hX.sz.sE hn_5) (hX.sz.sG hn_11) (hX.sz.sW hn_11)) (cwV 3 hts (gCall [.methodLink RX10 260 yX2_leastJaw, .instanceMethod yX2_leastJaw, .selects RX2 yX2_leastJaw yX2_leastJaw, .initialized RX2] (List.forall_mem_cons.mpr ⟨(wa_38 _ (List.mem_of_getElem? (i := 1) (by decide +kernel))), (List.forall_mem_cons.mpr ⟨(wa_37 _ (List.mem_of_getElem? (i := 22) (by decide +kernel))), (List.forall_mem_cons.mpr ⟨(wa_37 _ (List.mem_of_getElem? (i := 23) (by decide +kernel))), (List.forall_mem_cons.mpr ⟨(wa_38 _ (List.mem_of_getElem? (i := 0) (by decide +kernel))), (List.forall_mem_cons.mpr ⟨(wa_1 _ (List.mem_of_getElem? (i := 20) (by decide +kernel))), (fun _ h => absurd h List.not_mem_nil)⟩)⟩)⟩)⟩)⟩)) rfl rfl rfl (by decide +kernel) ⟨Nat.le_of_ble_eq_true rfl, Nat.le_of_ble_eq_true rfl⟩) hX.sp.2.2.2.2.1.1 kX2 rfl hl.1 rfl (Nat.le_of_ble_eq_true rfl) dX10_kinds_128 ⟨Nat.le_of_ble_eq_true rfl, Nat.le_of_ble_eq_true rfl⟩) hW (fun r_36 V_34 H locs hp_35 hW => ?_)
            obtain ⟨rfl, hfr_37⟩ := hp_35
            exact m_iret S hr hlk hW dX10_kinds_131 (by exact ⟨by simp only [aKinds, if_pos hpx, hcx, if_pos hpy, hcy, if_pos hmk, if_neg c_18, if_neg c_23, if_neg c_28, if_pos c_33]; rw [← hX.vJw hn_5 hn_11], XK.fit hfr_37⟩)
          refine lv_tableOut (tgt := 132) hx hb dX10_kinds_50 (by have a0 := lv_neT c_18 (show (nI 0 : Int32).toInt = 0 by decide); have a1 := lv_neT c_23 (show (nI 1 : Int32).toInt = 1 by decide); have a2 := lv_neT c_28 (show (nI 2 : Int32).toInt = 2 by decide); have a3 := lv_neT c_33 (show (nI 3 : Int32).toInt = 3 by decide); omega) (by decide) ?_
          refine lv_bipush (v := -7) hx hb dX10_kinds_132 (by decide) ?_
          exact m_iret S hr hlk hW dX10_kinds_134 (by exact ⟨by simp only [aKinds, if_pos hpx, hcx, if_pos hpy, hcy, if_pos hmk, if_neg c_18, if_neg c_23, if_neg c_28, if_neg c_33]; try rfl, XK.rfl V⟩)
        · exact absurd c_17 (by decide)
      · skip
        have hmk : ¬ zMkOk (gZ q) n_9 mk := by rw [zMkOk, hX.zG 2 hn_11 (Or.inr rfl)]; exact w_16
        refine m_if_ne (tgt := 48) hx hb dX10_kinds_42 (by decide) (fun c_38 => ?_) (fun c_38 => ?_)
        · exact absurd c_38 (by decide)
        · skip
          refine lv_bipush (v := -7) hx hb dX10_kinds_45 (by decide) ?_
          exact m_iret S hr hlk hW dX10_kinds_47 (by exact ⟨by simp only [aKinds, if_pos hpx, hcx, if_pos hpy, hcy, if_neg hmk]; try rfl, XK.rfl V⟩)
    · skip
      refine W.eq (g2 := F0 m 18 ls [.null]) rfl ?_
      refine lv_astoreN (lv' := [(6, .null), (5, .ref (ad (20 + 4 + n_3))), (0, .ref (ad 0)), (1, .int x), (2, .int y), (3, .int mk), (4, .int w)]) hx hb dX10_kinds_18 hl (by decide) rfl (fun ls hl => ?_)
      refine lv_aload hx hb dX10_kinds_20 (lv_at hl 1 rfl) ?_
      refine lv_ifnonnull (tgt := 28) hx hb dX10_kinds_22 (by decide) ?_
      refine lv_aloadN hx hb dX10_kinds_28 (lv_at hl 0 rfl) ?_
      refine lv_ifnonnullN hx hb dX10_kinds_30 ?_
      refine lv_bipush (v := -5) hx hb dX10_kinds_33 (by decide) ?_
      exact m_iret S hr hlk hW dX10_kinds_35 (by exact ⟨by simp only [aKinds, if_pos hpx, hcx, if_neg hx0_12]; try rfl, XK.rfl V⟩)
  · skip
    refine W.eq (g2 := F0 m 8 ls [.null]) rfl ?_
    refine lv_astoreN (lv' := [(5, .null), (0, .ref (ad 0)), (1, .int x), (2, .int y), (3, .int mk), (4, .int w)]) hx hb dX10_kinds_8 hl (by decide) rfl (fun ls hl => ?_)
    refine lv_aload_n hx hb dX10_kinds_10 rfl (lv_at hl 1 rfl) ?_
    refine m_getr S hW hX.sp.1 3 rfl (j := 20) rfl kX10 (iW10 _) (by decide) (List.mem_cons_of_mem _ (wa_2 _ (List.mem_of_getElem? (i := 8) (by decide +kernel)))) dX10_kinds_11 ?_
    refine lv_iload_n hx hb dX10_kinds_14 rfl (lv_at hl 3 rfl) ?_
    refine m_crp (m_rV S hW (c_X4_goodAt l G ad sh V 20 (110 + 3 * gRl q) ((gT q (gRl q)).2.1) ((gT q (gRl q)).2.2) ((gT q (gRl q)).1.length) (gNe q) (gNg q) y hX.sz.1 hX.sz.2.1) (cwV 1 hts (gCall [.methodLink RX10 124 yX4_goodAt, .instanceMethod yX4_goodAt, .selects RX4 yX4_goodAt yX4_goodAt, .initialized RX4] (List.forall_mem_cons.mpr ⟨(wa_17 _ (List.mem_of_getElem? (i := 13) (by decide +kernel))), (List.forall_mem_cons.mpr ⟨(wa_17 _ (List.mem_of_getElem? (i := 10) (by decide +kernel))), (List.forall_mem_cons.mpr ⟨(wa_17 _ (List.mem_of_getElem? (i := 11) (by decide +kernel))), (List.forall_mem_cons.mpr ⟨(wa_17 _ (List.mem_of_getElem? (i := 12) (by decide +kernel))), (List.forall_mem_cons.mpr ⟨(wa_2 _ (List.mem_of_getElem? (i := 7) (by decide +kernel))), (fun _ h => absurd h List.not_mem_nil)⟩)⟩)⟩)⟩)⟩)) rfl rfl rfl (by decide +kernel) ⟨Nat.le_of_ble_eq_true rfl, Nat.le_of_ble_eq_true rfl⟩) hX.sz.1.1 kX4 rfl hl.1 rfl (Nat.le_of_ble_eq_true rfl) dX10_kinds_15 ⟨Nat.le_of_ble_eq_true rfl, Nat.le_of_ble_eq_true rfl⟩) hW (fun r_40 H locs hp_39 hW => ?_)
    rcases hp_39 with ⟨n_41, rfl, hxn_42, hn_43⟩ | ⟨rfl, hx0_44⟩
    · skip
      refine W.eq (g2 := F0 m 18 ls [.ref (ad (20 + 10 + 2 * n_41))]) rfl ?_
      have hpy : mIn y 0 (gNg q) := by rw [hxn_42]; exact (mIn_nI (by have := hX.ne5; have := hX.ng6; omega)).mpr ⟨Nat.zero_le _, hn_43⟩
      have hcy : y.toNatClampNeg = n_41 := by rw [hxn_42]; exact nI_clamp (by have := hX.ne5; have := hX.ng6; omega)
      refine lv_astore (lv' := [(6, .ref (ad (20 + 10 + 2 * n_41))), (5, .null), (0, .ref (ad 0)), (1, .int x), (2, .int y), (3, .int mk), (4, .int w)]) hx hb dX10_kinds_18 hl (by decide) rfl (fun ls hl => ?_)
      refine lv_aloadN hx hb dX10_kinds_20 (lv_at hl 1 rfl) ?_
      refine lv_ifnonnullN hx hb dX10_kinds_22 ?_
      refine lv_bipush (v := -6) hx hb dX10_kinds_25 (by decide) ?_
      exact m_iret S hr hlk hW dX10_kinds_27 (by exact ⟨by simp only [aKinds, if_neg hx0_6, if_pos hpy, hcy]; try rfl, XK.rfl V⟩)
    · skip
      refine W.eq (g2 := F0 m 18 ls [.null]) rfl ?_
      refine lv_astoreN (lv' := [(6, .null), (5, .null), (0, .ref (ad 0)), (1, .int x), (2, .int y), (3, .int mk), (4, .int w)]) hx hb dX10_kinds_18 hl (by decide) rfl (fun ls hl => ?_)
      refine lv_aloadN hx hb dX10_kinds_20 (lv_at hl 1 rfl) ?_
      refine lv_ifnonnullN hx hb dX10_kinds_22 ?_
      refine lv_bipush (v := -6) hx hb dX10_kinds_25 (by decide) ?_
      exact m_iret S hr hlk hW dX10_kinds_27 (by exact ⟨by simp only [aKinds, if_neg hx0_6, if_neg hx0_44]; try rfl, XK.rfl V⟩)
