/-! the reference: sheets, images -/
theorem MK.rows {V V' : mV} (h : ∀ a, a ≠ 211 → a ≠ 212 → a ≠ 213 → V' a = V a) : (∀ j, j < 72 → V' 201 j = V 201 j) ∧ (∀ j, j < 15 → V' 204 j = V 204 j) ∧ (∀ j, j ≠ 32 → j ≠ 36 → j ≠ 37 → V' 200 j = V 200 j) := ⟨fun j _ => by rw [h 201 (by decide) (by decide) (by decide)], fun j _ => by rw [h 204 (by decide) (by decide) (by decide)], fun j _ _ _ => by rw [h 200 (by decide) (by decide) (by decide)]⟩
theorem MI.setT {sh : Nat → Option mSh} {V V' : mV} {q : Sg} (h : MI sh V q) {k : Nat} (hk : k < 4) {so : Int32} {n : Nat} {c : Nat → Int32} (hf : ∀ a, a ≠ 211 → a ≠ 212 → a ≠ 213 → V' a = V a) (g1 : V' 211 k = so) (g2 : V' 212 k = nI n) (hn4 : n ≤ 40) (g3 : ∀ j, j < 40 → V' 213 (40 * k + j) = c j) (o1 : ∀ i, i < 4 → i ≠ k → V' 211 i = V 211 i ∧ V' 212 i = V 212 i ∧ ∀ j, j < 40 → V' 213 (40 * i + j) = V 213 (40 * i + j)) : MI sh V' (gSetS q k (so, n, c)) := h.setS hk (Or.inr trivial) (fun a _ _ _ a1 a2 a3 _ _ => hf a a1 a2 a3) (MK.rows hf).1 (MK.rows hf).2.1 (MK.rows hf).2.2 g1 g2 hn4 g3 o1
theorem gSo_c (q : Sg) (k : Nat) : gSetS q k (gSo q k, gSz q k, gCl q k) = q := by
  obtain ⟨q1, q2, q3, q4, q5⟩ := q
  show (q1, q2, q3, q4, _) = (q1, q2, q3, q4, q5)
  congr 5
  funext j
  by_cases h : j = k
  · rw [if_pos h, h]
    rfl
  · rw [if_neg h]
    rfl
theorem cell_s {sh : Nat → Option mSh} {V V' : mV} {q : Sg} (h : MI sh V q) {k n : Nat} {y : Int32} (hk : k < 4) (hn : n < gSz q k) (hs : gSz q k ≤ 40) (hv : V' = mU V 213 (40 * k + n) y) : MI sh V' (gSetS q k (gSo q k, gSz q k, upd (gCl q k) n y)) := by
  refine h.setT (k := k) hk (fun a _ _ h3 => by rw [hv, mU_no _ _ h3]) (by rw [hv, mU_no _ _ (by decide)]; exact h.so hk) (by rw [hv, mU_no _ _ (by decide)]; exact h.ss hk) hs (fun j hj => ?_) (fun i hi hik => ⟨by rw [hv, mU_no _ _ (by decide)], by rw [hv, mU_no _ _ (by decide)], fun j hj => by rw [hv, mU_ne _ _ (by omega)]⟩)
  rw [hv]
  by_cases hj2 : j = n
  · subst hj2
    rw [mU_eq]
    exact (if_pos rfl).symm
  · rw [mU_ne _ _ (by omega)]
    simp only [upd, if_neg hj2]
    exact h.sc hk hj
set_option maxHeartbeats 4000000 in
set_option maxRecDepth 100000 in
theorem c_X11_sheet (l : Launch) (G : mG) (ad : Nat → Nat) (sh : Nat → Option mSh) (V : mV) (q : Sg) (x so n : Int32) (hI : MI sh V q) : mM l yX11_sheet wsX11_sheet ({ frames := 1, cells := 0, slots := 0, locals := 22 } : Room) G ad sh V [.ref (ad 200), .int x, .int so, .int n] 0 0 (mPi ad sh (fun r V' => (aSheet q x so n) = r ∧ (MI sh V' (nSheet q x so n)) ∧ (∀ a, a < 200 → V' a = V a))) := by
  refine mM.of (cc := cX11_sheet) (maxL := 5) (ret := (some .int)) (by decide) rfl (Nat.le_of_ble_eq_true rfl) ?_
  intro p e s m below meth c S hr hlk hnm hW ls hl
  obtain ⟨hx, hb, hml, hown, hts⟩ := id S
  have hl : lv_has ls 5 [(0, .ref (ad 200)), (1, .int x), (2, .int so), (3, .int n)] := hl
  have hS0 : True := trivial
  have hZ := hI.z
  have hne5 := hZ.ne5
  have hng6 := hZ.ng6
  have htn := hI.tn
  refine lv_iload_n hx hb dX11_sheet_0 rfl (lv_at hl 1 rfl) ?_
  refine lv_iconst (v := nI 0) hx hb dX11_sheet_1 (by decide) ?_
  refine lv_iconst (v := nI 3) hx hb dX11_sheet_2 (by decide) ?_
  refine m_cip (m_rS S hW (c_X11_in l G ad sh V x 0 3 (by first | assumption | omega) (by first | assumption | omega)) (va_cwS 3 hts (gCall [.methodLink RX11 84 yX11_in, .static yX11_in, .initialized RX11] (List.forall_mem_cons.mpr ⟨(wa_12 _ (List.mem_of_getElem? (i := 16) (by decide +kernel))), (List.forall_mem_cons.mpr ⟨(wa_12 _ (List.mem_of_getElem? (i := 14) (by decide +kernel))), (List.forall_mem_cons.mpr ⟨(wa_12 _ (List.mem_of_getElem? (i := 15) (by decide +kernel))), (List.forall_mem_cons.mpr ⟨(wa_1 _ (List.mem_of_getElem? (i := 5) (by decide +kernel))), (fun _ h => absurd h List.not_mem_nil)⟩)⟩)⟩)⟩)) rfl rfl rfl (by decide +kernel) ⟨Nat.le_of_ble_eq_true rfl, Nat.le_of_ble_eq_true rfl⟩) rfl hl.1 rfl (Nat.le_of_ble_eq_true rfl) dX11_sheet_3 ⟨Nat.le_of_ble_eq_true rfl, Nat.le_of_ble_eq_true rfl⟩) hW (fun r_2 H locs hp_1 hW => ?_)
  rcases hp_1 with ⟨rfl, w_3⟩ | ⟨rfl, w_4⟩
  · skip
    obtain ⟨nx, hnx, hwnx, hlnx⟩ := w_3.ex
    have hcx : x.toNatClampNeg = nx := by rw [hnx]; exact nI_clamp (by omega)
    refine m_if_eq (tgt := 29) hx hb dX11_sheet_6 (by decide) (fun c_5 => ?_) (fun c_5 => ?_)
    · exact absurd c_5 (by decide)
    · skip
      refine lv_iload_n hx hb dX11_sheet_9 rfl (lv_at hl 2 rfl) ?_
      refine lv_iconst (v := -1) hx hb dX11_sheet_10 (by decide) ?_
      refine lv_iconst (v := nI 2) hx hb dX11_sheet_11 (by decide) ?_
      refine m_cip (m_rS S hW (c_X11_in_m l G ad sh V so 2 (by first | assumption | omega)) (va_cwS 3 hts (gCall [.methodLink RX11 84 yX11_in, .static yX11_in, .initialized RX11] (List.forall_mem_cons.mpr ⟨(wa_12 _ (List.mem_of_getElem? (i := 16) (by decide +kernel))), (List.forall_mem_cons.mpr ⟨(wa_12 _ (List.mem_of_getElem? (i := 14) (by decide +kernel))), (List.forall_mem_cons.mpr ⟨(wa_12 _ (List.mem_of_getElem? (i := 15) (by decide +kernel))), (List.forall_mem_cons.mpr ⟨(wa_1 _ (List.mem_of_getElem? (i := 5) (by decide +kernel))), (fun _ h => absurd h List.not_mem_nil)⟩)⟩)⟩)⟩)) rfl rfl rfl (by decide +kernel) ⟨Nat.le_of_ble_eq_true rfl, Nat.le_of_ble_eq_true rfl⟩) rfl hl.1 rfl (Nat.le_of_ble_eq_true rfl) dX11_sheet_12 ⟨Nat.le_of_ble_eq_true rfl, Nat.le_of_ble_eq_true rfl⟩) hW (fun r_7 H locs hp_6 hW => ?_)
      rcases hp_6 with ⟨rfl, w_8⟩ | ⟨rfl, w_9⟩
      · skip
        refine m_if_eq (tgt := 29) hx hb dX11_sheet_15 (by decide) (fun c_10 => ?_) (fun c_10 => ?_)
        · exact absurd c_10 (by decide)
        · skip
          refine lv_iload_n hx hb dX11_sheet_18 rfl (lv_at hl 2 rfl) ?_
          refine lv_iconst (v := -1) hx hb dX11_sheet_19 (by decide) ?_
          refine lv_icmp_eq (tgt := 32) hx hb dX11_sheet_20 (by decide) (fun c_11 => ?_) (fun c_11 => ?_)
          · skip
            refine lv_iload_n hx hb dX11_sheet_32 rfl (lv_at hl 2 rfl) ?_
            refine lv_iconst (v := -1) hx hb dX11_sheet_33 (by decide) ?_
            refine lv_icmp_eq (tgt := 44) hx hb dX11_sheet_34 (by decide) (fun c_12 => ?_) (fun c_12 => ?_)
            · skip
              refine lv_aload_n hx hb dX11_sheet_44 rfl (lv_at hl 0 rfl) ?_
              refine m_getr S hW hZ.sp.1 17 rfl (j := 211) rfl kX11 (iW11 _) (by decide) (List.mem_cons_of_mem _ (wa_11 _ (List.mem_of_getElem? (i := 12) (by decide +kernel)))) dX11_sheet_45 ?_
              refine lv_iload_n hx hb dX11_sheet_48 rfl (lv_at hl 1 rfl) ?_
              refine m_top (y := nI nx) hnx ?_
              refine lv_iload_n hx hb dX11_sheet_49 rfl (lv_at hl 2 rfl) ?_
              refine m_iast S hW hZ.sp.2.2.2.2.2.2.2.2.2.2.2.1 nx rfl (by omega) (by decide) dX11_sheet_50 (fun H locs hW => ?_)
              obtain ⟨V_13, eV_13⟩ : ∃ vv_ : mV, vv_ = mU V 211 nx (so) := ⟨_, rfl⟩
              rw [← eV_13] at hW
              refine lv_aload_n hx hb dX11_sheet_51 rfl (lv_at hl 0 rfl) ?_
              refine m_getr S hW hZ.sp.1 18 rfl (j := 212) rfl kX11 (iW11 _) (by decide) (List.mem_cons_of_mem _ (wa_11 _ (List.mem_of_getElem? (i := 13) (by decide +kernel)))) dX11_sheet_52 ?_
              refine lv_iload_n hx hb dX11_sheet_55 rfl (lv_at hl 1 rfl) ?_
              refine m_top (y := nI nx) hnx ?_
              refine lv_iload_n hx hb dX11_sheet_56 rfl (lv_at hl 2 rfl) ?_
              refine lv_iconst (v := -1) hx hb dX11_sheet_57 (by decide) ?_
              refine lv_icmp_ne (tgt := 65) hx hb dX11_sheet_58 (by decide) (fun c_14 => ?_) (fun c_14 => ?_)
              · first | exact absurd c_14 c_11 | exact absurd c_11 c_14 | (exfalso; simp_all; done)
              · skip
                refine lv_iconst (v := nI 0) hx hb dX11_sheet_61 (by decide) ?_
                refine lv_goto (tgt := 66) hx hb dX11_sheet_62 (by decide) ?_
                refine m_iast S hW hZ.sp.2.2.2.2.2.2.2.2.2.2.2.2.1 nx rfl (by omega) (by decide) dX11_sheet_66 (fun H locs hW => ?_)
                obtain ⟨V_15, eV_15⟩ : ∃ vv_ : mV, vv_ = mU V_13 212 nx (nI 0) := ⟨_, rfl⟩
                rw [← eV_15] at hW
                refine lv_iconst (v := nI 0) hx hb dX11_sheet_67 (by decide) ?_
                refine lv_istore (lv' := [(4, .int (nI 0)), (0, .ref (ad 200)), (1, .int x), (2, .int so), (3, .int n)]) hx hb dX11_sheet_68 hl (by decide) rfl (fun ls hl => ?_)
                have loop_70 : ∀ (n_70 : Nat) (k : Nat) (V1 : mV) (H : Heap) (locs : List Loc) (ls : Array Slot), (k ≤ 40) → (V1 = mFill V_15 213 (40 * nx) k (nI 0)) → (40 - k) < n_70 → mC (mA ad sh s.heap.size) s.heap s G ad sh V1 H locs → lv_has ls 5 [(0, .ref (ad 200)), (1, .int x), (2, .int so), (3, .int n), (4, .int (nI k))] → W p l e ({ frames := 1, cells := 0, slots := 0, locals := 22 } : Room) s m ([.ref (ad 200), .int x, .int so, .int n] : List Value).toArray below meth c H locs 0 0 (MQ below (mPost G ad sh s.heap.size (mPi ad sh (fun r V' => (aSheet q x so n) = r ∧ (MI sh V' (nSheet q x so n)) ∧ (∀ a, a < 200 → V' a = V a)))) ([.ref (ad 200), .int x, .int so, .int n] : List Value).toArray s 0 0 (mA ad sh s.heap.size)) (F0 m 70 ls []) := by
                  intro n_70
                  induction n_70 with
                  | zero => intro k V1 H locs ls hk hv hM_ hW hl; omega
                  | succ n_70 ih_70 =>
                    intro k V1 H locs ls hk hv hM_ hW hl
                    refine lv_iload hx hb dX11_sheet_70 (lv_at hl 4 rfl) ?_
                    refine lv_bipush (v := nI 40) hx hb dX11_sheet_72 (by decide) ?_
                    refine lv_icmp_ge (tgt := 96) hx hb dX11_sheet_74 (by decide) (fun c_16 => ?_) (fun c_16 => ?_)
                    · skip
                      have c_16 : 40 ≤ k := (nI_leI (by omega) (by omega)).mp c_16
                      refine lv_iconst (v := nI 1) hx hb dX11_sheet_96 (by decide) ?_
                      exact m_iret S hr hlk hW dX11_sheet_97 (by have hvv := hv; rw [eV_15, eV_13, show k = 40 by omega] at hvv; have hff : ∀ a, a ≠ 211 → a ≠ 212 → a ≠ 213 → V1 a = V a := (fun a h1 h2 h3 => by rw [hvv, mFill_no _ _ h3, mU_no _ _ h2, mU_no _ _ h1]); have hm9 := hI.setT (k := nx) (so := so) (n := 0) (c := fun _ => nI 0) hlnx hff (by rw [hvv, mFill_no _ _ (by decide), mU_no _ _ (by decide), mU_eq]) (by rw [hvv, mFill_no _ _ (by decide), mU_eq]) (by omega) (fun j hj => by rw [hvv]; exact mFill_in (by omega) (by omega)) (fun i hi hik => ⟨by rw [hvv, mFill_no _ _ (by decide), mU_no _ _ (by decide), mU_ne _ _ (by omega)], by rw [hvv, mFill_no _ _ (by decide), mU_ne _ _ (by omega), mU_no _ _ (by decide)], fun j hj => by rw [hvv, mFill_out (by omega), mU_no _ _ (by decide), mU_no _ _ (by decide)]⟩); rw [show so = -1 from c_11] at hm9; exact ⟨by simp only [aSheet, if_pos w_3, hcx, if_pos c_11]; try rfl, by simp only [nSheet, if_pos w_3, hcx, if_pos c_11]; exact hm9, fun a ha => hff a (by omega) (by omega) (by omega)⟩)
                    · skip
                      have c_16 : ¬ 40 ≤ k := mt (nI_leI (by omega) (by omega)).mpr c_16
                      refine lv_aload_n hx hb dX11_sheet_77 rfl (lv_at hl 0 rfl) ?_
                      refine m_getr S hW hZ.sp.1 19 rfl (j := 213) rfl kX11 (iW11 _) (by decide) (List.mem_cons_of_mem _ (wa_11 _ (List.mem_of_getElem? (i := 14) (by decide +kernel)))) dX11_sheet_78 ?_
                      refine lv_bipush (v := nI 40) hx hb dX11_sheet_81 (by decide) ?_
                      refine lv_iload_n hx hb dX11_sheet_83 rfl (lv_at hl 1 rfl) ?_
                      refine m_top (y := nI nx) hnx ?_
                      refine lv_imul hx hb dX11_sheet_84 ?_
                      refine m_top (y := nI (40 * nx)) (pk_mul 40 nx) ?_
                      refine lv_iload hx hb dX11_sheet_85 (lv_at hl 4 rfl) ?_
                      refine lv_iadd hx hb dX11_sheet_87 ?_
                      refine m_top (y := nI ((40 * nx) + k)) (nI_add (40 * nx) k) ?_
                      refine lv_iconst (v := nI 0) hx hb dX11_sheet_88 (by decide) ?_
                      refine m_iast S hW hZ.sp.2.2.2.2.2.2.2.2.2.2.2.2.2.1 ((40 * nx) + k) rfl (by omega) (by decide) dX11_sheet_89 (fun H locs hW => ?_)
                      obtain ⟨V_17, eV_17⟩ : ∃ vv_ : mV, vv_ = mU V1 213 ((40 * nx) + k) (nI 0) := ⟨_, rfl⟩
                      rw [← eV_17] at hW
                      refine lv_iinc (v := nI (k + 1)) (lv' := [(4, .int (nI (k + 1))), (0, .ref (ad 200)), (1, .int x), (2, .int so), (3, .int n)]) hx hb dX11_sheet_90 hl (k := 4) rfl (m_inc k 1) (by decide) rfl (fun ls hl => ?_)
                      refine lv_goto (tgt := 70) hx hb dX11_sheet_93 (by decide) ?_
                      exact ih_70  (k + 1) V_17 _ _ _ (by omega) (by rw [eV_17, hv, mFill_1]; rfl) (by omega) hW (lv_sub hl [1, 2, 3, 4, 0] rfl)
                exact loop_70 (40 - 0 + 1) 0 V_15 _ _ _ (by omega) (by exact mFill_0 _ _ _ _) (by omega) hW (lv_sub hl [1, 2, 3, 4, 0] rfl)
            · first | exact absurd c_12 c_11 | exact absurd c_11 c_12 | (exfalso; simp_all; done)
          · skip
            have hs2 : mIn so 0 3 := w_8.resolve_left c_11
            refine lv_iload_n hx hb dX11_sheet_23 rfl (lv_at hl 3 rfl) ?_
            refine lv_bipush (v := nI 40) hx hb dX11_sheet_24 (by decide) ?_
            refine lv_icmp_le (tgt := 32) hx hb dX11_sheet_26 (by decide) (fun c_18 => ?_) (fun c_18 => ?_)
            · skip
              have hb40 : n ≤ nI 40 := c_18
              refine lv_iload_n hx hb dX11_sheet_32 rfl (lv_at hl 2 rfl) ?_
              refine lv_iconst (v := -1) hx hb dX11_sheet_33 (by decide) ?_
              refine lv_icmp_eq (tgt := 44) hx hb dX11_sheet_34 (by decide) (fun c_19 => ?_) (fun c_19 => ?_)
              · first | exact absurd c_19 c_11 | exact absurd c_11 c_19 | (exfalso; simp_all; done)
              · skip
                refine lv_iload_n hx hb dX11_sheet_37 rfl (lv_at hl 3 rfl) ?_
                refine m_if_ge (tgt := 44) hx hb dX11_sheet_38 (by decide) (fun c_20 => ?_) (fun c_20 => ?_)
                · skip
                  have hb0 : ¬ n < nI 0 := Int32.not_lt.mpr c_20
                  obtain ⟨nn, hnn, hnb⟩ : ∃ nn, n = nI nn ∧ nn ≤ 40 := by obtain ⟨j, j1, j2⟩ := nI_of (x := n) hb0; subst j2; exact ⟨j, rfl, (nI_leI j1 (by decide)).mp hb40⟩
                  have hcn : n.toNatClampNeg = nn := by rw [hnn]; exact nI_clamp (by omega)
                  refine lv_aload_n hx hb dX11_sheet_44 rfl (lv_at hl 0 rfl) ?_
                  refine m_getr S hW hZ.sp.1 17 rfl (j := 211) rfl kX11 (iW11 _) (by decide) (List.mem_cons_of_mem _ (wa_11 _ (List.mem_of_getElem? (i := 12) (by decide +kernel)))) dX11_sheet_45 ?_
                  refine lv_iload_n hx hb dX11_sheet_48 rfl (lv_at hl 1 rfl) ?_
                  refine m_top (y := nI nx) hnx ?_
                  refine lv_iload_n hx hb dX11_sheet_49 rfl (lv_at hl 2 rfl) ?_
                  refine m_iast S hW hZ.sp.2.2.2.2.2.2.2.2.2.2.2.1 nx rfl (by omega) (by decide) dX11_sheet_50 (fun H locs hW => ?_)
                  obtain ⟨V_21, eV_21⟩ : ∃ vv_ : mV, vv_ = mU V 211 nx (so) := ⟨_, rfl⟩
                  rw [← eV_21] at hW
                  refine lv_aload_n hx hb dX11_sheet_51 rfl (lv_at hl 0 rfl) ?_
                  refine m_getr S hW hZ.sp.1 18 rfl (j := 212) rfl kX11 (iW11 _) (by decide) (List.mem_cons_of_mem _ (wa_11 _ (List.mem_of_getElem? (i := 13) (by decide +kernel)))) dX11_sheet_52 ?_
                  refine lv_iload_n hx hb dX11_sheet_55 rfl (lv_at hl 1 rfl) ?_
                  refine m_top (y := nI nx) hnx ?_
                  refine lv_iload_n hx hb dX11_sheet_56 rfl (lv_at hl 2 rfl) ?_
                  refine lv_iconst (v := -1) hx hb dX11_sheet_57 (by decide) ?_
                  refine lv_icmp_ne (tgt := 65) hx hb dX11_sheet_58 (by decide) (fun c_22 => ?_) (fun c_22 => ?_)
                  · skip
                    refine lv_iload_n hx hb dX11_sheet_65 rfl (lv_at hl 3 rfl) ?_
                    refine m_top (y := nI nn) hnn ?_
                    refine m_iast S hW hZ.sp.2.2.2.2.2.2.2.2.2.2.2.2.1 nx rfl (by omega) (by decide) dX11_sheet_66 (fun H locs hW => ?_)
                    obtain ⟨V_23, eV_23⟩ : ∃ vv_ : mV, vv_ = mU V_21 212 nx (nI nn) := ⟨_, rfl⟩
                    rw [← eV_23] at hW
                    refine lv_iconst (v := nI 0) hx hb dX11_sheet_67 (by decide) ?_
                    refine lv_istore (lv' := [(4, .int (nI 0)), (0, .ref (ad 200)), (1, .int x), (2, .int so), (3, .int n)]) hx hb dX11_sheet_68 hl (by decide) rfl (fun ls hl => ?_)
                    have loop_70 : ∀ (n_70 : Nat) (k : Nat) (V1 : mV) (H : Heap) (locs : List Loc) (ls : Array Slot), (k ≤ 40) → (V1 = mFill V_23 213 (40 * nx) k (nI 0)) → (40 - k) < n_70 → mC (mA ad sh s.heap.size) s.heap s G ad sh V1 H locs → lv_has ls 5 [(0, .ref (ad 200)), (1, .int x), (2, .int so), (3, .int n), (4, .int (nI k))] → W p l e ({ frames := 1, cells := 0, slots := 0, locals := 22 } : Room) s m ([.ref (ad 200), .int x, .int so, .int n] : List Value).toArray below meth c H locs 0 0 (MQ below (mPost G ad sh s.heap.size (mPi ad sh (fun r V' => (aSheet q x so n) = r ∧ (MI sh V' (nSheet q x so n)) ∧ (∀ a, a < 200 → V' a = V a)))) ([.ref (ad 200), .int x, .int so, .int n] : List Value).toArray s 0 0 (mA ad sh s.heap.size)) (F0 m 70 ls []) := by
                      intro n_70
                      induction n_70 with
                      | zero => intro k V1 H locs ls hk hv hM_ hW hl; omega
                      | succ n_70 ih_70 =>
                        intro k V1 H locs ls hk hv hM_ hW hl
                        refine lv_iload hx hb dX11_sheet_70 (lv_at hl 4 rfl) ?_
                        refine lv_bipush (v := nI 40) hx hb dX11_sheet_72 (by decide) ?_
                        refine lv_icmp_ge (tgt := 96) hx hb dX11_sheet_74 (by decide) (fun c_24 => ?_) (fun c_24 => ?_)
                        · skip
                          have c_24 : 40 ≤ k := (nI_leI (by omega) (by omega)).mp c_24
                          refine lv_iconst (v := nI 1) hx hb dX11_sheet_96 (by decide) ?_
                          exact m_iret S hr hlk hW dX11_sheet_97 (by have hvv := hv; rw [eV_23, eV_21, show k = 40 by omega] at hvv; have hff : ∀ a, a ≠ 211 → a ≠ 212 → a ≠ 213 → V1 a = V a := (fun a h1 h2 h3 => by rw [hvv, mFill_no _ _ h3, mU_no _ _ h2, mU_no _ _ h1]); have hm9 := hI.setT (k := nx) (so := so) (n := nn) (c := fun _ => nI 0) hlnx hff (by rw [hvv, mFill_no _ _ (by decide), mU_no _ _ (by decide), mU_eq]) (by rw [hvv, mFill_no _ _ (by decide), mU_eq]) (by omega) (fun j hj => by rw [hvv]; exact mFill_in (by omega) (by omega)) (fun i hi hik => ⟨by rw [hvv, mFill_no _ _ (by decide), mU_no _ _ (by decide), mU_ne _ _ (by omega)], by rw [hvv, mFill_no _ _ (by decide), mU_ne _ _ (by omega), mU_no _ _ (by decide)], fun j hj => by rw [hvv, mFill_out (by omega), mU_no _ _ (by decide), mU_no _ _ (by decide)]⟩); exact ⟨by simp only [aSheet, if_pos w_3, hcx, if_neg c_11, if_pos hs2, if_pos hb40, if_neg hb0, hcn]; try rfl, by simp only [nSheet, if_pos w_3, hcx, if_neg c_11, if_pos hs2, if_pos hb40, if_neg hb0, hcn]; exact hm9, fun a ha => hff a (by omega) (by omega) (by omega)⟩)
                        · skip
                          have c_24 : ¬ 40 ≤ k := mt (nI_leI (by omega) (by omega)).mpr c_24
                          refine lv_aload_n hx hb dX11_sheet_77 rfl (lv_at hl 0 rfl) ?_
                          refine m_getr S hW hZ.sp.1 19 rfl (j := 213) rfl kX11 (iW11 _) (by decide) (List.mem_cons_of_mem _ (wa_11 _ (List.mem_of_getElem? (i := 14) (by decide +kernel)))) dX11_sheet_78 ?_
                          refine lv_bipush (v := nI 40) hx hb dX11_sheet_81 (by decide) ?_
                          refine lv_iload_n hx hb dX11_sheet_83 rfl (lv_at hl 1 rfl) ?_
                          refine m_top (y := nI nx) hnx ?_
                          refine lv_imul hx hb dX11_sheet_84 ?_
                          refine m_top (y := nI (40 * nx)) (pk_mul 40 nx) ?_
                          refine lv_iload hx hb dX11_sheet_85 (lv_at hl 4 rfl) ?_
                          refine lv_iadd hx hb dX11_sheet_87 ?_
                          refine m_top (y := nI ((40 * nx) + k)) (nI_add (40 * nx) k) ?_
                          refine lv_iconst (v := nI 0) hx hb dX11_sheet_88 (by decide) ?_
                          refine m_iast S hW hZ.sp.2.2.2.2.2.2.2.2.2.2.2.2.2.1 ((40 * nx) + k) rfl (by omega) (by decide) dX11_sheet_89 (fun H locs hW => ?_)
                          obtain ⟨V_25, eV_25⟩ : ∃ vv_ : mV, vv_ = mU V1 213 ((40 * nx) + k) (nI 0) := ⟨_, rfl⟩
                          rw [← eV_25] at hW
                          refine lv_iinc (v := nI (k + 1)) (lv' := [(4, .int (nI (k + 1))), (0, .ref (ad 200)), (1, .int x), (2, .int so), (3, .int n)]) hx hb dX11_sheet_90 hl (k := 4) rfl (m_inc k 1) (by decide) rfl (fun ls hl => ?_)
                          refine lv_goto (tgt := 70) hx hb dX11_sheet_93 (by decide) ?_
                          exact ih_70  (k + 1) V_25 _ _ _ (by omega) (by rw [eV_25, hv, mFill_1]; rfl) (by omega) hW (lv_sub hl [1, 2, 3, 4, 0] rfl)
                    exact loop_70 (40 - 0 + 1) 0 V_23 _ _ _ (by omega) (by exact mFill_0 _ _ _ _) (by omega) hW (lv_sub hl [1, 2, 3, 4, 0] rfl)
                  · first | exact absurd c_22 c_11 | exact absurd c_11 c_22 | (exfalso; simp_all; done)
                · skip
                  have hb0 : n < nI 0 := Int32.not_le.mp c_20
                  refine lv_bipush (v := -14) hx hb dX11_sheet_41 (by decide) ?_
                  exact m_iret S hr hlk hW dX11_sheet_43 (by exact ⟨by simp only [aSheet, if_pos w_3, hcx, if_neg c_11, if_pos hs2, if_pos hb40, if_pos hb0]; try rfl, by simp only [nSheet, if_pos w_3, hcx, if_neg c_11, if_pos hs2, if_pos hb40, if_pos hb0]; exact hI, fun _ _ => rfl⟩)
            · skip
              have hb40 : ¬ n ≤ nI 40 := c_18
              refine lv_bipush (v := -2) hx hb dX11_sheet_29 (by decide) ?_
              exact m_iret S hr hlk hW dX11_sheet_31 (by exact ⟨by simp only [aSheet, if_pos w_3, hcx, if_neg c_11, if_pos hs2, if_neg hb40]; try rfl, by simp only [nSheet, if_pos w_3, hcx, if_neg c_11, if_pos hs2, if_neg hb40]; exact hI, fun _ _ => rfl⟩)
      · skip
        have hs1 : ¬ so = -1 := w_9.1
        have hs2 : ¬ mIn so 0 3 := w_9.2
        refine m_if_eq (tgt := 29) hx hb dX11_sheet_15 (by decide) (fun c_26 => ?_) (fun c_26 => ?_)
        · skip
          refine lv_bipush (v := -2) hx hb dX11_sheet_29 (by decide) ?_
          exact m_iret S hr hlk hW dX11_sheet_31 (by exact ⟨by simp only [aSheet, if_pos w_3, hcx, if_neg hs1, if_neg hs2]; try rfl, by simp only [nSheet, if_pos w_3, hcx, if_neg hs1, if_neg hs2]; exact hI, fun _ _ => rfl⟩)
        · exact absurd c_26 (by decide)
  · skip
    refine m_if_eq (tgt := 29) hx hb dX11_sheet_6 (by decide) (fun c_27 => ?_) (fun c_27 => ?_)
    · skip
      refine lv_bipush (v := -2) hx hb dX11_sheet_29 (by decide) ?_
      exact m_iret S hr hlk hW dX11_sheet_31 (by exact ⟨by simp only [aSheet, if_neg w_4]; try rfl, by simp only [nSheet, if_neg w_4]; exact hI, fun _ _ => rfl⟩)
    · exact absurd c_27 (by decide)
set_option maxHeartbeats 4000000 in
set_option maxRecDepth 100000 in
theorem c_X11_cell (l : Launch) (G : mG) (ad : Nat → Nat) (sh : Nat → Option mSh) (V : mV) (q : Sg) (x y v : Int32) (hI : MI sh V q) : mM l yX11_cell wsX11_cell ({ frames := 1, cells := 0, slots := 0, locals := 22 } : Room) G ad sh V [.ref (ad 200), .int x, .int y, .int v] 0 0 (mPi ad sh (fun r V' => (aCell q x y v) = r ∧ (MI sh V' (nCell q x y v)) ∧ (∀ a, a < 200 → V' a = V a))) := by
  refine mM.of (cc := cX11_cell) (maxL := 4) (ret := (some .int)) (by decide) rfl (Nat.le_of_ble_eq_true rfl) ?_
  intro p e s m below meth c S hr hlk hnm hW ls hl
  obtain ⟨hx, hb, hml, hown, hts⟩ := id S
  have hl : lv_has ls 4 [(0, .ref (ad 200)), (1, .int x), (2, .int y), (3, .int v)] := hl
  have hS0 : True := trivial
  have hZ := hI.z
  have hne5 := hZ.ne5
  have hng6 := hZ.ng6
  have htn := hI.tn
  refine lv_iload_n hx hb dX11_cell_0 rfl (lv_at hl 1 rfl) ?_
  refine lv_iconst (v := nI 0) hx hb dX11_cell_1 (by decide) ?_
  refine lv_iconst (v := nI 3) hx hb dX11_cell_2 (by decide) ?_
  refine m_cip (m_rS S hW (c_X11_in l G ad sh V x 0 3 (by first | assumption | omega) (by first | assumption | omega)) (va_cwS 3 hts (gCall [.methodLink RX11 84 yX11_in, .static yX11_in, .initialized RX11] (List.forall_mem_cons.mpr ⟨(wa_12 _ (List.mem_of_getElem? (i := 16) (by decide +kernel))), (List.forall_mem_cons.mpr ⟨(wa_12 _ (List.mem_of_getElem? (i := 14) (by decide +kernel))), (List.forall_mem_cons.mpr ⟨(wa_12 _ (List.mem_of_getElem? (i := 15) (by decide +kernel))), (List.forall_mem_cons.mpr ⟨(wa_1 _ (List.mem_of_getElem? (i := 5) (by decide +kernel))), (fun _ h => absurd h List.not_mem_nil)⟩)⟩)⟩)⟩)) rfl rfl rfl (by decide +kernel) ⟨Nat.le_of_ble_eq_true rfl, Nat.le_of_ble_eq_true rfl⟩) rfl hl.1 rfl (Nat.le_of_ble_eq_true rfl) dX11_cell_3 ⟨Nat.le_of_ble_eq_true rfl, Nat.le_of_ble_eq_true rfl⟩) hW (fun r_2 H locs hp_1 hW => ?_)
  rcases hp_1 with ⟨rfl, w_3⟩ | ⟨rfl, w_4⟩
  · skip
    obtain ⟨nx, hnx, hwnx, hlnx⟩ := w_3.ex
    have hcx : x.toNatClampNeg = nx := by rw [hnx]; exact nI_clamp (by omega)
    refine m_if_ne (tgt := 12) hx hb dX11_cell_6 (by decide) (fun c_5 => ?_) (fun c_5 => ?_)
    · skip
      refine lv_aload_n hx hb dX11_cell_12 rfl (lv_at hl 0 rfl) ?_
      refine m_getr S hW hZ.sp.1 17 rfl (j := 211) rfl kX11 (iW11 _) (by decide) (List.mem_cons_of_mem _ (wa_11 _ (List.mem_of_getElem? (i := 12) (by decide +kernel)))) dX11_cell_13 ?_
      refine lv_iload_n hx hb dX11_cell_16 rfl (lv_at hl 1 rfl) ?_
      refine m_top (y := nI nx) hnx ?_
      refine m_iald S hW hZ.sp.2.2.2.2.2.2.2.2.2.2.2.1 nx rfl (by omega) (by decide) dX11_cell_17 ?_
      refine m_top (y := (gSo q nx)) (hI.so hlnx) ?_
      refine lv_iconst (v := -1) hx hb dX11_cell_18 (by decide) ?_
      refine lv_icmp_ne (tgt := 25) hx hb dX11_cell_19 (by decide) (fun c_6 => ?_) (fun c_6 => ?_)
      · skip
        refine lv_iload_n hx hb dX11_cell_25 rfl (lv_at hl 2 rfl) ?_
        have hsl := hI.sl hlnx
        refine lv_iconst (v := nI 0) hx hb dX11_cell_26 (by decide) ?_
        refine lv_aload_n hx hb dX11_cell_27 rfl (lv_at hl 0 rfl) ?_
        refine m_getr S hW hZ.sp.1 18 rfl (j := 212) rfl kX11 (iW11 _) (by decide) (List.mem_cons_of_mem _ (wa_11 _ (List.mem_of_getElem? (i := 13) (by decide +kernel)))) dX11_cell_28 ?_
        refine lv_iload_n hx hb dX11_cell_31 rfl (lv_at hl 1 rfl) ?_
        refine m_top (y := nI nx) hnx ?_
        refine m_iald S hW hZ.sp.2.2.2.2.2.2.2.2.2.2.2.2.1 nx rfl (by omega) (by decide) dX11_cell_32 ?_
        refine m_top (y := nI (gSz q nx)) (hI.ss hlnx) ?_
        refine lv_iconst (v := nI 1) hx hb dX11_cell_33 (by decide) ?_
        refine lv_isub hx hb dX11_cell_34 ?_
        refine m_cip (m_rS S hW (c_X11_in_c l G ad sh V y ((nI (gSz q nx)) - (nI 1)) (gSz q nx) (by exact pk_sub_toInt (by omega) (by decide))) (va_cwS 3 hts (gCall [.methodLink RX11 84 yX11_in, .static yX11_in, .initialized RX11] (List.forall_mem_cons.mpr ⟨(wa_12 _ (List.mem_of_getElem? (i := 16) (by decide +kernel))), (List.forall_mem_cons.mpr ⟨(wa_12 _ (List.mem_of_getElem? (i := 14) (by decide +kernel))), (List.forall_mem_cons.mpr ⟨(wa_12 _ (List.mem_of_getElem? (i := 15) (by decide +kernel))), (List.forall_mem_cons.mpr ⟨(wa_1 _ (List.mem_of_getElem? (i := 5) (by decide +kernel))), (fun _ h => absurd h List.not_mem_nil)⟩)⟩)⟩)⟩)) rfl rfl rfl (by decide +kernel) ⟨Nat.le_of_ble_eq_true rfl, Nat.le_of_ble_eq_true rfl⟩) rfl hl.1 rfl (Nat.le_of_ble_eq_true rfl) dX11_cell_35 ⟨Nat.le_of_ble_eq_true rfl, Nat.le_of_ble_eq_true rfl⟩) hW (fun r_8 H locs hp_7 hW => ?_)
        rcases hp_7 with ⟨rfl, w_9⟩ | ⟨rfl, w_10⟩
        · skip
          obtain ⟨ny, hny, hwny, hlny⟩ := w_9.ex
          have hcy : y.toNatClampNeg = ny := by rw [hny]; exact nI_clamp (by omega)
          refine m_if_ne (tgt := 44) hx hb dX11_cell_38 (by decide) (fun c_11 => ?_) (fun c_11 => ?_)
          · skip
            refine lv_aload_n hx hb dX11_cell_44 rfl (lv_at hl 0 rfl) ?_
            refine m_getr S hW hZ.sp.1 19 rfl (j := 213) rfl kX11 (iW11 _) (by decide) (List.mem_cons_of_mem _ (wa_11 _ (List.mem_of_getElem? (i := 14) (by decide +kernel)))) dX11_cell_45 ?_
            refine lv_bipush (v := nI 40) hx hb dX11_cell_48 (by decide) ?_
            refine lv_iload_n hx hb dX11_cell_50 rfl (lv_at hl 1 rfl) ?_
            refine m_top (y := nI nx) hnx ?_
            refine lv_imul hx hb dX11_cell_51 ?_
            refine m_top (y := nI (40 * nx)) (pk_mul 40 nx) ?_
            refine lv_iload_n hx hb dX11_cell_52 rfl (lv_at hl 2 rfl) ?_
            refine m_top (y := nI ny) hny ?_
            refine lv_iadd hx hb dX11_cell_53 ?_
            refine m_top (y := nI ((40 * nx) + ny)) (nI_add (40 * nx) ny) ?_
            refine lv_aload_n hx hb dX11_cell_54 rfl (lv_at hl 0 rfl) ?_
            refine m_getr S hW hZ.sp.1 17 rfl (j := 211) rfl kX11 (iW11 _) (by decide) (List.mem_cons_of_mem _ (wa_11 _ (List.mem_of_getElem? (i := 12) (by decide +kernel)))) dX11_cell_55 ?_
            refine lv_iload_n hx hb dX11_cell_58 rfl (lv_at hl 1 rfl) ?_
            refine m_top (y := nI nx) hnx ?_
            refine m_iald S hW hZ.sp.2.2.2.2.2.2.2.2.2.2.2.1 nx rfl (by omega) (by decide) dX11_cell_59 ?_
            refine m_top (y := (gSo q nx)) (hI.so hlnx) ?_
            refine m_if_ne (tgt := 68) hx hb dX11_cell_60 (by decide) (fun c_12 => ?_) (fun c_12 => ?_)
            · skip
              refine lv_aload_n hx hb dX11_cell_68 rfl (lv_at hl 0 rfl) ?_
              refine m_getr S hW hZ.sp.1 17 rfl (j := 211) rfl kX11 (iW11 _) (by decide) (List.mem_cons_of_mem _ (wa_11 _ (List.mem_of_getElem? (i := 12) (by decide +kernel)))) dX11_cell_69 ?_
              refine lv_iload_n hx hb dX11_cell_72 rfl (lv_at hl 1 rfl) ?_
              refine m_top (y := nI nx) hnx ?_
              refine m_iald S hW hZ.sp.2.2.2.2.2.2.2.2.2.2.2.1 nx rfl (by omega) (by decide) dX11_cell_73 ?_
              refine m_top (y := (gSo q nx)) (hI.so hlnx) ?_
              refine lv_iconst (v := nI 1) hx hb dX11_cell_74 (by decide) ?_
              refine lv_icmp_ne (tgt := 83) hx hb dX11_cell_75 (by decide) (fun c_13 => ?_) (fun c_13 => ?_)
              · skip
                refine lv_iload_n hx hb dX11_cell_83 rfl (lv_at hl 3 rfl) ?_
                refine m_iast S hW hZ.sp.2.2.2.2.2.2.2.2.2.2.2.2.2.1 ((40 * nx) + ny) rfl (by omega) (by decide) dX11_cell_84 (fun H locs hW => ?_)
                obtain ⟨V_14, eV_14⟩ : ∃ vv_ : mV, vv_ = mU V 213 ((40 * nx) + ny) (v) := ⟨_, rfl⟩
                rw [← eV_14] at hW
                refine lv_iconst (v := nI 1) hx hb dX11_cell_85 (by decide) ?_
                exact m_iret S hr hlk hW dX11_cell_86 (by have hx9 : v = fNar (gSo q nx) v := (by rw [fNar, if_neg c_12, if_neg c_13]); have hvv : V_14 = mU V 213 (40 * nx + ny) (fNar (gSo q nx) v) := (by rw [eV_14, ← hx9]); exact ⟨by simp only [aCell, if_pos w_3, hcx, if_neg c_6, if_pos w_9, hcy]; try rfl, by simp only [nCell, if_pos w_3, hcx, if_neg c_6, if_pos w_9, hcy]; exact cell_s hI hlnx hlny hsl hvv, fun a ha => by rw [hvv, mU_no _ _ (by omega)]⟩)
              · skip
                refine lv_iload_n hx hb dX11_cell_78 rfl (lv_at hl 3 rfl) ?_
                refine lv_i2s (v := v.toInt16.toInt32) hx hb dX11_cell_79 rfl ?_
                refine lv_goto (tgt := 84) hx hb dX11_cell_80 (by decide) ?_
                refine m_iast S hW hZ.sp.2.2.2.2.2.2.2.2.2.2.2.2.2.1 ((40 * nx) + ny) rfl (by omega) (by decide) dX11_cell_84 (fun H locs hW => ?_)
                obtain ⟨V_15, eV_15⟩ : ∃ vv_ : mV, vv_ = mU V 213 ((40 * nx) + ny) (v.toInt16.toInt32) := ⟨_, rfl⟩
                rw [← eV_15] at hW
                refine lv_iconst (v := nI 1) hx hb dX11_cell_85 (by decide) ?_
                exact m_iret S hr hlk hW dX11_cell_86 (by have hx9 : v.toInt16.toInt32 = fNar (gSo q nx) v := (by rw [fNar, if_neg c_12, if_pos c_13]); have hvv : V_15 = mU V 213 (40 * nx + ny) (fNar (gSo q nx) v) := (by rw [eV_15, ← hx9]); exact ⟨by simp only [aCell, if_pos w_3, hcx, if_neg c_6, if_pos w_9, hcy]; try rfl, by simp only [nCell, if_pos w_3, hcx, if_neg c_6, if_pos w_9, hcy]; exact cell_s hI hlnx hlny hsl hvv, fun a ha => by rw [hvv, mU_no _ _ (by omega)]⟩)
            · skip
              refine lv_iload_n hx hb dX11_cell_63 rfl (lv_at hl 3 rfl) ?_
              refine lv_i2b (v := v.toInt8.toInt32) hx hb dX11_cell_64 rfl ?_
              refine lv_goto (tgt := 84) hx hb dX11_cell_65 (by decide) ?_
              refine m_iast S hW hZ.sp.2.2.2.2.2.2.2.2.2.2.2.2.2.1 ((40 * nx) + ny) rfl (by omega) (by decide) dX11_cell_84 (fun H locs hW => ?_)
              obtain ⟨V_16, eV_16⟩ : ∃ vv_ : mV, vv_ = mU V 213 ((40 * nx) + ny) (v.toInt8.toInt32) := ⟨_, rfl⟩
              rw [← eV_16] at hW
              refine lv_iconst (v := nI 1) hx hb dX11_cell_85 (by decide) ?_
              exact m_iret S hr hlk hW dX11_cell_86 (by have hx9 : v.toInt8.toInt32 = fNar (gSo q nx) v := (by rw [fNar, if_pos c_12]); have hvv : V_16 = mU V 213 (40 * nx + ny) (fNar (gSo q nx) v) := (by rw [eV_16, ← hx9]); exact ⟨by simp only [aCell, if_pos w_3, hcx, if_neg c_6, if_pos w_9, hcy]; try rfl, by simp only [nCell, if_pos w_3, hcx, if_neg c_6, if_pos w_9, hcy]; exact cell_s hI hlnx hlny hsl hvv, fun a ha => by rw [hvv, mU_no _ _ (by omega)]⟩)
          · exact absurd c_11 (by decide)
        · skip
          refine m_if_ne (tgt := 44) hx hb dX11_cell_38 (by decide) (fun c_17 => ?_) (fun c_17 => ?_)
          · exact absurd c_17 (by decide)
          · skip
            refine lv_bipush (v := -12) hx hb dX11_cell_41 (by decide) ?_
            exact m_iret S hr hlk hW dX11_cell_43 (by exact ⟨by simp only [aCell, if_pos w_3, hcx, if_neg c_6, if_neg w_10]; try rfl, by simp only [nCell, if_pos w_3, hcx, if_neg c_6, if_neg w_10]; exact hI, fun _ _ => rfl⟩)
      · skip
        refine lv_bipush (v := -11) hx hb dX11_cell_22 (by decide) ?_
        exact m_iret S hr hlk hW dX11_cell_24 (by exact ⟨by simp only [aCell, if_pos w_3, hcx, if_pos c_6]; try rfl, by simp only [nCell, if_pos w_3, hcx, if_pos c_6]; exact hI, fun _ _ => rfl⟩)
    · exact absurd c_5 (by decide)
  · skip
    refine m_if_ne (tgt := 12) hx hb dX11_cell_6 (by decide) (fun c_18 => ?_) (fun c_18 => ?_)
    · exact absurd c_18 (by decide)
    · skip
      refine lv_bipush (v := -2) hx hb dX11_cell_9 (by decide) ?_
      exact m_iret S hr hlk hW dX11_cell_11 (by exact ⟨by simp only [aCell, if_neg w_4]; try rfl, by simp only [nCell, if_neg w_4]; exact hI, fun _ _ => rfl⟩)
set_option maxHeartbeats 4000000 in
set_option maxRecDepth 100000 in
theorem c_X11_taken (l : Launch) (G : mG) (ad : Nat → Nat) (sh : Nat → Option mSh) (V : mV) (q : Sg) (x k : Int32) (hI : MI sh V q) : mM l yX11_taken wsX11_taken ({ frames := 1, cells := 0, slots := 0, locals := 22 } : Room) G ad sh V [.ref (ad 200), .int x, .int k] 0 0 (mPi ad sh (fun r V' => (aTaken q x k) = r ∧ V' = V)) := by
  refine mM.of (cc := cX11_taken) (maxL := 3) (ret := (some .int)) (by decide) rfl (Nat.le_of_ble_eq_true rfl) ?_
  intro p e s m below meth c S hr hlk hnm hW ls hl
  obtain ⟨hx, hb, hml, hown, hts⟩ := id S
  have hl : lv_has ls 3 [(0, .ref (ad 200)), (1, .int x), (2, .int k)] := hl
  have hS0 : True := trivial
  have hZ := hI.z
  have hne5 := hZ.ne5
  have hng6 := hZ.ng6
  have htn := hI.tn
  refine lv_iload_n hx hb dX11_taken_0 rfl (lv_at hl 2 rfl) ?_
  refine lv_iconst (v := nI 0) hx hb dX11_taken_1 (by decide) ?_
  refine lv_bipush (v := nI 6) hx hb dX11_taken_2 (by decide) ?_
  refine m_cip (m_rS S hW (c_X11_in l G ad sh V k 0 6 (by first | assumption | omega) (by first | assumption | omega)) (va_cwS 3 hts (gCall [.methodLink RX11 84 yX11_in, .static yX11_in, .initialized RX11] (List.forall_mem_cons.mpr ⟨(wa_12 _ (List.mem_of_getElem? (i := 16) (by decide +kernel))), (List.forall_mem_cons.mpr ⟨(wa_12 _ (List.mem_of_getElem? (i := 14) (by decide +kernel))), (List.forall_mem_cons.mpr ⟨(wa_12 _ (List.mem_of_getElem? (i := 15) (by decide +kernel))), (List.forall_mem_cons.mpr ⟨(wa_1 _ (List.mem_of_getElem? (i := 5) (by decide +kernel))), (fun _ h => absurd h List.not_mem_nil)⟩)⟩)⟩)⟩)) rfl rfl rfl (by decide +kernel) ⟨Nat.le_of_ble_eq_true rfl, Nat.le_of_ble_eq_true rfl⟩) rfl hl.1 rfl (Nat.le_of_ble_eq_true rfl) dX11_taken_4 ⟨Nat.le_of_ble_eq_true rfl, Nat.le_of_ble_eq_true rfl⟩) hW (fun r_2 H locs hp_1 hW => ?_)
  rcases hp_1 with ⟨rfl, w_3⟩ | ⟨rfl, w_4⟩
  · skip
    obtain ⟨nk, hnk, hwnk, hlnk⟩ := w_3.ex
    have hck : k.toNatClampNeg = nk := by rw [hnk]; exact nI_clamp (by omega)
    refine m_if_ne (tgt := 13) hx hb dX11_taken_7 (by decide) (fun c_5 => ?_) (fun c_5 => ?_)
    · skip
      refine lv_iload_n hx hb dX11_taken_13 rfl (lv_at hl 1 rfl) ?_
      refine lv_iconst (v := nI 0) hx hb dX11_taken_14 (by decide) ?_
      refine lv_bipush (v := nI 10) hx hb dX11_taken_15 (by decide) ?_
      refine m_cip (m_rS S hW (c_X11_in l G ad sh V x 0 10 (by first | assumption | omega) (by first | assumption | omega)) (va_cwS 3 hts (gCall [.methodLink RX11 84 yX11_in, .static yX11_in, .initialized RX11] (List.forall_mem_cons.mpr ⟨(wa_12 _ (List.mem_of_getElem? (i := 16) (by decide +kernel))), (List.forall_mem_cons.mpr ⟨(wa_12 _ (List.mem_of_getElem? (i := 14) (by decide +kernel))), (List.forall_mem_cons.mpr ⟨(wa_12 _ (List.mem_of_getElem? (i := 15) (by decide +kernel))), (List.forall_mem_cons.mpr ⟨(wa_1 _ (List.mem_of_getElem? (i := 5) (by decide +kernel))), (fun _ h => absurd h List.not_mem_nil)⟩)⟩)⟩)⟩)) rfl rfl rfl (by decide +kernel) ⟨Nat.le_of_ble_eq_true rfl, Nat.le_of_ble_eq_true rfl⟩) rfl hl.1 rfl (Nat.le_of_ble_eq_true rfl) dX11_taken_17 ⟨Nat.le_of_ble_eq_true rfl, Nat.le_of_ble_eq_true rfl⟩) hW (fun r_7 H locs hp_6 hW => ?_)
      rcases hp_6 with ⟨rfl, w_8⟩ | ⟨rfl, w_9⟩
      · skip
        obtain ⟨nx, hnx, hwnx, hlnx⟩ := w_8.ex
        have hcx : x.toNatClampNeg = nx := by rw [hnx]; exact nI_clamp (by omega)
        refine m_if_ne (tgt := 26) hx hb dX11_taken_20 (by decide) (fun c_10 => ?_) (fun c_10 => ?_)
        · skip
          refine lv_iload_n hx hb dX11_taken_26 rfl (lv_at hl 1 rfl) ?_
          refine m_top (y := nI nx) hnx ?_
          refine lv_iconst (v := nI 5) hx hb dX11_taken_27 (by decide) ?_
          refine lv_icmp_lt (tgt := 65) hx hb dX11_taken_28 (by decide) (fun c_11 => ?_) (fun c_11 => ?_)
          · skip
            have c_11 : nx < 5 := (nI_ltI (by omega) (by omega)).mp c_11
            refine lv_iload_n hx hb dX11_taken_65 rfl (lv_at hl 1 rfl) ?_
            refine m_top (y := nI nx) hnx ?_
            refine lv_aload_n hx hb dX11_taken_66 rfl (lv_at hl 0 rfl) ?_
            refine m_geti S hW hZ.sp.1 2 rfl kX11 (iW11 _) (by decide) (List.mem_cons_of_mem _ (wa_15 _ (List.mem_of_getElem? (i := 0) (by decide +kernel)))) dX11_taken_67 ?_
            refine m_top (y := nI (gNe q)) hI.z.ne_ ?_
            refine lv_icmp_lt (tgt := 78) hx hb dX11_taken_70 (by decide) (fun c_12 => ?_) (fun c_12 => ?_)
            · skip
              have c_12 : nx < (gNe q) := (nI_ltI (by omega) (by omega)).mp c_12
              have hnex : mIn x 0 (gNe q) := by rw [hnx]; exact (mIn_nI (by omega)).mpr ⟨by omega, by omega⟩
              refine lv_iload_n hx hb dX11_taken_78 rfl (lv_at hl 2 rfl) ?_
              refine m_top (y := nI nk) hnk ?_
              refine lv_bipush (v := nI 6) hx hb dX11_taken_79 (by decide) ?_
              refine lv_icmp_ge (tgt := 101) hx hb dX11_taken_81 (by decide) (fun c_13 => ?_) (fun c_13 => ?_)
              · skip
                have c_13 : 6 ≤ nk := (nI_leI (by omega) (by omega)).mp c_13
                have hk6 : ¬ k < nI 6 := by rw [hnk]; exact mt (nI_ltI (by omega) (by omega)).mp (by omega)
                refine lv_bipush (v := -13) hx hb dX11_taken_101 (by decide) ?_
                exact m_iret S hr hlk hW dX11_taken_103 (by exact ⟨by simp only [aTaken, if_pos w_3, hck, if_pos w_8, hcx, if_pos hnex, if_neg hk6]; try (first | rfl | exact hnx), rfl⟩)
              · skip
                have c_13 : ¬ 6 ≤ nk := mt (nI_leI (by omega) (by omega)).mpr c_13
                have hk6 : k < nI 6 := by rw [hnk]; exact (nI_ltI (by omega) (by omega)).mpr (by omega)
                refine lv_aload_n hx hb dX11_taken_84 rfl (lv_at hl 0 rfl) ?_
                refine m_getr S hW hZ.sp.1 3 rfl (j := 202) rfl kX11 (iW11 _) (by decide) (List.mem_cons_of_mem _ (wa_11 _ (List.mem_of_getElem? (i := 3) (by decide +kernel)))) dX11_taken_85 ?_
                refine lv_iload_n hx hb dX11_taken_88 rfl (lv_at hl 1 rfl) ?_
                refine m_top (y := nI nx) hnx ?_
                refine m_iald S hW hZ.sp.2.2.1 nx rfl (by omega) (by decide) dX11_taken_89 ?_
                refine m_top (y := (gZ q (4 + nx) 0)) (hZ.iKi (by omega)) ?_
                refine lv_iload_n hx hb dX11_taken_90 rfl (lv_at hl 2 rfl) ?_
                refine m_top (y := nI nk) hnk ?_
                refine m_cie (m_rS S hW (c_X11_isUnder l G ad sh V (gZ q (4 + nx) 0) (nI nk)) (va_cwS 2 hts (gCall [.methodLink RX11 296 yX11_isUnder, .static yX11_isUnder, .initialized RX11] (List.forall_mem_cons.mpr ⟨(wa_46 _ (List.mem_of_getElem? (i := 14) (by decide +kernel))), (List.forall_mem_cons.mpr ⟨(wa_46 _ (List.mem_of_getElem? (i := 12) (by decide +kernel))), (List.forall_mem_cons.mpr ⟨(wa_46 _ (List.mem_of_getElem? (i := 13) (by decide +kernel))), (List.forall_mem_cons.mpr ⟨(wa_1 _ (List.mem_of_getElem? (i := 5) (by decide +kernel))), (fun _ h => absurd h List.not_mem_nil)⟩)⟩)⟩)⟩)) rfl rfl rfl (by decide +kernel) ⟨Nat.le_of_ble_eq_true rfl, Nat.le_of_ble_eq_true rfl⟩) rfl hl.1 rfl (Nat.le_of_ble_eq_true rfl) dX11_taken_91 ⟨Nat.le_of_ble_eq_true rfl, Nat.le_of_ble_eq_true rfl⟩) hW (fun H locs hW => ?_)
                refine m_if_eq (tgt := 101) hx hb dX11_taken_94 (by decide) (fun c_14 => ?_) (fun c_14 => ?_)
                · skip
                  have hun : ¬ fUnder (gZ q (4 + nx) 0) k = true := by rw [hnk]; exact fun z => absurd ((if_pos z).symm.trans c_14) (by decide)
                  refine lv_bipush (v := -13) hx hb dX11_taken_101 (by decide) ?_
                  exact m_iret S hr hlk hW dX11_taken_103 (by exact ⟨by simp only [aTaken, if_pos w_3, hck, if_pos w_8, hcx, if_pos hnex, if_pos hk6, if_neg hun]; try (first | rfl | exact hnx), rfl⟩)
                · skip
                  have hun : fUnder (gZ q (4 + nx) 0) k = true := by rw [hnk]; exact Decidable.byContradiction (fun z => c_14 (if_neg z))
                  refine lv_iload_n hx hb dX11_taken_97 rfl (lv_at hl 1 rfl) ?_
                  refine m_top (y := nI nx) hnx ?_
                  refine lv_goto (tgt := 103) hx hb dX11_taken_98 (by decide) ?_
                  exact m_iret S hr hlk hW dX11_taken_103 (by exact ⟨by simp only [aTaken, if_pos w_3, hck, if_pos w_8, hcx, if_pos hnex, if_pos hk6, if_pos hun]; try (first | rfl | exact hnx), rfl⟩)
            · skip
              have c_12 : ¬ nx < (gNe q) := mt (nI_ltI (by omega) (by omega)).mpr c_12
              have hnex : ¬ mIn x 0 (gNe q) := by rw [hnx]; exact fun z => by have := (mIn_nI (by omega)).mp z; omega
              have hng0 : ¬ mIn (x - nI 5) 0 (gNg q) := fun z => by obtain ⟨j, j1, -, j2⟩ := z.ex; rw [hnx] at j1; have j3 := pk_sneg (a := nx) (b := 5) (by decide) (by omega); rw [j1] at j3; exact nI_pos (by omega) j3
              refine lv_bipush (v := -11) hx hb dX11_taken_73 (by decide) ?_
              refine lv_goto (tgt := 103) hx hb dX11_taken_75 (by decide) ?_
              exact m_iret S hr hlk hW dX11_taken_103 (by exact ⟨by simp only [aTaken, if_pos w_3, hck, if_pos w_8, hcx, if_neg hnex, if_neg hng0]; try (first | rfl | exact hnx), rfl⟩)
          · skip
            have c_11 : ¬ nx < 5 := mt (nI_ltI (by omega) (by omega)).mpr c_11
            have hx5 : x - nI 5 = nI (nx - 5) := by rw [hnx]; exact pk_sub (by omega)
            have hnex : ¬ mIn x 0 (gNe q) := by rw [hnx]; exact fun z => by have := (mIn_nI (by omega)).mp z; omega
            refine lv_iload_n hx hb dX11_taken_31 rfl (lv_at hl 1 rfl) ?_
            refine m_top (y := nI nx) hnx ?_
            refine lv_iconst (v := nI 5) hx hb dX11_taken_32 (by decide) ?_
            refine lv_isub hx hb dX11_taken_33 ?_
            refine m_top (y := nI (nx - 5)) (pk_sub (by omega)) ?_
            refine lv_aload_n hx hb dX11_taken_34 rfl (lv_at hl 0 rfl) ?_
            refine m_geti S hW hZ.sp.1 0 rfl kX11 (iW11 _) (by decide) (List.mem_cons_of_mem _ (wa_15 _ (List.mem_of_getElem? (i := 1) (by decide +kernel)))) dX11_taken_35 ?_
            refine m_top (y := nI (gNg q)) hI.z.ng_ ?_
            refine lv_icmp_lt (tgt := 46) hx hb dX11_taken_38 (by decide) (fun c_15 => ?_) (fun c_15 => ?_)
            · skip
              have c_15 : (nx - 5) < (gNg q) := (nI_ltI (by omega) (by omega)).mp c_15
              have hng0 : mIn (x - nI 5) 0 (gNg q) := by rw [hx5]; exact (mIn_nI (by omega)).mpr ⟨by omega, by omega⟩
              have hc5 : (x - nI 5).toNatClampNeg = nx - 5 := by rw [hx5]; exact nI_clamp (by omega)
              refine lv_iload_n hx hb dX11_taken_46 rfl (lv_at hl 2 rfl) ?_
              refine m_top (y := nI nk) hnk ?_
              refine lv_bipush (v := nI 6) hx hb dX11_taken_47 (by decide) ?_
              refine lv_icmp_ne (tgt := 62) hx hb dX11_taken_49 (by decide) (fun c_16 => ?_) (fun c_16 => ?_)
              · skip
                have c_16 : ¬ nk = 6 := mt (nI_eq (by omega) (by omega)).mpr c_16
                have hk6 : ¬ k = nI 6 := by rw [hnk]; exact mt (nI_eq (by omega) (by omega)).mp (by omega)
                refine lv_bipush (v := -13) hx hb dX11_taken_62 (by decide) ?_
                exact m_iret S hr hlk hW dX11_taken_64 (by exact ⟨by simp only [aTaken, if_pos w_3, hck, if_pos w_8, if_neg hnex, if_pos hng0, hc5, if_neg hk6]; try (first | rfl | exact hnx), rfl⟩)
              · skip
                have c_16 : nk = 6 := (nI_eq (by omega) (by omega)).mp c_16
                have hk6 : k = nI 6 := by rw [hnk, show nk = 6 by omega]
                refine lv_aload_n hx hb dX11_taken_52 rfl (lv_at hl 0 rfl) ?_
                refine lv_iload_n hx hb dX11_taken_53 rfl (lv_at hl 1 rfl) ?_
                refine m_top (y := nI nx) hnx ?_
                refine lv_iconst (v := nI 5) hx hb dX11_taken_54 (by decide) ?_
                refine lv_isub hx hb dX11_taken_55 ?_
                refine m_top (y := nI (nx - 5)) (pk_sub (by omega)) ?_
                refine m_cie (m_rV S hW (c_X11_leftOf l G ad sh V (nx - 5) (zn (gZ q) (10 + 2 * (nx - 5)) 2) hZ.sp.1 hZ.sp.2.1 (hZ.rLe (by first | assumption | omega)) (by omega)) (cwV 1 hts (gCall [.methodLink RX11 167 yX11_leftOf, .instanceMethod yX11_leftOf, .selects RX11 yX11_leftOf yX11_leftOf, .initialized RX11] (List.forall_mem_cons.mpr ⟨(wa_19 _ (List.mem_of_getElem? (i := 19) (by decide +kernel))), (List.forall_mem_cons.mpr ⟨(wa_19 _ (List.mem_of_getElem? (i := 16) (by decide +kernel))), (List.forall_mem_cons.mpr ⟨(wa_19 _ (List.mem_of_getElem? (i := 17) (by decide +kernel))), (List.forall_mem_cons.mpr ⟨(wa_19 _ (List.mem_of_getElem? (i := 18) (by decide +kernel))), (List.forall_mem_cons.mpr ⟨(wa_1 _ (List.mem_of_getElem? (i := 5) (by decide +kernel))), (fun _ h => absurd h List.not_mem_nil)⟩)⟩)⟩)⟩)⟩)) rfl rfl rfl (by decide +kernel) ⟨Nat.le_of_ble_eq_true rfl, Nat.le_of_ble_eq_true rfl⟩) hZ.sp.1 kX11 rfl hl.1 rfl (Nat.le_of_ble_eq_true rfl) dX11_taken_56 ⟨Nat.le_of_ble_eq_true rfl, Nat.le_of_ble_eq_true rfl⟩) hW (fun H locs hW => ?_)
                refine m_top (y := (gZ q (10 + 2 * (nx - 5)) 2)) (hZ.ok.le (by omega)).1.symm ?_
                refine lv_goto (tgt := 64) hx hb dX11_taken_59 (by decide) ?_
                exact m_iret S hr hlk hW dX11_taken_64 (by exact ⟨by simp only [aTaken, if_pos w_3, hck, if_pos w_8, if_neg hnex, if_pos hng0, hc5, if_pos hk6]; try (first | rfl | exact hnx), rfl⟩)
            · skip
              have c_15 : ¬ (nx - 5) < (gNg q) := mt (nI_ltI (by omega) (by omega)).mpr c_15
              have hng0 : ¬ mIn (x - nI 5) 0 (gNg q) := by rw [hx5]; exact fun z => by have := (mIn_nI (by omega)).mp z; omega
              refine lv_bipush (v := -11) hx hb dX11_taken_41 (by decide) ?_
              refine lv_goto (tgt := 64) hx hb dX11_taken_43 (by decide) ?_
              exact m_iret S hr hlk hW dX11_taken_64 (by exact ⟨by simp only [aTaken, if_pos w_3, hck, if_pos w_8, if_neg hnex, if_neg hng0]; try (first | rfl | exact hnx), rfl⟩)
        · exact absurd c_10 (by decide)
      · skip
        refine m_if_ne (tgt := 26) hx hb dX11_taken_20 (by decide) (fun c_17 => ?_) (fun c_17 => ?_)
        · exact absurd c_17 (by decide)
        · skip
          refine lv_bipush (v := -12) hx hb dX11_taken_23 (by decide) ?_
          exact m_iret S hr hlk hW dX11_taken_25 (by exact ⟨by simp only [aTaken, if_pos w_3, hck, if_neg w_9]; try (first | rfl | exact hnx), rfl⟩)
    · exact absurd c_5 (by decide)
  · skip
    refine m_if_ne (tgt := 13) hx hb dX11_taken_7 (by decide) (fun c_18 => ?_) (fun c_18 => ?_)
    · exact absurd c_18 (by decide)
    · skip
      refine lv_bipush (v := -2) hx hb dX11_taken_10 (by decide) ?_
      exact m_iret S hr hlk hW dX11_taken_12 (by exact ⟨by simp only [aTaken, if_neg w_4]; try (first | rfl | exact hnx), rfl⟩)
set_option maxHeartbeats 4000000 in
set_option maxRecDepth 100000 in
theorem c_X11_image (l : Launch) (G : mG) (ad : Nat → Nat) (sh : Nat → Option mSh) (V : mV) (q : Sg)  (hI : MI sh V q) : mM l yX11_image wsX11_image ({ frames := 0, cells := 0, slots := 0, locals := 0 } : Room) G ad sh V [.ref (ad 200)] 0 0 (mPi ad sh (fun r V' => (nI (gNe q)) = r ∧ (MI sh V' (nImage q)) ∧ (∀ a, a < 200 → V' a = V a))) := by
  refine mM.of (cc := cX11_image) (maxL := 2) (ret := (some .int)) (by decide) rfl (Nat.le_of_ble_eq_true rfl) ?_
  intro p e s m below meth c S hr hlk hnm hW ls hl
  obtain ⟨hx, hb, hml, hown, hts⟩ := id S
  have hl : lv_has ls 2 [(0, .ref (ad 200))] := hl
  have hS0 : True := trivial
  have hZ := hI.z
  have hne5 := hZ.ne5
  have hng6 := hZ.ng6
  have htn := hI.tn
  refine lv_aload_n hx hb dX11_image_0 rfl (lv_at hl 0 rfl) ?_
  refine lv_iconst (v := nI 1) hx hb dX11_image_1 (by decide) ?_
  refine m_puti S hW hZ.sp.1 13 rfl kX11 (iW11 _) tyX11 tyX11_ok nmX11 (by decide) (List.mem_cons_of_mem _ (wa_44 _ (List.mem_of_getElem? (i := 3) (by decide +kernel)))) (Or.inl rfl) rfl rfl dX11_image_2 (fun H locs hW => ?_)
  obtain ⟨V_1, eV_1⟩ : ∃ vv_ : mV, vv_ = mU V 200 13 (nI 1) := ⟨_, rfl⟩
  rw [← eV_1] at hW
  refine lv_iconst (v := nI 0) hx hb dX11_image_5 (by decide) ?_
  refine lv_istore_n (lv' := [(1, .int (nI 0)), (0, .ref (ad 200))]) hx hb dX11_image_6 rfl hl (by decide) rfl (fun ls hl => ?_)
  have loop_7 : ∀ (n_7 : Nat) (k : Nat) (V1 : mV) (H : Heap) (locs : List Loc) (ls : Array Slot), (k ≤ 72) → (∀ a, a ≠ 200 → a ≠ 208 → V1 a = V a) → (∀ j, j < k → V1 208 j = V 201 j) → (∀ j, j ≠ 13 → V1 200 j = V 200 j) → (V1 200 13 = nI 1) → (72 - k) < n_7 → mC (mA ad sh s.heap.size) s.heap s G ad sh V1 H locs → lv_has ls 2 [(0, .ref (ad 200)), (1, .int (nI k))] → W p l e ({ frames := 0, cells := 0, slots := 0, locals := 0 } : Room) s m ([.ref (ad 200)] : List Value).toArray below meth c H locs 0 0 (MQ below (mPost G ad sh s.heap.size (mPi ad sh (fun r V' => (nI (gNe q)) = r ∧ (MI sh V' (nImage q)) ∧ (∀ a, a < 200 → V' a = V a)))) ([.ref (ad 200)] : List Value).toArray s 0 0 (mA ad sh s.heap.size)) (F0 m 7 ls []) := by
    intro n_7
    induction n_7 with
    | zero => intro k V1 H locs ls hk hf h8 h0 h130 hM_ hW hl; omega
    | succ n_7 ih_7 =>
      intro k V1 H locs ls hk hf h8 h0 h130 hM_ hW hl
      refine lv_iload_n hx hb dX11_image_7 rfl (lv_at hl 1 rfl) ?_
      refine lv_bipush (v := nI 72) hx hb dX11_image_8 (by decide) ?_
      refine lv_icmp_ge (tgt := 31) hx hb dX11_image_10 (by decide) (fun c_2 => ?_) (fun c_2 => ?_)
      · skip
        have c_2 : 72 ≤ k := (nI_leI (by omega) (by omega)).mp c_2
        refine lv_iconst (v := nI 0) hx hb dX11_image_31 (by decide) ?_
        refine lv_istore_n (lv' := [(1, .int (nI 0)), (0, .ref (ad 200))]) hx hb dX11_image_32 rfl hl (by decide) rfl (fun ls hl => ?_)
        have loop_33 : ∀ (n_33 : Nat) (k2 : Nat) (V2 : mV) (H : Heap) (locs : List Loc) (ls : Array Slot), (k2 ≤ 15) → (∀ a, a ≠ 200 → a ≠ 208 → a ≠ 209 → V2 a = V a) → (∀ j, j < k2 → V2 209 j = V 204 j) → (∀ j, j < 72 → V2 208 j = V 201 j) → (∀ j, j ≠ 13 → V2 200 j = V 200 j) → (V2 200 13 = nI 1) → (15 - k2) < n_33 → mC (mA ad sh s.heap.size) s.heap s G ad sh V2 H locs → lv_has ls 2 [(0, .ref (ad 200)), (1, .int (nI k2))] → W p l e ({ frames := 0, cells := 0, slots := 0, locals := 0 } : Room) s m ([.ref (ad 200)] : List Value).toArray below meth c H locs 0 0 (MQ below (mPost G ad sh s.heap.size (mPi ad sh (fun r V' => (nI (gNe q)) = r ∧ (MI sh V' (nImage q)) ∧ (∀ a, a < 200 → V' a = V a)))) ([.ref (ad 200)] : List Value).toArray s 0 0 (mA ad sh s.heap.size)) (F0 m 33 ls []) := by
          intro n_33
          induction n_33 with
          | zero => intro k2 V2 H locs ls hk2 hf2 h9 h82 h02 h13 hM_ hW hl; omega
          | succ n_33 ih_33 =>
            intro k2 V2 H locs ls hk2 hf2 h9 h82 h02 h13 hM_ hW hl
            refine lv_iload_n hx hb dX11_image_33 rfl (lv_at hl 1 rfl) ?_
            refine lv_bipush (v := nI 15) hx hb dX11_image_34 (by decide) ?_
            refine lv_icmp_ge (tgt := 57) hx hb dX11_image_36 (by decide) (fun c_3 => ?_) (fun c_3 => ?_)
            · skip
              have c_3 : 15 ≤ k2 := (nI_leI (by omega) (by omega)).mp c_3
              refine lv_aload_n hx hb dX11_image_57 rfl (lv_at hl 0 rfl) ?_
              refine m_getr S hW hZ.sp.1 16 rfl (j := 210) rfl kX11 (iW11 _) (by decide) (List.mem_cons_of_mem _ (wa_11 _ (List.mem_of_getElem? (i := 11) (by decide +kernel)))) dX11_image_58 ?_
              refine lv_iconst (v := nI 0) hx hb dX11_image_61 (by decide) ?_
              refine lv_aload_n hx hb dX11_image_62 rfl (lv_at hl 0 rfl) ?_
              refine m_geti S hW hZ.sp.1 2 rfl kX11 (iW11 _) (by decide) (List.mem_cons_of_mem _ (wa_15 _ (List.mem_of_getElem? (i := 0) (by decide +kernel)))) dX11_image_63 ?_
              refine m_top (y := nI (gNe q)) (by rw [h02 2 (by decide)]; exact hZ.ne_) ?_
              refine m_iast S hW hZ.sp.2.2.2.2.2.2.2.2.2.2.1 0 rfl (by decide) (by decide) dX11_image_66 (fun H locs hW => ?_)
              obtain ⟨V_4, eV_4⟩ : ∃ vv_ : mV, vv_ = mU V2 210 0 (nI (gNe q)) := ⟨_, rfl⟩
              rw [← eV_4] at hW
              refine lv_aload_n hx hb dX11_image_67 rfl (lv_at hl 0 rfl) ?_
              refine m_getr S hW hZ.sp.1 16 rfl (j := 210) rfl kX11 (iW11 _) (by decide) (List.mem_cons_of_mem _ (wa_11 _ (List.mem_of_getElem? (i := 11) (by decide +kernel)))) dX11_image_68 ?_
              refine lv_iconst (v := nI 1) hx hb dX11_image_71 (by decide) ?_
              refine lv_aload_n hx hb dX11_image_72 rfl (lv_at hl 0 rfl) ?_
              refine m_geti S hW hZ.sp.1 0 rfl kX11 (iW11 _) (by decide) (List.mem_cons_of_mem _ (wa_15 _ (List.mem_of_getElem? (i := 1) (by decide +kernel)))) dX11_image_73 ?_
              refine m_top (y := nI (gNg q)) (by rw [eV_4, mU_no _ _ (by decide), h02 0 (by decide)]; exact hZ.ng_) ?_
              refine m_iast S hW hZ.sp.2.2.2.2.2.2.2.2.2.2.1 1 rfl (by decide) (by decide) dX11_image_76 (fun H locs hW => ?_)
              obtain ⟨V_5, eV_5⟩ : ∃ vv_ : mV, vv_ = mU V_4 210 1 (nI (gNg q)) := ⟨_, rfl⟩
              rw [← eV_5] at hW
              refine lv_aload_n hx hb dX11_image_77 rfl (lv_at hl 0 rfl) ?_
              refine m_getr S hW hZ.sp.1 16 rfl (j := 210) rfl kX11 (iW11 _) (by decide) (List.mem_cons_of_mem _ (wa_11 _ (List.mem_of_getElem? (i := 11) (by decide +kernel)))) dX11_image_78 ?_
              refine lv_iconst (v := nI 2) hx hb dX11_image_81 (by decide) ?_
              refine lv_aload_n hx hb dX11_image_82 rfl (lv_at hl 0 rfl) ?_
              refine m_geti S hW hZ.sp.1 6 rfl kX11 (iW11 _) (by decide) (List.mem_cons_of_mem _ (wa_15 _ (List.mem_of_getElem? (i := 2) (by decide +kernel)))) dX11_image_83 ?_
              refine m_top (y := (gZ q 0 4)) (by rw [eV_5, mU_no _ _ (by decide), eV_4, mU_no _ _ (by decide), h02 6 (by decide)]; exact hZ.rDay) ?_
              refine m_iast S hW hZ.sp.2.2.2.2.2.2.2.2.2.2.1 2 rfl (by decide) (by decide) dX11_image_86 (fun H locs hW => ?_)
              obtain ⟨V_6, eV_6⟩ : ∃ vv_ : mV, vv_ = mU V_5 210 2 ((gZ q 0 4)) := ⟨_, rfl⟩
              rw [← eV_6] at hW
              refine lv_aload_n hx hb dX11_image_87 rfl (lv_at hl 0 rfl) ?_
              refine m_getr S hW hZ.sp.1 16 rfl (j := 210) rfl kX11 (iW11 _) (by decide) (List.mem_cons_of_mem _ (wa_11 _ (List.mem_of_getElem? (i := 11) (by decide +kernel)))) dX11_image_88 ?_
              refine lv_iconst (v := nI 3) hx hb dX11_image_91 (by decide) ?_
              refine lv_aload_n hx hb dX11_image_92 rfl (lv_at hl 0 rfl) ?_
              refine m_geti S hW hZ.sp.1 12 rfl kX11 (iW11 _) (by decide) (List.mem_cons_of_mem _ (wa_15 _ (List.mem_of_getElem? (i := 3) (by decide +kernel)))) dX11_image_93 ?_
              refine m_top (y := nI (gRl q)) (by rw [eV_6, mU_no _ _ (by decide), eV_5, mU_no _ _ (by decide), eV_4, mU_no _ _ (by decide), h02 12 (by decide)]; exact hZ.rl_) ?_
              refine m_iast S hW hZ.sp.2.2.2.2.2.2.2.2.2.2.1 3 rfl (by decide) (by decide) dX11_image_96 (fun H locs hW => ?_)
              obtain ⟨V_7, eV_7⟩ : ∃ vv_ : mV, vv_ = mU V_6 210 3 (nI (gRl q)) := ⟨_, rfl⟩
              rw [← eV_7] at hW
              refine lv_aload_n hx hb dX11_image_97 rfl (lv_at hl 0 rfl) ?_
              refine m_geti S hW hZ.sp.1 2 rfl kX11 (iW11 _) (by decide) (List.mem_cons_of_mem _ (wa_15 _ (List.mem_of_getElem? (i := 0) (by decide +kernel)))) dX11_image_98 ?_
              refine m_top (y := nI (gNe q)) (by rw [eV_7, mU_no _ _ (by decide), eV_6, mU_no _ _ (by decide), eV_5, mU_no _ _ (by decide), eV_4, mU_no _ _ (by decide), h02 2 (by decide)]; exact hZ.ne_) ?_
              have hvv : V_7 = _ := eV_7
              rw [eV_6, eV_5, eV_4] at hvv
              exact m_iret S hr hlk hW dX11_image_101 (by have g4 : ∀ a, a ≠ 210 → V_7 a = V2 a := (fun a ha => by rw [hvv, mU_no _ _ ha, mU_no _ _ ha, mU_no _ _ ha, mU_no _ _ ha]); exact ⟨rfl, hI.image (fun a a1 a2 a3 a4 => by rw [g4 a a4]; exact hf2 a a1 a2 a3) (fun k hk => by rw [g4 200 (by decide)]; exact (h02 k hk)) (by rw [g4 200 (by decide)]; exact h13) (fun k hk => by rw [g4 208 (by decide)]; exact h82 k hk) (fun k hk => by rw [g4 209 (by decide)]; exact h9 k (by omega)) ⟨by rw [hvv, mU_ne _ _ (by decide), mU_ne _ _ (by decide), mU_ne _ _ (by decide), mU_eq], by rw [hvv, mU_ne _ _ (by decide), mU_ne _ _ (by decide), mU_eq], by rw [hvv, mU_ne _ _ (by decide), mU_eq], by rw [hvv, mU_eq]⟩, fun a ha => by rw [g4 a (by omega)]; exact hf2 a (by omega) (by omega) (by omega)⟩)
            · skip
              have c_3 : ¬ 15 ≤ k2 := mt (nI_leI (by omega) (by omega)).mpr c_3
              refine lv_aload_n hx hb dX11_image_39 rfl (lv_at hl 0 rfl) ?_
              refine m_getr S hW hZ.sp.1 15 rfl (j := 209) rfl kX11 (iW11 _) (by decide) (List.mem_cons_of_mem _ (wa_11 _ (List.mem_of_getElem? (i := 10) (by decide +kernel)))) dX11_image_40 ?_
              refine lv_iload_n hx hb dX11_image_43 rfl (lv_at hl 1 rfl) ?_
              refine lv_aload_n hx hb dX11_image_44 rfl (lv_at hl 0 rfl) ?_
              refine m_getr S hW hZ.sp.1 5 rfl (j := 204) rfl kX11 (iW11 _) (by decide) (List.mem_cons_of_mem _ (wa_11 _ (List.mem_of_getElem? (i := 5) (by decide +kernel)))) dX11_image_45 ?_
              refine lv_iload_n hx hb dX11_image_48 rfl (lv_at hl 1 rfl) ?_
              refine m_iald S hW hZ.sp.2.2.2.2.1 k2 rfl (by omega) (by decide) dX11_image_49 ?_
              refine m_iast S hW hZ.sp.2.2.2.2.2.2.2.2.2.1 k2 rfl (by omega) (by decide) dX11_image_50 (fun H locs hW => ?_)
              obtain ⟨V_8, eV_8⟩ : ∃ vv_ : mV, vv_ = mU V2 209 k2 (V2 204 k2) := ⟨_, rfl⟩
              rw [← eV_8] at hW
              refine lv_iinc (v := nI (k2 + 1)) (lv' := [(1, .int (nI (k2 + 1))), (0, .ref (ad 200))]) hx hb dX11_image_51 hl (k := 1) rfl (m_inc k2 1) (by decide) rfl (fun ls hl => ?_)
              refine lv_goto (tgt := 33) hx hb dX11_image_54 (by decide) ?_
              exact ih_33  (k2 + 1) V_8 _ _ _ (by omega) (by intro a ha hb hc; rw [eV_8, mU_no _ _ hc]; exact hf2 a ha hb hc) (by intro j hj; rw [eV_8]; exact (Nat.lt_succ_iff_lt_or_eq.mp hj).elim (fun h => by rw [mU_ne _ _ (by omega)]; exact h9 j h) (fun h => by rw [h, mU_eq, hf2 204 (by decide) (by decide) (by decide)])) (by intro j hj; rw [eV_8, mU_no _ _ (by decide)]; exact h82 j hj) (by intro j hj; rw [eV_8, mU_no _ _ (by decide)]; exact h02 j hj) (by rw [eV_8, mU_no _ _ (by decide)]; exact h13) (by omega) hW (lv_sub hl [1, 0] rfl)
        exact loop_33 (15 - 0 + 1) 0 V1 _ _ _ (by omega) (by exact fun a h1 h2 _ => hf a h1 h2) (by intro j hj; omega) (by exact fun j hj => h8 j (by omega)) (by exact h0) (by exact h130) (by omega) hW (lv_sub hl [1, 0] rfl)
      · skip
        have c_2 : ¬ 72 ≤ k := mt (nI_leI (by omega) (by omega)).mpr c_2
        refine lv_aload_n hx hb dX11_image_13 rfl (lv_at hl 0 rfl) ?_
        refine m_getr S hW hZ.sp.1 14 rfl (j := 208) rfl kX11 (iW11 _) (by decide) (List.mem_cons_of_mem _ (wa_11 _ (List.mem_of_getElem? (i := 9) (by decide +kernel)))) dX11_image_14 ?_
        refine lv_iload_n hx hb dX11_image_17 rfl (lv_at hl 1 rfl) ?_
        refine lv_aload_n hx hb dX11_image_18 rfl (lv_at hl 0 rfl) ?_
        refine m_getr S hW hZ.sp.1 1 rfl (j := 201) rfl kX11 (iW11 _) (by decide) (List.mem_cons_of_mem _ (wa_11 _ (List.mem_of_getElem? (i := 2) (by decide +kernel)))) dX11_image_19 ?_
        refine lv_iload_n hx hb dX11_image_22 rfl (lv_at hl 1 rfl) ?_
        refine m_iald S hW hZ.sp.2.1 k rfl (by omega) (by decide) dX11_image_23 ?_
        refine m_iast S hW hZ.sp.2.2.2.2.2.2.2.2.1 k rfl (by omega) (by decide) dX11_image_24 (fun H locs hW => ?_)
        obtain ⟨V_9, eV_9⟩ : ∃ vv_ : mV, vv_ = mU V1 208 k (V1 201 k) := ⟨_, rfl⟩
        rw [← eV_9] at hW
        refine lv_iinc (v := nI (k + 1)) (lv' := [(1, .int (nI (k + 1))), (0, .ref (ad 200))]) hx hb dX11_image_25 hl (k := 1) rfl (m_inc k 1) (by decide) rfl (fun ls hl => ?_)
        refine lv_goto (tgt := 7) hx hb dX11_image_28 (by decide) ?_
        exact ih_7  (k + 1) V_9 _ _ _ (by omega) (by intro a ha hb; rw [eV_9, mU_no _ _ hb]; exact hf a ha hb) (by intro j hj; rw [eV_9]; exact (Nat.lt_succ_iff_lt_or_eq.mp hj).elim (fun h => by rw [mU_ne _ _ (by omega)]; exact h8 j h) (fun h => by rw [h, mU_eq, hf 201 (by decide) (by decide)])) (by intro j hj; rw [eV_9, mU_no _ _ (by decide)]; exact h0 j hj) (by rw [eV_9, mU_no _ _ (by decide)]; exact h130) (by omega) hW (lv_sub hl [1, 0] rfl)
  exact loop_7 (72 - 0 + 1) 0 V_1 _ _ _ (by omega) (by intro a ha hb; rw [eV_1, mU_no _ _ ha]) (by intro j hj; omega) (by intro j hj; rw [eV_1, mU_ne _ _ (by omega)]) (by rw [eV_1, mU_eq]) (by omega) hW (lv_sub hl [1, 0] rfl)
set_option maxHeartbeats 4000000 in
set_option maxRecDepth 100000 in
theorem c_X11_back (l : Launch) (G : mG) (ad : Nat → Nat) (sh : Nat → Option mSh) (V : mV) (q : Sg)  (hI : MI sh V q) : mM l yX11_back wsX11_back ({ frames := 0, cells := 0, slots := 0, locals := 0 } : Room) G ad sh V [.ref (ad 200)] 0 0 (mPi ad sh (fun r V' => (aBack q) = r ∧ (MI sh V' (nBack q)) ∧ (∀ a, a < 200 → V' a = V a))) := by
  refine mM.of (cc := cX11_back) (maxL := 2) (ret := (some .int)) (by decide) rfl (Nat.le_of_ble_eq_true rfl) ?_
  intro p e s m below meth c S hr hlk hnm hW ls hl
  obtain ⟨hx, hb, hml, hown, hts⟩ := id S
  have hl : lv_has ls 2 [(0, .ref (ad 200))] := hl
  have hS0 : True := trivial
  have hZ := hI.z
  have hne5 := hZ.ne5
  have hng6 := hZ.ng6
  have htn := hI.tn
  refine lv_aload_n hx hb dX11_back_0 rfl (lv_at hl 0 rfl) ?_
  refine m_geti S hW hZ.sp.1 13 rfl kX11 (iW11 _) (by decide) (List.mem_cons_of_mem _ (wa_44 _ (List.mem_of_getElem? (i := 3) (by decide +kernel)))) dX11_back_1 ?_
  refine m_if_ne (tgt := 10) hx hb dX11_back_4 (by decide) (fun c_1 => ?_) (fun c_1 => ?_)
  · skip
    have hh : gHas q = true := Decidable.byContradiction (fun z => by rw [hI.has, if_neg z] at c_1; exact c_1 rfl)
    obtain ⟨⟨m1, m2, m3, m4⟩, -⟩ := hI.im hh
    refine lv_iconst (v := nI 0) hx hb dX11_back_10 (by decide) ?_
    refine lv_istore_n (lv' := [(1, .int (nI 0)), (0, .ref (ad 200))]) hx hb dX11_back_11 rfl hl (by decide) rfl (fun ls hl => ?_)
    have loop_12 : ∀ (n_12 : Nat) (k : Nat) (V1 : mV) (H : Heap) (locs : List Loc) (ls : Array Slot), (k ≤ 72) → (∀ a, a ≠ 201 → V1 a = V a) → (∀ j, j < k → V1 201 j = V 208 j) → (72 - k) < n_12 → mC (mA ad sh s.heap.size) s.heap s G ad sh V1 H locs → lv_has ls 2 [(0, .ref (ad 200)), (1, .int (nI k))] → W p l e ({ frames := 0, cells := 0, slots := 0, locals := 0 } : Room) s m ([.ref (ad 200)] : List Value).toArray below meth c H locs 0 0 (MQ below (mPost G ad sh s.heap.size (mPi ad sh (fun r V' => (aBack q) = r ∧ (MI sh V' (nBack q)) ∧ (∀ a, a < 200 → V' a = V a)))) ([.ref (ad 200)] : List Value).toArray s 0 0 (mA ad sh s.heap.size)) (F0 m 12 ls []) := by
      intro n_12
      induction n_12 with
      | zero => intro k V1 H locs ls hk hf h8 hM_ hW hl; omega
      | succ n_12 ih_12 =>
        intro k V1 H locs ls hk hf h8 hM_ hW hl
        refine lv_iload_n hx hb dX11_back_12 rfl (lv_at hl 1 rfl) ?_
        refine lv_bipush (v := nI 72) hx hb dX11_back_13 (by decide) ?_
        refine lv_icmp_ge (tgt := 36) hx hb dX11_back_15 (by decide) (fun c_2 => ?_) (fun c_2 => ?_)
        · skip
          have c_2 : 72 ≤ k := (nI_leI (by omega) (by omega)).mp c_2
          refine lv_iconst (v := nI 0) hx hb dX11_back_36 (by decide) ?_
          refine lv_istore_n (lv' := [(1, .int (nI 0)), (0, .ref (ad 200))]) hx hb dX11_back_37 rfl hl (by decide) rfl (fun ls hl => ?_)
          have loop_38 : ∀ (n_38 : Nat) (k2 : Nat) (V2 : mV) (H : Heap) (locs : List Loc) (ls : Array Slot), (k2 ≤ 15) → (∀ a, a ≠ 201 → a ≠ 204 → V2 a = V a) → (∀ j, j < k2 → V2 204 j = V 209 j) → (∀ j, j < 72 → V2 201 j = V 208 j) → (15 - k2) < n_38 → mC (mA ad sh s.heap.size) s.heap s G ad sh V2 H locs → lv_has ls 2 [(0, .ref (ad 200)), (1, .int (nI k2))] → W p l e ({ frames := 0, cells := 0, slots := 0, locals := 0 } : Room) s m ([.ref (ad 200)] : List Value).toArray below meth c H locs 0 0 (MQ below (mPost G ad sh s.heap.size (mPi ad sh (fun r V' => (aBack q) = r ∧ (MI sh V' (nBack q)) ∧ (∀ a, a < 200 → V' a = V a)))) ([.ref (ad 200)] : List Value).toArray s 0 0 (mA ad sh s.heap.size)) (F0 m 38 ls []) := by
            intro n_38
            induction n_38 with
            | zero => intro k2 V2 H locs ls hk2 hf2 h9 h82 hM_ hW hl; omega
            | succ n_38 ih_38 =>
              intro k2 V2 H locs ls hk2 hf2 h9 h82 hM_ hW hl
              refine lv_iload_n hx hb dX11_back_38 rfl (lv_at hl 1 rfl) ?_
              refine lv_bipush (v := nI 15) hx hb dX11_back_39 (by decide) ?_
              refine lv_icmp_ge (tgt := 62) hx hb dX11_back_41 (by decide) (fun c_3 => ?_) (fun c_3 => ?_)
              · skip
                have c_3 : 15 ≤ k2 := (nI_leI (by omega) (by omega)).mp c_3
                refine lv_aload_n hx hb dX11_back_62 rfl (lv_at hl 0 rfl) ?_
                refine lv_aload_n hx hb dX11_back_63 rfl (lv_at hl 0 rfl) ?_
                refine m_getr S hW hZ.sp.1 16 rfl (j := 210) rfl kX11 (iW11 _) (by decide) (List.mem_cons_of_mem _ (wa_11 _ (List.mem_of_getElem? (i := 11) (by decide +kernel)))) dX11_back_64 ?_
                refine lv_iconst (v := nI 0) hx hb dX11_back_67 (by decide) ?_
                refine m_iald S hW hZ.sp.2.2.2.2.2.2.2.2.2.2.1 0 rfl (by decide) (by decide) dX11_back_68 ?_
                refine m_top (y := nI ((gIm q).2.1)) (by rw [hf2 210 (by decide) (by decide)]; exact m1) ?_
                refine m_puti S hW hZ.sp.1 2 rfl kX11 (iW11 _) tyX11 tyX11_ok nmX11 (by decide) (List.mem_cons_of_mem _ (wa_15 _ (List.mem_of_getElem? (i := 0) (by decide +kernel)))) (Or.inl rfl) rfl rfl dX11_back_69 (fun H locs hW => ?_)
                obtain ⟨V_4, eV_4⟩ : ∃ vv_ : mV, vv_ = mU V2 200 2 (nI ((gIm q).2.1)) := ⟨_, rfl⟩
                rw [← eV_4] at hW
                refine lv_aload_n hx hb dX11_back_72 rfl (lv_at hl 0 rfl) ?_
                refine lv_aload_n hx hb dX11_back_73 rfl (lv_at hl 0 rfl) ?_
                refine m_getr S hW hZ.sp.1 16 rfl (j := 210) rfl kX11 (iW11 _) (by decide) (List.mem_cons_of_mem _ (wa_11 _ (List.mem_of_getElem? (i := 11) (by decide +kernel)))) dX11_back_74 ?_
                refine lv_iconst (v := nI 1) hx hb dX11_back_77 (by decide) ?_
                refine m_iald S hW hZ.sp.2.2.2.2.2.2.2.2.2.2.1 1 rfl (by decide) (by decide) dX11_back_78 ?_
                refine m_top (y := nI ((gIm q).2.2.1)) (by rw [eV_4, mU_no _ _ (by decide), hf2 210 (by decide) (by decide)]; exact m2) ?_
                refine m_puti S hW hZ.sp.1 0 rfl kX11 (iW11 _) tyX11 tyX11_ok nmX11 (by decide) (List.mem_cons_of_mem _ (wa_15 _ (List.mem_of_getElem? (i := 1) (by decide +kernel)))) (Or.inl rfl) rfl rfl dX11_back_79 (fun H locs hW => ?_)
                obtain ⟨V_5, eV_5⟩ : ∃ vv_ : mV, vv_ = mU V_4 200 0 (nI ((gIm q).2.2.1)) := ⟨_, rfl⟩
                rw [← eV_5] at hW
                refine lv_aload_n hx hb dX11_back_82 rfl (lv_at hl 0 rfl) ?_
                refine lv_aload_n hx hb dX11_back_83 rfl (lv_at hl 0 rfl) ?_
                refine m_getr S hW hZ.sp.1 16 rfl (j := 210) rfl kX11 (iW11 _) (by decide) (List.mem_cons_of_mem _ (wa_11 _ (List.mem_of_getElem? (i := 11) (by decide +kernel)))) dX11_back_84 ?_
                refine lv_iconst (v := nI 2) hx hb dX11_back_87 (by decide) ?_
                refine m_iald S hW hZ.sp.2.2.2.2.2.2.2.2.2.2.1 2 rfl (by decide) (by decide) dX11_back_88 ?_
                refine m_top (y := (V 210 2)) (by rw [eV_5, mU_no _ _ (by decide), eV_4, mU_no _ _ (by decide), hf2 210 (by decide) (by decide)]) ?_
                refine m_puti S hW hZ.sp.1 6 rfl kX11 (iW11 _) tyX11 tyX11_ok nmX11 (by decide) (List.mem_cons_of_mem _ (wa_15 _ (List.mem_of_getElem? (i := 2) (by decide +kernel)))) (Or.inl rfl) rfl rfl dX11_back_89 (fun H locs hW => ?_)
                obtain ⟨V_6, eV_6⟩ : ∃ vv_ : mV, vv_ = mU V_5 200 6 ((V 210 2)) := ⟨_, rfl⟩
                rw [← eV_6] at hW
                refine lv_aload_n hx hb dX11_back_92 rfl (lv_at hl 0 rfl) ?_
                refine lv_aload_n hx hb dX11_back_93 rfl (lv_at hl 0 rfl) ?_
                refine m_getr S hW hZ.sp.1 16 rfl (j := 210) rfl kX11 (iW11 _) (by decide) (List.mem_cons_of_mem _ (wa_11 _ (List.mem_of_getElem? (i := 11) (by decide +kernel)))) dX11_back_94 ?_
                refine lv_iconst (v := nI 3) hx hb dX11_back_97 (by decide) ?_
                refine m_iald S hW hZ.sp.2.2.2.2.2.2.2.2.2.2.1 3 rfl (by decide) (by decide) dX11_back_98 ?_
                refine m_top (y := nI ((gIm q).2.2.2)) (by rw [eV_6, mU_no _ _ (by decide), eV_5, mU_no _ _ (by decide), eV_4, mU_no _ _ (by decide), hf2 210 (by decide) (by decide)]; exact m4) ?_
                refine m_puti S hW hZ.sp.1 12 rfl kX11 (iW11 _) tyX11 tyX11_ok nmX11 (by decide) (List.mem_cons_of_mem _ (wa_15 _ (List.mem_of_getElem? (i := 3) (by decide +kernel)))) (Or.inl rfl) rfl rfl dX11_back_99 (fun H locs hW => ?_)
                obtain ⟨V_7, eV_7⟩ : ∃ vv_ : mV, vv_ = mU V_6 200 12 (nI ((gIm q).2.2.2)) := ⟨_, rfl⟩
                rw [← eV_7] at hW
                refine lv_aload_n hx hb dX11_back_102 rfl (lv_at hl 0 rfl) ?_
                refine m_geti S hW hZ.sp.1 2 rfl kX11 (iW11 _) (by decide) (List.mem_cons_of_mem _ (wa_15 _ (List.mem_of_getElem? (i := 0) (by decide +kernel)))) dX11_back_103 ?_
                refine m_top (y := nI ((gIm q).2.1)) (by rw [eV_7, mU_ne _ _ (by decide), eV_6, mU_ne _ _ (by decide), eV_5, mU_ne _ _ (by decide), eV_4, mU_eq]) ?_
                have hvv : V_7 = _ := eV_7
                rw [eV_6, eV_5, eV_4] at hvv
                exact m_iret S hr hlk hW dX11_back_106 (by have g4 : ∀ a, a ≠ 200 → V_7 a = V2 a := (fun a ha => by rw [hvv, mU_no _ _ ha, mU_no _ _ ha, mU_no _ _ ha, mU_no _ _ ha]); exact ⟨by rw [aBack, if_pos hh], by rw [nBack, if_pos hh]; exact hI.back hh (fun a a1 a2 a3 => by rw [g4 a a1]; exact hf2 a a2 a3) (fun k k0 k2 k6 k12 => by rw [hvv, mU_ne _ _ (by omega), mU_ne _ _ (by omega), mU_ne _ _ (by omega), mU_ne _ _ (by omega), hf2 200 (by decide) (by decide)]) (fun k hk => by rw [g4 201 (by decide)]; exact h82 k hk) (fun k hk => by rw [g4 204 (by decide)]; exact h9 k (by omega)) ⟨by rw [hvv, mU_ne _ _ (by decide), mU_ne _ _ (by decide), mU_ne _ _ (by decide), mU_eq], by rw [hvv, mU_ne _ _ (by decide), mU_ne _ _ (by decide), mU_eq], by rw [hvv, mU_ne _ _ (by decide), mU_eq], by rw [hvv, mU_eq]⟩, fun a ha => by rw [g4 a (by omega)]; exact hf2 a (by omega) (by omega)⟩)
              · skip
                have c_3 : ¬ 15 ≤ k2 := mt (nI_leI (by omega) (by omega)).mpr c_3
                refine lv_aload_n hx hb dX11_back_44 rfl (lv_at hl 0 rfl) ?_
                refine m_getr S hW hZ.sp.1 5 rfl (j := 204) rfl kX11 (iW11 _) (by decide) (List.mem_cons_of_mem _ (wa_11 _ (List.mem_of_getElem? (i := 5) (by decide +kernel)))) dX11_back_45 ?_
                refine lv_iload_n hx hb dX11_back_48 rfl (lv_at hl 1 rfl) ?_
                refine lv_aload_n hx hb dX11_back_49 rfl (lv_at hl 0 rfl) ?_
                refine m_getr S hW hZ.sp.1 15 rfl (j := 209) rfl kX11 (iW11 _) (by decide) (List.mem_cons_of_mem _ (wa_11 _ (List.mem_of_getElem? (i := 10) (by decide +kernel)))) dX11_back_50 ?_
                refine lv_iload_n hx hb dX11_back_53 rfl (lv_at hl 1 rfl) ?_
                refine m_iald S hW hZ.sp.2.2.2.2.2.2.2.2.2.1 k2 rfl (by omega) (by decide) dX11_back_54 ?_
                refine m_iast S hW hZ.sp.2.2.2.2.1 k2 rfl (by omega) (by decide) dX11_back_55 (fun H locs hW => ?_)
                obtain ⟨V_8, eV_8⟩ : ∃ vv_ : mV, vv_ = mU V2 204 k2 (V2 209 k2) := ⟨_, rfl⟩
                rw [← eV_8] at hW
                refine lv_iinc (v := nI (k2 + 1)) (lv' := [(1, .int (nI (k2 + 1))), (0, .ref (ad 200))]) hx hb dX11_back_56 hl (k := 1) rfl (m_inc k2 1) (by decide) rfl (fun ls hl => ?_)
                refine lv_goto (tgt := 38) hx hb dX11_back_59 (by decide) ?_
                exact ih_38  (k2 + 1) V_8 _ _ _ (by omega) (by intro a ha hb; rw [eV_8, mU_no _ _ hb]; exact hf2 a ha hb) (by intro j hj; rw [eV_8]; exact (Nat.lt_succ_iff_lt_or_eq.mp hj).elim (fun h => by rw [mU_ne _ _ (by omega)]; exact h9 j h) (fun h => by rw [h, mU_eq, hf2 209 (by decide) (by decide)])) (by intro j hj; rw [eV_8, mU_no _ _ (by decide)]; exact h82 j hj) (by omega) hW (lv_sub hl [1, 0] rfl)
          exact loop_38 (15 - 0 + 1) 0 V1 _ _ _ (by omega) (by exact fun a h1 _ => hf a h1) (by intro j hj; omega) (by exact fun j hj => h8 j (by omega)) (by omega) hW (lv_sub hl [1, 0] rfl)
        · skip
          have c_2 : ¬ 72 ≤ k := mt (nI_leI (by omega) (by omega)).mpr c_2
          refine lv_aload_n hx hb dX11_back_18 rfl (lv_at hl 0 rfl) ?_
          refine m_getr S hW hZ.sp.1 1 rfl (j := 201) rfl kX11 (iW11 _) (by decide) (List.mem_cons_of_mem _ (wa_11 _ (List.mem_of_getElem? (i := 2) (by decide +kernel)))) dX11_back_19 ?_
          refine lv_iload_n hx hb dX11_back_22 rfl (lv_at hl 1 rfl) ?_
          refine lv_aload_n hx hb dX11_back_23 rfl (lv_at hl 0 rfl) ?_
          refine m_getr S hW hZ.sp.1 14 rfl (j := 208) rfl kX11 (iW11 _) (by decide) (List.mem_cons_of_mem _ (wa_11 _ (List.mem_of_getElem? (i := 9) (by decide +kernel)))) dX11_back_24 ?_
          refine lv_iload_n hx hb dX11_back_27 rfl (lv_at hl 1 rfl) ?_
          refine m_iald S hW hZ.sp.2.2.2.2.2.2.2.2.1 k rfl (by omega) (by decide) dX11_back_28 ?_
          refine m_iast S hW hZ.sp.2.1 k rfl (by omega) (by decide) dX11_back_29 (fun H locs hW => ?_)
          obtain ⟨V_9, eV_9⟩ : ∃ vv_ : mV, vv_ = mU V1 201 k (V1 208 k) := ⟨_, rfl⟩
          rw [← eV_9] at hW
          refine lv_iinc (v := nI (k + 1)) (lv' := [(1, .int (nI (k + 1))), (0, .ref (ad 200))]) hx hb dX11_back_30 hl (k := 1) rfl (m_inc k 1) (by decide) rfl (fun ls hl => ?_)
          refine lv_goto (tgt := 12) hx hb dX11_back_33 (by decide) ?_
          exact ih_12  (k + 1) V_9 _ _ _ (by omega) (by intro a ha; rw [eV_9, mU_no _ _ ha]; exact hf a ha) (by intro j hj; rw [eV_9]; exact (Nat.lt_succ_iff_lt_or_eq.mp hj).elim (fun h => by rw [mU_ne _ _ (by omega)]; exact h8 j h) (fun h => by rw [h, mU_eq, hf 208 (by decide)])) (by omega) hW (lv_sub hl [1, 0] rfl)
    exact loop_12 (72 - 0 + 1) 0 V _ _ _ (by omega) (by exact fun _ _ => rfl) (by intro j hj; omega) (by omega) hW (lv_sub hl [1, 0] rfl)
  · skip
    refine lv_bipush (v := -3) hx hb dX11_back_7 (by decide) ?_
    exact m_iret S hr hlk hW dX11_back_9 (by have hh : ¬ gHas q = true := (fun z => by rw [hI.has, if_pos z] at c_1; exact absurd c_1 (by decide)); exact ⟨by rw [aBack, if_neg hh], by rw [nBack, if_neg hh]; exact hI, fun _ _ => rfl⟩)
