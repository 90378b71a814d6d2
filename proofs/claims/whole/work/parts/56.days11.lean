/-! the reference: told days, days by lots, sheets, images -/
theorem MI.sc3 {sh : Nat → Option mSh} {V : mV} {q : Sg} (h : MI sh V q) {k j o : Nat} (hk : k < 4) (hj : j + o < 40) : V 213 (40 * k + j + o) = gCl q k (j + o) := by
  rw [Nat.add_assoc]
  exact h.sc hk hj
theorem mFill_in {V : mV} {i lo n j : Nat} {x : Int32} (h : lo ≤ j) (h2 : j < lo + n) : mFill V i lo n x i j = x := if_pos ⟨rfl, h, h2⟩
theorem mFill_out {V : mV} {i lo n j : Nat} {x : Int32} (h : j < lo ∨ lo + n ≤ j) : mFill V i lo n x i j = V i j := if_neg (by omega)
section IMB
variable {sh : Nat → Option mSh} {V V' : mV} {q : Sg}
theorem MI.image (h : MI sh V q) (hf : ∀ a, a ≠ 200 → a ≠ 208 → a ≠ 209 → a ≠ 210 → V' a = V a) (h0 : ∀ k, k ≠ 13 → V' 200 k = V 200 k) (h13 : V' 200 13 = nI 1) (h8 : ∀ k, k < 72 → V' 208 k = V 201 k) (h9 : ∀ k, k < 15 → V' 209 k = V 204 k) (hh : V' 210 0 = nI (gNe q) ∧ V' 210 1 = nI (gNg q) ∧ V' 210 2 = gZ q 0 4 ∧ V' 210 3 = nI (gRl q)) : MI sh V' (nImage q) := by
  have hz := h.z
  have hne := hz.ne5
  have hng := hz.ng6
  refine ⟨hz.eq (h0 0 (by decide)) (h0 2 (by decide)) (h0 6 (by decide)) (h0 12 (by decide)) (fun e _ => ⟨by rw [hf 202 (by decide) (by decide) (by decide) (by decide)], by rw [hf 203 (by decide) (by decide) (by decide) (by decide)]⟩) (fun k _ => by rw [hf 204 (by decide) (by decide) (by decide) (by decide)]) (fun k _ => by rw [hf 201 (by decide) (by decide) (by decide) (by decide)]) (hf 206 (by decide) (by decide) (by decide) (by decide)) (hf 207 (by decide) (by decide) (by decide) (by decide)), ⟨by rw [h0 11 (by decide)]; exact h.tn.1, h.tn.2⟩, fun t ht => ⟨(h.tx t ht).1.eq (hf 206 (by decide) (by decide) (by decide) (by decide)) (hf 207 (by decide) (by decide) (by decide) (by decide)), (h.tx t ht).2⟩, ⟨by rw [h0 8 (by decide)]; exact h.tp.1, h.tp.2.1, by rw [hf 205 (by decide) (by decide) (by decide) (by decide)]; exact h.tp.2.2⟩, ⟨h13, fun _ => ⟨hh, h.tn.2.2.2, Nat.le_refl _, hng, ?_, hz.ok⟩⟩, fun i hi => by rw [hf 211 (by decide) (by decide) (by decide) (by decide), hf 212 (by decide) (by decide) (by decide) (by decide), hf 213 (by decide) (by decide) (by decide) (by decide)]; exact h.shs i hi, by rw [hf 215 (by decide) (by decide) (by decide) (by decide)]; exact h.wd⟩
  show gZ q = mv (imV V') (gNe q) (gNg q)
  rw [mv_congr V (V' := imV V') hne ?_ (fun e he => ⟨?_, ?_⟩) (fun k hk => ?_) (fun k hk => ?_)]
  · exact hz.zv_
  · show V' 210 2 = V 200 6
    rw [hh.2.2.1, hz.rDay]
  · show V' 202 e = V 202 e
    rw [hf 202 (by decide) (by decide) (by decide) (by decide)]
  · show V' 203 e = V 203 e
    rw [hf 203 (by decide) (by decide) (by decide) (by decide)]
  · show V' 209 k = V 204 k
    exact h9 k (by omega)
  · show V' 208 k = V 201 k
    exact h8 k (by omega)
theorem MI.back (h : MI sh V q) (hh : gHas q = true) (hf : ∀ a, a ≠ 200 → a ≠ 201 → a ≠ 204 → V' a = V a) (h0 : ∀ k, k ≠ 0 → k ≠ 2 → k ≠ 6 → k ≠ 12 → V' 200 k = V 200 k) (h8 : ∀ k, k < 72 → V' 201 k = V 208 k) (h9 : ∀ k, k < 15 → V' 204 k = V 209 k) (g0 : V' 200 2 = nI (gIm q).2.1 ∧ V' 200 0 = nI (gIm q).2.2.1 ∧ V' 200 6 = V 210 2 ∧ V' 200 12 = nI (gIm q).2.2.2) : MI sh V' (gIm q, q.2) := by
  have hz := h.z
  obtain ⟨b1, b2, b3, b4, b5, b6⟩ := h.im hh
  have hne := hz.ne5
  have htn := h.tn
  refine h.scene (s' := gIm q) ⟨hz.sp, ⟨g0.1, g0.2.1, by omega, b4⟩, ?_, b6, ⟨g0.2.2.2, by omega⟩, (h.tx _ b2).1.eq (hf 206 (by decide) (by decide) (by decide)) (hf 207 (by decide) (by decide) (by decide)), (h.tx _ b2).2⟩ b2 (fun a ha _ _ => hf a (by omega) (by omega) (by omega)) ⟨h0 8 (by decide) (by decide) (by decide) (by decide), h0 11 (by decide) (by decide) (by decide) (by decide), h0 13 (by decide) (by decide) (by decide) (by decide)⟩ (fun e _ => ⟨by rw [hf 202 (by decide) (by decide) (by decide)], by rw [hf 203 (by decide) (by decide) (by decide)]⟩) (fun _ => Nat.le_refl _)
  rw [b5]
  rw [mv_congr V' (V' := imV V) (by omega) ?_ (fun e he => ⟨?_, ?_⟩) (fun k hk => ?_) (fun k hk => ?_)]
  · exact g0.2.2.1.symm
  · show V 202 e = V' 202 e
    rw [hf 202 (by decide) (by decide) (by decide)]
  · show V 203 e = V' 203 e
    rw [hf 203 (by decide) (by decide) (by decide)]
  · show V 209 k = V' 204 k
    exact (h9 k (by omega)).symm
  · show V 208 k = V' 201 k
    exact (h8 k (by omega)).symm
end IMB
theorem fDayB_p {c : Nat → Int32} {ne ng k : Nat} (h : fDayB c ne ng (k + 1) = true) : fDayB c ne ng k = true := by
  rw [fDayB, Bool.and_eq_true] at h
  exact h.1
theorem ref_no {q : Sg} {nx gd k3 : Nat} (hgs : gd = 1 ↔ (gSz q nx % 3 = 0 ∧ fDayB (gCl q nx) (gNe q) (gNg q) k3 = true)) (hg : gd ≠ 1) (hk : gSz q nx ≤ 3 * k3 + 2 ∧ 3 * k3 ≤ gSz q nx + 2) : (if gSz q nx % 3 = 0 then (if fDayB (gCl q nx) (gNe q) (gNg q) (gSz q nx / 3) = true then nI 0 else -2) else -2) = -2 := by
  by_cases h3 : gSz q nx % 3 = 0
  · rw [if_pos h3, if_neg]
    intro z
    exact hg (hgs.mpr ⟨h3, by rw [show k3 = gSz q nx / 3 by omega]; exact z⟩)
  · rw [if_neg h3]
set_option maxHeartbeats 4000000 in
set_option maxRecDepth 100000 in
theorem c_X11_sheetWrong (l : Launch) (G : mG) (ad : Nat → Nat) (sh : Nat → Option mSh) (V : mV) (q : Sg) (x : Int32) (hI : MI sh V q) : mM l yX11_sheetWrong wsX11_sheetWrong ({ frames := 2, cells := 0, slots := 0, locals := 43 } : Room) G ad sh V [.ref (ad 200), .int x] 0 0 (mPi ad sh (fun r V' => (aRef q x) = r ∧ V' = V)) := by
  refine mM.of (cc := cX11_sheetWrong) (maxL := 5) (ret := (some .int)) (by decide) rfl (Nat.le_of_ble_eq_true rfl) ?_
  intro p e s m below meth c S hr hlk hnm hW ls hl
  obtain ⟨hx, hb, hml, hown, hts⟩ := id S
  have hl : lv_has ls 5 [(0, .ref (ad 200)), (1, .int x)] := hl
  have hS0 : True := trivial
  have hZ := hI.z
  have hne5 := hZ.ne5
  have hng6 := hZ.ng6
  have htn := hI.tn
  refine lv_iload_n hx hb dX11_sheetWrong_0 rfl (lv_at hl 1 rfl) ?_
  refine lv_iconst (v := nI 0) hx hb dX11_sheetWrong_1 (by decide) ?_
  refine lv_iconst (v := nI 3) hx hb dX11_sheetWrong_2 (by decide) ?_
  refine m_cip (m_rS S hW (c_X11_in l G ad sh V x 0 3 (by first | assumption | omega) (by first | assumption | omega)) (va_cwS 3 hts (gCall [.methodLink RX11 84 yX11_in, .static yX11_in, .initialized RX11] (List.forall_mem_cons.mpr ⟨(wa_12 _ (List.mem_of_getElem? (i := 16) (by decide +kernel))), (List.forall_mem_cons.mpr ⟨(wa_12 _ (List.mem_of_getElem? (i := 14) (by decide +kernel))), (List.forall_mem_cons.mpr ⟨(wa_12 _ (List.mem_of_getElem? (i := 15) (by decide +kernel))), (List.forall_mem_cons.mpr ⟨(wa_1 _ (List.mem_of_getElem? (i := 5) (by decide +kernel))), (fun _ h => absurd h List.not_mem_nil)⟩)⟩)⟩)⟩)) rfl rfl rfl (by decide +kernel) ⟨Nat.le_of_ble_eq_true rfl, Nat.le_of_ble_eq_true rfl⟩) rfl hl.1 rfl (Nat.le_of_ble_eq_true rfl) dX11_sheetWrong_3 ⟨Nat.le_of_ble_eq_true rfl, Nat.le_of_ble_eq_true rfl⟩) hW (fun r_2 H locs hp_1 hW => ?_)
  rcases hp_1 with ⟨rfl, w_3⟩ | ⟨rfl, w_4⟩
  · skip
    obtain ⟨nx, hnx, hwnx, hlnx⟩ := w_3.ex
    have hcx : x.toNatClampNeg = nx := by rw [hnx]; exact nI_clamp (by omega)
    refine m_if_ne (tgt := 12) hx hb dX11_sheetWrong_6 (by decide) (fun c_5 => ?_) (fun c_5 => ?_)
    · skip
      refine lv_aload_n hx hb dX11_sheetWrong_12 rfl (lv_at hl 0 rfl) ?_
      refine m_getr S hW hZ.sp.1 17 rfl (j := 211) rfl kX11 (iW11 _) (by decide) (List.mem_cons_of_mem _ (wa_11 _ (List.mem_of_getElem? (i := 12) (by decide +kernel)))) dX11_sheetWrong_13 ?_
      refine lv_iload_n hx hb dX11_sheetWrong_16 rfl (lv_at hl 1 rfl) ?_
      refine m_top (y := nI nx) hnx ?_
      refine m_iald S hW hZ.sp.2.2.2.2.2.2.2.2.2.2.2.1 nx rfl (by omega) (by decide) dX11_sheetWrong_17 ?_
      refine m_top (y := (gSo q nx)) (hI.so hlnx) ?_
      refine lv_iconst (v := -1) hx hb dX11_sheetWrong_18 (by decide) ?_
      refine lv_icmp_ne (tgt := 25) hx hb dX11_sheetWrong_19 (by decide) (fun c_6 => ?_) (fun c_6 => ?_)
      · skip
        refine lv_aload_n hx hb dX11_sheetWrong_25 rfl (lv_at hl 0 rfl) ?_
        have hsl := hI.sl hlnx
        refine m_getr S hW hZ.sp.1 18 rfl (j := 212) rfl kX11 (iW11 _) (by decide) (List.mem_cons_of_mem _ (wa_11 _ (List.mem_of_getElem? (i := 13) (by decide +kernel)))) dX11_sheetWrong_26 ?_
        refine lv_iload_n hx hb dX11_sheetWrong_29 rfl (lv_at hl 1 rfl) ?_
        refine m_top (y := nI nx) hnx ?_
        refine m_iald S hW hZ.sp.2.2.2.2.2.2.2.2.2.2.2.2.1 nx rfl (by omega) (by decide) dX11_sheetWrong_30 ?_
        refine m_top (y := nI (gSz q nx)) (hI.ss hlnx) ?_
        refine lv_iconst (v := nI 3) hx hb dX11_sheetWrong_31 (by decide) ?_
        refine lv_irem hx hb dX11_sheetWrong_32 (by decide) ?_
        refine m_top (y := nI ((gSz q nx) % 3)) (pk_rem (by omega) (by omega) (by omega)) ?_
        refine m_if_ne (tgt := 40) hx hb dX11_sheetWrong_33 (by decide) (fun c_7 => ?_) (fun c_7 => ?_)
        · skip
          have c_7 : ¬ ((gSz q nx) % 3) = 0 := mt (nI_eq (by omega) (by omega)).mpr c_7
          refine lv_iconst (v := nI 0) hx hb dX11_sheetWrong_40 (by decide) ?_
          refine lv_istore_n (lv' := [(2, .int (nI 0)), (0, .ref (ad 200)), (1, .int x)]) hx hb dX11_sheetWrong_41 rfl hl (by decide) rfl (fun ls hl => ?_)
          refine lv_iconst (v := nI 0) hx hb dX11_sheetWrong_42 (by decide) ?_
          refine lv_istore_n (lv' := [(3, .int (nI 0)), (2, .int (nI 0)), (0, .ref (ad 200)), (1, .int x)]) hx hb dX11_sheetWrong_43 rfl hl (by decide) rfl (fun ls hl => ?_)
          have loop_44 : ∀ (n_44 : Nat) (gd k3 : Nat) (H : Heap) (locs : List Loc) (ls : Array Slot), (3 * k3 ≤ gSz q nx + 2) → (gd ≤ 1) → (gd = 1 ↔ (gSz q nx % 3 = 0 ∧ fDayB (gCl q nx) (gNe q) (gNg q) k3 = true)) → (gSz q nx - 3 * k3) < n_44 → mC (mA ad sh s.heap.size) s.heap s G ad sh V H locs → lv_has ls 5 [(0, .ref (ad 200)), (1, .int x), (2, .int (nI gd)), (3, .int (nI (3 * k3)))] → W p l e ({ frames := 2, cells := 0, slots := 0, locals := 43 } : Room) s m ([.ref (ad 200), .int x] : List Value).toArray below meth c H locs 0 0 (MQ below (mPost G ad sh s.heap.size (mPi ad sh (fun r V' => (aRef q x) = r ∧ V' = V))) ([.ref (ad 200), .int x] : List Value).toArray s 0 0 (mA ad sh s.heap.size)) (F0 m 44 ls []) := by
            intro n_44
            induction n_44 with
            | zero => intro gd k3 H locs ls hk hgd hgs hM_ hW hl; omega
            | succ n_44 ih_44 =>
              intro gd k3 H locs ls hk hgd hgs hM_ hW hl
              refine lv_iload_n hx hb dX11_sheetWrong_44 rfl (lv_at hl 3 rfl) ?_
              refine lv_iconst (v := nI 2) hx hb dX11_sheetWrong_45 (by decide) ?_
              refine lv_iadd hx hb dX11_sheetWrong_46 ?_
              refine m_top (y := nI ((3 * k3) + 2)) (nI_add (3 * k3) 2) ?_
              refine lv_aload_n hx hb dX11_sheetWrong_47 rfl (lv_at hl 0 rfl) ?_
              refine m_getr S hW hZ.sp.1 18 rfl (j := 212) rfl kX11 (iW11 _) (by decide) (List.mem_cons_of_mem _ (wa_11 _ (List.mem_of_getElem? (i := 13) (by decide +kernel)))) dX11_sheetWrong_48 ?_
              refine lv_iload_n hx hb dX11_sheetWrong_51 rfl (lv_at hl 1 rfl) ?_
              refine m_top (y := nI nx) hnx ?_
              refine m_iald S hW hZ.sp.2.2.2.2.2.2.2.2.2.2.2.2.1 nx rfl (by omega) (by decide) dX11_sheetWrong_52 ?_
              refine m_top (y := nI (gSz q nx)) (hI.ss hlnx) ?_
              refine lv_icmp_ge (tgt := 123) hx hb dX11_sheetWrong_53 (by decide) (fun c_8 => ?_) (fun c_8 => ?_)
              · skip
                have c_8 : (gSz q nx) ≤ ((3 * k3) + 2) := (nI_leI (by omega) (by omega)).mp c_8
                refine lv_iload_n hx hb dX11_sheetWrong_123 rfl (lv_at hl 2 rfl) ?_
                refine m_if_eq (tgt := 131) hx hb dX11_sheetWrong_124 (by decide) (fun c_9 => ?_) (fun c_9 => ?_)
                · skip
                  have c_9 : gd = 0 := (nI_eq (by omega) (by omega)).mp c_9
                  refine lv_bipush (v := -2) hx hb dX11_sheetWrong_131 (by decide) ?_
                  exact m_iret S hr hlk hW dX11_sheetWrong_133 (by exact ⟨by simp only [aRef, if_pos w_3, hcx, if_neg c_6]; exact ref_no hgs (by omega) (by omega), rfl⟩)
                · skip
                  have c_9 : ¬ gd = 0 := mt (nI_eq (by omega) (by omega)).mpr c_9
                  refine lv_iconst (v := nI 0) hx hb dX11_sheetWrong_127 (by decide) ?_
                  refine lv_goto (tgt := 133) hx hb dX11_sheetWrong_128 (by decide) ?_
                  exact m_iret S hr hlk hW dX11_sheetWrong_133 (by have hgg := hgs.mp (by omega); have hk3 : k3 = gSz q nx / 3 := (by have := hgg.1; omega); rw [hk3] at hgg; have hq1 := hgg.1; have hq2 := hgg.2; exact ⟨by simp only [aRef, if_pos hq1, if_pos hq2, if_pos w_3, hcx, if_neg c_6], rfl⟩)
              · skip
                have c_8 : ¬ (gSz q nx) ≤ ((3 * k3) + 2) := mt (nI_leI (by omega) (by omega)).mpr c_8
                refine lv_bipush (v := nI 40) hx hb dX11_sheetWrong_56 (by decide) ?_
                refine lv_iload_n hx hb dX11_sheetWrong_58 rfl (lv_at hl 1 rfl) ?_
                refine m_top (y := nI nx) hnx ?_
                refine lv_imul hx hb dX11_sheetWrong_59 ?_
                refine m_top (y := nI (40 * nx)) (pk_mul 40 nx) ?_
                refine lv_iload_n hx hb dX11_sheetWrong_60 rfl (lv_at hl 3 rfl) ?_
                refine lv_iadd hx hb dX11_sheetWrong_61 ?_
                refine m_top (y := nI ((40 * nx) + (3 * k3))) (nI_add (40 * nx) (3 * k3)) ?_
                refine lv_istore (lv' := [(4, .int (nI ((40 * nx) + (3 * k3)))), (0, .ref (ad 200)), (1, .int x), (2, .int (nI gd)), (3, .int (nI (3 * k3)))]) hx hb dX11_sheetWrong_62 hl (by decide) rfl (fun ls hl => ?_)
                refine lv_iload_n hx hb dX11_sheetWrong_64 rfl (lv_at hl 3 rfl) ?_
                refine lv_aload_n hx hb dX11_sheetWrong_65 rfl (lv_at hl 1 rfl) ?_
                refine lv_aload_n hx hb dX11_sheetWrong_66 rfl (lv_at hl 1 rfl) ?_
                refine m_getr S hW hZ.sp.1 19 rfl (j := 213) rfl kX11 (iW11 _) (by decide) (List.mem_cons_of_mem _ (wa_11 _ (List.mem_of_getElem? (i := 14) (by decide +kernel)))) dX11_sheetWrong_67 ?_
                refine lv_iload hx hb dX11_sheetWrong_70 (lv_at hl 0 rfl) ?_
                refine m_iald S hW hZ.sp.2.2.2.2.2.2.2.2.2.2.2.2.2.1 ((40 * nx) + (3 * k3)) rfl (by omega) (by decide) dX11_sheetWrong_72 ?_
                refine m_top (y := (gCl q nx (3 * k3))) (hI.sc hlnx (by omega)) ?_
                refine m_cip (m_rV S hW (c_X11_isEater l G ad sh V (gZ q) (gNe q) (gNg q) (gRl q) (gT q (gRl q)) (gCl q nx (3 * k3)) hZ) (cwV 1 hts (gCall [.methodLink RX11 179 yX11_isEater, .instanceMethod yX11_isEater, .selects RX11 yX11_isEater yX11_isEater, .initialized RX11] (List.forall_mem_cons.mpr ⟨(wa_19 _ (List.mem_of_getElem? (i := 3) (by decide +kernel))), (List.forall_mem_cons.mpr ⟨(wa_19 _ (List.mem_of_getElem? (i := 0) (by decide +kernel))), (List.forall_mem_cons.mpr ⟨(wa_19 _ (List.mem_of_getElem? (i := 1) (by decide +kernel))), (List.forall_mem_cons.mpr ⟨(wa_19 _ (List.mem_of_getElem? (i := 2) (by decide +kernel))), (List.forall_mem_cons.mpr ⟨(wa_1 _ (List.mem_of_getElem? (i := 5) (by decide +kernel))), (fun _ h => absurd h List.not_mem_nil)⟩)⟩)⟩)⟩)⟩)) rfl rfl rfl (by decide +kernel) ⟨Nat.le_of_ble_eq_true rfl, Nat.le_of_ble_eq_true rfl⟩) hZ.sp.1 kX11 rfl hl.1 rfl (Nat.le_of_ble_eq_true rfl) dX11_sheetWrong_73 ⟨Nat.le_of_ble_eq_true rfl, Nat.le_of_ble_eq_true rfl⟩) hW (fun r_11 H locs hp_10 hW => ?_)
                rcases hp_10 with ⟨rfl, w_12⟩ | ⟨rfl, w_13⟩
                · skip
                  refine m_if_eq (tgt := 114) hx hb dX11_sheetWrong_76 (by decide) (fun c_14 => ?_) (fun c_14 => ?_)
                  · exact absurd c_14 (by decide)
                  · skip
                    refine lv_aload_n hx hb dX11_sheetWrong_79 rfl (lv_at hl 1 rfl) ?_
                    refine lv_aload_n hx hb dX11_sheetWrong_80 rfl (lv_at hl 1 rfl) ?_
                    refine m_getr S hW hZ.sp.1 19 rfl (j := 213) rfl kX11 (iW11 _) (by decide) (List.mem_cons_of_mem _ (wa_11 _ (List.mem_of_getElem? (i := 14) (by decide +kernel)))) dX11_sheetWrong_81 ?_
                    refine lv_iload hx hb dX11_sheetWrong_84 (lv_at hl 0 rfl) ?_
                    refine lv_iconst (v := nI 1) hx hb dX11_sheetWrong_86 (by decide) ?_
                    refine lv_iadd hx hb dX11_sheetWrong_87 ?_
                    refine m_top (y := nI (((40 * nx) + (3 * k3)) + 1)) (nI_add ((40 * nx) + (3 * k3)) 1) ?_
                    refine m_iald S hW hZ.sp.2.2.2.2.2.2.2.2.2.2.2.2.2.1 (((40 * nx) + (3 * k3)) + 1) rfl (by omega) (by decide) dX11_sheetWrong_88 ?_
                    refine m_top (y := (gCl q nx (3 * k3 + 1))) (hI.sc3 hlnx (by omega)) ?_
                    refine m_cip (m_rV S hW (c_X11_isGood l G ad sh V (gZ q) (gNe q) (gNg q) (gRl q) (gT q (gRl q)) (gCl q nx (3 * k3 + 1)) hZ) (cwV 1 hts (gCall [.methodLink RX11 182 yX11_isGood, .instanceMethod yX11_isGood, .selects RX11 yX11_isGood yX11_isGood, .initialized RX11] (List.forall_mem_cons.mpr ⟨(wa_19 _ (List.mem_of_getElem? (i := 7) (by decide +kernel))), (List.forall_mem_cons.mpr ⟨(wa_19 _ (List.mem_of_getElem? (i := 4) (by decide +kernel))), (List.forall_mem_cons.mpr ⟨(wa_19 _ (List.mem_of_getElem? (i := 5) (by decide +kernel))), (List.forall_mem_cons.mpr ⟨(wa_19 _ (List.mem_of_getElem? (i := 6) (by decide +kernel))), (List.forall_mem_cons.mpr ⟨(wa_1 _ (List.mem_of_getElem? (i := 5) (by decide +kernel))), (fun _ h => absurd h List.not_mem_nil)⟩)⟩)⟩)⟩)⟩)) rfl rfl rfl (by decide +kernel) ⟨Nat.le_of_ble_eq_true rfl, Nat.le_of_ble_eq_true rfl⟩) hZ.sp.1 kX11 rfl hl.1 rfl (Nat.le_of_ble_eq_true rfl) dX11_sheetWrong_89 ⟨Nat.le_of_ble_eq_true rfl, Nat.le_of_ble_eq_true rfl⟩) hW (fun r_16 H locs hp_15 hW => ?_)
                    rcases hp_15 with ⟨rfl, w_17⟩ | ⟨rfl, w_18⟩
                    · skip
                      refine m_if_eq (tgt := 114) hx hb dX11_sheetWrong_92 (by decide) (fun c_19 => ?_) (fun c_19 => ?_)
                      · exact absurd c_19 (by decide)
                      · skip
                        refine lv_aload_n hx hb dX11_sheetWrong_95 rfl (lv_at hl 1 rfl) ?_
                        refine m_getr S hW hZ.sp.1 19 rfl (j := 213) rfl kX11 (iW11 _) (by decide) (List.mem_cons_of_mem _ (wa_11 _ (List.mem_of_getElem? (i := 14) (by decide +kernel)))) dX11_sheetWrong_96 ?_
                        refine lv_iload hx hb dX11_sheetWrong_99 (lv_at hl 0 rfl) ?_
                        refine lv_iconst (v := nI 2) hx hb dX11_sheetWrong_101 (by decide) ?_
                        refine lv_iadd hx hb dX11_sheetWrong_102 ?_
                        refine m_top (y := nI (((40 * nx) + (3 * k3)) + 2)) (nI_add ((40 * nx) + (3 * k3)) 2) ?_
                        refine m_iald S hW hZ.sp.2.2.2.2.2.2.2.2.2.2.2.2.2.1 (((40 * nx) + (3 * k3)) + 2) rfl (by omega) (by decide) dX11_sheetWrong_103 ?_
                        refine m_top (y := (gCl q nx (3 * k3 + 2))) (hI.sc3 hlnx (by omega)) ?_
                        refine m_cip (m_rS S hW (c_X11_isPlace l G ad sh V (gCl q nx (3 * k3 + 2))) (va_cwS 1 hts (gCall [.methodLink RX11 204 yX11_isPlace, .static yX11_isPlace, .initialized RX11] (List.forall_mem_cons.mpr ⟨(wa_26 _ (List.mem_of_getElem? (i := 14) (by decide +kernel))), (List.forall_mem_cons.mpr ⟨(wa_26 _ (List.mem_of_getElem? (i := 12) (by decide +kernel))), (List.forall_mem_cons.mpr ⟨(wa_26 _ (List.mem_of_getElem? (i := 13) (by decide +kernel))), (List.forall_mem_cons.mpr ⟨(wa_1 _ (List.mem_of_getElem? (i := 5) (by decide +kernel))), (fun _ h => absurd h List.not_mem_nil)⟩)⟩)⟩)⟩)) rfl rfl rfl (by decide +kernel) ⟨Nat.le_of_ble_eq_true rfl, Nat.le_of_ble_eq_true rfl⟩) rfl hl.1 rfl (Nat.le_of_ble_eq_true rfl) dX11_sheetWrong_104 ⟨Nat.le_of_ble_eq_true rfl, Nat.le_of_ble_eq_true rfl⟩) hW (fun r_21 H locs hp_20 hW => ?_)
                        rcases hp_20 with ⟨rfl, w_22⟩ | ⟨rfl, w_23⟩
                        · skip
                          refine m_if_eq (tgt := 114) hx hb dX11_sheetWrong_107 (by decide) (fun c_24 => ?_) (fun c_24 => ?_)
                          · exact absurd c_24 (by decide)
                          · skip
                            refine lv_iconst (v := nI 1) hx hb dX11_sheetWrong_110 (by decide) ?_
                            refine lv_goto (tgt := 115) hx hb dX11_sheetWrong_111 (by decide) ?_
                            refine lv_iand hx hb dX11_sheetWrong_115 ?_
                            refine m_top (y := nI gd) (by rw [m_and, gd_1 (by omega)]) ?_
                            refine lv_istore_n (lv' := [(2, .int (nI gd)), (4, .int (nI ((40 * nx) + (3 * k3)))), (0, .ref (ad 200)), (1, .int x), (3, .int (nI (3 * k3)))]) hx hb dX11_sheetWrong_116 rfl hl (by decide) rfl (fun ls hl => ?_)
                            refine lv_iinc (v := nI (3 * k3 + 3)) (lv' := [(3, .int (nI (3 * k3 + 3))), (2, .int (nI gd)), (4, .int (nI ((40 * nx) + (3 * k3)))), (0, .ref (ad 200)), (1, .int x)]) hx hb dX11_sheetWrong_117 hl (k := 4) rfl (m_inc (3 * k3) 3) (by decide) rfl (fun ls hl => ?_)
                            refine lv_goto (tgt := 44) hx hb dX11_sheetWrong_120 (by decide) ?_
                            exact ih_44  gd (k3 + 1)  _ _ _ (by omega) (by exact hgd) (by rw [hgs]; exact ⟨fun z => ⟨z.1, fDayB_s z.2 w_12 w_17 w_22⟩, fun z => ⟨z.1, fDayB_p z.2⟩⟩) (by omega) hW (lv_sub hl [3, 4, 1, 0] rfl)
                        · skip
                          refine m_if_eq (tgt := 114) hx hb dX11_sheetWrong_107 (by decide) (fun c_25 => ?_) (fun c_25 => ?_)
                          · skip
                            refine lv_iconst (v := nI 0) hx hb dX11_sheetWrong_114 (by decide) ?_
                            refine lv_iand hx hb dX11_sheetWrong_115 ?_
                            refine m_top (y := nI 0) (by rw [m_and, Nat.and_zero]) ?_
                            refine lv_istore_n (lv' := [(2, .int (nI 0)), (4, .int (nI ((40 * nx) + (3 * k3)))), (0, .ref (ad 200)), (1, .int x), (3, .int (nI (3 * k3)))]) hx hb dX11_sheetWrong_116 rfl hl (by decide) rfl (fun ls hl => ?_)
                            refine lv_iinc (v := nI (3 * k3 + 3)) (lv' := [(3, .int (nI (3 * k3 + 3))), (2, .int (nI 0)), (4, .int (nI ((40 * nx) + (3 * k3)))), (0, .ref (ad 200)), (1, .int x)]) hx hb dX11_sheetWrong_117 hl (k := 4) rfl (m_inc (3 * k3) 3) (by decide) rfl (fun ls hl => ?_)
                            refine lv_goto (tgt := 44) hx hb dX11_sheetWrong_120 (by decide) ?_
                            exact ih_44  0 (k3 + 1)  _ _ _ (by omega) (by decide) (by exact ⟨fun z => absurd z (by decide), fun z => absurd z.2 (fDayB_f (k := k3) (fun z => w_23 z.2.2) (Nat.lt_succ_self _))⟩) (by omega) hW (lv_sub hl [3, 4, 1, 0] rfl)
                          · exact absurd c_25 (by decide)
                    · skip
                      refine m_if_eq (tgt := 114) hx hb dX11_sheetWrong_92 (by decide) (fun c_26 => ?_) (fun c_26 => ?_)
                      · skip
                        refine lv_iconst (v := nI 0) hx hb dX11_sheetWrong_114 (by decide) ?_
                        refine lv_iand hx hb dX11_sheetWrong_115 ?_
                        refine m_top (y := nI 0) (by rw [m_and, Nat.and_zero]) ?_
                        refine lv_istore_n (lv' := [(2, .int (nI 0)), (4, .int (nI ((40 * nx) + (3 * k3)))), (0, .ref (ad 200)), (1, .int x), (3, .int (nI (3 * k3)))]) hx hb dX11_sheetWrong_116 rfl hl (by decide) rfl (fun ls hl => ?_)
                        refine lv_iinc (v := nI (3 * k3 + 3)) (lv' := [(3, .int (nI (3 * k3 + 3))), (2, .int (nI 0)), (4, .int (nI ((40 * nx) + (3 * k3)))), (0, .ref (ad 200)), (1, .int x)]) hx hb dX11_sheetWrong_117 hl (k := 4) rfl (m_inc (3 * k3) 3) (by decide) rfl (fun ls hl => ?_)
                        refine lv_goto (tgt := 44) hx hb dX11_sheetWrong_120 (by decide) ?_
                        exact ih_44  0 (k3 + 1)  _ _ _ (by omega) (by decide) (by exact ⟨fun z => absurd z (by decide), fun z => absurd z.2 (fDayB_f (k := k3) (fun z => w_18 z.2.1) (Nat.lt_succ_self _))⟩) (by omega) hW (lv_sub hl [3, 4, 1, 0] rfl)
                      · exact absurd c_26 (by decide)
                · skip
                  refine m_if_eq (tgt := 114) hx hb dX11_sheetWrong_76 (by decide) (fun c_27 => ?_) (fun c_27 => ?_)
                  · skip
                    refine lv_iconst (v := nI 0) hx hb dX11_sheetWrong_114 (by decide) ?_
                    refine lv_iand hx hb dX11_sheetWrong_115 ?_
                    refine m_top (y := nI 0) (by rw [m_and, Nat.and_zero]) ?_
                    refine lv_istore_n (lv' := [(2, .int (nI 0)), (4, .int (nI ((40 * nx) + (3 * k3)))), (0, .ref (ad 200)), (1, .int x), (3, .int (nI (3 * k3)))]) hx hb dX11_sheetWrong_116 rfl hl (by decide) rfl (fun ls hl => ?_)
                    refine lv_iinc (v := nI (3 * k3 + 3)) (lv' := [(3, .int (nI (3 * k3 + 3))), (2, .int (nI 0)), (4, .int (nI ((40 * nx) + (3 * k3)))), (0, .ref (ad 200)), (1, .int x)]) hx hb dX11_sheetWrong_117 hl (k := 4) rfl (m_inc (3 * k3) 3) (by decide) rfl (fun ls hl => ?_)
                    refine lv_goto (tgt := 44) hx hb dX11_sheetWrong_120 (by decide) ?_
                    exact ih_44  0 (k3 + 1)  _ _ _ (by omega) (by decide) (by exact ⟨fun z => absurd z (by decide), fun z => absurd z.2 (fDayB_f (k := k3) (fun z => w_13 z.1) (Nat.lt_succ_self _))⟩) (by omega) hW (lv_sub hl [3, 4, 1, 0] rfl)
                  · exact absurd c_27 (by decide)
          exact loop_44 (gSz q nx - 3 * 0 + 1) 0 0  _ _ _ (by omega) (by decide) (by exact ⟨fun z => absurd z (by decide), fun z => absurd z.1 c_7⟩) (by omega) hW (lv_sub hl [2, 3, 1, 0] rfl)
        · skip
          have c_7 : ((gSz q nx) % 3) = 0 := (nI_eq (by omega) (by omega)).mp c_7
          refine lv_iconst (v := nI 1) hx hb dX11_sheetWrong_36 (by decide) ?_
          refine lv_goto (tgt := 41) hx hb dX11_sheetWrong_37 (by decide) ?_
          refine lv_istore_n (lv' := [(2, .int (nI 1)), (0, .ref (ad 200)), (1, .int x)]) hx hb dX11_sheetWrong_41 rfl hl (by decide) rfl (fun ls hl => ?_)
          refine lv_iconst (v := nI 0) hx hb dX11_sheetWrong_42 (by decide) ?_
          refine lv_istore_n (lv' := [(3, .int (nI 0)), (2, .int (nI 1)), (0, .ref (ad 200)), (1, .int x)]) hx hb dX11_sheetWrong_43 rfl hl (by decide) rfl (fun ls hl => ?_)
          have loop_44 : ∀ (n_44 : Nat) (gd k3 : Nat) (H : Heap) (locs : List Loc) (ls : Array Slot), (3 * k3 ≤ gSz q nx + 2) → (gd ≤ 1) → (gd = 1 ↔ (gSz q nx % 3 = 0 ∧ fDayB (gCl q nx) (gNe q) (gNg q) k3 = true)) → (gSz q nx - 3 * k3) < n_44 → mC (mA ad sh s.heap.size) s.heap s G ad sh V H locs → lv_has ls 5 [(0, .ref (ad 200)), (1, .int x), (2, .int (nI gd)), (3, .int (nI (3 * k3)))] → W p l e ({ frames := 2, cells := 0, slots := 0, locals := 43 } : Room) s m ([.ref (ad 200), .int x] : List Value).toArray below meth c H locs 0 0 (MQ below (mPost G ad sh s.heap.size (mPi ad sh (fun r V' => (aRef q x) = r ∧ V' = V))) ([.ref (ad 200), .int x] : List Value).toArray s 0 0 (mA ad sh s.heap.size)) (F0 m 44 ls []) := by
            intro n_44
            induction n_44 with
            | zero => intro gd k3 H locs ls hk hgd hgs hM_ hW hl; omega
            | succ n_44 ih_44 =>
              intro gd k3 H locs ls hk hgd hgs hM_ hW hl
              refine lv_iload_n hx hb dX11_sheetWrong_44 rfl (lv_at hl 3 rfl) ?_
              refine lv_iconst (v := nI 2) hx hb dX11_sheetWrong_45 (by decide) ?_
              refine lv_iadd hx hb dX11_sheetWrong_46 ?_
              refine m_top (y := nI ((3 * k3) + 2)) (nI_add (3 * k3) 2) ?_
              refine lv_aload_n hx hb dX11_sheetWrong_47 rfl (lv_at hl 0 rfl) ?_
              refine m_getr S hW hZ.sp.1 18 rfl (j := 212) rfl kX11 (iW11 _) (by decide) (List.mem_cons_of_mem _ (wa_11 _ (List.mem_of_getElem? (i := 13) (by decide +kernel)))) dX11_sheetWrong_48 ?_
              refine lv_iload_n hx hb dX11_sheetWrong_51 rfl (lv_at hl 1 rfl) ?_
              refine m_top (y := nI nx) hnx ?_
              refine m_iald S hW hZ.sp.2.2.2.2.2.2.2.2.2.2.2.2.1 nx rfl (by omega) (by decide) dX11_sheetWrong_52 ?_
              refine m_top (y := nI (gSz q nx)) (hI.ss hlnx) ?_
              refine lv_icmp_ge (tgt := 123) hx hb dX11_sheetWrong_53 (by decide) (fun c_28 => ?_) (fun c_28 => ?_)
              · skip
                have c_28 : (gSz q nx) ≤ ((3 * k3) + 2) := (nI_leI (by omega) (by omega)).mp c_28
                refine lv_iload_n hx hb dX11_sheetWrong_123 rfl (lv_at hl 2 rfl) ?_
                refine m_if_eq (tgt := 131) hx hb dX11_sheetWrong_124 (by decide) (fun c_29 => ?_) (fun c_29 => ?_)
                · skip
                  have c_29 : gd = 0 := (nI_eq (by omega) (by omega)).mp c_29
                  refine lv_bipush (v := -2) hx hb dX11_sheetWrong_131 (by decide) ?_
                  exact m_iret S hr hlk hW dX11_sheetWrong_133 (by exact ⟨by simp only [aRef, if_pos w_3, hcx, if_neg c_6]; exact ref_no hgs (by omega) (by omega), rfl⟩)
                · skip
                  have c_29 : ¬ gd = 0 := mt (nI_eq (by omega) (by omega)).mpr c_29
                  refine lv_iconst (v := nI 0) hx hb dX11_sheetWrong_127 (by decide) ?_
                  refine lv_goto (tgt := 133) hx hb dX11_sheetWrong_128 (by decide) ?_
                  exact m_iret S hr hlk hW dX11_sheetWrong_133 (by have hgg := hgs.mp (by omega); have hk3 : k3 = gSz q nx / 3 := (by have := hgg.1; omega); rw [hk3] at hgg; have hq1 := hgg.1; have hq2 := hgg.2; exact ⟨by simp only [aRef, if_pos hq1, if_pos hq2, if_pos w_3, hcx, if_neg c_6], rfl⟩)
              · skip
                have c_28 : ¬ (gSz q nx) ≤ ((3 * k3) + 2) := mt (nI_leI (by omega) (by omega)).mpr c_28
                refine lv_bipush (v := nI 40) hx hb dX11_sheetWrong_56 (by decide) ?_
                refine lv_iload_n hx hb dX11_sheetWrong_58 rfl (lv_at hl 1 rfl) ?_
                refine m_top (y := nI nx) hnx ?_
                refine lv_imul hx hb dX11_sheetWrong_59 ?_
                refine m_top (y := nI (40 * nx)) (pk_mul 40 nx) ?_
                refine lv_iload_n hx hb dX11_sheetWrong_60 rfl (lv_at hl 3 rfl) ?_
                refine lv_iadd hx hb dX11_sheetWrong_61 ?_
                refine m_top (y := nI ((40 * nx) + (3 * k3))) (nI_add (40 * nx) (3 * k3)) ?_
                refine lv_istore (lv' := [(4, .int (nI ((40 * nx) + (3 * k3)))), (0, .ref (ad 200)), (1, .int x), (2, .int (nI gd)), (3, .int (nI (3 * k3)))]) hx hb dX11_sheetWrong_62 hl (by decide) rfl (fun ls hl => ?_)
                refine lv_iload_n hx hb dX11_sheetWrong_64 rfl (lv_at hl 3 rfl) ?_
                refine lv_aload_n hx hb dX11_sheetWrong_65 rfl (lv_at hl 1 rfl) ?_
                refine lv_aload_n hx hb dX11_sheetWrong_66 rfl (lv_at hl 1 rfl) ?_
                refine m_getr S hW hZ.sp.1 19 rfl (j := 213) rfl kX11 (iW11 _) (by decide) (List.mem_cons_of_mem _ (wa_11 _ (List.mem_of_getElem? (i := 14) (by decide +kernel)))) dX11_sheetWrong_67 ?_
                refine lv_iload hx hb dX11_sheetWrong_70 (lv_at hl 0 rfl) ?_
                refine m_iald S hW hZ.sp.2.2.2.2.2.2.2.2.2.2.2.2.2.1 ((40 * nx) + (3 * k3)) rfl (by omega) (by decide) dX11_sheetWrong_72 ?_
                refine m_top (y := (gCl q nx (3 * k3))) (hI.sc hlnx (by omega)) ?_
                refine m_cip (m_rV S hW (c_X11_isEater l G ad sh V (gZ q) (gNe q) (gNg q) (gRl q) (gT q (gRl q)) (gCl q nx (3 * k3)) hZ) (cwV 1 hts (gCall [.methodLink RX11 179 yX11_isEater, .instanceMethod yX11_isEater, .selects RX11 yX11_isEater yX11_isEater, .initialized RX11] (List.forall_mem_cons.mpr ⟨(wa_19 _ (List.mem_of_getElem? (i := 3) (by decide +kernel))), (List.forall_mem_cons.mpr ⟨(wa_19 _ (List.mem_of_getElem? (i := 0) (by decide +kernel))), (List.forall_mem_cons.mpr ⟨(wa_19 _ (List.mem_of_getElem? (i := 1) (by decide +kernel))), (List.forall_mem_cons.mpr ⟨(wa_19 _ (List.mem_of_getElem? (i := 2) (by decide +kernel))), (List.forall_mem_cons.mpr ⟨(wa_1 _ (List.mem_of_getElem? (i := 5) (by decide +kernel))), (fun _ h => absurd h List.not_mem_nil)⟩)⟩)⟩)⟩)⟩)) rfl rfl rfl (by decide +kernel) ⟨Nat.le_of_ble_eq_true rfl, Nat.le_of_ble_eq_true rfl⟩) hZ.sp.1 kX11 rfl hl.1 rfl (Nat.le_of_ble_eq_true rfl) dX11_sheetWrong_73 ⟨Nat.le_of_ble_eq_true rfl, Nat.le_of_ble_eq_true rfl⟩) hW (fun r_31 H locs hp_30 hW => ?_)
                rcases hp_30 with ⟨rfl, w_32⟩ | ⟨rfl, w_33⟩
                · skip
                  refine m_if_eq (tgt := 114) hx hb dX11_sheetWrong_76 (by decide) (fun c_34 => ?_) (fun c_34 => ?_)
                  · exact absurd c_34 (by decide)
                  · skip
                    refine lv_aload_n hx hb dX11_sheetWrong_79 rfl (lv_at hl 1 rfl) ?_
                    refine lv_aload_n hx hb dX11_sheetWrong_80 rfl (lv_at hl 1 rfl) ?_
                    refine m_getr S hW hZ.sp.1 19 rfl (j := 213) rfl kX11 (iW11 _) (by decide) (List.mem_cons_of_mem _ (wa_11 _ (List.mem_of_getElem? (i := 14) (by decide +kernel)))) dX11_sheetWrong_81 ?_
                    refine lv_iload hx hb dX11_sheetWrong_84 (lv_at hl 0 rfl) ?_
                    refine lv_iconst (v := nI 1) hx hb dX11_sheetWrong_86 (by decide) ?_
                    refine lv_iadd hx hb dX11_sheetWrong_87 ?_
                    refine m_top (y := nI (((40 * nx) + (3 * k3)) + 1)) (nI_add ((40 * nx) + (3 * k3)) 1) ?_
                    refine m_iald S hW hZ.sp.2.2.2.2.2.2.2.2.2.2.2.2.2.1 (((40 * nx) + (3 * k3)) + 1) rfl (by omega) (by decide) dX11_sheetWrong_88 ?_
                    refine m_top (y := (gCl q nx (3 * k3 + 1))) (hI.sc3 hlnx (by omega)) ?_
                    refine m_cip (m_rV S hW (c_X11_isGood l G ad sh V (gZ q) (gNe q) (gNg q) (gRl q) (gT q (gRl q)) (gCl q nx (3 * k3 + 1)) hZ) (cwV 1 hts (gCall [.methodLink RX11 182 yX11_isGood, .instanceMethod yX11_isGood, .selects RX11 yX11_isGood yX11_isGood, .initialized RX11] (List.forall_mem_cons.mpr ⟨(wa_19 _ (List.mem_of_getElem? (i := 7) (by decide +kernel))), (List.forall_mem_cons.mpr ⟨(wa_19 _ (List.mem_of_getElem? (i := 4) (by decide +kernel))), (List.forall_mem_cons.mpr ⟨(wa_19 _ (List.mem_of_getElem? (i := 5) (by decide +kernel))), (List.forall_mem_cons.mpr ⟨(wa_19 _ (List.mem_of_getElem? (i := 6) (by decide +kernel))), (List.forall_mem_cons.mpr ⟨(wa_1 _ (List.mem_of_getElem? (i := 5) (by decide +kernel))), (fun _ h => absurd h List.not_mem_nil)⟩)⟩)⟩)⟩)⟩)) rfl rfl rfl (by decide +kernel) ⟨Nat.le_of_ble_eq_true rfl, Nat.le_of_ble_eq_true rfl⟩) hZ.sp.1 kX11 rfl hl.1 rfl (Nat.le_of_ble_eq_true rfl) dX11_sheetWrong_89 ⟨Nat.le_of_ble_eq_true rfl, Nat.le_of_ble_eq_true rfl⟩) hW (fun r_36 H locs hp_35 hW => ?_)
                    rcases hp_35 with ⟨rfl, w_37⟩ | ⟨rfl, w_38⟩
                    · skip
                      refine m_if_eq (tgt := 114) hx hb dX11_sheetWrong_92 (by decide) (fun c_39 => ?_) (fun c_39 => ?_)
                      · exact absurd c_39 (by decide)
                      · skip
                        refine lv_aload_n hx hb dX11_sheetWrong_95 rfl (lv_at hl 1 rfl) ?_
                        refine m_getr S hW hZ.sp.1 19 rfl (j := 213) rfl kX11 (iW11 _) (by decide) (List.mem_cons_of_mem _ (wa_11 _ (List.mem_of_getElem? (i := 14) (by decide +kernel)))) dX11_sheetWrong_96 ?_
                        refine lv_iload hx hb dX11_sheetWrong_99 (lv_at hl 0 rfl) ?_
                        refine lv_iconst (v := nI 2) hx hb dX11_sheetWrong_101 (by decide) ?_
                        refine lv_iadd hx hb dX11_sheetWrong_102 ?_
                        refine m_top (y := nI (((40 * nx) + (3 * k3)) + 2)) (nI_add ((40 * nx) + (3 * k3)) 2) ?_
                        refine m_iald S hW hZ.sp.2.2.2.2.2.2.2.2.2.2.2.2.2.1 (((40 * nx) + (3 * k3)) + 2) rfl (by omega) (by decide) dX11_sheetWrong_103 ?_
                        refine m_top (y := (gCl q nx (3 * k3 + 2))) (hI.sc3 hlnx (by omega)) ?_
                        refine m_cip (m_rS S hW (c_X11_isPlace l G ad sh V (gCl q nx (3 * k3 + 2))) (va_cwS 1 hts (gCall [.methodLink RX11 204 yX11_isPlace, .static yX11_isPlace, .initialized RX11] (List.forall_mem_cons.mpr ⟨(wa_26 _ (List.mem_of_getElem? (i := 14) (by decide +kernel))), (List.forall_mem_cons.mpr ⟨(wa_26 _ (List.mem_of_getElem? (i := 12) (by decide +kernel))), (List.forall_mem_cons.mpr ⟨(wa_26 _ (List.mem_of_getElem? (i := 13) (by decide +kernel))), (List.forall_mem_cons.mpr ⟨(wa_1 _ (List.mem_of_getElem? (i := 5) (by decide +kernel))), (fun _ h => absurd h List.not_mem_nil)⟩)⟩)⟩)⟩)) rfl rfl rfl (by decide +kernel) ⟨Nat.le_of_ble_eq_true rfl, Nat.le_of_ble_eq_true rfl⟩) rfl hl.1 rfl (Nat.le_of_ble_eq_true rfl) dX11_sheetWrong_104 ⟨Nat.le_of_ble_eq_true rfl, Nat.le_of_ble_eq_true rfl⟩) hW (fun r_41 H locs hp_40 hW => ?_)
                        rcases hp_40 with ⟨rfl, w_42⟩ | ⟨rfl, w_43⟩
                        · skip
                          refine m_if_eq (tgt := 114) hx hb dX11_sheetWrong_107 (by decide) (fun c_44 => ?_) (fun c_44 => ?_)
                          · exact absurd c_44 (by decide)
                          · skip
                            refine lv_iconst (v := nI 1) hx hb dX11_sheetWrong_110 (by decide) ?_
                            refine lv_goto (tgt := 115) hx hb dX11_sheetWrong_111 (by decide) ?_
                            refine lv_iand hx hb dX11_sheetWrong_115 ?_
                            refine m_top (y := nI gd) (by rw [m_and, gd_1 (by omega)]) ?_
                            refine lv_istore_n (lv' := [(2, .int (nI gd)), (4, .int (nI ((40 * nx) + (3 * k3)))), (0, .ref (ad 200)), (1, .int x), (3, .int (nI (3 * k3)))]) hx hb dX11_sheetWrong_116 rfl hl (by decide) rfl (fun ls hl => ?_)
                            refine lv_iinc (v := nI (3 * k3 + 3)) (lv' := [(3, .int (nI (3 * k3 + 3))), (2, .int (nI gd)), (4, .int (nI ((40 * nx) + (3 * k3)))), (0, .ref (ad 200)), (1, .int x)]) hx hb dX11_sheetWrong_117 hl (k := 4) rfl (m_inc (3 * k3) 3) (by decide) rfl (fun ls hl => ?_)
                            refine lv_goto (tgt := 44) hx hb dX11_sheetWrong_120 (by decide) ?_
                            exact ih_44  gd (k3 + 1)  _ _ _ (by omega) (by exact hgd) (by rw [hgs]; exact ⟨fun z => ⟨z.1, fDayB_s z.2 w_32 w_37 w_42⟩, fun z => ⟨z.1, fDayB_p z.2⟩⟩) (by omega) hW (lv_sub hl [3, 4, 1, 0] rfl)
                        · skip
                          refine m_if_eq (tgt := 114) hx hb dX11_sheetWrong_107 (by decide) (fun c_45 => ?_) (fun c_45 => ?_)
                          · skip
                            refine lv_iconst (v := nI 0) hx hb dX11_sheetWrong_114 (by decide) ?_
                            refine lv_iand hx hb dX11_sheetWrong_115 ?_
                            refine m_top (y := nI 0) (by rw [m_and, Nat.and_zero]) ?_
                            refine lv_istore_n (lv' := [(2, .int (nI 0)), (4, .int (nI ((40 * nx) + (3 * k3)))), (0, .ref (ad 200)), (1, .int x), (3, .int (nI (3 * k3)))]) hx hb dX11_sheetWrong_116 rfl hl (by decide) rfl (fun ls hl => ?_)
                            refine lv_iinc (v := nI (3 * k3 + 3)) (lv' := [(3, .int (nI (3 * k3 + 3))), (2, .int (nI 0)), (4, .int (nI ((40 * nx) + (3 * k3)))), (0, .ref (ad 200)), (1, .int x)]) hx hb dX11_sheetWrong_117 hl (k := 4) rfl (m_inc (3 * k3) 3) (by decide) rfl (fun ls hl => ?_)
                            refine lv_goto (tgt := 44) hx hb dX11_sheetWrong_120 (by decide) ?_
                            exact ih_44  0 (k3 + 1)  _ _ _ (by omega) (by decide) (by exact ⟨fun z => absurd z (by decide), fun z => absurd z.2 (fDayB_f (k := k3) (fun z => w_43 z.2.2) (Nat.lt_succ_self _))⟩) (by omega) hW (lv_sub hl [3, 4, 1, 0] rfl)
                          · exact absurd c_45 (by decide)
                    · skip
                      refine m_if_eq (tgt := 114) hx hb dX11_sheetWrong_92 (by decide) (fun c_46 => ?_) (fun c_46 => ?_)
                      · skip
                        refine lv_iconst (v := nI 0) hx hb dX11_sheetWrong_114 (by decide) ?_
                        refine lv_iand hx hb dX11_sheetWrong_115 ?_
                        refine m_top (y := nI 0) (by rw [m_and, Nat.and_zero]) ?_
                        refine lv_istore_n (lv' := [(2, .int (nI 0)), (4, .int (nI ((40 * nx) + (3 * k3)))), (0, .ref (ad 200)), (1, .int x), (3, .int (nI (3 * k3)))]) hx hb dX11_sheetWrong_116 rfl hl (by decide) rfl (fun ls hl => ?_)
                        refine lv_iinc (v := nI (3 * k3 + 3)) (lv' := [(3, .int (nI (3 * k3 + 3))), (2, .int (nI 0)), (4, .int (nI ((40 * nx) + (3 * k3)))), (0, .ref (ad 200)), (1, .int x)]) hx hb dX11_sheetWrong_117 hl (k := 4) rfl (m_inc (3 * k3) 3) (by decide) rfl (fun ls hl => ?_)
                        refine lv_goto (tgt := 44) hx hb dX11_sheetWrong_120 (by decide) ?_
                        exact ih_44  0 (k3 + 1)  _ _ _ (by omega) (by decide) (by exact ⟨fun z => absurd z (by decide), fun z => absurd z.2 (fDayB_f (k := k3) (fun z => w_38 z.2.1) (Nat.lt_succ_self _))⟩) (by omega) hW (lv_sub hl [3, 4, 1, 0] rfl)
                      · exact absurd c_46 (by decide)
                · skip
                  refine m_if_eq (tgt := 114) hx hb dX11_sheetWrong_76 (by decide) (fun c_47 => ?_) (fun c_47 => ?_)
                  · skip
                    refine lv_iconst (v := nI 0) hx hb dX11_sheetWrong_114 (by decide) ?_
                    refine lv_iand hx hb dX11_sheetWrong_115 ?_
                    refine m_top (y := nI 0) (by rw [m_and, Nat.and_zero]) ?_
                    refine lv_istore_n (lv' := [(2, .int (nI 0)), (4, .int (nI ((40 * nx) + (3 * k3)))), (0, .ref (ad 200)), (1, .int x), (3, .int (nI (3 * k3)))]) hx hb dX11_sheetWrong_116 rfl hl (by decide) rfl (fun ls hl => ?_)
                    refine lv_iinc (v := nI (3 * k3 + 3)) (lv' := [(3, .int (nI (3 * k3 + 3))), (2, .int (nI 0)), (4, .int (nI ((40 * nx) + (3 * k3)))), (0, .ref (ad 200)), (1, .int x)]) hx hb dX11_sheetWrong_117 hl (k := 4) rfl (m_inc (3 * k3) 3) (by decide) rfl (fun ls hl => ?_)
                    refine lv_goto (tgt := 44) hx hb dX11_sheetWrong_120 (by decide) ?_
                    exact ih_44  0 (k3 + 1)  _ _ _ (by omega) (by decide) (by exact ⟨fun z => absurd z (by decide), fun z => absurd z.2 (fDayB_f (k := k3) (fun z => w_33 z.1) (Nat.lt_succ_self _))⟩) (by omega) hW (lv_sub hl [3, 4, 1, 0] rfl)
                  · exact absurd c_47 (by decide)
          exact loop_44 (gSz q nx - 3 * 0 + 1) 1 0  _ _ _ (by omega) (by decide) (by exact ⟨fun _ => ⟨c_7, rfl⟩, fun _ => rfl⟩) (by omega) hW (lv_sub hl [2, 3, 1, 0] rfl)
      · skip
        refine lv_bipush (v := -11) hx hb dX11_sheetWrong_22 (by decide) ?_
        exact m_iret S hr hlk hW dX11_sheetWrong_24 (by exact ⟨by simp only [aRef, if_pos w_3, hcx, if_pos c_6]; try rfl, rfl⟩)
    · exact absurd c_5 (by decide)
  · skip
    refine m_if_ne (tgt := 12) hx hb dX11_sheetWrong_6 (by decide) (fun c_48 => ?_) (fun c_48 => ?_)
    · exact absurd c_48 (by decide)
    · skip
      refine lv_bipush (v := -2) hx hb dX11_sheetWrong_9 (by decide) ?_
      exact m_iret S hr hlk hW dX11_sheetWrong_11 (by exact ⟨by simp only [aRef, if_neg w_4]; try rfl, rfl⟩)
set_option maxHeartbeats 4000000 in
set_option maxRecDepth 100000 in
theorem c_X11_judge (l : Launch) (G : mG) (ad : Nat → Nat) (sh : Nat → Option mSh) (V : mV) (q : Sg) (x : Int32) (hI : MI sh V q) : mM l yX11_judge wsX11_judge ({ frames := 7, cells := 0, slots := 0, locals := 168 } : Room) G ad sh V [.ref (ad 200), .int x] 0 0 (mPi ad sh (fun r V' => (aJudge q x) = r ∧ (MK V V'))) := by
  refine mM.of (cc := cX11_judge) (maxL := 3) (ret := (some .int)) (by decide) rfl (Nat.le_of_ble_eq_true rfl) ?_
  intro p e s m below meth c S hr hlk hnm hW ls hl
  obtain ⟨hx, hb, hml, hown, hts⟩ := id S
  have hl : lv_has ls 3 [(0, .ref (ad 200)), (1, .int x)] := hl
  have hS0 : True := trivial
  have hZ := hI.z
  have hne5 := hZ.ne5
  have hng6 := hZ.ng6
  have htn := hI.tn
  refine lv_aload_n hx hb dX11_judge_0 rfl (lv_at hl 0 rfl) ?_
  refine lv_iload_n hx hb dX11_judge_1 rfl (lv_at hl 1 rfl) ?_
  refine m_ci (m_rV S hW (c_X11_sheetWrong l G ad sh V q x hI) (cwV 1 hts (gCall [.methodLink RX11 256 yX11_sheetWrong, .instanceMethod yX11_sheetWrong, .selects RX11 yX11_sheetWrong yX11_sheetWrong, .initialized RX11] (List.forall_mem_cons.mpr ⟨(wa_39 _ (List.mem_of_getElem? (i := 16) (by decide +kernel))), (List.forall_mem_cons.mpr ⟨(wa_39 _ (List.mem_of_getElem? (i := 13) (by decide +kernel))), (List.forall_mem_cons.mpr ⟨(wa_39 _ (List.mem_of_getElem? (i := 14) (by decide +kernel))), (List.forall_mem_cons.mpr ⟨(wa_39 _ (List.mem_of_getElem? (i := 15) (by decide +kernel))), (List.forall_mem_cons.mpr ⟨(wa_1 _ (List.mem_of_getElem? (i := 5) (by decide +kernel))), (fun _ h => absurd h List.not_mem_nil)⟩)⟩)⟩)⟩)⟩)) rfl rfl rfl (by decide +kernel) ⟨Nat.le_of_ble_eq_true rfl, Nat.le_of_ble_eq_true rfl⟩) hZ.sp.1 kX11 rfl hl.1 rfl (Nat.le_of_ble_eq_true rfl) dX11_judge_2 ⟨Nat.le_of_ble_eq_true rfl, Nat.le_of_ble_eq_true rfl⟩) hW (fun r_3 V_1 H locs hp_2 hW => ?_)
  obtain ⟨rfl, eV_1⟩ := hp_2
  rw [eV_1] at hW
  refine lv_istore_n (lv' := [(2, .int (aRef q x)), (0, .ref (ad 200)), (1, .int x)]) hx hb dX11_judge_5 rfl hl (by decide) rfl (fun ls hl => ?_)
  refine lv_iload_n hx hb dX11_judge_6 rfl (lv_at hl 0 rfl) ?_
  refine m_if_ne (tgt := 18) hx hb dX11_judge_7 (by decide) (fun c_4 => ?_) (fun c_4 => ?_)
  · skip
    refine lv_iload_n hx hb dX11_judge_18 rfl (lv_at hl 0 rfl) ?_
    exact m_iret S hr hlk hW dX11_judge_19 (by exact ⟨by rw [aJudge, if_neg c_4], MK.rfl V⟩)
  · skip
    obtain ⟨nx, hlnx, hx0, hcx, hso, h3, hdb⟩ := aRef_ok c_4
    have hsl := hI.sl hlnx
    refine lv_aload_n hx hb dX11_judge_10 rfl (lv_at hl 1 rfl) ?_
    refine lv_iload_n hx hb dX11_judge_11 rfl (lv_at hl 2 rfl) ?_
    refine m_top (y := nI nx) hx0 ?_
    refine m_ci (m_rV S hW (c_X11_firstWrong l G ad sh V (gZ q) (gNe q) (gNg q) (gRl q) (gT q (gRl q)) (gCl q nx) nx (gSz q nx) hZ hlnx (hI.ss hlnx) hsl (fun k hk => hI.sc hlnx hk) (fDayB_day hdb)) (cwV 1 hts (gCall [.methodLink RX11 259 yX11_firstWrong, .instanceMethod yX11_firstWrong, .selects RX11 yX11_firstWrong yX11_firstWrong, .initialized RX11] (List.forall_mem_cons.mpr ⟨(wa_39 _ (List.mem_of_getElem? (i := 20) (by decide +kernel))), (List.forall_mem_cons.mpr ⟨(wa_39 _ (List.mem_of_getElem? (i := 17) (by decide +kernel))), (List.forall_mem_cons.mpr ⟨(wa_39 _ (List.mem_of_getElem? (i := 18) (by decide +kernel))), (List.forall_mem_cons.mpr ⟨(wa_39 _ (List.mem_of_getElem? (i := 19) (by decide +kernel))), (List.forall_mem_cons.mpr ⟨(wa_1 _ (List.mem_of_getElem? (i := 5) (by decide +kernel))), (fun _ h => absurd h List.not_mem_nil)⟩)⟩)⟩)⟩)⟩)) rfl rfl rfl (by decide +kernel) ⟨Nat.le_of_ble_eq_true rfl, Nat.le_of_ble_eq_true rfl⟩) hZ.sp.1 kX11 rfl hl.1 rfl (Nat.le_of_ble_eq_true rfl) dX11_judge_12 ⟨Nat.le_of_ble_eq_true rfl, Nat.le_of_ble_eq_true rfl⟩) hW (fun r_7 V_5 H locs hp_6 hW => ?_)
    obtain ⟨rfl, hK_8⟩ := hp_6
    refine lv_goto (tgt := 19) hx hb dX11_judge_15 (by decide) ?_
    exact m_iret S hr hlk hW dX11_judge_19 (by exact ⟨by rw [aJudge, if_pos c_4, hcx]; rfl, hK_8⟩)
set_option maxHeartbeats 4000000 in
set_option maxRecDepth 100000 in
theorem c_X11_laws (l : Launch) (G : mG) (ad : Nat → Nat) (sh : Nat → Option mSh) (V : mV) (q : Sg) (x : Int32) (hI : MI sh V q) : mM l yX11_laws wsX11_laws ({ frames := 7, cells := 0, slots := 0, locals := 168 } : Room) G ad sh V [.ref (ad 200), .int x] 0 0 (mPi ad sh (fun r V' => (aLaws q x) = r ∧ (MK V V'))) := by
  refine mM.of (cc := cX11_laws) (maxL := 6) (ret := (some .int)) (by decide) rfl (Nat.le_of_ble_eq_true rfl) ?_
  intro p e s m below meth c S hr hlk hnm hW ls hl
  obtain ⟨hx, hb, hml, hown, hts⟩ := id S
  have hl : lv_has ls 6 [(0, .ref (ad 200)), (1, .int x)] := hl
  have hS0 : True := trivial
  have hZ := hI.z
  have hne5 := hZ.ne5
  have hng6 := hZ.ng6
  have htn := hI.tn
  refine lv_aload_n hx hb dX11_laws_0 rfl (lv_at hl 0 rfl) ?_
  refine lv_iload_n hx hb dX11_laws_1 rfl (lv_at hl 1 rfl) ?_
  refine m_ci (m_rV S hW (c_X11_sheetWrong l G ad sh V q x hI) (cwV 1 hts (gCall [.methodLink RX11 256 yX11_sheetWrong, .instanceMethod yX11_sheetWrong, .selects RX11 yX11_sheetWrong yX11_sheetWrong, .initialized RX11] (List.forall_mem_cons.mpr ⟨(wa_39 _ (List.mem_of_getElem? (i := 16) (by decide +kernel))), (List.forall_mem_cons.mpr ⟨(wa_39 _ (List.mem_of_getElem? (i := 13) (by decide +kernel))), (List.forall_mem_cons.mpr ⟨(wa_39 _ (List.mem_of_getElem? (i := 14) (by decide +kernel))), (List.forall_mem_cons.mpr ⟨(wa_39 _ (List.mem_of_getElem? (i := 15) (by decide +kernel))), (List.forall_mem_cons.mpr ⟨(wa_1 _ (List.mem_of_getElem? (i := 5) (by decide +kernel))), (fun _ h => absurd h List.not_mem_nil)⟩)⟩)⟩)⟩)⟩)) rfl rfl rfl (by decide +kernel) ⟨Nat.le_of_ble_eq_true rfl, Nat.le_of_ble_eq_true rfl⟩) hZ.sp.1 kX11 rfl hl.1 rfl (Nat.le_of_ble_eq_true rfl) dX11_laws_2 ⟨Nat.le_of_ble_eq_true rfl, Nat.le_of_ble_eq_true rfl⟩) hW (fun r_3 V_1 H locs hp_2 hW => ?_)
  obtain ⟨rfl, eV_1⟩ := hp_2
  rw [eV_1] at hW
  refine lv_istore_n (lv' := [(2, .int (aRef q x)), (0, .ref (ad 200)), (1, .int x)]) hx hb dX11_laws_5 rfl hl (by decide) rfl (fun ls hl => ?_)
  refine lv_iload_n hx hb dX11_laws_6 rfl (lv_at hl 0 rfl) ?_
  refine m_if_eq (tgt := 12) hx hb dX11_laws_7 (by decide) (fun c_4 => ?_) (fun c_4 => ?_)
  · skip
    obtain ⟨nx, hlnx, hx0, hcx, hso, h3, hdb⟩ := aRef_ok c_4
    have hsl := hI.sl hlnx
    refine lv_aload_n hx hb dX11_laws_12 rfl (lv_at hl 1 rfl) ?_
    refine m_geti S hW hZ.sp.1 12 rfl kX11 (iW11 _) (by decide) (List.mem_cons_of_mem _ (wa_15 _ (List.mem_of_getElem? (i := 3) (by decide +kernel)))) dX11_laws_13 ?_
    refine m_top (y := nI (gRl q)) hI.z.rl_ ?_
    refine lv_istore_n (lv' := [(3, .int (nI (gRl q))), (2, .int (aRef q x)), (0, .ref (ad 200)), (1, .int x)]) hx hb dX11_laws_16 rfl hl (by decide) rfl (fun ls hl => ?_)
    refine lv_iconst (v := nI 0) hx hb dX11_laws_17 (by decide) ?_
    refine lv_istore (lv' := [(4, .int (nI 0)), (3, .int (nI (gRl q))), (2, .int (aRef q x)), (0, .ref (ad 200)), (1, .int x)]) hx hb dX11_laws_18 hl (by decide) rfl (fun ls hl => ?_)
    refine lv_iconst (v := nI 0) hx hb dX11_laws_20 (by decide) ?_
    refine lv_istore (lv' := [(5, .int (nI 0)), (4, .int (nI 0)), (3, .int (nI (gRl q))), (2, .int (aRef q x)), (0, .ref (ad 200)), (1, .int x)]) hx hb dX11_laws_21 hl (by decide) rfl (fun ls hl => ?_)
    have loop_23 : ∀ (n_23 : Nat) (sm : Int32) (k : Nat) (V1 : mV) (H : Heap) (locs : List Loc) (ls : Array Slot), (k ≤ (gTxs q).length) → (MK V (mU V1 200 12 (nI (gRl q)))) → (sm = fBitsOf (fun t => decide ((zTold q (askT (gT q t)) nx).2 = -1)) k) → ((gTxs q).length - k) < n_23 → mC (mA ad sh s.heap.size) s.heap s G ad sh V1 H locs → lv_has ls 6 [(3, .int (nI (gRl q))), (2, .int (aRef q x)), (0, .ref (ad 200)), (1, .int x), (4, .int sm), (5, .int (nI k))] → W p l e ({ frames := 7, cells := 0, slots := 0, locals := 168 } : Room) s m ([.ref (ad 200), .int x] : List Value).toArray below meth c H locs 0 0 (MQ below (mPost G ad sh s.heap.size (mPi ad sh (fun r V' => (aLaws q x) = r ∧ (MK V V')))) ([.ref (ad 200), .int x] : List Value).toArray s 0 0 (mA ad sh s.heap.size)) (F0 m 23 ls []) := by
      intro n_23
      induction n_23 with
      | zero => intro sm k V1 H locs ls hk hK1 hs hM_ hW hl; omega
      | succ n_23 ih_23 =>
        intro sm k V1 H locs ls hk hK1 hs hM_ hW hl
        refine lv_iload hx hb dX11_laws_23 (lv_at hl 5 rfl) ?_
        refine lv_aload_n hx hb dX11_laws_25 rfl (lv_at hl 2 rfl) ?_
        refine m_geti S hW hZ.sp.1 11 rfl kX11 (iW11 _) (by decide) (List.mem_cons_of_mem _ (wa_12 _ (List.mem_of_getElem? (i := 4) (by decide +kernel)))) dX11_laws_26 ?_
        refine m_top (y := nI ((gTxs q).length)) (by have := hK1.2.2.2 11 (by decide) (by decide) (by decide); rw [mU_ne _ _ (by decide)] at this; rw [this]; exact htn.1) ?_
        refine lv_icmp_ge (tgt := 66) hx hb dX11_laws_29 (by decide) (fun c_5 => ?_) (fun c_5 => ?_)
        · skip
          have c_5 : ((gTxs q).length) ≤ k := (nI_leI (by omega) (by omega)).mp c_5
          refine lv_aload_n hx hb dX11_laws_66 rfl (lv_at hl 2 rfl) ?_
          refine lv_iload_n hx hb dX11_laws_67 rfl (lv_at hl 0 rfl) ?_
          refine m_puti S hW hZ.sp.1 12 rfl kX11 (iW11 _) tyX11 tyX11_ok nmX11 (by decide) (List.mem_cons_of_mem _ (wa_15 _ (List.mem_of_getElem? (i := 3) (by decide +kernel)))) (Or.inl rfl) rfl rfl dX11_laws_68 (fun H locs hW => ?_)
          obtain ⟨V_6, eV_6⟩ : ∃ vv_ : mV, vv_ = mU V1 200 12 (nI (gRl q)) := ⟨_, rfl⟩
          rw [← eV_6] at hW
          refine lv_iload hx hb dX11_laws_71 (lv_at hl 4 rfl) ?_
          exact m_iret S hr hlk hW dX11_laws_73 (by exact ⟨by rw [aLaws, if_pos c_4, hcx, hs, show k = (gTxs q).length by omega], by rw [eV_6]; exact hK1⟩)
        · skip
          have c_5 : ¬ ((gTxs q).length) ≤ k := mt (nI_leI (by omega) (by omega)).mpr c_5
          refine lv_aload_n hx hb dX11_laws_32 rfl (lv_at hl 2 rfl) ?_
          refine lv_iload hx hb dX11_laws_33 (lv_at hl 5 rfl) ?_
          refine m_puti S hW hZ.sp.1 12 rfl kX11 (iW11 _) tyX11 tyX11_ok nmX11 (by decide) (List.mem_cons_of_mem _ (wa_15 _ (List.mem_of_getElem? (i := 3) (by decide +kernel)))) (Or.inl rfl) rfl rfl dX11_laws_35 (fun H locs hW => ?_)
          obtain ⟨V_7, eV_7⟩ : ∃ vv_ : mV, vv_ = mU V1 200 12 (nI k) := ⟨_, rfl⟩
          rw [← eV_7] at hW
          have hZl : MZ sh V_7 (gZ q) (gNe q) (gNg q) k (gT q k) := by rw [eV_7]; exact hI.law hK1 (by omega)
          refine lv_iload hx hb dX11_laws_38 (lv_at hl 4 rfl) ?_
          refine lv_aload_n hx hb dX11_laws_40 rfl (lv_at hl 2 rfl) ?_
          refine lv_iload_n hx hb dX11_laws_41 rfl (lv_at hl 3 rfl) ?_
          refine m_top (y := nI nx) hx0 ?_
          refine m_ci (m_rV S hW (c_X11_firstWrong l G ad sh V_7 (gZ q) (gNe q) (gNg q) k (gT q k) (gCl q nx) nx (gSz q nx) hZl hlnx ((congrFun (show V_7 212 = V 212 from (by have := hK1.1 212 (by decide) (by decide) (by decide) (by decide) (by decide); rw [mU_no _ _ (by decide)] at this; rw [eV_7, mU_no _ _ (by decide)]; exact this)) _).trans (hI.ss hlnx)) hsl (fun k hk => (congrFun (show V_7 213 = V 213 from (by have := hK1.1 213 (by decide) (by decide) (by decide) (by decide) (by decide); rw [mU_no _ _ (by decide)] at this; rw [eV_7, mU_no _ _ (by decide)]; exact this)) _).trans (hI.sc hlnx hk)) (fDayB_day hdb)) (cwV 1 hts (gCall [.methodLink RX11 259 yX11_firstWrong, .instanceMethod yX11_firstWrong, .selects RX11 yX11_firstWrong yX11_firstWrong, .initialized RX11] (List.forall_mem_cons.mpr ⟨(wa_39 _ (List.mem_of_getElem? (i := 20) (by decide +kernel))), (List.forall_mem_cons.mpr ⟨(wa_39 _ (List.mem_of_getElem? (i := 17) (by decide +kernel))), (List.forall_mem_cons.mpr ⟨(wa_39 _ (List.mem_of_getElem? (i := 18) (by decide +kernel))), (List.forall_mem_cons.mpr ⟨(wa_39 _ (List.mem_of_getElem? (i := 19) (by decide +kernel))), (List.forall_mem_cons.mpr ⟨(wa_1 _ (List.mem_of_getElem? (i := 5) (by decide +kernel))), (fun _ h => absurd h List.not_mem_nil)⟩)⟩)⟩)⟩)⟩)) rfl rfl rfl (by decide +kernel) ⟨Nat.le_of_ble_eq_true rfl, Nat.le_of_ble_eq_true rfl⟩) hZ.sp.1 kX11 rfl hl.1 rfl (Nat.le_of_ble_eq_true rfl) dX11_laws_42 ⟨Nat.le_of_ble_eq_true rfl, Nat.le_of_ble_eq_true rfl⟩) hW (fun r_10 V_8 H locs hp_9 hW => ?_)
          obtain ⟨rfl, hK_11⟩ := hp_9
          refine lv_iconst (v := -1) hx hb dX11_laws_45 (by decide) ?_
          refine lv_icmp_ne (tgt := 56) hx hb dX11_laws_46 (by decide) (fun c_12 => ?_) (fun c_12 => ?_)
          · skip
            refine lv_iconst (v := nI 0) hx hb dX11_laws_56 (by decide) ?_
            refine lv_ior hx hb dX11_laws_57 ?_
            refine lv_istore (lv' := [(4, .int (sm ||| (nI 0))), (3, .int (nI (gRl q))), (2, .int (aRef q x)), (0, .ref (ad 200)), (1, .int x), (5, .int (nI k))]) hx hb dX11_laws_58 hl (by decide) rfl (fun ls hl => ?_)
            refine lv_iinc (v := nI (k + 1)) (lv' := [(5, .int (nI (k + 1))), (4, .int (sm ||| (nI 0))), (3, .int (nI (gRl q))), (2, .int (aRef q x)), (0, .ref (ad 200)), (1, .int x)]) hx hb dX11_laws_60 hl (k := 5) rfl (m_inc k 1) (by decide) rfl (fun ls hl => ?_)
            refine lv_goto (tgt := 23) hx hb dX11_laws_63 (by decide) ?_
            exact ih_23  (sm ||| (nI 0)) (k + 1) V_8 _ _ _ (by omega) (by have hk9 := (hK_11).r12 (nI (gRl q)); rw [eV_7, mU_mU] at hk9; exact hK1.trans hk9) (by exact bitOf_n (fun z => c_12 (of_decide_eq_true z)) hs) (by omega) hW (lv_sub hl [2, 3, 4, 5, 1, 0] rfl)
          · skip
            refine lv_iconst (v := nI 1) hx hb dX11_laws_49 (by decide) ?_
            refine lv_iload hx hb dX11_laws_50 (lv_at hl 5 rfl) ?_
            refine lv_ishl hx hb dX11_laws_52 ?_
            refine lv_goto (tgt := 57) hx hb dX11_laws_53 (by decide) ?_
            refine lv_ior hx hb dX11_laws_57 ?_
            refine lv_istore (lv' := [(4, .int (sm ||| ((nI 1) <<< ((nI k) &&& 31)))), (3, .int (nI (gRl q))), (2, .int (aRef q x)), (0, .ref (ad 200)), (1, .int x), (5, .int (nI k))]) hx hb dX11_laws_58 hl (by decide) rfl (fun ls hl => ?_)
            refine lv_iinc (v := nI (k + 1)) (lv' := [(5, .int (nI (k + 1))), (4, .int (sm ||| ((nI 1) <<< ((nI k) &&& 31)))), (3, .int (nI (gRl q))), (2, .int (aRef q x)), (0, .ref (ad 200)), (1, .int x)]) hx hb dX11_laws_60 hl (k := 5) rfl (m_inc k 1) (by decide) rfl (fun ls hl => ?_)
            refine lv_goto (tgt := 23) hx hb dX11_laws_63 (by decide) ?_
            exact ih_23  (sm ||| ((nI 1) <<< ((nI k) &&& 31))) (k + 1) V_8 _ _ _ (by omega) (by have hk9 := (hK_11).r12 (nI (gRl q)); rw [eV_7, mU_mU] at hk9; exact hK1.trans hk9) (by exact bitOf_y (decide_eq_true c_12) hs) (by omega) hW (lv_sub hl [2, 3, 4, 5, 1, 0] rfl)
    exact loop_23 ((gTxs q).length - 0 + 1) (nI 0) 0 V _ _ _ (by omega) (by rw [mU_self V hZ.rl_]; exact MK.rfl V) (by rfl) (by omega) hW (lv_sub hl [2, 3, 4, 5, 1, 0] rfl)
  · skip
    refine lv_iload_n hx hb dX11_laws_10 rfl (lv_at hl 0 rfl) ?_
    exact m_iret S hr hlk hW dX11_laws_11 (by exact ⟨by rw [aLaws, if_neg c_4], MK.rfl V⟩)
set_option maxHeartbeats 4000000 in
set_option maxRecDepth 100000 in
theorem c_X11_ends (l : Launch) (G : mG) (ad : Nat → Nat) (sh : Nat → Option mSh) (V : mV) (q : Sg) (x y w : Int32) (hI : MI sh V q) : mM l yX11_ends wsX11_ends ({ frames := 6, cells := 0, slots := 0, locals := 146 } : Room) G ad sh V [.ref (ad 200), .int x, .int y, .int w] 0 0 (mPi ad sh (fun r V' => (aEnds q x y w) = r ∧ (MK V V'))) := by
  refine mM.of (cc := cX11_ends) (maxL := 6) (ret := (some .int)) (by decide) rfl (Nat.le_of_ble_eq_true rfl) ?_
  intro p e s m below meth c S hr hlk hnm hW ls hl
  obtain ⟨hx, hb, hml, hown, hts⟩ := id S
  have hl : lv_has ls 6 [(0, .ref (ad 200)), (1, .int x), (2, .int y), (3, .int w)] := hl
  have hS0 : True := trivial
  have hZ := hI.z
  have hne5 := hZ.ne5
  have hng6 := hZ.ng6
  have htn := hI.tn
  refine lv_aload_n hx hb dX11_ends_0 rfl (lv_at hl 0 rfl) ?_
  refine lv_iload_n hx hb dX11_ends_1 rfl (lv_at hl 1 rfl) ?_
  refine m_ci (m_rV S hW (c_X11_sheetWrong l G ad sh V q x hI) (cwV 1 hts (gCall [.methodLink RX11 256 yX11_sheetWrong, .instanceMethod yX11_sheetWrong, .selects RX11 yX11_sheetWrong yX11_sheetWrong, .initialized RX11] (List.forall_mem_cons.mpr ⟨(wa_39 _ (List.mem_of_getElem? (i := 16) (by decide +kernel))), (List.forall_mem_cons.mpr ⟨(wa_39 _ (List.mem_of_getElem? (i := 13) (by decide +kernel))), (List.forall_mem_cons.mpr ⟨(wa_39 _ (List.mem_of_getElem? (i := 14) (by decide +kernel))), (List.forall_mem_cons.mpr ⟨(wa_39 _ (List.mem_of_getElem? (i := 15) (by decide +kernel))), (List.forall_mem_cons.mpr ⟨(wa_1 _ (List.mem_of_getElem? (i := 5) (by decide +kernel))), (fun _ h => absurd h List.not_mem_nil)⟩)⟩)⟩)⟩)⟩)) rfl rfl rfl (by decide +kernel) ⟨Nat.le_of_ble_eq_true rfl, Nat.le_of_ble_eq_true rfl⟩) hZ.sp.1 kX11 rfl hl.1 rfl (Nat.le_of_ble_eq_true rfl) dX11_ends_2 ⟨Nat.le_of_ble_eq_true rfl, Nat.le_of_ble_eq_true rfl⟩) hW (fun r_3 V_1 H locs hp_2 hW => ?_)
  obtain ⟨rfl, eV_1⟩ := hp_2
  rw [eV_1] at hW
  refine lv_istore (lv' := [(4, .int (aRef q x)), (0, .ref (ad 200)), (1, .int x), (2, .int y), (3, .int w)]) hx hb dX11_ends_5 hl (by decide) rfl (fun ls hl => ?_)
  refine lv_iload hx hb dX11_ends_7 (lv_at hl 0 rfl) ?_
  refine m_if_eq (tgt := 15) hx hb dX11_ends_9 (by decide) (fun c_4 => ?_) (fun c_4 => ?_)
  · skip
    obtain ⟨nx, hlnx, hx0, hcx, hso, h3, hdb⟩ := aRef_ok c_4
    have hsl := hI.sl hlnx
    refine lv_iload_n hx hb dX11_ends_15 rfl (lv_at hl 4 rfl) ?_
    refine lv_iconst (v := nI 0) hx hb dX11_ends_16 (by decide) ?_
    refine lv_iconst (v := nI 2) hx hb dX11_ends_17 (by decide) ?_
    refine m_cip (m_rS S hW (c_X11_in l G ad sh V w 0 2 (by first | assumption | omega) (by first | assumption | omega)) (va_cwS 3 hts (gCall [.methodLink RX11 84 yX11_in, .static yX11_in, .initialized RX11] (List.forall_mem_cons.mpr ⟨(wa_12 _ (List.mem_of_getElem? (i := 16) (by decide +kernel))), (List.forall_mem_cons.mpr ⟨(wa_12 _ (List.mem_of_getElem? (i := 14) (by decide +kernel))), (List.forall_mem_cons.mpr ⟨(wa_12 _ (List.mem_of_getElem? (i := 15) (by decide +kernel))), (List.forall_mem_cons.mpr ⟨(wa_1 _ (List.mem_of_getElem? (i := 5) (by decide +kernel))), (fun _ h => absurd h List.not_mem_nil)⟩)⟩)⟩)⟩)) rfl rfl rfl (by decide +kernel) ⟨Nat.le_of_ble_eq_true rfl, Nat.le_of_ble_eq_true rfl⟩) rfl hl.1 rfl (Nat.le_of_ble_eq_true rfl) dX11_ends_18 ⟨Nat.le_of_ble_eq_true rfl, Nat.le_of_ble_eq_true rfl⟩) hW (fun r_6 H locs hp_5 hW => ?_)
    rcases hp_5 with ⟨rfl, w_7⟩ | ⟨rfl, w_8⟩
    · skip
      obtain ⟨nw, hnw, hwnw, hlnw⟩ := w_7.ex
      have hcw : w.toNatClampNeg = nw := by rw [hnw]; exact nI_clamp (by omega)
      refine m_if_ne (tgt := 27) hx hb dX11_ends_21 (by decide) (fun c_9 => ?_) (fun c_9 => ?_)
      · skip
        rcases (show nw = 0 ∨ nw = 1 ∨ nw = 2 by omega) with h0w | h0w | h0w
        · skip
          have hw0 : w = nI 0 := by rw [hnw, h0w]
          have hw2 : ¬ w = nI 2 := by rw [hw0]; decide
          refine lv_iload_n hx hb dX11_ends_27 rfl (lv_at hl 4 rfl) ?_
          refine m_top (y := nI 0) (by rw [hnw, h0w]) ?_
          refine lv_iconst (v := nI 2) hx hb dX11_ends_28 (by decide) ?_
          refine lv_icmp_ge (tgt := 43) hx hb dX11_ends_29 (by decide) (fun c_10 => ?_) (fun c_10 => ?_)
          · exact absurd c_10 (by decide)
          · skip
            refine lv_aload_n hx hb dX11_ends_32 rfl (lv_at hl 1 rfl) ?_
            refine lv_iload_n hx hb dX11_ends_33 rfl (lv_at hl 3 rfl) ?_
            refine m_cip (m_rV S hW (c_X11_isEater l G ad sh V (gZ q) (gNe q) (gNg q) (gRl q) (gT q (gRl q)) y hZ) (cwV 1 hts (gCall [.methodLink RX11 179 yX11_isEater, .instanceMethod yX11_isEater, .selects RX11 yX11_isEater yX11_isEater, .initialized RX11] (List.forall_mem_cons.mpr ⟨(wa_19 _ (List.mem_of_getElem? (i := 3) (by decide +kernel))), (List.forall_mem_cons.mpr ⟨(wa_19 _ (List.mem_of_getElem? (i := 0) (by decide +kernel))), (List.forall_mem_cons.mpr ⟨(wa_19 _ (List.mem_of_getElem? (i := 1) (by decide +kernel))), (List.forall_mem_cons.mpr ⟨(wa_19 _ (List.mem_of_getElem? (i := 2) (by decide +kernel))), (List.forall_mem_cons.mpr ⟨(wa_1 _ (List.mem_of_getElem? (i := 5) (by decide +kernel))), (fun _ h => absurd h List.not_mem_nil)⟩)⟩)⟩)⟩)⟩)) rfl rfl rfl (by decide +kernel) ⟨Nat.le_of_ble_eq_true rfl, Nat.le_of_ble_eq_true rfl⟩) hZ.sp.1 kX11 rfl hl.1 rfl (Nat.le_of_ble_eq_true rfl) dX11_ends_34 ⟨Nat.le_of_ble_eq_true rfl, Nat.le_of_ble_eq_true rfl⟩) hW (fun r_12 H locs hp_11 hW => ?_)
            rcases hp_11 with ⟨rfl, w_13⟩ | ⟨rfl, w_14⟩
            · skip
              obtain ⟨ny, hny, hwny, hlny⟩ := w_13.ex
              have hcy : y.toNatClampNeg = ny := by rw [hny]; exact nI_clamp (by omega)
              refine m_if_ne (tgt := 54) hx hb dX11_ends_37 (by decide) (fun c_15 => ?_) (fun c_15 => ?_)
              · skip
                refine lv_aload_n hx hb dX11_ends_54 rfl (lv_at hl 1 rfl) ?_
                refine m_cv (m_rV S hW (c_X11_keeps l G ad sh V hZ.sp) (cwV 0 hts (gCall [.methodLink RX11 222 yX11_keeps, .instanceMethod yX11_keeps, .selects RX11 yX11_keeps yX11_keeps, .initialized RX11] (List.forall_mem_cons.mpr ⟨(wa_32 _ (List.mem_of_getElem? (i := 17) (by decide +kernel))), (List.forall_mem_cons.mpr ⟨(wa_32 _ (List.mem_of_getElem? (i := 14) (by decide +kernel))), (List.forall_mem_cons.mpr ⟨(wa_32 _ (List.mem_of_getElem? (i := 15) (by decide +kernel))), (List.forall_mem_cons.mpr ⟨(wa_32 _ (List.mem_of_getElem? (i := 16) (by decide +kernel))), (List.forall_mem_cons.mpr ⟨(wa_1 _ (List.mem_of_getElem? (i := 5) (by decide +kernel))), (fun _ h => absurd h List.not_mem_nil)⟩)⟩)⟩)⟩)⟩)) rfl rfl rfl (by decide +kernel) ⟨Nat.le_of_ble_eq_true rfl, Nat.le_of_ble_eq_true rfl⟩) hZ.sp.1 kX11 rfl hl.1 rfl (Nat.le_of_ble_eq_true rfl) dX11_ends_55 ⟨Nat.le_of_ble_eq_true rfl, Nat.le_of_ble_eq_true rfl⟩) hW (fun V_16 H locs hp_17 hW => ?_)
                have hk_19 := hp_17
                refine lv_aload_n hx hb dX11_ends_58 rfl (lv_at hl 1 rfl) ?_
                refine lv_iload_n hx hb dX11_ends_59 rfl (lv_at hl 2 rfl) ?_
                refine m_top (y := nI nx) hx0 ?_
                refine m_ci (m_rV S hW (c_X11_bitesBy l G ad sh V_16 (gZ q) (gNe q) (gNg q) (gRl q) (gT q (gRl q)) (gCl q nx) nx (gSz q nx) (hZ.k ⟨fun a _ _ _ a9 _ => hk_19.1 a a9, fun k _ => by rw [hk_19.1 201 (by decide)], fun k _ => by rw [hk_19.1 204 (by decide)], fun k _ _ _ => by rw [hk_19.1 200 (by decide)]⟩) hlnx ((congrFun (hk_19.1 212 (by decide)) _).trans (hI.ss hlnx)) hsl (fun k hk => (congrFun (hk_19.1 213 (by decide)) _).trans (hI.sc hlnx hk)) (fDayB_day hdb)) (cwV 1 hts (gCall [.methodLink RX11 253 yX11_bitesBy, .instanceMethod yX11_bitesBy, .selects RX11 yX11_bitesBy yX11_bitesBy, .initialized RX11] (List.forall_mem_cons.mpr ⟨(wa_40 _ (List.mem_of_getElem? (i := 0) (by decide +kernel))), (List.forall_mem_cons.mpr ⟨(wa_39 _ (List.mem_of_getElem? (i := 21) (by decide +kernel))), (List.forall_mem_cons.mpr ⟨(wa_39 _ (List.mem_of_getElem? (i := 22) (by decide +kernel))), (List.forall_mem_cons.mpr ⟨(wa_39 _ (List.mem_of_getElem? (i := 23) (by decide +kernel))), (List.forall_mem_cons.mpr ⟨(wa_1 _ (List.mem_of_getElem? (i := 5) (by decide +kernel))), (fun _ h => absurd h List.not_mem_nil)⟩)⟩)⟩)⟩)⟩)) rfl rfl rfl (by decide +kernel) ⟨Nat.le_of_ble_eq_true rfl, Nat.le_of_ble_eq_true rfl⟩) hZ.sp.1 kX11 rfl hl.1 rfl (Nat.le_of_ble_eq_true rfl) dX11_ends_60 ⟨Nat.le_of_ble_eq_true rfl, Nat.le_of_ble_eq_true rfl⟩) hW (fun r_22 V_20 H locs hp_21 hW => ?_)
                obtain ⟨rfl, hZ_23, hB_24⟩ := hp_21
                refine lv_pop hx hb dX11_ends_63 rfl ?_
                refine lv_iload_n hx hb dX11_ends_64 rfl (lv_at hl 4 rfl) ?_
                refine m_top (y := nI 0) (by rw [hnw, h0w]) ?_
                refine m_if_ne (tgt := 86) hx hb dX11_ends_65 (by decide) (fun c_25 => ?_) (fun c_25 => ?_)
                · exact absurd c_25 (by decide)
                · skip
                  refine lv_aload_n hx hb dX11_ends_68 rfl (lv_at hl 1 rfl) ?_
                  refine m_getr S hW hZ.sp.1 5 rfl (j := 204) rfl kX11 (iW11 _) (by decide) (List.mem_cons_of_mem _ (wa_11 _ (List.mem_of_getElem? (i := 5) (by decide +kernel)))) dX11_ends_69 ?_
                  refine lv_iconst (v := nI 3) hx hb dX11_ends_72 (by decide) ?_
                  refine lv_iload_n hx hb dX11_ends_73 rfl (lv_at hl 3 rfl) ?_
                  refine m_top (y := nI ny) hny ?_
                  refine lv_iconst (v := nI 0) hx hb dX11_ends_74 (by decide) ?_
                  refine lv_iconst (v := nI 4) hx hb dX11_ends_75 (by decide) ?_
                  refine m_cie (m_rS S hW (c_X11_within_n l G ad sh V_20 ny 4 (by omega) (by first | assumption | omega)) (va_cwS 3 hts (gCall [.methodLink RX11 176 yX11_within, .static yX11_within, .initialized RX11] (List.forall_mem_cons.mpr ⟨(wa_20 _ (List.mem_of_getElem? (i := 8) (by decide +kernel))), (List.forall_mem_cons.mpr ⟨(wa_20 _ (List.mem_of_getElem? (i := 6) (by decide +kernel))), (List.forall_mem_cons.mpr ⟨(wa_20 _ (List.mem_of_getElem? (i := 7) (by decide +kernel))), (List.forall_mem_cons.mpr ⟨(wa_1 _ (List.mem_of_getElem? (i := 5) (by decide +kernel))), (fun _ h => absurd h List.not_mem_nil)⟩)⟩)⟩)⟩)) rfl rfl rfl (by decide +kernel) ⟨Nat.le_of_ble_eq_true rfl, Nat.le_of_ble_eq_true rfl⟩) rfl hl.1 rfl (Nat.le_of_ble_eq_true rfl) dX11_ends_76 ⟨Nat.le_of_ble_eq_true rfl, Nat.le_of_ble_eq_true rfl⟩) hW (fun H locs hW => ?_)
                  refine lv_imul hx hb dX11_ends_79 ?_
                  refine m_top (y := nI (3 * ny)) (pk_mul 3 ny) ?_
                  refine lv_iconst (v := nI 2) hx hb dX11_ends_80 (by decide) ?_
                  refine lv_iadd hx hb dX11_ends_81 ?_
                  refine m_top (y := nI ((3 * ny) + 2)) (nI_add (3 * ny) 2) ?_
                  refine m_iald S hW hZ.sp.2.2.2.2.1 ((3 * ny) + 2) rfl (by omega) (by decide) dX11_ends_82 ?_
                  refine m_top (y := ((zTold q (gAsk q) nx).1 (4 + ny) 4)) ((show MZ sh V_20 (zTold q (gAsk q) nx).1 _ _ _ _ from hZ_23).rHa hlny) ?_
                  refine lv_goto (tgt := 114) hx hb dX11_ends_83 (by decide) ?_
                  refine lv_istore (lv' := [(5, .int ((zTold q (gAsk q) nx).1 (4 + ny) 4)), (4, .int (aRef q x)), (0, .ref (ad 200)), (1, .int x), (2, .int y), (3, .int w)]) hx hb dX11_ends_114 hl (by decide) rfl (fun ls hl => ?_)
                  refine lv_aload_n hx hb dX11_ends_116 rfl (lv_at hl 2 rfl) ?_
                  refine m_cv (m_rV S hW (c_X11_laysBack l G ad sh V_20 hZ.sp) (cwV 0 hts (gCall [.methodLink RX11 225 yX11_laysBack, .instanceMethod yX11_laysBack, .selects RX11 yX11_laysBack yX11_laysBack, .initialized RX11] (List.forall_mem_cons.mpr ⟨(wa_32 _ (List.mem_of_getElem? (i := 21) (by decide +kernel))), (List.forall_mem_cons.mpr ⟨(wa_32 _ (List.mem_of_getElem? (i := 18) (by decide +kernel))), (List.forall_mem_cons.mpr ⟨(wa_32 _ (List.mem_of_getElem? (i := 19) (by decide +kernel))), (List.forall_mem_cons.mpr ⟨(wa_32 _ (List.mem_of_getElem? (i := 20) (by decide +kernel))), (List.forall_mem_cons.mpr ⟨(wa_1 _ (List.mem_of_getElem? (i := 5) (by decide +kernel))), (fun _ h => absurd h List.not_mem_nil)⟩)⟩)⟩)⟩)⟩)) rfl rfl rfl (by decide +kernel) ⟨Nat.le_of_ble_eq_true rfl, Nat.le_of_ble_eq_true rfl⟩) hZ.sp.1 kX11 rfl hl.1 rfl (Nat.le_of_ble_eq_true rfl) dX11_ends_117 ⟨Nat.le_of_ble_eq_true rfl, Nat.le_of_ble_eq_true rfl⟩) hW (fun V_26 H locs hp_27 hW => ?_)
                  have hl9_29 := hp_27
                  refine lv_iload hx hb dX11_ends_120 (lv_at hl 0 rfl) ?_
                  exact m_iret S hr hlk hW dX11_ends_122 (by exact ⟨by simp only [aEnds, if_pos c_4, hcx, if_pos w_7, if_neg hw2, if_pos hw0, if_pos w_13, hcy]; try rfl, MK.back hk_19 hB_24 hl9_29⟩)
              · exact absurd c_15 (by decide)
            · skip
              refine m_if_ne (tgt := 54) hx hb dX11_ends_37 (by decide) (fun c_30 => ?_) (fun c_30 => ?_)
              · exact absurd c_30 (by decide)
              · skip
                refine lv_goto (tgt := 51) hx hb dX11_ends_40 (by decide) ?_
                refine lv_bipush (v := -5) hx hb dX11_ends_51 (by decide) ?_
                exact m_iret S hr hlk hW dX11_ends_53 (by exact ⟨by simp only [aEnds, if_pos c_4, hcx, if_pos w_7, if_neg hw2, if_pos hw0, if_neg w_14]; try rfl, MK.rfl V⟩)
        · skip
          have hw0 : w = nI 1 := by rw [hnw, h0w]
          have hw2 : ¬ w = nI 2 := by rw [hw0]; decide
          have hw10 : ¬ w = nI 0 := by rw [hw0]; decide
          refine lv_iload_n hx hb dX11_ends_27 rfl (lv_at hl 4 rfl) ?_
          refine m_top (y := nI 1) (by rw [hnw, h0w]) ?_
          refine lv_iconst (v := nI 2) hx hb dX11_ends_28 (by decide) ?_
          refine lv_icmp_ge (tgt := 43) hx hb dX11_ends_29 (by decide) (fun c_31 => ?_) (fun c_31 => ?_)
          · exact absurd c_31 (by decide)
          · skip
            refine lv_aload_n hx hb dX11_ends_32 rfl (lv_at hl 1 rfl) ?_
            refine lv_iload_n hx hb dX11_ends_33 rfl (lv_at hl 3 rfl) ?_
            refine m_cip (m_rV S hW (c_X11_isEater l G ad sh V (gZ q) (gNe q) (gNg q) (gRl q) (gT q (gRl q)) y hZ) (cwV 1 hts (gCall [.methodLink RX11 179 yX11_isEater, .instanceMethod yX11_isEater, .selects RX11 yX11_isEater yX11_isEater, .initialized RX11] (List.forall_mem_cons.mpr ⟨(wa_19 _ (List.mem_of_getElem? (i := 3) (by decide +kernel))), (List.forall_mem_cons.mpr ⟨(wa_19 _ (List.mem_of_getElem? (i := 0) (by decide +kernel))), (List.forall_mem_cons.mpr ⟨(wa_19 _ (List.mem_of_getElem? (i := 1) (by decide +kernel))), (List.forall_mem_cons.mpr ⟨(wa_19 _ (List.mem_of_getElem? (i := 2) (by decide +kernel))), (List.forall_mem_cons.mpr ⟨(wa_1 _ (List.mem_of_getElem? (i := 5) (by decide +kernel))), (fun _ h => absurd h List.not_mem_nil)⟩)⟩)⟩)⟩)⟩)) rfl rfl rfl (by decide +kernel) ⟨Nat.le_of_ble_eq_true rfl, Nat.le_of_ble_eq_true rfl⟩) hZ.sp.1 kX11 rfl hl.1 rfl (Nat.le_of_ble_eq_true rfl) dX11_ends_34 ⟨Nat.le_of_ble_eq_true rfl, Nat.le_of_ble_eq_true rfl⟩) hW (fun r_33 H locs hp_32 hW => ?_)
            rcases hp_32 with ⟨rfl, w_34⟩ | ⟨rfl, w_35⟩
            · skip
              obtain ⟨ny, hny, hwny, hlny⟩ := w_34.ex
              have hcy : y.toNatClampNeg = ny := by rw [hny]; exact nI_clamp (by omega)
              refine m_if_ne (tgt := 54) hx hb dX11_ends_37 (by decide) (fun c_36 => ?_) (fun c_36 => ?_)
              · skip
                refine lv_aload_n hx hb dX11_ends_54 rfl (lv_at hl 1 rfl) ?_
                refine m_cv (m_rV S hW (c_X11_keeps l G ad sh V hZ.sp) (cwV 0 hts (gCall [.methodLink RX11 222 yX11_keeps, .instanceMethod yX11_keeps, .selects RX11 yX11_keeps yX11_keeps, .initialized RX11] (List.forall_mem_cons.mpr ⟨(wa_32 _ (List.mem_of_getElem? (i := 17) (by decide +kernel))), (List.forall_mem_cons.mpr ⟨(wa_32 _ (List.mem_of_getElem? (i := 14) (by decide +kernel))), (List.forall_mem_cons.mpr ⟨(wa_32 _ (List.mem_of_getElem? (i := 15) (by decide +kernel))), (List.forall_mem_cons.mpr ⟨(wa_32 _ (List.mem_of_getElem? (i := 16) (by decide +kernel))), (List.forall_mem_cons.mpr ⟨(wa_1 _ (List.mem_of_getElem? (i := 5) (by decide +kernel))), (fun _ h => absurd h List.not_mem_nil)⟩)⟩)⟩)⟩)⟩)) rfl rfl rfl (by decide +kernel) ⟨Nat.le_of_ble_eq_true rfl, Nat.le_of_ble_eq_true rfl⟩) hZ.sp.1 kX11 rfl hl.1 rfl (Nat.le_of_ble_eq_true rfl) dX11_ends_55 ⟨Nat.le_of_ble_eq_true rfl, Nat.le_of_ble_eq_true rfl⟩) hW (fun V_37 H locs hp_38 hW => ?_)
                have hk_40 := hp_38
                refine lv_aload_n hx hb dX11_ends_58 rfl (lv_at hl 1 rfl) ?_
                refine lv_iload_n hx hb dX11_ends_59 rfl (lv_at hl 2 rfl) ?_
                refine m_top (y := nI nx) hx0 ?_
                refine m_ci (m_rV S hW (c_X11_bitesBy l G ad sh V_37 (gZ q) (gNe q) (gNg q) (gRl q) (gT q (gRl q)) (gCl q nx) nx (gSz q nx) (hZ.k ⟨fun a _ _ _ a9 _ => hk_40.1 a a9, fun k _ => by rw [hk_40.1 201 (by decide)], fun k _ => by rw [hk_40.1 204 (by decide)], fun k _ _ _ => by rw [hk_40.1 200 (by decide)]⟩) hlnx ((congrFun (hk_40.1 212 (by decide)) _).trans (hI.ss hlnx)) hsl (fun k hk => (congrFun (hk_40.1 213 (by decide)) _).trans (hI.sc hlnx hk)) (fDayB_day hdb)) (cwV 1 hts (gCall [.methodLink RX11 253 yX11_bitesBy, .instanceMethod yX11_bitesBy, .selects RX11 yX11_bitesBy yX11_bitesBy, .initialized RX11] (List.forall_mem_cons.mpr ⟨(wa_40 _ (List.mem_of_getElem? (i := 0) (by decide +kernel))), (List.forall_mem_cons.mpr ⟨(wa_39 _ (List.mem_of_getElem? (i := 21) (by decide +kernel))), (List.forall_mem_cons.mpr ⟨(wa_39 _ (List.mem_of_getElem? (i := 22) (by decide +kernel))), (List.forall_mem_cons.mpr ⟨(wa_39 _ (List.mem_of_getElem? (i := 23) (by decide +kernel))), (List.forall_mem_cons.mpr ⟨(wa_1 _ (List.mem_of_getElem? (i := 5) (by decide +kernel))), (fun _ h => absurd h List.not_mem_nil)⟩)⟩)⟩)⟩)⟩)) rfl rfl rfl (by decide +kernel) ⟨Nat.le_of_ble_eq_true rfl, Nat.le_of_ble_eq_true rfl⟩) hZ.sp.1 kX11 rfl hl.1 rfl (Nat.le_of_ble_eq_true rfl) dX11_ends_60 ⟨Nat.le_of_ble_eq_true rfl, Nat.le_of_ble_eq_true rfl⟩) hW (fun r_43 V_41 H locs hp_42 hW => ?_)
                obtain ⟨rfl, hZ_44, hB_45⟩ := hp_42
                refine lv_pop hx hb dX11_ends_63 rfl ?_
                refine lv_iload_n hx hb dX11_ends_64 rfl (lv_at hl 4 rfl) ?_
                refine m_top (y := nI 1) (by rw [hnw, h0w]) ?_
                refine m_if_ne (tgt := 86) hx hb dX11_ends_65 (by decide) (fun c_46 => ?_) (fun c_46 => ?_)
                · skip
                  refine lv_iload_n hx hb dX11_ends_86 rfl (lv_at hl 4 rfl) ?_
                  refine m_top (y := nI 1) (by rw [hnw, h0w]) ?_
                  refine lv_iconst (v := nI 1) hx hb dX11_ends_87 (by decide) ?_
                  refine lv_icmp_ne (tgt := 109) hx hb dX11_ends_88 (by decide) (fun c_47 => ?_) (fun c_47 => ?_)
                  · exact absurd c_47 (by decide)
                  · skip
                    refine lv_aload_n hx hb dX11_ends_91 rfl (lv_at hl 1 rfl) ?_
                    refine m_getr S hW hZ.sp.1 5 rfl (j := 204) rfl kX11 (iW11 _) (by decide) (List.mem_cons_of_mem _ (wa_11 _ (List.mem_of_getElem? (i := 5) (by decide +kernel)))) dX11_ends_92 ?_
                    refine lv_iconst (v := nI 3) hx hb dX11_ends_95 (by decide) ?_
                    refine lv_iload_n hx hb dX11_ends_96 rfl (lv_at hl 3 rfl) ?_
                    refine m_top (y := nI ny) hny ?_
                    refine lv_iconst (v := nI 0) hx hb dX11_ends_97 (by decide) ?_
                    refine lv_iconst (v := nI 4) hx hb dX11_ends_98 (by decide) ?_
                    refine m_cie (m_rS S hW (c_X11_within_n l G ad sh V_41 ny 4 (by omega) (by first | assumption | omega)) (va_cwS 3 hts (gCall [.methodLink RX11 176 yX11_within, .static yX11_within, .initialized RX11] (List.forall_mem_cons.mpr ⟨(wa_20 _ (List.mem_of_getElem? (i := 8) (by decide +kernel))), (List.forall_mem_cons.mpr ⟨(wa_20 _ (List.mem_of_getElem? (i := 6) (by decide +kernel))), (List.forall_mem_cons.mpr ⟨(wa_20 _ (List.mem_of_getElem? (i := 7) (by decide +kernel))), (List.forall_mem_cons.mpr ⟨(wa_1 _ (List.mem_of_getElem? (i := 5) (by decide +kernel))), (fun _ h => absurd h List.not_mem_nil)⟩)⟩)⟩)⟩)) rfl rfl rfl (by decide +kernel) ⟨Nat.le_of_ble_eq_true rfl, Nat.le_of_ble_eq_true rfl⟩) rfl hl.1 rfl (Nat.le_of_ble_eq_true rfl) dX11_ends_99 ⟨Nat.le_of_ble_eq_true rfl, Nat.le_of_ble_eq_true rfl⟩) hW (fun H locs hW => ?_)
                    refine lv_imul hx hb dX11_ends_102 ?_
                    refine m_top (y := nI (3 * ny)) (pk_mul 3 ny) ?_
                    refine lv_iconst (v := nI 1) hx hb dX11_ends_103 (by decide) ?_
                    refine lv_iadd hx hb dX11_ends_104 ?_
                    refine m_top (y := nI ((3 * ny) + 1)) (nI_add (3 * ny) 1) ?_
                    refine m_iald S hW hZ.sp.2.2.2.2.1 ((3 * ny) + 1) rfl (by omega) (by decide) dX11_ends_105 ?_
                    refine m_top (y := ((zTold q (gAsk q) nx).1 (4 + ny) 3)) ((show MZ sh V_41 (zTold q (gAsk q) nx).1 _ _ _ _ from hZ_44).rPu hlny) ?_
                    refine lv_goto (tgt := 114) hx hb dX11_ends_106 (by decide) ?_
                    refine lv_istore (lv' := [(5, .int ((zTold q (gAsk q) nx).1 (4 + ny) 3)), (4, .int (aRef q x)), (0, .ref (ad 200)), (1, .int x), (2, .int y), (3, .int w)]) hx hb dX11_ends_114 hl (by decide) rfl (fun ls hl => ?_)
                    refine lv_aload_n hx hb dX11_ends_116 rfl (lv_at hl 2 rfl) ?_
                    refine m_cv (m_rV S hW (c_X11_laysBack l G ad sh V_41 hZ.sp) (cwV 0 hts (gCall [.methodLink RX11 225 yX11_laysBack, .instanceMethod yX11_laysBack, .selects RX11 yX11_laysBack yX11_laysBack, .initialized RX11] (List.forall_mem_cons.mpr ⟨(wa_32 _ (List.mem_of_getElem? (i := 21) (by decide +kernel))), (List.forall_mem_cons.mpr ⟨(wa_32 _ (List.mem_of_getElem? (i := 18) (by decide +kernel))), (List.forall_mem_cons.mpr ⟨(wa_32 _ (List.mem_of_getElem? (i := 19) (by decide +kernel))), (List.forall_mem_cons.mpr ⟨(wa_32 _ (List.mem_of_getElem? (i := 20) (by decide +kernel))), (List.forall_mem_cons.mpr ⟨(wa_1 _ (List.mem_of_getElem? (i := 5) (by decide +kernel))), (fun _ h => absurd h List.not_mem_nil)⟩)⟩)⟩)⟩)⟩)) rfl rfl rfl (by decide +kernel) ⟨Nat.le_of_ble_eq_true rfl, Nat.le_of_ble_eq_true rfl⟩) hZ.sp.1 kX11 rfl hl.1 rfl (Nat.le_of_ble_eq_true rfl) dX11_ends_117 ⟨Nat.le_of_ble_eq_true rfl, Nat.le_of_ble_eq_true rfl⟩) hW (fun V_48 H locs hp_49 hW => ?_)
                    have hl9_51 := hp_49
                    refine lv_iload hx hb dX11_ends_120 (lv_at hl 0 rfl) ?_
                    exact m_iret S hr hlk hW dX11_ends_122 (by exact ⟨by simp only [aEnds, if_pos c_4, hcx, if_pos w_7, if_neg hw2, if_neg hw10, if_pos w_34, hcy]; try rfl, MK.back hk_40 hB_45 hl9_51⟩)
                · exact absurd c_46 (by decide)
              · exact absurd c_36 (by decide)
            · skip
              refine m_if_ne (tgt := 54) hx hb dX11_ends_37 (by decide) (fun c_52 => ?_) (fun c_52 => ?_)
              · exact absurd c_52 (by decide)
              · skip
                refine lv_goto (tgt := 51) hx hb dX11_ends_40 (by decide) ?_
                refine lv_bipush (v := -5) hx hb dX11_ends_51 (by decide) ?_
                exact m_iret S hr hlk hW dX11_ends_53 (by exact ⟨by simp only [aEnds, if_pos c_4, hcx, if_pos w_7, if_neg hw2, if_neg hw10, if_neg w_35]; try rfl, MK.rfl V⟩)
        · skip
          have hw0 : w = nI 2 := by rw [hnw, h0w]
          refine lv_iload_n hx hb dX11_ends_27 rfl (lv_at hl 4 rfl) ?_
          refine m_top (y := nI 2) (by rw [hnw, h0w]) ?_
          refine lv_iconst (v := nI 2) hx hb dX11_ends_28 (by decide) ?_
          refine lv_icmp_ge (tgt := 43) hx hb dX11_ends_29 (by decide) (fun c_53 => ?_) (fun c_53 => ?_)
          · skip
            refine lv_aload_n hx hb dX11_ends_43 rfl (lv_at hl 1 rfl) ?_
            refine lv_iload_n hx hb dX11_ends_44 rfl (lv_at hl 3 rfl) ?_
            refine m_cip (m_rV S hW (c_X11_isGood l G ad sh V (gZ q) (gNe q) (gNg q) (gRl q) (gT q (gRl q)) y hZ) (cwV 1 hts (gCall [.methodLink RX11 182 yX11_isGood, .instanceMethod yX11_isGood, .selects RX11 yX11_isGood yX11_isGood, .initialized RX11] (List.forall_mem_cons.mpr ⟨(wa_19 _ (List.mem_of_getElem? (i := 7) (by decide +kernel))), (List.forall_mem_cons.mpr ⟨(wa_19 _ (List.mem_of_getElem? (i := 4) (by decide +kernel))), (List.forall_mem_cons.mpr ⟨(wa_19 _ (List.mem_of_getElem? (i := 5) (by decide +kernel))), (List.forall_mem_cons.mpr ⟨(wa_19 _ (List.mem_of_getElem? (i := 6) (by decide +kernel))), (List.forall_mem_cons.mpr ⟨(wa_1 _ (List.mem_of_getElem? (i := 5) (by decide +kernel))), (fun _ h => absurd h List.not_mem_nil)⟩)⟩)⟩)⟩)⟩)) rfl rfl rfl (by decide +kernel) ⟨Nat.le_of_ble_eq_true rfl, Nat.le_of_ble_eq_true rfl⟩) hZ.sp.1 kX11 rfl hl.1 rfl (Nat.le_of_ble_eq_true rfl) dX11_ends_45 ⟨Nat.le_of_ble_eq_true rfl, Nat.le_of_ble_eq_true rfl⟩) hW (fun r_55 H locs hp_54 hW => ?_)
            rcases hp_54 with ⟨rfl, w_56⟩ | ⟨rfl, w_57⟩
            · skip
              obtain ⟨ny, hny, hwny, hlny⟩ := w_56.ex
              have hcy : y.toNatClampNeg = ny := by rw [hny]; exact nI_clamp (by omega)
              refine m_if_ne (tgt := 54) hx hb dX11_ends_48 (by decide) (fun c_58 => ?_) (fun c_58 => ?_)
              · skip
                refine lv_aload_n hx hb dX11_ends_54 rfl (lv_at hl 1 rfl) ?_
                refine m_cv (m_rV S hW (c_X11_keeps l G ad sh V hZ.sp) (cwV 0 hts (gCall [.methodLink RX11 222 yX11_keeps, .instanceMethod yX11_keeps, .selects RX11 yX11_keeps yX11_keeps, .initialized RX11] (List.forall_mem_cons.mpr ⟨(wa_32 _ (List.mem_of_getElem? (i := 17) (by decide +kernel))), (List.forall_mem_cons.mpr ⟨(wa_32 _ (List.mem_of_getElem? (i := 14) (by decide +kernel))), (List.forall_mem_cons.mpr ⟨(wa_32 _ (List.mem_of_getElem? (i := 15) (by decide +kernel))), (List.forall_mem_cons.mpr ⟨(wa_32 _ (List.mem_of_getElem? (i := 16) (by decide +kernel))), (List.forall_mem_cons.mpr ⟨(wa_1 _ (List.mem_of_getElem? (i := 5) (by decide +kernel))), (fun _ h => absurd h List.not_mem_nil)⟩)⟩)⟩)⟩)⟩)) rfl rfl rfl (by decide +kernel) ⟨Nat.le_of_ble_eq_true rfl, Nat.le_of_ble_eq_true rfl⟩) hZ.sp.1 kX11 rfl hl.1 rfl (Nat.le_of_ble_eq_true rfl) dX11_ends_55 ⟨Nat.le_of_ble_eq_true rfl, Nat.le_of_ble_eq_true rfl⟩) hW (fun V_59 H locs hp_60 hW => ?_)
                have hk_62 := hp_60
                refine lv_aload_n hx hb dX11_ends_58 rfl (lv_at hl 1 rfl) ?_
                refine lv_iload_n hx hb dX11_ends_59 rfl (lv_at hl 2 rfl) ?_
                refine m_top (y := nI nx) hx0 ?_
                refine m_ci (m_rV S hW (c_X11_bitesBy l G ad sh V_59 (gZ q) (gNe q) (gNg q) (gRl q) (gT q (gRl q)) (gCl q nx) nx (gSz q nx) (hZ.k ⟨fun a _ _ _ a9 _ => hk_62.1 a a9, fun k _ => by rw [hk_62.1 201 (by decide)], fun k _ => by rw [hk_62.1 204 (by decide)], fun k _ _ _ => by rw [hk_62.1 200 (by decide)]⟩) hlnx ((congrFun (hk_62.1 212 (by decide)) _).trans (hI.ss hlnx)) hsl (fun k hk => (congrFun (hk_62.1 213 (by decide)) _).trans (hI.sc hlnx hk)) (fDayB_day hdb)) (cwV 1 hts (gCall [.methodLink RX11 253 yX11_bitesBy, .instanceMethod yX11_bitesBy, .selects RX11 yX11_bitesBy yX11_bitesBy, .initialized RX11] (List.forall_mem_cons.mpr ⟨(wa_40 _ (List.mem_of_getElem? (i := 0) (by decide +kernel))), (List.forall_mem_cons.mpr ⟨(wa_39 _ (List.mem_of_getElem? (i := 21) (by decide +kernel))), (List.forall_mem_cons.mpr ⟨(wa_39 _ (List.mem_of_getElem? (i := 22) (by decide +kernel))), (List.forall_mem_cons.mpr ⟨(wa_39 _ (List.mem_of_getElem? (i := 23) (by decide +kernel))), (List.forall_mem_cons.mpr ⟨(wa_1 _ (List.mem_of_getElem? (i := 5) (by decide +kernel))), (fun _ h => absurd h List.not_mem_nil)⟩)⟩)⟩)⟩)⟩)) rfl rfl rfl (by decide +kernel) ⟨Nat.le_of_ble_eq_true rfl, Nat.le_of_ble_eq_true rfl⟩) hZ.sp.1 kX11 rfl hl.1 rfl (Nat.le_of_ble_eq_true rfl) dX11_ends_60 ⟨Nat.le_of_ble_eq_true rfl, Nat.le_of_ble_eq_true rfl⟩) hW (fun r_65 V_63 H locs hp_64 hW => ?_)
                obtain ⟨rfl, hZ_66, hB_67⟩ := hp_64
                refine lv_pop hx hb dX11_ends_63 rfl ?_
                refine lv_iload_n hx hb dX11_ends_64 rfl (lv_at hl 4 rfl) ?_
                refine m_top (y := nI 2) (by rw [hnw, h0w]) ?_
                refine m_if_ne (tgt := 86) hx hb dX11_ends_65 (by decide) (fun c_68 => ?_) (fun c_68 => ?_)
                · skip
                  refine lv_iload_n hx hb dX11_ends_86 rfl (lv_at hl 4 rfl) ?_
                  refine m_top (y := nI 2) (by rw [hnw, h0w]) ?_
                  refine lv_iconst (v := nI 1) hx hb dX11_ends_87 (by decide) ?_
                  refine lv_icmp_ne (tgt := 109) hx hb dX11_ends_88 (by decide) (fun c_69 => ?_) (fun c_69 => ?_)
                  · skip
                    refine lv_aload_n hx hb dX11_ends_109 rfl (lv_at hl 1 rfl) ?_
                    refine lv_iload_n hx hb dX11_ends_110 rfl (lv_at hl 3 rfl) ?_
                    refine m_top (y := nI ny) hny ?_
                    refine m_cie (m_rV S hW (c_X11_leftOf l G ad sh V_63 ny (zn (zTold q (gAsk q) nx).1 (10 + 2 * ny) 2) ((show MZ sh V_63 (zTold q (gAsk q) nx).1 _ _ _ _ from hZ_66).sp.1) ((show MZ sh V_63 (zTold q (gAsk q) nx).1 _ _ _ _ from hZ_66).sp.2.1) ((show MZ sh V_63 (zTold q (gAsk q) nx).1 _ _ _ _ from hZ_66).rLe (by first | assumption | omega)) (by omega)) (cwV 1 hts (gCall [.methodLink RX11 167 yX11_leftOf, .instanceMethod yX11_leftOf, .selects RX11 yX11_leftOf yX11_leftOf, .initialized RX11] (List.forall_mem_cons.mpr ⟨(wa_19 _ (List.mem_of_getElem? (i := 19) (by decide +kernel))), (List.forall_mem_cons.mpr ⟨(wa_19 _ (List.mem_of_getElem? (i := 16) (by decide +kernel))), (List.forall_mem_cons.mpr ⟨(wa_19 _ (List.mem_of_getElem? (i := 17) (by decide +kernel))), (List.forall_mem_cons.mpr ⟨(wa_19 _ (List.mem_of_getElem? (i := 18) (by decide +kernel))), (List.forall_mem_cons.mpr ⟨(wa_1 _ (List.mem_of_getElem? (i := 5) (by decide +kernel))), (fun _ h => absurd h List.not_mem_nil)⟩)⟩)⟩)⟩)⟩)) rfl rfl rfl (by decide +kernel) ⟨Nat.le_of_ble_eq_true rfl, Nat.le_of_ble_eq_true rfl⟩) hZ.sp.1 kX11 rfl hl.1 rfl (Nat.le_of_ble_eq_true rfl) dX11_ends_111 ⟨Nat.le_of_ble_eq_true rfl, Nat.le_of_ble_eq_true rfl⟩) hW (fun H locs hW => ?_)
                    refine m_top (y := ((zTold q (gAsk q) nx).1 (10 + 2 * ny) 2)) ((show MZ sh V_63 (zTold q (gAsk q) nx).1 _ _ _ _ from hZ_66).ok.le hlny).1.symm ?_
                    refine lv_istore (lv' := [(5, .int ((zTold q (gAsk q) nx).1 (10 + 2 * ny) 2)), (4, .int (aRef q x)), (0, .ref (ad 200)), (1, .int x), (2, .int y), (3, .int w)]) hx hb dX11_ends_114 hl (by decide) rfl (fun ls hl => ?_)
                    refine lv_aload_n hx hb dX11_ends_116 rfl (lv_at hl 2 rfl) ?_
                    refine m_cv (m_rV S hW (c_X11_laysBack l G ad sh V_63 hZ.sp) (cwV 0 hts (gCall [.methodLink RX11 225 yX11_laysBack, .instanceMethod yX11_laysBack, .selects RX11 yX11_laysBack yX11_laysBack, .initialized RX11] (List.forall_mem_cons.mpr ⟨(wa_32 _ (List.mem_of_getElem? (i := 21) (by decide +kernel))), (List.forall_mem_cons.mpr ⟨(wa_32 _ (List.mem_of_getElem? (i := 18) (by decide +kernel))), (List.forall_mem_cons.mpr ⟨(wa_32 _ (List.mem_of_getElem? (i := 19) (by decide +kernel))), (List.forall_mem_cons.mpr ⟨(wa_32 _ (List.mem_of_getElem? (i := 20) (by decide +kernel))), (List.forall_mem_cons.mpr ⟨(wa_1 _ (List.mem_of_getElem? (i := 5) (by decide +kernel))), (fun _ h => absurd h List.not_mem_nil)⟩)⟩)⟩)⟩)⟩)) rfl rfl rfl (by decide +kernel) ⟨Nat.le_of_ble_eq_true rfl, Nat.le_of_ble_eq_true rfl⟩) hZ.sp.1 kX11 rfl hl.1 rfl (Nat.le_of_ble_eq_true rfl) dX11_ends_117 ⟨Nat.le_of_ble_eq_true rfl, Nat.le_of_ble_eq_true rfl⟩) hW (fun V_70 H locs hp_71 hW => ?_)
                    have hl9_73 := hp_71
                    refine lv_iload hx hb dX11_ends_120 (lv_at hl 0 rfl) ?_
                    exact m_iret S hr hlk hW dX11_ends_122 (by exact ⟨by simp only [aEnds, if_pos c_4, hcx, if_pos w_7, if_pos hw0, if_pos w_56, hcy]; try rfl, MK.back hk_62 hB_67 hl9_73⟩)
                  · exact absurd c_69 (by decide)
                · exact absurd c_68 (by decide)
              · exact absurd c_58 (by decide)
            · skip
              refine m_if_ne (tgt := 54) hx hb dX11_ends_48 (by decide) (fun c_74 => ?_) (fun c_74 => ?_)
              · exact absurd c_74 (by decide)
              · skip
                refine lv_bipush (v := -5) hx hb dX11_ends_51 (by decide) ?_
                exact m_iret S hr hlk hW dX11_ends_53 (by exact ⟨by simp only [aEnds, if_pos c_4, hcx, if_pos w_7, if_pos hw0, if_neg w_57]; try rfl, MK.rfl V⟩)
          · exact absurd c_53 (by decide)
      · exact absurd c_9 (by decide)
    · skip
      refine m_if_ne (tgt := 27) hx hb dX11_ends_21 (by decide) (fun c_75 => ?_) (fun c_75 => ?_)
      · exact absurd c_75 (by decide)
      · skip
        refine lv_bipush (v := -7) hx hb dX11_ends_24 (by decide) ?_
        exact m_iret S hr hlk hW dX11_ends_26 (by exact ⟨by simp only [aEnds, if_pos c_4, hcx, if_neg w_8]; try rfl, MK.rfl V⟩)
  · skip
    refine lv_iload hx hb dX11_ends_12 (lv_at hl 0 rfl) ?_
    exact m_iret S hr hlk hW dX11_ends_14 (by exact ⟨by simp only [aEnds, if_neg c_4]; try rfl, MK.rfl V⟩)
set_option maxHeartbeats 4000000 in
set_option maxRecDepth 100000 in
theorem c_X11_drawn (l : Launch) (G : mG) (ad : Nat → Nat) (sh : Nat → Option mSh) (V : mV) (q : Sg) (sd n x w : Int32) (hI : MI sh V q) : mM l yX11_drawn wsX11_drawn ({ frames := 6, cells := 0, slots := 0, locals := 152 } : Room) G ad sh V [.ref (ad 200), .int sd, .int n, .int x, .int w] 0 0 (mPi ad sh (fun r V' => (aDrawn q sd n x w) = r ∧ (MK V V'))) := by
  refine mM.of (cc := cX11_drawn) (maxL := 5) (ret := (some .int)) (by decide) rfl (Nat.le_of_ble_eq_true rfl) ?_
  intro p e s m below meth c S hr hlk hnm hW ls hl
  obtain ⟨hx, hb, hml, hown, hts⟩ := id S
  have hl : lv_has ls 5 [(0, .ref (ad 200)), (1, .int sd), (2, .int n), (3, .int x), (4, .int w)] := hl
  have hS0 : True := trivial
  have hZ := hI.z
  have hne5 := hZ.ne5
  have hng6 := hZ.ng6
  have htn := hI.tn
  refine lv_aload_n hx hb dX11_drawn_0 rfl (lv_at hl 0 rfl) ?_
  refine lv_iload_n hx hb dX11_drawn_1 rfl (lv_at hl 3 rfl) ?_
  refine m_cip (m_rV S hW (c_X11_isEater l G ad sh V (gZ q) (gNe q) (gNg q) (gRl q) (gT q (gRl q)) x hZ) (cwV 1 hts (gCall [.methodLink RX11 179 yX11_isEater, .instanceMethod yX11_isEater, .selects RX11 yX11_isEater yX11_isEater, .initialized RX11] (List.forall_mem_cons.mpr ⟨(wa_19 _ (List.mem_of_getElem? (i := 3) (by decide +kernel))), (List.forall_mem_cons.mpr ⟨(wa_19 _ (List.mem_of_getElem? (i := 0) (by decide +kernel))), (List.forall_mem_cons.mpr ⟨(wa_19 _ (List.mem_of_getElem? (i := 1) (by decide +kernel))), (List.forall_mem_cons.mpr ⟨(wa_19 _ (List.mem_of_getElem? (i := 2) (by decide +kernel))), (List.forall_mem_cons.mpr ⟨(wa_1 _ (List.mem_of_getElem? (i := 5) (by decide +kernel))), (fun _ h => absurd h List.not_mem_nil)⟩)⟩)⟩)⟩)⟩)) rfl rfl rfl (by decide +kernel) ⟨Nat.le_of_ble_eq_true rfl, Nat.le_of_ble_eq_true rfl⟩) hZ.sp.1 kX11 rfl hl.1 rfl (Nat.le_of_ble_eq_true rfl) dX11_drawn_2 ⟨Nat.le_of_ble_eq_true rfl, Nat.le_of_ble_eq_true rfl⟩) hW (fun r_2 H locs hp_1 hW => ?_)
  rcases hp_1 with ⟨rfl, w_3⟩ | ⟨rfl, w_4⟩
  · skip
    obtain ⟨nx, hnx, hwnx, hlnx⟩ := w_3.ex
    have hcx : x.toNatClampNeg = nx := by rw [hnx]; exact nI_clamp (by omega)
    refine m_if_ne (tgt := 11) hx hb dX11_drawn_5 (by decide) (fun c_5 => ?_) (fun c_5 => ?_)
    · skip
      refine lv_iload_n hx hb dX11_drawn_11 rfl (lv_at hl 1 rfl) ?_
      refine lv_iconst (v := nI 0) hx hb dX11_drawn_12 (by decide) ?_
      refine lv_ldcw (v := nI 99999) hx hb hown (hts (.constant RX11 278 (99999)) (List.mem_cons_of_mem _ (wa_42 _ (List.mem_of_getElem? (i := 13) (by decide +kernel))))) dX11_drawn_13 ?_
      refine m_cip (m_rS S hW (c_X11_in l G ad sh V sd 0 99999 (by first | assumption | omega) (by first | assumption | omega)) (va_cwS 3 hts (gCall [.methodLink RX11 84 yX11_in, .static yX11_in, .initialized RX11] (List.forall_mem_cons.mpr ⟨(wa_12 _ (List.mem_of_getElem? (i := 16) (by decide +kernel))), (List.forall_mem_cons.mpr ⟨(wa_12 _ (List.mem_of_getElem? (i := 14) (by decide +kernel))), (List.forall_mem_cons.mpr ⟨(wa_12 _ (List.mem_of_getElem? (i := 15) (by decide +kernel))), (List.forall_mem_cons.mpr ⟨(wa_1 _ (List.mem_of_getElem? (i := 5) (by decide +kernel))), (fun _ h => absurd h List.not_mem_nil)⟩)⟩)⟩)⟩)) rfl rfl rfl (by decide +kernel) ⟨Nat.le_of_ble_eq_true rfl, Nat.le_of_ble_eq_true rfl⟩) rfl hl.1 rfl (Nat.le_of_ble_eq_true rfl) dX11_drawn_16 ⟨Nat.le_of_ble_eq_true rfl, Nat.le_of_ble_eq_true rfl⟩) hW (fun r_7 H locs hp_6 hW => ?_)
      rcases hp_6 with ⟨rfl, w_8⟩ | ⟨rfl, w_9⟩
      · skip
        obtain ⟨nsd, hnsd, hwnsd, hlnsd⟩ := w_8.ex
        have hcsd : sd.toNatClampNeg = nsd := by rw [hnsd]; exact nI_clamp (by omega)
        refine m_if_eq (tgt := 42) hx hb dX11_drawn_19 (by decide) (fun c_10 => ?_) (fun c_10 => ?_)
        · exact absurd c_10 (by decide)
        · skip
          refine lv_iload_n hx hb dX11_drawn_22 rfl (lv_at hl 2 rfl) ?_
          refine lv_iconst (v := nI 0) hx hb dX11_drawn_23 (by decide) ?_
          refine lv_bipush (v := nI 60) hx hb dX11_drawn_24 (by decide) ?_
          refine m_cip (m_rS S hW (c_X11_in l G ad sh V n 0 60 (by first | assumption | omega) (by first | assumption | omega)) (va_cwS 3 hts (gCall [.methodLink RX11 84 yX11_in, .static yX11_in, .initialized RX11] (List.forall_mem_cons.mpr ⟨(wa_12 _ (List.mem_of_getElem? (i := 16) (by decide +kernel))), (List.forall_mem_cons.mpr ⟨(wa_12 _ (List.mem_of_getElem? (i := 14) (by decide +kernel))), (List.forall_mem_cons.mpr ⟨(wa_12 _ (List.mem_of_getElem? (i := 15) (by decide +kernel))), (List.forall_mem_cons.mpr ⟨(wa_1 _ (List.mem_of_getElem? (i := 5) (by decide +kernel))), (fun _ h => absurd h List.not_mem_nil)⟩)⟩)⟩)⟩)) rfl rfl rfl (by decide +kernel) ⟨Nat.le_of_ble_eq_true rfl, Nat.le_of_ble_eq_true rfl⟩) rfl hl.1 rfl (Nat.le_of_ble_eq_true rfl) dX11_drawn_26 ⟨Nat.le_of_ble_eq_true rfl, Nat.le_of_ble_eq_true rfl⟩) hW (fun r_12 H locs hp_11 hW => ?_)
          rcases hp_11 with ⟨rfl, w_13⟩ | ⟨rfl, w_14⟩
          · skip
            obtain ⟨nn, hnn, hwnn, hlnn⟩ := w_13.ex
            have hcn : n.toNatClampNeg = nn := by rw [hnn]; exact nI_clamp (by omega)
            refine m_if_eq (tgt := 42) hx hb dX11_drawn_29 (by decide) (fun c_15 => ?_) (fun c_15 => ?_)
            · exact absurd c_15 (by decide)
            · skip
              refine lv_iload hx hb dX11_drawn_32 (lv_at hl 4 rfl) ?_
              refine lv_iconst (v := nI 0) hx hb dX11_drawn_34 (by decide) ?_
              refine lv_iconst (v := nI 1) hx hb dX11_drawn_35 (by decide) ?_
              refine m_cip (m_rS S hW (c_X11_in l G ad sh V w 0 1 (by first | assumption | omega) (by first | assumption | omega)) (va_cwS 3 hts (gCall [.methodLink RX11 84 yX11_in, .static yX11_in, .initialized RX11] (List.forall_mem_cons.mpr ⟨(wa_12 _ (List.mem_of_getElem? (i := 16) (by decide +kernel))), (List.forall_mem_cons.mpr ⟨(wa_12 _ (List.mem_of_getElem? (i := 14) (by decide +kernel))), (List.forall_mem_cons.mpr ⟨(wa_12 _ (List.mem_of_getElem? (i := 15) (by decide +kernel))), (List.forall_mem_cons.mpr ⟨(wa_1 _ (List.mem_of_getElem? (i := 5) (by decide +kernel))), (fun _ h => absurd h List.not_mem_nil)⟩)⟩)⟩)⟩)) rfl rfl rfl (by decide +kernel) ⟨Nat.le_of_ble_eq_true rfl, Nat.le_of_ble_eq_true rfl⟩) rfl hl.1 rfl (Nat.le_of_ble_eq_true rfl) dX11_drawn_36 ⟨Nat.le_of_ble_eq_true rfl, Nat.le_of_ble_eq_true rfl⟩) hW (fun r_17 H locs hp_16 hW => ?_)
              rcases hp_16 with ⟨rfl, w_18⟩ | ⟨rfl, w_19⟩
              · skip
                refine m_if_ne (tgt := 45) hx hb dX11_drawn_39 (by decide) (fun c_20 => ?_) (fun c_20 => ?_)
                · skip
                  refine lv_aload_n hx hb dX11_drawn_45 rfl (lv_at hl 0 rfl) ?_
                  refine m_geti S hW hZ.sp.1 0 rfl kX11 (iW11 _) (by decide) (List.mem_cons_of_mem _ (wa_15 _ (List.mem_of_getElem? (i := 1) (by decide +kernel)))) dX11_drawn_46 ?_
                  refine m_top (y := nI (gNg q)) hI.z.ng_ ?_
                  refine m_if_ne (tgt := 55) hx hb dX11_drawn_49 (by decide) (fun c_21 => ?_) (fun c_21 => ?_)
                  · skip
                    have c_21 : ¬ (gNg q) = 0 := mt (nI_eq (by omega) (by omega)).mpr c_21
                    refine lv_aload_n hx hb dX11_drawn_55 rfl (lv_at hl 0 rfl) ?_
                    refine lv_iload_n hx hb dX11_drawn_56 rfl (lv_at hl 1 rfl) ?_
                    refine m_top (y := nI nsd) hnsd ?_
                    refine lv_iload_n hx hb dX11_drawn_57 rfl (lv_at hl 2 rfl) ?_
                    refine m_top (y := nI nn) hnn ?_
                    refine lv_iload_n hx hb dX11_drawn_58 rfl (lv_at hl 3 rfl) ?_
                    refine m_top (y := nI nx) hnx ?_
                    refine m_cv (m_rV S hW (c_X11_dayBy l G ad sh V (gZ q) (gNe q) (gNg q) (gRl q) (gT q (gRl q)) nsd nn nx hZ (by first | assumption | omega) (by omega) (by omega) (by omega) (by omega)) (cwV 3 hts (gCall [.methodLink RX11 279 yX11_dayBy, .instanceMethod yX11_dayBy, .selects RX11 yX11_dayBy yX11_dayBy, .initialized RX11] (List.forall_mem_cons.mpr ⟨(wa_42 _ (List.mem_of_getElem? (i := 19) (by decide +kernel))), (List.forall_mem_cons.mpr ⟨(wa_42 _ (List.mem_of_getElem? (i := 16) (by decide +kernel))), (List.forall_mem_cons.mpr ⟨(wa_42 _ (List.mem_of_getElem? (i := 17) (by decide +kernel))), (List.forall_mem_cons.mpr ⟨(wa_42 _ (List.mem_of_getElem? (i := 18) (by decide +kernel))), (List.forall_mem_cons.mpr ⟨(wa_1 _ (List.mem_of_getElem? (i := 5) (by decide +kernel))), (fun _ h => absurd h List.not_mem_nil)⟩)⟩)⟩)⟩)⟩)) rfl rfl rfl (by decide +kernel) ⟨Nat.le_of_ble_eq_true rfl, Nat.le_of_ble_eq_true rfl⟩) hZ.sp.1 kX11 rfl hl.1 rfl (Nat.le_of_ble_eq_true rfl) dX11_drawn_59 ⟨Nat.le_of_ble_eq_true rfl, Nat.le_of_ble_eq_true rfl⟩) hW (fun V_22 H locs hp_23 hW => ?_)
                    obtain ⟨hK_25, h36_26, h37_27⟩ := hp_23
                    refine lv_iload hx hb dX11_drawn_62 (lv_at hl 4 rfl) ?_
                    refine m_if_ne (tgt := 74) hx hb dX11_drawn_64 (by decide) (fun c_28 => ?_) (fun c_28 => ?_)
                    · skip
                      refine lv_aload_n hx hb dX11_drawn_74 rfl (lv_at hl 0 rfl) ?_
                      refine m_geti S hW hZ.sp.1 37 rfl kX11 (iW11 _) (by decide) (List.mem_cons_of_mem _ (wa_42 _ (List.mem_of_getElem? (i := 15) (by decide +kernel)))) dX11_drawn_75 ?_
                      refine m_top (y := (zDraw (gAsk q) (gNe q) (gNg q) (nsd + 1) (gZ q) nn (4 + nx) 3)) h37_27 ?_
                      exact m_iret S hr hlk hW dX11_drawn_78 (by exact ⟨by simp only [aDrawn, if_pos w_3, hcx, if_pos w_8, hcsd, if_pos w_13, hcn, if_pos w_18, if_neg c_21, if_neg c_28]; try rfl, hK_25⟩)
                    · skip
                      refine lv_aload_n hx hb dX11_drawn_67 rfl (lv_at hl 0 rfl) ?_
                      refine m_geti S hW hZ.sp.1 36 rfl kX11 (iW11 _) (by decide) (List.mem_cons_of_mem _ (wa_42 _ (List.mem_of_getElem? (i := 14) (by decide +kernel)))) dX11_drawn_68 ?_
                      refine m_top (y := (zDraw (gAsk q) (gNe q) (gNg q) (nsd + 1) (gZ q) nn (4 + nx) 4)) h36_26 ?_
                      refine lv_goto (tgt := 78) hx hb dX11_drawn_71 (by decide) ?_
                      exact m_iret S hr hlk hW dX11_drawn_78 (by exact ⟨by simp only [aDrawn, if_pos w_3, hcx, if_pos w_8, hcsd, if_pos w_13, hcn, if_pos w_18, if_neg c_21, if_pos c_28]; try rfl, hK_25⟩)
                  · skip
                    have c_21 : (gNg q) = 0 := (nI_eq (by omega) (by omega)).mp c_21
                    refine lv_bipush (v := -3) hx hb dX11_drawn_52 (by decide) ?_
                    exact m_iret S hr hlk hW dX11_drawn_54 (by exact ⟨by simp only [aDrawn, if_pos w_3, hcx, if_pos w_8, hcsd, if_pos w_13, hcn, if_pos w_18, if_pos c_21]; try rfl, MK.rfl V⟩)
                · exact absurd c_20 (by decide)
              · skip
                refine m_if_ne (tgt := 45) hx hb dX11_drawn_39 (by decide) (fun c_29 => ?_) (fun c_29 => ?_)
                · exact absurd c_29 (by decide)
                · skip
                  refine lv_bipush (v := -7) hx hb dX11_drawn_42 (by decide) ?_
                  exact m_iret S hr hlk hW dX11_drawn_44 (by exact ⟨by simp only [aDrawn, if_pos w_3, hcx, if_pos w_8, hcsd, if_pos w_13, hcn, if_neg w_19]; try rfl, MK.rfl V⟩)
          · skip
            refine m_if_eq (tgt := 42) hx hb dX11_drawn_29 (by decide) (fun c_30 => ?_) (fun c_30 => ?_)
            · skip
              refine lv_bipush (v := -7) hx hb dX11_drawn_42 (by decide) ?_
              exact m_iret S hr hlk hW dX11_drawn_44 (by exact ⟨by simp only [aDrawn, if_pos w_3, hcx, if_pos w_8, hcsd, if_neg w_14]; try rfl, MK.rfl V⟩)
            · exact absurd c_30 (by decide)
      · skip
        refine m_if_eq (tgt := 42) hx hb dX11_drawn_19 (by decide) (fun c_31 => ?_) (fun c_31 => ?_)
        · skip
          refine lv_bipush (v := -7) hx hb dX11_drawn_42 (by decide) ?_
          exact m_iret S hr hlk hW dX11_drawn_44 (by exact ⟨by simp only [aDrawn, if_pos w_3, hcx, if_neg w_9]; try rfl, MK.rfl V⟩)
        · exact absurd c_31 (by decide)
    · exact absurd c_5 (by decide)
  · skip
    refine m_if_ne (tgt := 11) hx hb dX11_drawn_5 (by decide) (fun c_32 => ?_) (fun c_32 => ?_)
    · exact absurd c_32 (by decide)
    · skip
      refine lv_bipush (v := -5) hx hb dX11_drawn_8 (by decide) ?_
      exact m_iret S hr hlk hW dX11_drawn_10 (by exact ⟨by simp only [aDrawn, if_neg w_4]; try rfl, MK.rfl V⟩)
