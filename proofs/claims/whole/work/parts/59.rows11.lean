/-! the reference: rows to rows, eaters of a row -/
theorem copy_s {sh : Nat → Option mSh} {V V' : mV} {q : Sg} (h : MI sh V q) {s o i j n : Nat} (hs : s < 4) (ho : o < 4) (h1 : i + n ≤ gSz q s) (h2 : j + n ≤ gSz q o) (hf : ∀ a, a ≠ 213 → V' a = V a) (hv : ∀ t, V' 213 t = if 40 * o + j ≤ t ∧ t < 40 * o + j + n then V 213 (40 * s + i + (t - (40 * o + j))) else V 213 t) : MI sh V' (gCpy q s i o j n) := by
  have hl1 := h.sl hs
  have hl2 := h.sl ho
  refine h.setT (k := o) ho (fun a _ _ h3 => hf a h3) (by rw [hf 211 (by decide)]; exact h.so ho) (by rw [hf 212 (by decide)]; exact h.ss ho) hl2 (fun t ht => ?_) (fun u hu huk => ⟨by rw [hf 211 (by decide)], by rw [hf 212 (by decide)], fun t ht => by rw [hv, if_neg (by omega)]⟩)
  rw [hv]
  by_cases hc : j ≤ t ∧ t < j + n
  · rw [if_pos (by omega), if_pos hc, show 40 * s + i + (40 * o + t - (40 * o + j)) = 40 * s + (i + (t - j)) by omega]
    exact h.sc hs (by omega)
  · rw [if_neg (by omega), if_neg hc]
    exact h.sc ho ht
theorem gCl_n {q q' : Sg} (h : q'.2 = q.2) (k : Nat) : gCl q' k = gCl q k := by
  show (q'.2.2.2.2 k).2.2 = (q.2.2.2.2 k).2.2
  rw [h]
theorem gSz_n {q q' : Sg} (h : q'.2 = q.2) (k : Nat) : gSz q' k = gSz q k := by
  show (q'.2.2.2.2 k).2.1 = (q.2.2.2.2 k).2.1
  rw [h]
theorem fBy_ok {c : Nat → Int32} {sz : Nat} {y : Int32} {f k : Nat} {q : Sg} {m a : Nat} (h : okBy sz y k) (ha : y = nI a) (hb : a < 2 ^ 31) : fBy c sz y (f + 1) k q m = fBy c sz y f (k + 1) (nEater q (c (a + 2 * k)) (c (a + 2 * k + 1))) (if aEater q (c (a + 2 * k)) (c (a + 2 * k + 1)) < nI 0 then m else m + 1) := by
  rw [fBy, if_pos h, ha, nI_clamp hb]
theorem fBy_no {c : Nat → Int32} {sz : Nat} {y : Int32} {f k : Nat} {q : Sg} {m : Nat} (h : ¬ okBy sz y k) : fBy c sz y (f + 1) k q m = (q, -12) := by rw [fBy, if_neg h]
theorem cp_step_f {V V1 V2 : mV} {a b k : Nat} (hv : ∀ t, V1 213 t = if b ≤ t ∧ t < b + k then V 213 (a + (t - b)) else V 213 t) (e : V2 = mU V1 213 (b + k) (V 213 (a + k))) (hab : ¬ a < b) : ∀ t, V2 213 t = if b ≤ t ∧ t < b + (k + 1) then V 213 (a + (t - b)) else V 213 t := by
  intro t
  rw [e]
  by_cases ht : t = b + k
  · rw [ht, mU_eq, if_pos (by omega), show b + k - b = k by omega]
  · rw [mU_ne _ _ (by omega), hv]
    by_cases h2 : b ≤ t ∧ t < b + k
    · rw [if_pos h2, if_pos (by omega)]
    · rw [if_neg h2, if_neg (by omega)]
theorem cp_step_b {V V1 V2 : mV} {a b n k : Nat} (hv : ∀ t, V1 213 t = if b + (n - k) ≤ t ∧ t < b + n then V 213 (a + (t - b)) else V 213 t) (e : V2 = mU V1 213 (b + (n - 1 - k)) (V 213 (a + (n - 1 - k)))) (hab : a < b) (hk : k < n) : ∀ t, V2 213 t = if b + (n - (k + 1)) ≤ t ∧ t < b + n then V 213 (a + (t - b)) else V 213 t := by
  intro t
  rw [e]
  by_cases ht : t = b + (n - 1 - k)
  · rw [ht, mU_eq, if_pos (by omega), show b + (n - 1 - k) - b = n - 1 - k by omega]
  · rw [mU_ne _ _ (by omega), hv]
    by_cases h2 : b + (n - k) ≤ t ∧ t < b + n
    · rw [if_pos h2, if_pos (by omega)]
    · rw [if_neg h2, if_neg (by omega)]
set_option maxHeartbeats 4000000 in
set_option maxRecDepth 100000 in
theorem c_X11_copy (l : Launch) (G : mG) (ad : Nat → Nat) (sh : Nat → Option mSh) (V : mV) (q : Sg) (x y o j n : Int32) (hI : MI sh V q) : mM l yX11_copy wsX11_copy ({ frames := 1, cells := 0, slots := 0, locals := 22 } : Room) G ad sh V [.ref (ad 200), .int x, .int y, .int o, .int j, .int n] 0 0 (mPi ad sh (fun r V' => (aCopy q x y o j n) = r ∧ (MI sh V' (nCopy q x y o j n)) ∧ (∀ a, a < 200 → V' a = V a))) := by
  refine mM.of (cc := cX11_copy) (maxL := 10) (ret := (some .int)) (by decide) rfl (Nat.le_of_ble_eq_true rfl) ?_
  intro p e s m below meth c S hr hlk hnm hW ls hl
  obtain ⟨hx, hb, hml, hown, hts⟩ := id S
  have hl : lv_has ls 10 [(0, .ref (ad 200)), (1, .int x), (2, .int y), (3, .int o), (4, .int j), (5, .int n)] := hl
  have hS0 : True := trivial
  have hZ := hI.z
  have hne5 := hZ.ne5
  have hng6 := hZ.ng6
  have htn := hI.tn
  refine lv_iload_n hx hb dX11_copy_0 rfl (lv_at hl 1 rfl) ?_
  refine lv_iconst (v := nI 0) hx hb dX11_copy_1 (by decide) ?_
  refine lv_iconst (v := nI 3) hx hb dX11_copy_2 (by decide) ?_
  refine m_cip (m_rS S hW (c_X11_in l G ad sh V x 0 3 (by first | assumption | omega) (by first | assumption | omega)) (va_cwS 3 hts (gCall [.methodLink RX11 84 yX11_in, .static yX11_in, .initialized RX11] (List.forall_mem_cons.mpr ⟨(wa_12 _ (List.mem_of_getElem? (i := 16) (by decide +kernel))), (List.forall_mem_cons.mpr ⟨(wa_12 _ (List.mem_of_getElem? (i := 14) (by decide +kernel))), (List.forall_mem_cons.mpr ⟨(wa_12 _ (List.mem_of_getElem? (i := 15) (by decide +kernel))), (List.forall_mem_cons.mpr ⟨(wa_1 _ (List.mem_of_getElem? (i := 5) (by decide +kernel))), (fun _ h => absurd h List.not_mem_nil)⟩)⟩)⟩)⟩)) rfl rfl rfl (by decide +kernel) ⟨Nat.le_of_ble_eq_true rfl, Nat.le_of_ble_eq_true rfl⟩) rfl hl.1 rfl (Nat.le_of_ble_eq_true rfl) dX11_copy_3 ⟨Nat.le_of_ble_eq_true rfl, Nat.le_of_ble_eq_true rfl⟩) hW (fun r_2 H locs hp_1 hW => ?_)
  rcases hp_1 with ⟨rfl, w_3⟩ | ⟨rfl, w_4⟩
  · skip
    obtain ⟨nx, hnx, hwnx, hlnx⟩ := w_3.ex
    have hcx : x.toNatClampNeg = nx := by rw [hnx]; exact nI_clamp (by omega)
    refine m_if_eq (tgt := 18) hx hb dX11_copy_6 (by decide) (fun c_5 => ?_) (fun c_5 => ?_)
    · exact absurd c_5 (by decide)
    · skip
      refine lv_iload_n hx hb dX11_copy_9 rfl (lv_at hl 3 rfl) ?_
      refine lv_iconst (v := nI 0) hx hb dX11_copy_10 (by decide) ?_
      refine lv_iconst (v := nI 3) hx hb dX11_copy_11 (by decide) ?_
      refine m_cip (m_rS S hW (c_X11_in l G ad sh V o 0 3 (by first | assumption | omega) (by first | assumption | omega)) (va_cwS 3 hts (gCall [.methodLink RX11 84 yX11_in, .static yX11_in, .initialized RX11] (List.forall_mem_cons.mpr ⟨(wa_12 _ (List.mem_of_getElem? (i := 16) (by decide +kernel))), (List.forall_mem_cons.mpr ⟨(wa_12 _ (List.mem_of_getElem? (i := 14) (by decide +kernel))), (List.forall_mem_cons.mpr ⟨(wa_12 _ (List.mem_of_getElem? (i := 15) (by decide +kernel))), (List.forall_mem_cons.mpr ⟨(wa_1 _ (List.mem_of_getElem? (i := 5) (by decide +kernel))), (fun _ h => absurd h List.not_mem_nil)⟩)⟩)⟩)⟩)) rfl rfl rfl (by decide +kernel) ⟨Nat.le_of_ble_eq_true rfl, Nat.le_of_ble_eq_true rfl⟩) rfl hl.1 rfl (Nat.le_of_ble_eq_true rfl) dX11_copy_12 ⟨Nat.le_of_ble_eq_true rfl, Nat.le_of_ble_eq_true rfl⟩) hW (fun r_7 H locs hp_6 hW => ?_)
      rcases hp_6 with ⟨rfl, w_8⟩ | ⟨rfl, w_9⟩
      · skip
        obtain ⟨no, hno, hwno, hlno⟩ := w_8.ex
        have hco : o.toNatClampNeg = no := by rw [hno]; exact nI_clamp (by omega)
        refine m_if_ne (tgt := 21) hx hb dX11_copy_15 (by decide) (fun c_10 => ?_) (fun c_10 => ?_)
        · skip
          refine lv_aload_n hx hb dX11_copy_21 rfl (lv_at hl 0 rfl) ?_
          have hsl1 := hI.sl hlnx
          have hsl2 := hI.sl hlno
          refine m_getr S hW hZ.sp.1 17 rfl (j := 211) rfl kX11 (iW11 _) (by decide) (List.mem_cons_of_mem _ (wa_11 _ (List.mem_of_getElem? (i := 12) (by decide +kernel)))) dX11_copy_22 ?_
          refine lv_iload_n hx hb dX11_copy_25 rfl (lv_at hl 1 rfl) ?_
          refine m_top (y := nI nx) hnx ?_
          refine m_iald S hW hZ.sp.2.2.2.2.2.2.2.2.2.2.2.1 nx rfl (by omega) (by decide) dX11_copy_26 ?_
          refine m_top (y := (gSo q nx)) (hI.so hlnx) ?_
          refine lv_iconst (v := -1) hx hb dX11_copy_27 (by decide) ?_
          refine lv_icmp_eq (tgt := 41) hx hb dX11_copy_28 (by decide) (fun c_11 => ?_) (fun c_11 => ?_)
          · skip
            refine lv_bipush (v := -11) hx hb dX11_copy_41 (by decide) ?_
            exact m_iret S hr hlk hW dX11_copy_43 (by exact ⟨by simp only [aCopy, if_pos w_3, hcx, if_pos w_8, hco, if_pos c_11]; try rfl, by simp only [nCopy, if_pos w_3, hcx, if_pos w_8, hco, if_pos c_11]; exact hI, fun _ _ => rfl⟩)
          · skip
            refine lv_aload_n hx hb dX11_copy_31 rfl (lv_at hl 0 rfl) ?_
            refine m_getr S hW hZ.sp.1 17 rfl (j := 211) rfl kX11 (iW11 _) (by decide) (List.mem_cons_of_mem _ (wa_11 _ (List.mem_of_getElem? (i := 12) (by decide +kernel)))) dX11_copy_32 ?_
            refine lv_iload_n hx hb dX11_copy_35 rfl (lv_at hl 3 rfl) ?_
            refine m_top (y := nI no) hno ?_
            refine m_iald S hW hZ.sp.2.2.2.2.2.2.2.2.2.2.2.1 no rfl (by omega) (by decide) dX11_copy_36 ?_
            refine m_top (y := (gSo q no)) (hI.so hlno) ?_
            refine lv_iconst (v := -1) hx hb dX11_copy_37 (by decide) ?_
            refine lv_icmp_ne (tgt := 44) hx hb dX11_copy_38 (by decide) (fun c_12 => ?_) (fun c_12 => ?_)
            · skip
              refine lv_aload_n hx hb dX11_copy_44 rfl (lv_at hl 0 rfl) ?_
              refine m_getr S hW hZ.sp.1 17 rfl (j := 211) rfl kX11 (iW11 _) (by decide) (List.mem_cons_of_mem _ (wa_11 _ (List.mem_of_getElem? (i := 12) (by decide +kernel)))) dX11_copy_45 ?_
              refine lv_iload_n hx hb dX11_copy_48 rfl (lv_at hl 1 rfl) ?_
              refine m_top (y := nI nx) hnx ?_
              refine m_iald S hW hZ.sp.2.2.2.2.2.2.2.2.2.2.2.1 nx rfl (by omega) (by decide) dX11_copy_49 ?_
              refine m_top (y := (gSo q nx)) (hI.so hlnx) ?_
              refine lv_aload_n hx hb dX11_copy_50 rfl (lv_at hl 0 rfl) ?_
              refine m_getr S hW hZ.sp.1 17 rfl (j := 211) rfl kX11 (iW11 _) (by decide) (List.mem_cons_of_mem _ (wa_11 _ (List.mem_of_getElem? (i := 12) (by decide +kernel)))) dX11_copy_51 ?_
              refine lv_iload_n hx hb dX11_copy_54 rfl (lv_at hl 3 rfl) ?_
              refine m_top (y := nI no) hno ?_
              refine m_iald S hW hZ.sp.2.2.2.2.2.2.2.2.2.2.2.1 no rfl (by omega) (by decide) dX11_copy_55 ?_
              refine m_top (y := (gSo q no)) (hI.so hlno) ?_
              refine lv_icmp_eq (tgt := 62) hx hb dX11_copy_56 (by decide) (fun c_13 => ?_) (fun c_13 => ?_)
              · skip
                refine lv_iload hx hb dX11_copy_62 (lv_at hl 5 rfl) ?_
                refine m_if_lt (tgt := 124) hx hb dX11_copy_64 (by decide) (fun c_14 => ?_) (fun c_14 => ?_)
                · skip
                  refine lv_bipush (v := -12) hx hb dX11_copy_124 (by decide) ?_
                  exact m_iret S hr hlk hW dX11_copy_126 (by exact ⟨by simp only [aCopy, if_pos w_3, hcx, if_pos w_8, hco, if_neg c_11, if_neg c_12, if_pos c_13, if_pos c_14]; try rfl, by simp only [nCopy, if_pos w_3, hcx, if_pos w_8, hco, if_neg c_11, if_neg c_12, if_pos c_13, if_pos c_14]; exact hI, fun _ _ => rfl⟩)
                · skip
                  obtain ⟨nn, hnn1, hnn⟩ := nI_of (x := n) c_14
                  have hcn : n.toNatClampNeg = nn := by rw [hnn]; exact nI_clamp hnn1
                  refine lv_iload_n hx hb dX11_copy_67 rfl (lv_at hl 2 rfl) ?_
                  refine m_if_lt (tgt := 124) hx hb dX11_copy_68 (by decide) (fun c_15 => ?_) (fun c_15 => ?_)
                  · skip
                    have hno9 : ¬ ((nI 0 ≤ y ∧ y ≤ nI (gSz q nx) - n) ∧ (nI 0 ≤ j ∧ j ≤ nI (gSz q no) - n)) := fun z => absurd z.1.1 (Int32.not_le.mpr c_15)
                    refine lv_bipush (v := -12) hx hb dX11_copy_124 (by decide) ?_
                    exact m_iret S hr hlk hW dX11_copy_126 (by exact ⟨by simp only [aCopy, if_pos w_3, hcx, if_pos w_8, hco, if_neg c_11, if_neg c_12, if_pos c_13, if_neg c_14]; exact if_no2 hno9, by simp only [nCopy, if_pos w_3, hcx, if_pos w_8, hco, if_neg c_11, if_neg c_12, if_pos c_13, if_neg c_14]; rw [if_no2 hno9]; exact hI, fun _ _ => rfl⟩)
                  · skip
                    obtain ⟨ny, hny1, hny⟩ := nI_of (x := y) c_15
                    have hcy : y.toNatClampNeg = ny := by rw [hny]; exact nI_clamp hny1
                    refine lv_iload hx hb dX11_copy_71 (lv_at hl 4 rfl) ?_
                    refine m_if_lt (tgt := 124) hx hb dX11_copy_73 (by decide) (fun c_16 => ?_) (fun c_16 => ?_)
                    · skip
                      have hno9 : ¬ ((nI 0 ≤ y ∧ y ≤ nI (gSz q nx) - n) ∧ (nI 0 ≤ j ∧ j ≤ nI (gSz q no) - n)) := fun z => absurd z.2.1 (Int32.not_le.mpr c_16)
                      refine lv_bipush (v := -12) hx hb dX11_copy_124 (by decide) ?_
                      exact m_iret S hr hlk hW dX11_copy_126 (by exact ⟨by simp only [aCopy, if_pos w_3, hcx, if_pos w_8, hco, if_neg c_11, if_neg c_12, if_pos c_13, if_neg c_14]; exact if_no2 hno9, by simp only [nCopy, if_pos w_3, hcx, if_pos w_8, hco, if_neg c_11, if_neg c_12, if_pos c_13, if_neg c_14]; rw [if_no2 hno9]; exact hI, fun _ _ => rfl⟩)
                    · skip
                      obtain ⟨nj, hnj1, hnj⟩ := nI_of (x := j) c_16
                      have hcj : j.toNatClampNeg = nj := by rw [hnj]; exact nI_clamp hnj1
                      refine lv_iload_n hx hb dX11_copy_76 rfl (lv_at hl 2 rfl) ?_
                      refine m_top (y := nI ny) hny ?_
                      refine lv_aload_n hx hb dX11_copy_77 rfl (lv_at hl 0 rfl) ?_
                      refine m_getr S hW hZ.sp.1 18 rfl (j := 212) rfl kX11 (iW11 _) (by decide) (List.mem_cons_of_mem _ (wa_11 _ (List.mem_of_getElem? (i := 13) (by decide +kernel)))) dX11_copy_78 ?_
                      refine lv_iload_n hx hb dX11_copy_81 rfl (lv_at hl 1 rfl) ?_
                      refine m_top (y := nI nx) hnx ?_
                      refine m_iald S hW hZ.sp.2.2.2.2.2.2.2.2.2.2.2.2.1 nx rfl (by omega) (by decide) dX11_copy_82 ?_
                      refine m_top (y := nI (gSz q nx)) (hI.ss hlnx) ?_
                      refine lv_icmp_gt (tgt := 124) hx hb dX11_copy_83 (by decide) (fun c_17 => ?_) (fun c_17 => ?_)
                      · skip
                        have c_17 : (gSz q nx) < ny := (nI_ltI (by omega) (by omega)).mp c_17
                        have hno9 : ¬ ((nI 0 ≤ y ∧ y ≤ nI (gSz q nx) - n) ∧ (nI 0 ≤ j ∧ j ≤ nI (gSz q no) - n)) := fun z => by have z1 := z.1; have z2 := z.2; rw [hny, hnn] at z1; rw [hnj, hnn] at z2; have y1 := (cp_ok hsl1 hny1 hnn1).mp z1; have y2 := (cp_ok hsl2 hnj1 hnn1).mp z2; omega
                        refine lv_bipush (v := -12) hx hb dX11_copy_124 (by decide) ?_
                        exact m_iret S hr hlk hW dX11_copy_126 (by exact ⟨by simp only [aCopy, if_pos w_3, hcx, if_pos w_8, hco, if_neg c_11, if_neg c_12, if_pos c_13, if_neg c_14]; exact if_no2 hno9, by simp only [nCopy, if_pos w_3, hcx, if_pos w_8, hco, if_neg c_11, if_neg c_12, if_pos c_13, if_neg c_14]; rw [if_no2 hno9]; exact hI, fun _ _ => rfl⟩)
                      · skip
                        have c_17 : ¬ (gSz q nx) < ny := mt (nI_ltI (by omega) (by omega)).mpr c_17
                        refine lv_iload hx hb dX11_copy_86 (lv_at hl 4 rfl) ?_
                        refine m_top (y := nI nj) hnj ?_
                        refine lv_aload_n hx hb dX11_copy_88 rfl (lv_at hl 0 rfl) ?_
                        refine m_getr S hW hZ.sp.1 18 rfl (j := 212) rfl kX11 (iW11 _) (by decide) (List.mem_cons_of_mem _ (wa_11 _ (List.mem_of_getElem? (i := 13) (by decide +kernel)))) dX11_copy_89 ?_
                        refine lv_iload_n hx hb dX11_copy_92 rfl (lv_at hl 3 rfl) ?_
                        refine m_top (y := nI no) hno ?_
                        refine m_iald S hW hZ.sp.2.2.2.2.2.2.2.2.2.2.2.2.1 no rfl (by omega) (by decide) dX11_copy_93 ?_
                        refine m_top (y := nI (gSz q no)) (hI.ss hlno) ?_
                        refine lv_icmp_gt (tgt := 124) hx hb dX11_copy_94 (by decide) (fun c_18 => ?_) (fun c_18 => ?_)
                        · skip
                          have c_18 : (gSz q no) < nj := (nI_ltI (by omega) (by omega)).mp c_18
                          have hno9 : ¬ ((nI 0 ≤ y ∧ y ≤ nI (gSz q nx) - n) ∧ (nI 0 ≤ j ∧ j ≤ nI (gSz q no) - n)) := fun z => by have z1 := z.1; have z2 := z.2; rw [hny, hnn] at z1; rw [hnj, hnn] at z2; have y1 := (cp_ok hsl1 hny1 hnn1).mp z1; have y2 := (cp_ok hsl2 hnj1 hnn1).mp z2; omega
                          refine lv_bipush (v := -12) hx hb dX11_copy_124 (by decide) ?_
                          exact m_iret S hr hlk hW dX11_copy_126 (by exact ⟨by simp only [aCopy, if_pos w_3, hcx, if_pos w_8, hco, if_neg c_11, if_neg c_12, if_pos c_13, if_neg c_14]; exact if_no2 hno9, by simp only [nCopy, if_pos w_3, hcx, if_pos w_8, hco, if_neg c_11, if_neg c_12, if_pos c_13, if_neg c_14]; rw [if_no2 hno9]; exact hI, fun _ _ => rfl⟩)
                        · skip
                          have c_18 : ¬ (gSz q no) < nj := mt (nI_ltI (by omega) (by omega)).mpr c_18
                          refine lv_iload hx hb dX11_copy_97 (lv_at hl 5 rfl) ?_
                          refine m_top (y := nI nn) hnn ?_
                          refine lv_aload_n hx hb dX11_copy_99 rfl (lv_at hl 0 rfl) ?_
                          refine m_getr S hW hZ.sp.1 18 rfl (j := 212) rfl kX11 (iW11 _) (by decide) (List.mem_cons_of_mem _ (wa_11 _ (List.mem_of_getElem? (i := 13) (by decide +kernel)))) dX11_copy_100 ?_
                          refine lv_iload_n hx hb dX11_copy_103 rfl (lv_at hl 1 rfl) ?_
                          refine m_top (y := nI nx) hnx ?_
                          refine m_iald S hW hZ.sp.2.2.2.2.2.2.2.2.2.2.2.2.1 nx rfl (by omega) (by decide) dX11_copy_104 ?_
                          refine m_top (y := nI (gSz q nx)) (hI.ss hlnx) ?_
                          refine lv_iload_n hx hb dX11_copy_105 rfl (lv_at hl 2 rfl) ?_
                          refine m_top (y := nI ny) hny ?_
                          refine lv_isub hx hb dX11_copy_106 ?_
                          refine m_top (y := nI ((gSz q nx) - ny)) (pk_sub (by omega)) ?_
                          refine lv_icmp_gt (tgt := 124) hx hb dX11_copy_107 (by decide) (fun c_19 => ?_) (fun c_19 => ?_)
                          · skip
                            have c_19 : ((gSz q nx) - ny) < nn := (nI_ltI (by omega) (by omega)).mp c_19
                            have hno9 : ¬ ((nI 0 ≤ y ∧ y ≤ nI (gSz q nx) - n) ∧ (nI 0 ≤ j ∧ j ≤ nI (gSz q no) - n)) := fun z => by have z1 := z.1; have z2 := z.2; rw [hny, hnn] at z1; rw [hnj, hnn] at z2; have y1 := (cp_ok hsl1 hny1 hnn1).mp z1; have y2 := (cp_ok hsl2 hnj1 hnn1).mp z2; omega
                            refine lv_bipush (v := -12) hx hb dX11_copy_124 (by decide) ?_
                            exact m_iret S hr hlk hW dX11_copy_126 (by exact ⟨by simp only [aCopy, if_pos w_3, hcx, if_pos w_8, hco, if_neg c_11, if_neg c_12, if_pos c_13, if_neg c_14]; exact if_no2 hno9, by simp only [nCopy, if_pos w_3, hcx, if_pos w_8, hco, if_neg c_11, if_neg c_12, if_pos c_13, if_neg c_14]; rw [if_no2 hno9]; exact hI, fun _ _ => rfl⟩)
                          · skip
                            have c_19 : ¬ ((gSz q nx) - ny) < nn := mt (nI_ltI (by omega) (by omega)).mpr c_19
                            refine lv_iload hx hb dX11_copy_110 (lv_at hl 5 rfl) ?_
                            refine m_top (y := nI nn) hnn ?_
                            refine lv_aload_n hx hb dX11_copy_112 rfl (lv_at hl 0 rfl) ?_
                            refine m_getr S hW hZ.sp.1 18 rfl (j := 212) rfl kX11 (iW11 _) (by decide) (List.mem_cons_of_mem _ (wa_11 _ (List.mem_of_getElem? (i := 13) (by decide +kernel)))) dX11_copy_113 ?_
                            refine lv_iload_n hx hb dX11_copy_116 rfl (lv_at hl 3 rfl) ?_
                            refine m_top (y := nI no) hno ?_
                            refine m_iald S hW hZ.sp.2.2.2.2.2.2.2.2.2.2.2.2.1 no rfl (by omega) (by decide) dX11_copy_117 ?_
                            refine m_top (y := nI (gSz q no)) (hI.ss hlno) ?_
                            refine lv_iload hx hb dX11_copy_118 (lv_at hl 4 rfl) ?_
                            refine m_top (y := nI nj) hnj ?_
                            refine lv_isub hx hb dX11_copy_120 ?_
                            refine m_top (y := nI ((gSz q no) - nj)) (pk_sub (by omega)) ?_
                            refine lv_icmp_le (tgt := 127) hx hb dX11_copy_121 (by decide) (fun c_20 => ?_) (fun c_20 => ?_)
                            · skip
                              have c_20 : nn ≤ ((gSz q no) - nj) := (nI_leI (by omega) (by omega)).mp c_20
                              have hk1 : nI 0 ≤ y ∧ y ≤ nI (gSz q nx) - n := by rw [hny, hnn]; exact (cp_ok hsl1 hny1 hnn1).mpr (by omega)
                              have hk2 : nI 0 ≤ j ∧ j ≤ nI (gSz q no) - n := by rw [hnj, hnn]; exact (cp_ok hsl2 hnj1 hnn1).mpr (by omega)
                              refine lv_bipush (v := nI 40) hx hb dX11_copy_127 (by decide) ?_
                              refine lv_iload_n hx hb dX11_copy_129 rfl (lv_at hl 1 rfl) ?_
                              refine m_top (y := nI nx) hnx ?_
                              refine lv_imul hx hb dX11_copy_130 ?_
                              refine m_top (y := nI (40 * nx)) (pk_mul 40 nx) ?_
                              refine lv_iload_n hx hb dX11_copy_131 rfl (lv_at hl 2 rfl) ?_
                              refine m_top (y := nI ny) hny ?_
                              refine lv_iadd hx hb dX11_copy_132 ?_
                              refine m_top (y := nI ((40 * nx) + ny)) (nI_add (40 * nx) ny) ?_
                              refine lv_istore (lv' := [(6, .int (nI ((40 * nx) + ny))), (0, .ref (ad 200)), (1, .int x), (2, .int y), (3, .int o), (4, .int j), (5, .int n)]) hx hb dX11_copy_133 hl (by decide) rfl (fun ls hl => ?_)
                              refine lv_bipush (v := nI 40) hx hb dX11_copy_135 (by decide) ?_
                              refine lv_iload_n hx hb dX11_copy_137 rfl (lv_at hl 4 rfl) ?_
                              refine m_top (y := nI no) hno ?_
                              refine lv_imul hx hb dX11_copy_138 ?_
                              refine m_top (y := nI (40 * no)) (pk_mul 40 no) ?_
                              refine lv_iload hx hb dX11_copy_139 (lv_at hl 5 rfl) ?_
                              refine m_top (y := nI nj) hnj ?_
                              refine lv_iadd hx hb dX11_copy_141 ?_
                              refine m_top (y := nI ((40 * no) + nj)) (nI_add (40 * no) nj) ?_
                              refine lv_istore (lv' := [(7, .int (nI ((40 * no) + nj))), (6, .int (nI ((40 * nx) + ny))), (0, .ref (ad 200)), (1, .int x), (2, .int y), (3, .int o), (4, .int j), (5, .int n)]) hx hb dX11_copy_142 hl (by decide) rfl (fun ls hl => ?_)
                              by_cases hab : 40 * nx + ny < 40 * no + nj
                              · skip
                                refine lv_iconst (v := nI 0) hx hb dX11_copy_144 (by decide) ?_
                                refine lv_istore (lv' := [(8, .int (nI 0)), (7, .int (nI ((40 * no) + nj))), (6, .int (nI ((40 * nx) + ny))), (0, .ref (ad 200)), (1, .int x), (2, .int y), (3, .int o), (4, .int j), (5, .int n)]) hx hb dX11_copy_145 hl (by decide) rfl (fun ls hl => ?_)
                                have loop_147 : ∀ (n_147 : Nat) (k : Nat) (V1 : mV) (H : Heap) (locs : List Loc) (ls : Array Slot), (k ≤ nn) → (∀ a, a ≠ 213 → V1 a = V a) → (∀ t, V1 213 t = if 40 * no + nj + (nn - k) ≤ t ∧ t < 40 * no + nj + nn then V 213 (40 * nx + ny + (t - (40 * no + nj))) else V 213 t) → (nn - k) < n_147 → mC (mA ad sh s.heap.size) s.heap s G ad sh V1 H locs → lv_has ls 10 [(7, .int (nI ((40 * no) + nj))), (6, .int (nI ((40 * nx) + ny))), (0, .ref (ad 200)), (1, .int x), (2, .int y), (3, .int o), (4, .int j), (5, .int n), (8, .int (nI k))] → W p l e ({ frames := 1, cells := 0, slots := 0, locals := 22 } : Room) s m ([.ref (ad 200), .int x, .int y, .int o, .int j, .int n] : List Value).toArray below meth c H locs 0 0 (MQ below (mPost G ad sh s.heap.size (mPi ad sh (fun r V' => (aCopy q x y o j n) = r ∧ (MI sh V' (nCopy q x y o j n)) ∧ (∀ a, a < 200 → V' a = V a)))) ([.ref (ad 200), .int x, .int y, .int o, .int j, .int n] : List Value).toArray s 0 0 (mA ad sh s.heap.size)) (F0 m 147 ls []) := by
                                  intro n_147
                                  induction n_147 with
                                  | zero => intro k V1 H locs ls hk hf hv hM_ hW hl; omega
                                  | succ n_147 ih_147 =>
                                    intro k V1 H locs ls hk hf hv hM_ hW hl
                                    refine lv_iload hx hb dX11_copy_147 (lv_at hl 8 rfl) ?_
                                    refine lv_iload hx hb dX11_copy_149 (lv_at hl 7 rfl) ?_
                                    refine m_top (y := nI nn) hnn ?_
                                    refine lv_icmp_ge (tgt := 201) hx hb dX11_copy_151 (by decide) (fun c_21 => ?_) (fun c_21 => ?_)
                                    · skip
                                      have c_21 : nn ≤ k := (nI_leI (by omega) (by omega)).mp c_21
                                      refine lv_iload hx hb dX11_copy_201 (lv_at hl 7 rfl) ?_
                                      refine m_top (y := nI nn) hnn ?_
                                      exact m_iret S hr hlk hW dX11_copy_203 (by exact ⟨by simp only [aCopy, if_pos w_3, hcx, if_pos w_8, hco, if_neg c_11, if_neg c_12, if_pos c_13, if_neg c_14, if_pos hk1, if_pos hk2, hcn, hcy, hcj]; exact hnn, by simp only [nCopy, if_pos w_3, hcx, if_pos w_8, hco, if_neg c_11, if_neg c_12, if_pos c_13, if_neg c_14, if_pos hk1, if_pos hk2, hcn, hcy, hcj]; exact copy_s hI hlnx hlno (by omega) (by omega) hf (fun t => by rw [hv]; rw [show nn - k = 0 by omega, Nat.add_zero]), fun a ha => hf a (by omega)⟩)
                                    · skip
                                      have c_21 : ¬ nn ≤ k := mt (nI_leI (by omega) (by omega)).mpr c_21
                                      refine lv_iload hx hb dX11_copy_154 (lv_at hl 1 rfl) ?_
                                      refine lv_iload hx hb dX11_copy_156 (lv_at hl 0 rfl) ?_
                                      refine lv_icmp_ge (tgt := 171) hx hb dX11_copy_158 (by decide) (fun c_22 => ?_) (fun c_22 => ?_)
                                      · skip
                                        have c_22 : ((40 * no) + nj) ≤ ((40 * nx) + ny) := (nI_leI (by omega) (by omega)).mp c_22
                                        exfalso; omega
                                      · skip
                                        have c_22 : ¬ ((40 * no) + nj) ≤ ((40 * nx) + ny) := mt (nI_leI (by omega) (by omega)).mpr c_22
                                        refine lv_iload hx hb dX11_copy_161 (lv_at hl 7 rfl) ?_
                                        refine m_top (y := nI nn) hnn ?_
                                        refine lv_iconst (v := nI 1) hx hb dX11_copy_163 (by decide) ?_
                                        refine lv_isub hx hb dX11_copy_164 ?_
                                        refine m_top (y := nI (nn - 1)) (pk_sub (by omega)) ?_
                                        refine lv_iload hx hb dX11_copy_165 (lv_at hl 8 rfl) ?_
                                        refine lv_isub hx hb dX11_copy_167 ?_
                                        refine m_top (y := nI ((nn - 1) - k)) (pk_sub (by omega)) ?_
                                        refine lv_goto (tgt := 173) hx hb dX11_copy_168 (by decide) ?_
                                        refine lv_istore (lv' := [(9, .int (nI ((nn - 1) - k))), (7, .int (nI ((40 * no) + nj))), (6, .int (nI ((40 * nx) + ny))), (0, .ref (ad 200)), (1, .int x), (2, .int y), (3, .int o), (4, .int j), (5, .int n), (8, .int (nI k))]) hx hb dX11_copy_173 hl (by decide) rfl (fun ls hl => ?_)
                                        refine lv_aload_n hx hb dX11_copy_175 rfl (lv_at hl 3 rfl) ?_
                                        refine m_getr S hW hZ.sp.1 19 rfl (j := 213) rfl kX11 (iW11 _) (by decide) (List.mem_cons_of_mem _ (wa_11 _ (List.mem_of_getElem? (i := 14) (by decide +kernel)))) dX11_copy_176 ?_
                                        refine lv_iload hx hb dX11_copy_179 (lv_at hl 1 rfl) ?_
                                        refine lv_iload hx hb dX11_copy_181 (lv_at hl 0 rfl) ?_
                                        refine lv_iadd hx hb dX11_copy_183 ?_
                                        refine m_top (y := nI (((40 * no) + nj) + ((nn - 1) - k))) (nI_add ((40 * no) + nj) ((nn - 1) - k)) ?_
                                        refine lv_aload_n hx hb dX11_copy_184 rfl (lv_at hl 3 rfl) ?_
                                        refine m_getr S hW hZ.sp.1 19 rfl (j := 213) rfl kX11 (iW11 _) (by decide) (List.mem_cons_of_mem _ (wa_11 _ (List.mem_of_getElem? (i := 14) (by decide +kernel)))) dX11_copy_185 ?_
                                        refine lv_iload hx hb dX11_copy_188 (lv_at hl 2 rfl) ?_
                                        refine lv_iload hx hb dX11_copy_190 (lv_at hl 0 rfl) ?_
                                        refine lv_iadd hx hb dX11_copy_192 ?_
                                        refine m_top (y := nI (((40 * nx) + ny) + ((nn - 1) - k))) (nI_add ((40 * nx) + ny) ((nn - 1) - k)) ?_
                                        refine m_iald S hW hZ.sp.2.2.2.2.2.2.2.2.2.2.2.2.2.1 (((40 * nx) + ny) + ((nn - 1) - k)) rfl (by omega) (by decide) dX11_copy_193 ?_
                                        refine m_top (y := (V 213 (40 * nx + ny + (nn - 1 - k)))) (by rw [hv, if_neg (by omega)]) ?_
                                        refine m_iast S hW hZ.sp.2.2.2.2.2.2.2.2.2.2.2.2.2.1 (((40 * no) + nj) + ((nn - 1) - k)) rfl (by omega) (by decide) dX11_copy_194 (fun H locs hW => ?_)
                                        obtain ⟨V_23, eV_23⟩ : ∃ vv_ : mV, vv_ = mU V1 213 (((40 * no) + nj) + ((nn - 1) - k)) ((V 213 (40 * nx + ny + (nn - 1 - k)))) := ⟨_, rfl⟩
                                        rw [← eV_23] at hW
                                        refine lv_iinc (v := nI (k + 1)) (lv' := [(8, .int (nI (k + 1))), (9, .int (nI ((nn - 1) - k))), (7, .int (nI ((40 * no) + nj))), (6, .int (nI ((40 * nx) + ny))), (0, .ref (ad 200)), (1, .int x), (2, .int y), (3, .int o), (4, .int j), (5, .int n)]) hx hb dX11_copy_195 hl (k := 9) rfl (m_inc k 1) (by decide) rfl (fun ls hl => ?_)
                                        refine lv_goto (tgt := 147) hx hb dX11_copy_198 (by decide) ?_
                                        exact ih_147  (k + 1) V_23 _ _ _ (by omega) (by intro a ha; rw [eV_23, mU_no _ _ ha]; exact hf a ha) (by exact cp_step_b hv eV_23 hab (by omega)) (by omega) hW (lv_sub hl [2, 3, 4, 5, 6, 7, 8, 9, 0] rfl)
                                exact loop_147 (nn - 0 + 1) 0 V _ _ _ (by omega) (by exact fun _ _ => rfl) (by intro t; rw [if_neg (by omega)]) (by omega) hW (lv_sub hl [1, 2, 3, 4, 5, 6, 7, 8, 0] rfl)
                              · skip
                                refine lv_iconst (v := nI 0) hx hb dX11_copy_144 (by decide) ?_
                                refine lv_istore (lv' := [(8, .int (nI 0)), (7, .int (nI ((40 * no) + nj))), (6, .int (nI ((40 * nx) + ny))), (0, .ref (ad 200)), (1, .int x), (2, .int y), (3, .int o), (4, .int j), (5, .int n)]) hx hb dX11_copy_145 hl (by decide) rfl (fun ls hl => ?_)
                                have loop_147 : ∀ (n_147 : Nat) (k : Nat) (V1 : mV) (H : Heap) (locs : List Loc) (ls : Array Slot), (k ≤ nn) → (∀ a, a ≠ 213 → V1 a = V a) → (∀ t, V1 213 t = if 40 * no + nj ≤ t ∧ t < 40 * no + nj + k then V 213 (40 * nx + ny + (t - (40 * no + nj))) else V 213 t) → (nn - k) < n_147 → mC (mA ad sh s.heap.size) s.heap s G ad sh V1 H locs → lv_has ls 10 [(7, .int (nI ((40 * no) + nj))), (6, .int (nI ((40 * nx) + ny))), (0, .ref (ad 200)), (1, .int x), (2, .int y), (3, .int o), (4, .int j), (5, .int n), (8, .int (nI k))] → W p l e ({ frames := 1, cells := 0, slots := 0, locals := 22 } : Room) s m ([.ref (ad 200), .int x, .int y, .int o, .int j, .int n] : List Value).toArray below meth c H locs 0 0 (MQ below (mPost G ad sh s.heap.size (mPi ad sh (fun r V' => (aCopy q x y o j n) = r ∧ (MI sh V' (nCopy q x y o j n)) ∧ (∀ a, a < 200 → V' a = V a)))) ([.ref (ad 200), .int x, .int y, .int o, .int j, .int n] : List Value).toArray s 0 0 (mA ad sh s.heap.size)) (F0 m 147 ls []) := by
                                  intro n_147
                                  induction n_147 with
                                  | zero => intro k V1 H locs ls hk hf hv hM_ hW hl; omega
                                  | succ n_147 ih_147 =>
                                    intro k V1 H locs ls hk hf hv hM_ hW hl
                                    refine lv_iload hx hb dX11_copy_147 (lv_at hl 8 rfl) ?_
                                    refine lv_iload hx hb dX11_copy_149 (lv_at hl 7 rfl) ?_
                                    refine m_top (y := nI nn) hnn ?_
                                    refine lv_icmp_ge (tgt := 201) hx hb dX11_copy_151 (by decide) (fun c_24 => ?_) (fun c_24 => ?_)
                                    · skip
                                      have c_24 : nn ≤ k := (nI_leI (by omega) (by omega)).mp c_24
                                      refine lv_iload hx hb dX11_copy_201 (lv_at hl 7 rfl) ?_
                                      refine m_top (y := nI nn) hnn ?_
                                      exact m_iret S hr hlk hW dX11_copy_203 (by exact ⟨by simp only [aCopy, if_pos w_3, hcx, if_pos w_8, hco, if_neg c_11, if_neg c_12, if_pos c_13, if_neg c_14, if_pos hk1, if_pos hk2, hcn, hcy, hcj]; exact hnn, by simp only [nCopy, if_pos w_3, hcx, if_pos w_8, hco, if_neg c_11, if_neg c_12, if_pos c_13, if_neg c_14, if_pos hk1, if_pos hk2, hcn, hcy, hcj]; exact copy_s hI hlnx hlno (by omega) (by omega) hf (fun t => by rw [hv]; rw [show k = nn by omega]), fun a ha => hf a (by omega)⟩)
                                    · skip
                                      have c_24 : ¬ nn ≤ k := mt (nI_leI (by omega) (by omega)).mpr c_24
                                      refine lv_iload hx hb dX11_copy_154 (lv_at hl 1 rfl) ?_
                                      refine lv_iload hx hb dX11_copy_156 (lv_at hl 0 rfl) ?_
                                      refine lv_icmp_ge (tgt := 171) hx hb dX11_copy_158 (by decide) (fun c_25 => ?_) (fun c_25 => ?_)
                                      · skip
                                        have c_25 : ((40 * no) + nj) ≤ ((40 * nx) + ny) := (nI_leI (by omega) (by omega)).mp c_25
                                        refine lv_iload hx hb dX11_copy_171 (lv_at hl 8 rfl) ?_
                                        refine lv_istore (lv' := [(9, .int (nI k)), (7, .int (nI ((40 * no) + nj))), (6, .int (nI ((40 * nx) + ny))), (0, .ref (ad 200)), (1, .int x), (2, .int y), (3, .int o), (4, .int j), (5, .int n), (8, .int (nI k))]) hx hb dX11_copy_173 hl (by decide) rfl (fun ls hl => ?_)
                                        refine lv_aload_n hx hb dX11_copy_175 rfl (lv_at hl 3 rfl) ?_
                                        refine m_getr S hW hZ.sp.1 19 rfl (j := 213) rfl kX11 (iW11 _) (by decide) (List.mem_cons_of_mem _ (wa_11 _ (List.mem_of_getElem? (i := 14) (by decide +kernel)))) dX11_copy_176 ?_
                                        refine lv_iload hx hb dX11_copy_179 (lv_at hl 1 rfl) ?_
                                        refine lv_iload hx hb dX11_copy_181 (lv_at hl 0 rfl) ?_
                                        refine lv_iadd hx hb dX11_copy_183 ?_
                                        refine m_top (y := nI (((40 * no) + nj) + k)) (nI_add ((40 * no) + nj) k) ?_
                                        refine lv_aload_n hx hb dX11_copy_184 rfl (lv_at hl 3 rfl) ?_
                                        refine m_getr S hW hZ.sp.1 19 rfl (j := 213) rfl kX11 (iW11 _) (by decide) (List.mem_cons_of_mem _ (wa_11 _ (List.mem_of_getElem? (i := 14) (by decide +kernel)))) dX11_copy_185 ?_
                                        refine lv_iload hx hb dX11_copy_188 (lv_at hl 2 rfl) ?_
                                        refine lv_iload hx hb dX11_copy_190 (lv_at hl 0 rfl) ?_
                                        refine lv_iadd hx hb dX11_copy_192 ?_
                                        refine m_top (y := nI (((40 * nx) + ny) + k)) (nI_add ((40 * nx) + ny) k) ?_
                                        refine m_iald S hW hZ.sp.2.2.2.2.2.2.2.2.2.2.2.2.2.1 (((40 * nx) + ny) + k) rfl (by omega) (by decide) dX11_copy_193 ?_
                                        refine m_top (y := (V 213 (40 * nx + ny + k))) (by rw [hv, if_neg (by omega)]) ?_
                                        refine m_iast S hW hZ.sp.2.2.2.2.2.2.2.2.2.2.2.2.2.1 (((40 * no) + nj) + k) rfl (by omega) (by decide) dX11_copy_194 (fun H locs hW => ?_)
                                        obtain ⟨V_26, eV_26⟩ : ∃ vv_ : mV, vv_ = mU V1 213 (((40 * no) + nj) + k) ((V 213 (40 * nx + ny + k))) := ⟨_, rfl⟩
                                        rw [← eV_26] at hW
                                        refine lv_iinc (v := nI (k + 1)) (lv' := [(8, .int (nI (k + 1))), (9, .int (nI k)), (7, .int (nI ((40 * no) + nj))), (6, .int (nI ((40 * nx) + ny))), (0, .ref (ad 200)), (1, .int x), (2, .int y), (3, .int o), (4, .int j), (5, .int n)]) hx hb dX11_copy_195 hl (k := 9) rfl (m_inc k 1) (by decide) rfl (fun ls hl => ?_)
                                        refine lv_goto (tgt := 147) hx hb dX11_copy_198 (by decide) ?_
                                        exact ih_147  (k + 1) V_26 _ _ _ (by omega) (by intro a ha; rw [eV_26, mU_no _ _ ha]; exact hf a ha) (by exact cp_step_f hv eV_26 hab) (by omega) hW (lv_sub hl [2, 3, 4, 5, 6, 7, 8, 9, 0] rfl)
                                      · skip
                                        have c_25 : ¬ ((40 * no) + nj) ≤ ((40 * nx) + ny) := mt (nI_leI (by omega) (by omega)).mpr c_25
                                        exfalso; omega
                                exact loop_147 (nn - 0 + 1) 0 V _ _ _ (by omega) (by exact fun _ _ => rfl) (by intro t; rw [if_neg (by omega)]) (by omega) hW (lv_sub hl [1, 2, 3, 4, 5, 6, 7, 8, 0] rfl)
                            · skip
                              have c_20 : ¬ nn ≤ ((gSz q no) - nj) := mt (nI_leI (by omega) (by omega)).mpr c_20
                              have hno9 : ¬ ((nI 0 ≤ y ∧ y ≤ nI (gSz q nx) - n) ∧ (nI 0 ≤ j ∧ j ≤ nI (gSz q no) - n)) := fun z => by have z1 := z.1; have z2 := z.2; rw [hny, hnn] at z1; rw [hnj, hnn] at z2; have y1 := (cp_ok hsl1 hny1 hnn1).mp z1; have y2 := (cp_ok hsl2 hnj1 hnn1).mp z2; omega
                              refine lv_bipush (v := -12) hx hb dX11_copy_124 (by decide) ?_
                              exact m_iret S hr hlk hW dX11_copy_126 (by exact ⟨by simp only [aCopy, if_pos w_3, hcx, if_pos w_8, hco, if_neg c_11, if_neg c_12, if_pos c_13, if_neg c_14]; exact if_no2 hno9, by simp only [nCopy, if_pos w_3, hcx, if_pos w_8, hco, if_neg c_11, if_neg c_12, if_pos c_13, if_neg c_14]; rw [if_no2 hno9]; exact hI, fun _ _ => rfl⟩)
              · skip
                refine lv_bipush (v := -13) hx hb dX11_copy_59 (by decide) ?_
                exact m_iret S hr hlk hW dX11_copy_61 (by exact ⟨by simp only [aCopy, if_pos w_3, hcx, if_pos w_8, hco, if_neg c_11, if_neg c_12, if_neg c_13]; try rfl, by simp only [nCopy, if_pos w_3, hcx, if_pos w_8, hco, if_neg c_11, if_neg c_12, if_neg c_13]; exact hI, fun _ _ => rfl⟩)
            · skip
              refine lv_bipush (v := -11) hx hb dX11_copy_41 (by decide) ?_
              exact m_iret S hr hlk hW dX11_copy_43 (by exact ⟨by simp only [aCopy, if_pos w_3, hcx, if_pos w_8, hco, if_neg c_11, if_pos c_12]; try rfl, by simp only [nCopy, if_pos w_3, hcx, if_pos w_8, hco, if_neg c_11, if_pos c_12]; exact hI, fun _ _ => rfl⟩)
        · exact absurd c_10 (by decide)
      · skip
        refine m_if_ne (tgt := 21) hx hb dX11_copy_15 (by decide) (fun c_27 => ?_) (fun c_27 => ?_)
        · exact absurd c_27 (by decide)
        · skip
          refine lv_bipush (v := -2) hx hb dX11_copy_18 (by decide) ?_
          exact m_iret S hr hlk hW dX11_copy_20 (by exact ⟨by simp only [aCopy, if_pos w_3, hcx, if_neg w_9]; try rfl, by simp only [nCopy, if_pos w_3, hcx, if_neg w_9]; exact hI, fun _ _ => rfl⟩)
  · skip
    refine m_if_eq (tgt := 18) hx hb dX11_copy_6 (by decide) (fun c_28 => ?_) (fun c_28 => ?_)
    · skip
      refine lv_bipush (v := -2) hx hb dX11_copy_18 (by decide) ?_
      exact m_iret S hr hlk hW dX11_copy_20 (by exact ⟨by simp only [aCopy, if_neg w_4]; try rfl, by simp only [nCopy, if_neg w_4]; exact hI, fun _ _ => rfl⟩)
    · exact absurd c_28 (by decide)
set_option maxHeartbeats 4000000 in
set_option maxRecDepth 100000 in
theorem c_X11_eatersBy (l : Launch) (G : mG) (ad : Nat → Nat) (sh : Nat → Option mSh) (V : mV) (q : Sg) (x so y n : Int32) (hI : MI sh V q) : mM l yX11_eatersBy wsX11_eatersBy ({ frames := 2, cells := 0, slots := 0, locals := 44 } : Room) G ad sh V [.ref (ad 200), .int x, .int so, .int y, .int n] 0 0 (mPi ad sh (fun r V' => (aBy q x so y n) = r ∧ (MI sh V' (nBy q x so y n)) ∧ (∀ a, a < 200 → V' a = V a))) := by
  refine mM.of (cc := cX11_eatersBy) (maxL := 9) (ret := (some .int)) (by decide) rfl (Nat.le_of_ble_eq_true rfl) ?_
  intro p e s m below meth c S hr hlk hnm hW ls hl
  obtain ⟨hx, hb, hml, hown, hts⟩ := id S
  have hl : lv_has ls 9 [(0, .ref (ad 200)), (1, .int x), (2, .int so), (3, .int y), (4, .int n)] := hl
  have hS0 : True := trivial
  have hZ := hI.z
  have hne5 := hZ.ne5
  have hng6 := hZ.ng6
  have htn := hI.tn
  refine lv_iload_n hx hb dX11_eatersBy_0 rfl (lv_at hl 1 rfl) ?_
  refine lv_iconst (v := nI 0) hx hb dX11_eatersBy_1 (by decide) ?_
  refine lv_iconst (v := nI 3) hx hb dX11_eatersBy_2 (by decide) ?_
  refine m_cip (m_rS S hW (c_X11_in l G ad sh V x 0 3 (by first | assumption | omega) (by first | assumption | omega)) (va_cwS 3 hts (gCall [.methodLink RX11 84 yX11_in, .static yX11_in, .initialized RX11] (List.forall_mem_cons.mpr ⟨(wa_12 _ (List.mem_of_getElem? (i := 16) (by decide +kernel))), (List.forall_mem_cons.mpr ⟨(wa_12 _ (List.mem_of_getElem? (i := 14) (by decide +kernel))), (List.forall_mem_cons.mpr ⟨(wa_12 _ (List.mem_of_getElem? (i := 15) (by decide +kernel))), (List.forall_mem_cons.mpr ⟨(wa_1 _ (List.mem_of_getElem? (i := 5) (by decide +kernel))), (fun _ h => absurd h List.not_mem_nil)⟩)⟩)⟩)⟩)) rfl rfl rfl (by decide +kernel) ⟨Nat.le_of_ble_eq_true rfl, Nat.le_of_ble_eq_true rfl⟩) rfl hl.1 rfl (Nat.le_of_ble_eq_true rfl) dX11_eatersBy_3 ⟨Nat.le_of_ble_eq_true rfl, Nat.le_of_ble_eq_true rfl⟩) hW (fun r_2 H locs hp_1 hW => ?_)
  rcases hp_1 with ⟨rfl, w_3⟩ | ⟨rfl, w_4⟩
  · skip
    obtain ⟨nx, hnx, hwnx, hlnx⟩ := w_3.ex
    have hcx : x.toNatClampNeg = nx := by rw [hnx]; exact nI_clamp (by omega)
    refine m_if_eq (tgt := 28) hx hb dX11_eatersBy_6 (by decide) (fun c_5 => ?_) (fun c_5 => ?_)
    · exact absurd c_5 (by decide)
    · skip
      refine lv_iload_n hx hb dX11_eatersBy_9 rfl (lv_at hl 2 rfl) ?_
      refine lv_iconst (v := nI 0) hx hb dX11_eatersBy_10 (by decide) ?_
      refine lv_iconst (v := nI 2) hx hb dX11_eatersBy_11 (by decide) ?_
      refine m_cip (m_rS S hW (c_X11_in l G ad sh V so 0 2 (by first | assumption | omega) (by first | assumption | omega)) (va_cwS 3 hts (gCall [.methodLink RX11 84 yX11_in, .static yX11_in, .initialized RX11] (List.forall_mem_cons.mpr ⟨(wa_12 _ (List.mem_of_getElem? (i := 16) (by decide +kernel))), (List.forall_mem_cons.mpr ⟨(wa_12 _ (List.mem_of_getElem? (i := 14) (by decide +kernel))), (List.forall_mem_cons.mpr ⟨(wa_12 _ (List.mem_of_getElem? (i := 15) (by decide +kernel))), (List.forall_mem_cons.mpr ⟨(wa_1 _ (List.mem_of_getElem? (i := 5) (by decide +kernel))), (fun _ h => absurd h List.not_mem_nil)⟩)⟩)⟩)⟩)) rfl rfl rfl (by decide +kernel) ⟨Nat.le_of_ble_eq_true rfl, Nat.le_of_ble_eq_true rfl⟩) rfl hl.1 rfl (Nat.le_of_ble_eq_true rfl) dX11_eatersBy_12 ⟨Nat.le_of_ble_eq_true rfl, Nat.le_of_ble_eq_true rfl⟩) hW (fun r_7 H locs hp_6 hW => ?_)
      rcases hp_6 with ⟨rfl, w_8⟩ | ⟨rfl, w_9⟩
      · skip
        refine m_if_eq (tgt := 28) hx hb dX11_eatersBy_15 (by decide) (fun c_10 => ?_) (fun c_10 => ?_)
        · exact absurd c_10 (by decide)
        · skip
          refine lv_iload hx hb dX11_eatersBy_18 (lv_at hl 4 rfl) ?_
          refine lv_iconst (v := nI 0) hx hb dX11_eatersBy_20 (by decide) ?_
          refine lv_iconst (v := nI 5) hx hb dX11_eatersBy_21 (by decide) ?_
          refine m_cip (m_rS S hW (c_X11_in l G ad sh V n 0 5 (by first | assumption | omega) (by first | assumption | omega)) (va_cwS 3 hts (gCall [.methodLink RX11 84 yX11_in, .static yX11_in, .initialized RX11] (List.forall_mem_cons.mpr ⟨(wa_12 _ (List.mem_of_getElem? (i := 16) (by decide +kernel))), (List.forall_mem_cons.mpr ⟨(wa_12 _ (List.mem_of_getElem? (i := 14) (by decide +kernel))), (List.forall_mem_cons.mpr ⟨(wa_12 _ (List.mem_of_getElem? (i := 15) (by decide +kernel))), (List.forall_mem_cons.mpr ⟨(wa_1 _ (List.mem_of_getElem? (i := 5) (by decide +kernel))), (fun _ h => absurd h List.not_mem_nil)⟩)⟩)⟩)⟩)) rfl rfl rfl (by decide +kernel) ⟨Nat.le_of_ble_eq_true rfl, Nat.le_of_ble_eq_true rfl⟩) rfl hl.1 rfl (Nat.le_of_ble_eq_true rfl) dX11_eatersBy_22 ⟨Nat.le_of_ble_eq_true rfl, Nat.le_of_ble_eq_true rfl⟩) hW (fun r_12 H locs hp_11 hW => ?_)
          rcases hp_11 with ⟨rfl, w_13⟩ | ⟨rfl, w_14⟩
          · skip
            obtain ⟨nn, hnn, hwnn, hlnn⟩ := w_13.ex
            have hcn : n.toNatClampNeg = nn := by rw [hnn]; exact nI_clamp (by omega)
            refine m_if_ne (tgt := 31) hx hb dX11_eatersBy_25 (by decide) (fun c_15 => ?_) (fun c_15 => ?_)
            · skip
              refine lv_aload_n hx hb dX11_eatersBy_31 rfl (lv_at hl 0 rfl) ?_
              have hsl := hI.sl hlnx
              refine m_getr S hW hZ.sp.1 17 rfl (j := 211) rfl kX11 (iW11 _) (by decide) (List.mem_cons_of_mem _ (wa_11 _ (List.mem_of_getElem? (i := 12) (by decide +kernel)))) dX11_eatersBy_32 ?_
              refine lv_iload_n hx hb dX11_eatersBy_35 rfl (lv_at hl 1 rfl) ?_
              refine m_top (y := nI nx) hnx ?_
              refine m_iald S hW hZ.sp.2.2.2.2.2.2.2.2.2.2.2.1 nx rfl (by omega) (by decide) dX11_eatersBy_36 ?_
              refine m_top (y := (gSo q nx)) (hI.so hlnx) ?_
              refine lv_iconst (v := -1) hx hb dX11_eatersBy_37 (by decide) ?_
              refine lv_icmp_ne (tgt := 44) hx hb dX11_eatersBy_38 (by decide) (fun c_16 => ?_) (fun c_16 => ?_)
              · skip
                refine lv_aload_n hx hb dX11_eatersBy_44 rfl (lv_at hl 0 rfl) ?_
                refine m_getr S hW hZ.sp.1 17 rfl (j := 211) rfl kX11 (iW11 _) (by decide) (List.mem_cons_of_mem _ (wa_11 _ (List.mem_of_getElem? (i := 12) (by decide +kernel)))) dX11_eatersBy_45 ?_
                refine lv_iload_n hx hb dX11_eatersBy_48 rfl (lv_at hl 1 rfl) ?_
                refine m_top (y := nI nx) hnx ?_
                refine m_iald S hW hZ.sp.2.2.2.2.2.2.2.2.2.2.2.1 nx rfl (by omega) (by decide) dX11_eatersBy_49 ?_
                refine m_top (y := (gSo q nx)) (hI.so hlnx) ?_
                refine lv_iload_n hx hb dX11_eatersBy_50 rfl (lv_at hl 2 rfl) ?_
                refine lv_icmp_eq (tgt := 57) hx hb dX11_eatersBy_51 (by decide) (fun c_17 => ?_) (fun c_17 => ?_)
                · skip
                  refine lv_iconst (v := nI 0) hx hb dX11_eatersBy_57 (by decide) ?_
                  refine lv_istore (lv' := [(5, .int (nI 0)), (0, .ref (ad 200)), (1, .int x), (2, .int so), (3, .int y), (4, .int n)]) hx hb dX11_eatersBy_58 hl (by decide) rfl (fun ls hl => ?_)
                  refine lv_iconst (v := nI 0) hx hb dX11_eatersBy_60 (by decide) ?_
                  refine lv_istore (lv' := [(6, .int (nI 0)), (5, .int (nI 0)), (0, .ref (ad 200)), (1, .int x), (2, .int so), (3, .int y), (4, .int n)]) hx hb dX11_eatersBy_61 hl (by decide) rfl (fun ls hl => ?_)
                  have loop_63 : ∀ (n_63 : Nat) (q2 : Sg) (m0 k : Nat) (V1 : mV) (H : Heap) (locs : List Loc) (ls : Array Slot), (k ≤ nn) → (m0 ≤ k) → (MI sh V1 q2) → (∀ a, a < 200 → V1 a = V a) → (q2.2 = q.2) → ((fBy (gCl q nx) (gSz q nx) y (nn - k) k q2 m0) = (fBy (gCl q nx) (gSz q nx) y nn 0 q 0)) → (nn - k) < n_63 → mC (mA ad sh s.heap.size) s.heap s G ad sh V1 H locs → lv_has ls 9 [(0, .ref (ad 200)), (1, .int x), (2, .int so), (3, .int y), (4, .int n), (5, .int (nI m0)), (6, .int (nI k))] → W p l e ({ frames := 2, cells := 0, slots := 0, locals := 44 } : Room) s m ([.ref (ad 200), .int x, .int so, .int y, .int n] : List Value).toArray below meth c H locs 0 0 (MQ below (mPost G ad sh s.heap.size (mPi ad sh (fun r V' => (aBy q x so y n) = r ∧ (MI sh V' (nBy q x so y n)) ∧ (∀ a, a < 200 → V' a = V a)))) ([.ref (ad 200), .int x, .int so, .int y, .int n] : List Value).toArray s 0 0 (mA ad sh s.heap.size)) (F0 m 63 ls []) := by
                    intro n_63
                    induction n_63 with
                    | zero => intro q2 m0 k V1 H locs ls hk hm9 hI2 hF2 hq2 hbY hM_ hW hl; omega
                    | succ n_63 ih_63 =>
                      intro q2 m0 k V1 H locs ls hk hm9 hI2 hF2 hq2 hbY hM_ hW hl
                      refine lv_iload hx hb dX11_eatersBy_63 (lv_at hl 6 rfl) ?_
                      refine lv_iload hx hb dX11_eatersBy_65 (lv_at hl 4 rfl) ?_
                      refine m_top (y := nI nn) hnn ?_
                      refine lv_icmp_ge (tgt := 152) hx hb dX11_eatersBy_67 (by decide) (fun c_18 => ?_) (fun c_18 => ?_)
                      · skip
                        have c_18 : nn ≤ k := (nI_leI (by omega) (by omega)).mp c_18
                        refine lv_iload hx hb dX11_eatersBy_152 (lv_at hl 5 rfl) ?_
                        exact m_iret S hr hlk hW dX11_eatersBy_154 (by have hb9 : (fBy (gCl q nx) (gSz q nx) y nn 0 q 0) = (q2, nI m0) := (by rw [← hbY, show nn - k = 0 by omega, fBy]); exact ⟨by simp only [aBy, if_pos w_3, hcx, if_pos w_8, if_pos w_13, hcn, if_neg c_16, if_pos c_17]; rw [hb9], by simp only [nBy, if_pos w_3, hcx, if_pos w_8, if_pos w_13, hcn, if_neg c_16, if_pos c_17]; rw [hb9]; exact hI2, hF2⟩)
                      · skip
                        have c_18 : ¬ nn ≤ k := mt (nI_leI (by omega) (by omega)).mpr c_18
                        by_cases hok : okBy (gSz q nx) y k
                        · skip
                          obtain ⟨ya, hya, hyb, hyc⟩ := okBy_ex hsl (by omega) hok
                          refine lv_iload_n hx hb dX11_eatersBy_70 rfl (lv_at hl 3 rfl) ?_
                          refine m_top (y := nI ya) hya ?_
                          refine lv_iconst (v := nI 2) hx hb dX11_eatersBy_71 (by decide) ?_
                          refine lv_iload hx hb dX11_eatersBy_72 (lv_at hl 6 rfl) ?_
                          refine lv_imul hx hb dX11_eatersBy_74 ?_
                          refine m_top (y := nI (2 * k)) (pk_mul 2 k) ?_
                          refine lv_iadd hx hb dX11_eatersBy_75 ?_
                          refine m_top (y := nI (ya + (2 * k))) (nI_add ya (2 * k)) ?_
                          refine lv_istore (lv' := [(7, .int (nI (ya + (2 * k)))), (0, .ref (ad 200)), (1, .int x), (2, .int so), (3, .int y), (4, .int n), (5, .int (nI m0)), (6, .int (nI k))]) hx hb dX11_eatersBy_76 hl (by decide) rfl (fun ls hl => ?_)
                          refine lv_iload_n hx hb dX11_eatersBy_78 rfl (lv_at hl 4 rfl) ?_
                          refine m_top (y := nI ya) hya ?_
                          refine m_if_lt (tgt := 101) hx hb dX11_eatersBy_79 (by decide) (fun c_19 => ?_) (fun c_19 => ?_)
                          · exact absurd c_19 (nI_pos (by omega))
                          · skip
                            refine lv_iload hx hb dX11_eatersBy_82 (lv_at hl 0 rfl) ?_
                            refine lv_iload_n hx hb dX11_eatersBy_84 rfl (lv_at hl 4 rfl) ?_
                            refine m_top (y := nI ya) hya ?_
                            refine lv_icmp_lt (tgt := 101) hx hb dX11_eatersBy_85 (by decide) (fun c_20 => ?_) (fun c_20 => ?_)
                            · skip
                              have c_20 : (ya + (2 * k)) < ya := (nI_ltI (by omega) (by omega)).mp c_20
                              exfalso; omega
                            · skip
                              have c_20 : ¬ (ya + (2 * k)) < ya := mt (nI_ltI (by omega) (by omega)).mpr c_20
                              refine lv_iload hx hb dX11_eatersBy_88 (lv_at hl 0 rfl) ?_
                              refine lv_aload_n hx hb dX11_eatersBy_90 rfl (lv_at hl 1 rfl) ?_
                              refine m_getr S hW hZ.sp.1 18 rfl (j := 212) rfl kX11 (iW11 _) (by decide) (List.mem_cons_of_mem _ (wa_11 _ (List.mem_of_getElem? (i := 13) (by decide +kernel)))) dX11_eatersBy_91 ?_
                              refine lv_iload_n hx hb dX11_eatersBy_94 rfl (lv_at hl 2 rfl) ?_
                              refine m_top (y := nI nx) hnx ?_
                              refine m_iald S hW hZ.sp.2.2.2.2.2.2.2.2.2.2.2.2.1 nx rfl (by omega) (by decide) dX11_eatersBy_95 ?_
                              refine m_top (y := nI (gSz q nx)) ((hI2.ss hlnx).trans (by rw [gSz_n hq2])) ?_
                              refine lv_iconst (v := nI 2) hx hb dX11_eatersBy_96 (by decide) ?_
                              refine lv_isub hx hb dX11_eatersBy_97 ?_
                              refine m_top (y := nI (gSz q nx - 2)) (pk_sub (by omega)) ?_
                              refine lv_icmp_le (tgt := 104) hx hb dX11_eatersBy_98 (by decide) (fun c_21 => ?_) (fun c_21 => ?_)
                              · skip
                                have c_21 : (ya + (2 * k)) ≤ (gSz q nx - 2) := (nI_leI (by omega) (by omega)).mp c_21
                                refine lv_bipush (v := nI 40) hx hb dX11_eatersBy_104 (by decide) ?_
                                refine lv_iload_n hx hb dX11_eatersBy_106 rfl (lv_at hl 2 rfl) ?_
                                refine m_top (y := nI nx) hnx ?_
                                refine lv_imul hx hb dX11_eatersBy_107 ?_
                                refine m_top (y := nI (40 * nx)) (pk_mul 40 nx) ?_
                                refine lv_iload hx hb dX11_eatersBy_108 (lv_at hl 0 rfl) ?_
                                refine lv_iadd hx hb dX11_eatersBy_110 ?_
                                refine m_top (y := nI ((40 * nx) + (ya + (2 * k)))) (nI_add (40 * nx) (ya + (2 * k))) ?_
                                refine lv_istore (lv' := [(8, .int (nI ((40 * nx) + (ya + (2 * k))))), (7, .int (nI (ya + (2 * k)))), (0, .ref (ad 200)), (1, .int x), (2, .int so), (3, .int y), (4, .int n), (5, .int (nI m0)), (6, .int (nI k))]) hx hb dX11_eatersBy_111 hl (by decide) rfl (fun ls hl => ?_)
                                refine lv_iload hx hb dX11_eatersBy_113 (lv_at hl 7 rfl) ?_
                                refine lv_aload_n hx hb dX11_eatersBy_115 rfl (lv_at hl 2 rfl) ?_
                                refine lv_aload_n hx hb dX11_eatersBy_116 rfl (lv_at hl 2 rfl) ?_
                                refine m_getr S hW hZ.sp.1 19 rfl (j := 213) rfl kX11 (iW11 _) (by decide) (List.mem_cons_of_mem _ (wa_11 _ (List.mem_of_getElem? (i := 14) (by decide +kernel)))) dX11_eatersBy_117 ?_
                                refine lv_iload hx hb dX11_eatersBy_120 (lv_at hl 0 rfl) ?_
                                refine m_iald S hW hZ.sp.2.2.2.2.2.2.2.2.2.2.2.2.2.1 ((40 * nx) + (ya + (2 * k))) rfl (by omega) (by decide) dX11_eatersBy_122 ?_
                                refine m_top (y := (gCl q nx (ya + 2 * k))) (by rw [show 40 * nx + (ya + 2 * k) = 40 * nx + (ya + 2 * k) by omega, hI2.sc hlnx (by omega), gCl_n hq2]) ?_
                                refine lv_aload_n hx hb dX11_eatersBy_123 rfl (lv_at hl 2 rfl) ?_
                                refine m_getr S hW hZ.sp.1 19 rfl (j := 213) rfl kX11 (iW11 _) (by decide) (List.mem_cons_of_mem _ (wa_11 _ (List.mem_of_getElem? (i := 14) (by decide +kernel)))) dX11_eatersBy_124 ?_
                                refine lv_iload hx hb dX11_eatersBy_127 (lv_at hl 0 rfl) ?_
                                refine lv_iconst (v := nI 1) hx hb dX11_eatersBy_129 (by decide) ?_
                                refine lv_iadd hx hb dX11_eatersBy_130 ?_
                                refine m_top (y := nI (((40 * nx) + (ya + (2 * k))) + 1)) (nI_add ((40 * nx) + (ya + (2 * k))) 1) ?_
                                refine m_iald S hW hZ.sp.2.2.2.2.2.2.2.2.2.2.2.2.2.1 (((40 * nx) + (ya + (2 * k))) + 1) rfl (by omega) (by decide) dX11_eatersBy_131 ?_
                                refine m_top (y := (gCl q nx (ya + 2 * k + 1))) (by rw [show 40 * nx + (ya + 2 * k) + 1 = 40 * nx + (ya + 2 * k + 1) by omega, hI2.sc hlnx (by omega), gCl_n hq2]) ?_
                                refine m_ci (m_rV S hW (c_X11_eater l G ad sh V1 q2 (gCl q nx (ya + 2 * k)) (gCl q nx (ya + 2 * k + 1)) hI2) (cwV 2 hts (gCall [.methodLink RX11 293 yX11_eater, .instanceMethod yX11_eater, .selects RX11 yX11_eater yX11_eater, .initialized RX11] (List.forall_mem_cons.mpr ⟨(wa_23 _ (List.mem_of_getElem? (i := 6) (by decide +kernel))), (List.forall_mem_cons.mpr ⟨(wa_45 _ (List.mem_of_getElem? (i := 23) (by decide +kernel))), (List.forall_mem_cons.mpr ⟨(wa_23 _ (List.mem_of_getElem? (i := 4) (by decide +kernel))), (List.forall_mem_cons.mpr ⟨(wa_23 _ (List.mem_of_getElem? (i := 5) (by decide +kernel))), (List.forall_mem_cons.mpr ⟨(wa_1 _ (List.mem_of_getElem? (i := 5) (by decide +kernel))), (fun _ h => absurd h List.not_mem_nil)⟩)⟩)⟩)⟩)⟩)) rfl rfl rfl (by decide +kernel) ⟨Nat.le_of_ble_eq_true rfl, Nat.le_of_ble_eq_true rfl⟩) hZ.sp.1 kX11 rfl hl.1 rfl (Nat.le_of_ble_eq_true rfl) dX11_eatersBy_132 ⟨Nat.le_of_ble_eq_true rfl, Nat.le_of_ble_eq_true rfl⟩) hW (fun r_24 V_22 H locs hp_23 hW => ?_)
                                obtain ⟨rfl, hI_25, hF_26⟩ := hp_23
                                refine m_if_lt (tgt := 142) hx hb dX11_eatersBy_135 (by decide) (fun c_27 => ?_) (fun c_27 => ?_)
                                · skip
                                  refine lv_iconst (v := nI 0) hx hb dX11_eatersBy_142 (by decide) ?_
                                  refine lv_iadd hx hb dX11_eatersBy_143 ?_
                                  refine m_top (y := nI (m0 + 0)) (nI_add m0 0) ?_
                                  refine lv_istore (lv' := [(5, .int (nI (m0 + 0))), (8, .int (nI ((40 * nx) + (ya + (2 * k))))), (7, .int (nI (ya + (2 * k)))), (0, .ref (ad 200)), (1, .int x), (2, .int so), (3, .int y), (4, .int n), (6, .int (nI k))]) hx hb dX11_eatersBy_144 hl (by decide) rfl (fun ls hl => ?_)
                                  refine lv_iinc (v := nI (k + 1)) (lv' := [(6, .int (nI (k + 1))), (5, .int (nI (m0 + 0))), (8, .int (nI ((40 * nx) + (ya + (2 * k))))), (7, .int (nI (ya + (2 * k)))), (0, .ref (ad 200)), (1, .int x), (2, .int so), (3, .int y), (4, .int n)]) hx hb dX11_eatersBy_146 hl (k := 8) rfl (m_inc k 1) (by decide) rfl (fun ls hl => ?_)
                                  refine lv_goto (tgt := 63) hx hb dX11_eatersBy_149 (by decide) ?_
                                  exact ih_63  (nEater q2 (gCl q nx (ya + 2 * k)) (gCl q nx (ya + 2 * k + 1))) (m0 + 0) (k + 1) V_22 _ _ _ (by omega) (by omega) (by exact hI_25) (by exact fun a ha => (hF_26 a ha).trans (hF2 a ha)) (by rw [nEater_2]; exact hq2) (by rw [← hbY, show nn - k = (nn - (k + 1)) + 1 by omega, fBy_ok hok hya hyc, if_pos c_27]; try rfl) (by omega) hW (lv_sub hl [4, 5, 6, 7, 8, 1, 0] rfl)
                                · skip
                                  refine lv_iconst (v := nI 1) hx hb dX11_eatersBy_138 (by decide) ?_
                                  refine lv_goto (tgt := 143) hx hb dX11_eatersBy_139 (by decide) ?_
                                  refine lv_iadd hx hb dX11_eatersBy_143 ?_
                                  refine m_top (y := nI (m0 + 1)) (nI_add m0 1) ?_
                                  refine lv_istore (lv' := [(5, .int (nI (m0 + 1))), (8, .int (nI ((40 * nx) + (ya + (2 * k))))), (7, .int (nI (ya + (2 * k)))), (0, .ref (ad 200)), (1, .int x), (2, .int so), (3, .int y), (4, .int n), (6, .int (nI k))]) hx hb dX11_eatersBy_144 hl (by decide) rfl (fun ls hl => ?_)
                                  refine lv_iinc (v := nI (k + 1)) (lv' := [(6, .int (nI (k + 1))), (5, .int (nI (m0 + 1))), (8, .int (nI ((40 * nx) + (ya + (2 * k))))), (7, .int (nI (ya + (2 * k)))), (0, .ref (ad 200)), (1, .int x), (2, .int so), (3, .int y), (4, .int n)]) hx hb dX11_eatersBy_146 hl (k := 8) rfl (m_inc k 1) (by decide) rfl (fun ls hl => ?_)
                                  refine lv_goto (tgt := 63) hx hb dX11_eatersBy_149 (by decide) ?_
                                  exact ih_63  (nEater q2 (gCl q nx (ya + 2 * k)) (gCl q nx (ya + 2 * k + 1))) (m0 + 1) (k + 1) V_22 _ _ _ (by omega) (by omega) (by exact hI_25) (by exact fun a ha => (hF_26 a ha).trans (hF2 a ha)) (by rw [nEater_2]; exact hq2) (by rw [← hbY, show nn - k = (nn - (k + 1)) + 1 by omega, fBy_ok hok hya hyc, if_neg c_27]) (by omega) hW (lv_sub hl [4, 5, 6, 7, 8, 1, 0] rfl)
                              · skip
                                have c_21 : ¬ (ya + (2 * k)) ≤ (gSz q nx - 2) := mt (nI_leI (by omega) (by omega)).mpr c_21
                                exfalso; omega
                        · skip
                          refine lv_iload_n hx hb dX11_eatersBy_70 rfl (lv_at hl 3 rfl) ?_
                          refine lv_iconst (v := nI 2) hx hb dX11_eatersBy_71 (by decide) ?_
                          refine lv_iload hx hb dX11_eatersBy_72 (lv_at hl 6 rfl) ?_
                          refine lv_imul hx hb dX11_eatersBy_74 ?_
                          refine m_top (y := nI (2 * k)) (pk_mul 2 k) ?_
                          refine lv_iadd hx hb dX11_eatersBy_75 ?_
                          refine lv_istore (lv' := [(7, .int (y + (nI (2 * k)))), (0, .ref (ad 200)), (1, .int x), (2, .int so), (3, .int y), (4, .int n), (5, .int (nI m0)), (6, .int (nI k))]) hx hb dX11_eatersBy_76 hl (by decide) rfl (fun ls hl => ?_)
                          refine lv_iload_n hx hb dX11_eatersBy_78 rfl (lv_at hl 4 rfl) ?_
                          refine m_if_lt (tgt := 101) hx hb dX11_eatersBy_79 (by decide) (fun c_28 => ?_) (fun c_28 => ?_)
                          · skip
                            refine lv_bipush (v := -12) hx hb dX11_eatersBy_101 (by decide) ?_
                            exact m_iret S hr hlk hW dX11_eatersBy_103 (by have hb9 : (fBy (gCl q nx) (gSz q nx) y nn 0 q 0) = (q2, -12) := (by rw [← hbY, show nn - k = (nn - (k + 1)) + 1 by omega, fBy_no hok]); exact ⟨by simp only [aBy, if_pos w_3, hcx, if_pos w_8, if_pos w_13, hcn, if_neg c_16, if_pos c_17]; rw [hb9], by simp only [nBy, if_pos w_3, hcx, if_pos w_8, if_pos w_13, hcn, if_neg c_16, if_pos c_17]; rw [hb9]; exact hI2, hF2⟩)
                          · skip
                            obtain ⟨ya, hyc, hya⟩ := nI_of (x := y) c_28
                            refine lv_iload hx hb dX11_eatersBy_82 (lv_at hl 0 rfl) ?_
                            refine lv_iload_n hx hb dX11_eatersBy_84 rfl (lv_at hl 4 rfl) ?_
                            refine lv_icmp_lt (tgt := 101) hx hb dX11_eatersBy_85 (by decide) (fun c_29 => ?_) (fun c_29 => ?_)
                            · skip
                              refine lv_bipush (v := -12) hx hb dX11_eatersBy_101 (by decide) ?_
                              exact m_iret S hr hlk hW dX11_eatersBy_103 (by have hb9 : (fBy (gCl q nx) (gSz q nx) y nn 0 q 0) = (q2, -12) := (by rw [← hbY, show nn - k = (nn - (k + 1)) + 1 by omega, fBy_no hok]); exact ⟨by simp only [aBy, if_pos w_3, hcx, if_pos w_8, if_pos w_13, hcn, if_neg c_16, if_pos c_17]; rw [hb9], by simp only [nBy, if_pos w_3, hcx, if_pos w_8, if_pos w_13, hcn, if_neg c_16, if_pos c_17]; rw [hb9]; exact hI2, hF2⟩)
                            · skip
                              refine lv_iload hx hb dX11_eatersBy_88 (lv_at hl 0 rfl) ?_
                              refine lv_aload_n hx hb dX11_eatersBy_90 rfl (lv_at hl 1 rfl) ?_
                              refine m_getr S hW hZ.sp.1 18 rfl (j := 212) rfl kX11 (iW11 _) (by decide) (List.mem_cons_of_mem _ (wa_11 _ (List.mem_of_getElem? (i := 13) (by decide +kernel)))) dX11_eatersBy_91 ?_
                              refine lv_iload_n hx hb dX11_eatersBy_94 rfl (lv_at hl 2 rfl) ?_
                              refine m_top (y := nI nx) hnx ?_
                              refine m_iald S hW hZ.sp.2.2.2.2.2.2.2.2.2.2.2.2.1 nx rfl (by omega) (by decide) dX11_eatersBy_95 ?_
                              refine m_top (y := nI (gSz q nx)) ((hI2.ss hlnx).trans (by rw [gSz_n hq2])) ?_
                              refine lv_iconst (v := nI 2) hx hb dX11_eatersBy_96 (by decide) ?_
                              refine lv_isub hx hb dX11_eatersBy_97 ?_
                              refine lv_icmp_le (tgt := 104) hx hb dX11_eatersBy_98 (by decide) (fun c_30 => ?_) (fun c_30 => ?_)
                              · skip
                                exfalso
                                refine hok ?_
                                rw [hya] at c_30 c_29 ⊢
                                rw [nI_add] at c_30 c_29
                                by_cases hw : ya + 2 * k < 2 ^ 31
                                · exact (by_ok hsl hyc (by omega)).mpr (by_le hsl hw c_30)
                                · exact absurd (by_wrap hyc (by omega) (by omega)) c_29
                              · skip
                                refine lv_bipush (v := -12) hx hb dX11_eatersBy_101 (by decide) ?_
                                exact m_iret S hr hlk hW dX11_eatersBy_103 (by have hb9 : (fBy (gCl q nx) (gSz q nx) y nn 0 q 0) = (q2, -12) := (by rw [← hbY, show nn - k = (nn - (k + 1)) + 1 by omega, fBy_no hok]); exact ⟨by simp only [aBy, if_pos w_3, hcx, if_pos w_8, if_pos w_13, hcn, if_neg c_16, if_pos c_17]; rw [hb9], by simp only [nBy, if_pos w_3, hcx, if_pos w_8, if_pos w_13, hcn, if_neg c_16, if_pos c_17]; rw [hb9]; exact hI2, hF2⟩)
                  exact loop_63 (nn - 0 + 1) q 0 0 V _ _ _ (by omega) (by omega) (by exact hI) (by exact fun _ _ => rfl) (by rfl) (by rfl) (by omega) hW (lv_sub hl [2, 3, 4, 5, 6, 1, 0] rfl)
                · skip
                  refine lv_bipush (v := -13) hx hb dX11_eatersBy_54 (by decide) ?_
                  exact m_iret S hr hlk hW dX11_eatersBy_56 (by exact ⟨by simp only [aBy, if_pos w_3, hcx, if_pos w_8, if_pos w_13, hcn, if_neg c_16, if_neg c_17]; try rfl, by simp only [nBy, if_pos w_3, hcx, if_pos w_8, if_pos w_13, hcn, if_neg c_16, if_neg c_17]; exact hI, fun _ _ => rfl⟩)
              · skip
                refine lv_bipush (v := -11) hx hb dX11_eatersBy_41 (by decide) ?_
                exact m_iret S hr hlk hW dX11_eatersBy_43 (by exact ⟨by simp only [aBy, if_pos w_3, hcx, if_pos w_8, if_pos w_13, hcn, if_pos c_16]; try rfl, by simp only [nBy, if_pos w_3, hcx, if_pos w_8, if_pos w_13, hcn, if_pos c_16]; exact hI, fun _ _ => rfl⟩)
            · exact absurd c_15 (by decide)
          · skip
            refine m_if_ne (tgt := 31) hx hb dX11_eatersBy_25 (by decide) (fun c_31 => ?_) (fun c_31 => ?_)
            · exact absurd c_31 (by decide)
            · skip
              refine lv_bipush (v := -2) hx hb dX11_eatersBy_28 (by decide) ?_
              exact m_iret S hr hlk hW dX11_eatersBy_30 (by exact ⟨by simp only [aBy, if_pos w_3, hcx, if_pos w_8, if_neg w_14]; try rfl, by simp only [nBy, if_pos w_3, hcx, if_pos w_8, if_neg w_14]; exact hI, fun _ _ => rfl⟩)
      · skip
        refine m_if_eq (tgt := 28) hx hb dX11_eatersBy_15 (by decide) (fun c_32 => ?_) (fun c_32 => ?_)
        · skip
          refine lv_bipush (v := -2) hx hb dX11_eatersBy_28 (by decide) ?_
          exact m_iret S hr hlk hW dX11_eatersBy_30 (by exact ⟨by simp only [aBy, if_pos w_3, hcx, if_neg w_9]; try rfl, by simp only [nBy, if_pos w_3, hcx, if_neg w_9]; exact hI, fun _ _ => rfl⟩)
        · exact absurd c_32 (by decide)
  · skip
    refine m_if_eq (tgt := 28) hx hb dX11_eatersBy_6 (by decide) (fun c_33 => ?_) (fun c_33 => ?_)
    · skip
      refine lv_bipush (v := -2) hx hb dX11_eatersBy_28 (by decide) ?_
      exact m_iret S hr hlk hW dX11_eatersBy_30 (by exact ⟨by simp only [aBy, if_neg w_4]; try rfl, by simp only [nBy, if_neg w_4]; exact hI, fun _ _ => rfl⟩)
    · exact absurd c_33 (by decide)
