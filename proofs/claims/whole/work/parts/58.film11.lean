/-! the reference: films, rows to rows, eaters of a row -/
theorem if_no2 {α : Type} {P Q : Prop} [Decidable P] [Decidable Q] {a b : α} (h : ¬ (P ∧ Q)) : (if P then (if Q then a else b) else b) = b := by
  by_cases hp : P
  · rw [if_pos hp, if_neg (fun z => h ⟨hp, z⟩)]
  · rw [if_neg hp]
theorem MZ.c213 {sh : Nat → Option mSh} {V V' : mV} {z : fZ} {ne ng rl : Nat} {x : sT} (h : MZ sh V z ne ng rl x) (hf : ∀ a, a ≠ 213 → V' a = V a) : MZ sh V' z ne ng rl x := h.eq (by rw [hf 200 (by decide)]) (by rw [hf 200 (by decide)]) (by rw [hf 200 (by decide)]) (by rw [hf 200 (by decide)]) (fun e _ => ⟨by rw [hf 202 (by decide)], by rw [hf 203 (by decide)]⟩) (fun k _ => by rw [hf 204 (by decide)]) (fun k _ => by rw [hf 201 (by decide)]) (hf 206 (by decide)) (hf 207 (by decide))
/-- what bites in thought leave alone, beside the sheets' cells -/
def MBc (V V' : mV) : Prop := (∀ a, a ≠ 200 → a ≠ 201 → a ≠ 204 → a ≠ 213 → V' a = V a) ∧ (∀ k, k % 12 ≠ 11 → V' 201 k = V 201 k) ∧ (∀ k, k ≠ 32 → k ≠ 36 → k ≠ 37 → V' 200 k = V 200 k)
theorem MBc.rfl (V : mV) : MBc V V := ⟨fun _ _ _ _ _ => Eq.refl _, fun _ _ => Eq.refl _, fun _ _ _ _ => Eq.refl _⟩
theorem MBc.b {V V1 V2 : mV} (h : MBc V V1) (h' : MB V1 V2) : MBc V V2 := ⟨fun a a1 a2 a3 a4 => (h'.1 a a1 a2 a3).trans (h.1 a a1 a2 a3 a4), fun k hk => (h'.2.1 k hk).trans (h.2.1 k hk), fun k a1 a2 a3 => (h'.2.2 k a1 a2 a3).trans (h.2.2 k a1 a2 a3)⟩
theorem MBc.c {V V1 V2 : mV} (h : MBc V V1) (hf : ∀ a, a ≠ 213 → V2 a = V1 a) : MBc V V2 := ⟨fun a a1 a2 a3 a4 => (hf a a4).trans (h.1 a a1 a2 a3 a4), fun k hk => by rw [hf 201 (by decide)]; exact h.2.1 k hk, fun k a1 a2 a3 => by rw [hf 200 (by decide)]; exact h.2.2 k a1 a2 a3⟩
theorem back213 {V0 V1 V2 V3 : mV} (h1 : (∀ a, a ≠ 219 → V1 a = V0 a) ∧ MKept V1 V0) (h2 : MBc V1 V2) (h3 : MLaid V2 V3) : (∀ a, a ≠ 200 → a ≠ 201 → a ≠ 204 → a ≠ 213 → a ≠ 219 → V3 a = V0 a) ∧ (∀ k, k < 72 → V3 201 k = V0 201 k) ∧ (∀ k, k < 15 → V3 204 k = V0 204 k) ∧ (∀ k, k ≠ 32 → k ≠ 36 → k ≠ 37 → V3 200 k = V0 200 k) ∧ V3 213 = V2 213 := by
  have e219 : V2 219 = V1 219 := h2.1 219 (by decide) (by decide) (by decide) (by decide)
  refine ⟨fun a a1 a2 a3 a4 a5 => ?_, fun k hk => ?_, fun k hk => ?_, fun k a1 a2 a3 => ?_, h3.1 213 (by decide) (by decide)⟩
  · rw [h3.1 a a2 a3, h2.1 a a1 a2 a3 a4, h1.1 a a5]
  · by_cases hm : k % 12 = 11
    · have := h3.2.2.1 (k / 12) (by omega)
      rw [e219, h1.2.2 (k / 12) (by omega), show 12 * (k / 12) + 11 = k by omega] at this
      exact this
    · rw [h3.2.2.2 k hm, h2.2.1 k hm, h1.1 201 (by decide)]
  · rw [h3.2.1 k hk, e219, h1.2.1 k hk]
  · rw [h3.1 200 (by decide) (by decide), h2.2.2 k a1 a2 a3, h1.1 200 (by decide)]
theorem cp_ok {sz y n : Nat} (hs : sz ≤ 40) (hy : y < 2 ^ 31) (hn : n < 2 ^ 31) : (nI 0 ≤ nI y ∧ nI y ≤ nI sz - nI n) ↔ y + n ≤ sz := by
  have h2 : (nI sz - nI n).toInt = (sz : Int) - (n : Int) := by
    rw [Int32.toInt_sub, nI_toInt (by omega), nI_toInt hn]
    exact Int.bmod_eq_of_le (by omega) (by omega)
  rw [Int32.le_iff_toInt_le, Int32.le_iff_toInt_le, h2, nI_toInt hy, show (nI 0).toInt = 0 by decide]
  omega
theorem by_ok {sz y k : Nat} (hs : sz ≤ 40) (hy : y < 2 ^ 31) (hk : k < 100) : okBy sz (nI y) k ↔ y + 2 * k + 2 ≤ sz := by
  have h2 : (nI sz - nI (2 * k)).toInt = (sz : Int) - ((2 * k : Nat) : Int) := pk_sub_toInt (by omega) (by omega)
  have h4 : (nI sz - nI (2 * k) - nI 2).toInt = (sz : Int) - ((2 * k : Nat) : Int) - 2 := by
    rw [Int32.toInt_sub, h2, show (nI 2).toInt = 2 by decide]
    exact Int.bmod_eq_of_le (by omega) (by omega)
  unfold okBy
  rw [Int32.le_iff_toInt_le, Int32.le_iff_toInt_le, h4, nI_toInt hy, show (nI 0).toInt = 0 by decide]
  omega
theorem by_wrap {y k : Nat} (hy : y < 2 ^ 31) (hk : k < 100) (h : 2 ^ 31 ≤ y + 2 * k) : nI (y + 2 * k) < nI y := by
  rw [Int32.lt_iff_toInt_lt, nI_toInt hy]
  have : (nI (y + 2 * k)).toInt = (y : Int) + 2 * k - 2 ^ 32 := by
    show (Int32.ofNat (y + 2 * k)).toInt = _
    rw [Int32.toInt_ofNat']
    rw [Int.bmod_def, show Int32.size = 4294967296 from rfl]
    split <;> omega
  omega
theorem by_le {sz y k : Nat} (hs : sz ≤ 40) (h : y + 2 * k < 2 ^ 31) (hc : nI (y + 2 * k) ≤ nI sz - nI 2) : y + 2 * k + 2 ≤ sz := by
  rw [Int32.le_iff_toInt_le, nI_toInt h, pk_sub_toInt (by omega) (by omega)] at hc
  omega
theorem film_c {c : Nat → Int32} {v : Int32} {nx mn j : Nat} {a b d : Int32} (h : v = c j) (hj : j < 40) : (if 40 * nx + j = 40 * nx + 3 * mn + 2 then d else if 40 * nx + j = 40 * nx + 3 * mn + 1 then b else if 40 * nx + j = 40 * nx + 3 * mn then a else v) = if j = 3 * mn + 2 then d else if j = 3 * mn + 1 then b else if j = 3 * mn then a else c j := by
  by_cases h2 : j = 3 * mn + 2
  · rw [if_pos (by omega), if_pos h2]
  · rw [if_neg (by omega), if_neg h2]
    by_cases h1 : j = 3 * mn + 1
    · rw [if_pos (by omega), if_pos h1]
    · rw [if_neg (by omega), if_neg h1]
      by_cases h0 : j = 3 * mn
      · rw [if_pos (by omega), if_pos h0]
      · rw [if_neg (by omega), if_neg h0, h]
theorem film_e {sh : Nat → Option mSh} {V V' : mV} {q : Sg} {nx mn k nn : Nat} {A : Int32} {N : Sg} (hF : ∀ a, a < 200 → V' a = V a) (hmi : MI sh V' (gSetS q nx (nI 0, 3 * mn, (zFilm (gAsk q) (gNe q) (gNg q) (gZ q) k).2.1))) (hm : mn = (zFilm (gAsk q) (gNe q) (gNg q) (gZ q) k).2.2) (hk0 : gNe q = 0 → k = 0) (hkn : gNe q ≠ 0 → k = nn) (a0 : gNe q = 0 → A = nI 0) (n0 : gNe q = 0 → N = gSetS q nx (nI 0, 0, fun _ => nI 0)) (a1 : ¬ gNe q = 0 → A = nI (zFilm (gAsk q) (gNe q) (gNg q) (gZ q) nn).2.2) (n1 : ¬ gNe q = 0 → N = gSetS q nx (nI 0, 3 * (zFilm (gAsk q) (gNe q) (gNg q) (gZ q) nn).2.2, (zFilm (gAsk q) (gNe q) (gNg q) (gZ q) nn).2.1)) : A = nI mn ∧ MI sh V' N ∧ ∀ a, a < 200 → V' a = V a := by
  by_cases h : gNe q = 0
  · have hk := hk0 h
    subst hk
    have hm0 : mn = 0 := hm
    subst hm0
    rw [a0 h, n0 h]
    exact ⟨rfl, hmi, hF⟩
  · have hk := hkn h
    subst hk
    rw [a1 h, n1 h, ← hm]
    exact ⟨rfl, hmi, hF⟩
set_option maxHeartbeats 4000000 in
set_option maxRecDepth 100000 in
theorem c_X11_film (l : Launch) (G : mG) (ad : Nat → Nat) (sh : Nat → Option mSh) (V : mV) (q : Sg) (x n : Int32) (hI : MI sh V q) : mM l yX11_film wsX11_film ({ frames := 6, cells := 0, slots := 0, locals := 148 } : Room) G ad sh V [.ref (ad 200), .int x, .int n] 0 0 (mPi ad sh (fun r V' => (aFilm q x n) = r ∧ (MI sh V' (nFilm q x n)) ∧ (∀ a, a < 200 → V' a = V a))) := by
  refine mM.of (cc := cX11_film) (maxL := 7) (ret := (some .int)) (by decide) rfl (Nat.le_of_ble_eq_true rfl) ?_
  intro p e s m below meth c S hr hlk hnm hW ls hl
  obtain ⟨hx, hb, hml, hown, hts⟩ := id S
  have hl : lv_has ls 7 [(0, .ref (ad 200)), (1, .int x), (2, .int n)] := hl
  have hS0 : True := trivial
  have hZ := hI.z
  have hne5 := hZ.ne5
  have hng6 := hZ.ng6
  have htn := hI.tn
  refine lv_iload_n hx hb dX11_film_0 rfl (lv_at hl 1 rfl) ?_
  refine lv_iconst (v := nI 0) hx hb dX11_film_1 (by decide) ?_
  refine lv_iconst (v := nI 3) hx hb dX11_film_2 (by decide) ?_
  refine m_cip (m_rS S hW (c_X11_in l G ad sh V x 0 3 (by first | assumption | omega) (by first | assumption | omega)) (va_cwS 3 hts (gCall [.methodLink RX11 84 yX11_in, .static yX11_in, .initialized RX11] (List.forall_mem_cons.mpr ⟨(wa_12 _ (List.mem_of_getElem? (i := 16) (by decide +kernel))), (List.forall_mem_cons.mpr ⟨(wa_12 _ (List.mem_of_getElem? (i := 14) (by decide +kernel))), (List.forall_mem_cons.mpr ⟨(wa_12 _ (List.mem_of_getElem? (i := 15) (by decide +kernel))), (List.forall_mem_cons.mpr ⟨(wa_1 _ (List.mem_of_getElem? (i := 5) (by decide +kernel))), (fun _ h => absurd h List.not_mem_nil)⟩)⟩)⟩)⟩)) rfl rfl rfl (by decide +kernel) ⟨Nat.le_of_ble_eq_true rfl, Nat.le_of_ble_eq_true rfl⟩) rfl hl.1 rfl (Nat.le_of_ble_eq_true rfl) dX11_film_3 ⟨Nat.le_of_ble_eq_true rfl, Nat.le_of_ble_eq_true rfl⟩) hW (fun r_2 H locs hp_1 hW => ?_)
  rcases hp_1 with ⟨rfl, w_3⟩ | ⟨rfl, w_4⟩
  · skip
    obtain ⟨nx, hnx, hwnx, hlnx⟩ := w_3.ex
    have hcx : x.toNatClampNeg = nx := by rw [hnx]; exact nI_clamp (by omega)
    refine m_if_eq (tgt := 19) hx hb dX11_film_6 (by decide) (fun c_5 => ?_) (fun c_5 => ?_)
    · exact absurd c_5 (by decide)
    · skip
      refine lv_iload_n hx hb dX11_film_9 rfl (lv_at hl 2 rfl) ?_
      refine lv_iconst (v := nI 0) hx hb dX11_film_10 (by decide) ?_
      refine lv_bipush (v := nI 13) hx hb dX11_film_11 (by decide) ?_
      refine m_cip (m_rS S hW (c_X11_in l G ad sh V n 0 13 (by first | assumption | omega) (by first | assumption | omega)) (va_cwS 3 hts (gCall [.methodLink RX11 84 yX11_in, .static yX11_in, .initialized RX11] (List.forall_mem_cons.mpr ⟨(wa_12 _ (List.mem_of_getElem? (i := 16) (by decide +kernel))), (List.forall_mem_cons.mpr ⟨(wa_12 _ (List.mem_of_getElem? (i := 14) (by decide +kernel))), (List.forall_mem_cons.mpr ⟨(wa_12 _ (List.mem_of_getElem? (i := 15) (by decide +kernel))), (List.forall_mem_cons.mpr ⟨(wa_1 _ (List.mem_of_getElem? (i := 5) (by decide +kernel))), (fun _ h => absurd h List.not_mem_nil)⟩)⟩)⟩)⟩)) rfl rfl rfl (by decide +kernel) ⟨Nat.le_of_ble_eq_true rfl, Nat.le_of_ble_eq_true rfl⟩) rfl hl.1 rfl (Nat.le_of_ble_eq_true rfl) dX11_film_13 ⟨Nat.le_of_ble_eq_true rfl, Nat.le_of_ble_eq_true rfl⟩) hW (fun r_7 H locs hp_6 hW => ?_)
      rcases hp_6 with ⟨rfl, w_8⟩ | ⟨rfl, w_9⟩
      · skip
        obtain ⟨nn, hnn, hwnn, hlnn⟩ := w_8.ex
        have hcn : n.toNatClampNeg = nn := by rw [hnn]; exact nI_clamp (by omega)
        refine m_if_ne (tgt := 22) hx hb dX11_film_16 (by decide) (fun c_10 => ?_) (fun c_10 => ?_)
        · skip
          refine lv_iconst (v := nI 0) hx hb dX11_film_22 (by decide) ?_
          refine lv_istore_n (lv' := [(3, .int (nI 0)), (0, .ref (ad 200)), (1, .int x), (2, .int n)]) hx hb dX11_film_23 rfl hl (by decide) rfl (fun ls hl => ?_)
          have loop_24 : ∀ (n_24 : Nat) (k0 : Nat) (V1 : mV) (H : Heap) (locs : List Loc) (ls : Array Slot), (k0 ≤ 40) → (V1 = mFill V 213 (40 * nx) k0 (nI 0)) → (40 - k0) < n_24 → mC (mA ad sh s.heap.size) s.heap s G ad sh V1 H locs → lv_has ls 7 [(0, .ref (ad 200)), (1, .int x), (2, .int n), (3, .int (nI k0))] → W p l e ({ frames := 6, cells := 0, slots := 0, locals := 148 } : Room) s m ([.ref (ad 200), .int x, .int n] : List Value).toArray below meth c H locs 0 0 (MQ below (mPost G ad sh s.heap.size (mPi ad sh (fun r V' => (aFilm q x n) = r ∧ (MI sh V' (nFilm q x n)) ∧ (∀ a, a < 200 → V' a = V a)))) ([.ref (ad 200), .int x, .int n] : List Value).toArray s 0 0 (mA ad sh s.heap.size)) (F0 m 24 ls []) := by
            intro n_24
            induction n_24 with
            | zero => intro k0 V1 H locs ls hk0a hv0 hM_ hW hl; omega
            | succ n_24 ih_24 =>
              intro k0 V1 H locs ls hk0a hv0 hM_ hW hl
              refine lv_iload_n hx hb dX11_film_24 rfl (lv_at hl 3 rfl) ?_
              refine lv_bipush (v := nI 40) hx hb dX11_film_25 (by decide) ?_
              refine lv_icmp_ge (tgt := 48) hx hb dX11_film_27 (by decide) (fun c_11 => ?_) (fun c_11 => ?_)
              · skip
                have c_11 : 40 ≤ k0 := (nI_leI (by omega) (by omega)).mp c_11
                have hv : V1 = mFill V 213 (40 * nx) 40 (nI 0) := by rw [hv0, show k0 = 40 by omega]
                have hv9a : ∀ a, a ≠ 213 → V1 a = V a := fun a ha => by rw [hv, mFill_no _ _ ha]
                refine lv_iconst (v := nI 0) hx hb dX11_film_48 (by decide) ?_
                refine lv_istore_n (lv' := [(3, .int (nI 0)), (0, .ref (ad 200)), (1, .int x), (2, .int n)]) hx hb dX11_film_49 rfl hl (by decide) rfl (fun ls hl => ?_)
                refine lv_aload_n hx hb dX11_film_50 rfl (lv_at hl 1 rfl) ?_
                refine m_cv (m_rV S hW (c_X11_keeps l G ad sh V1 hZ.sp) (cwV 0 hts (gCall [.methodLink RX11 222 yX11_keeps, .instanceMethod yX11_keeps, .selects RX11 yX11_keeps yX11_keeps, .initialized RX11] (List.forall_mem_cons.mpr ⟨(wa_32 _ (List.mem_of_getElem? (i := 17) (by decide +kernel))), (List.forall_mem_cons.mpr ⟨(wa_32 _ (List.mem_of_getElem? (i := 14) (by decide +kernel))), (List.forall_mem_cons.mpr ⟨(wa_32 _ (List.mem_of_getElem? (i := 15) (by decide +kernel))), (List.forall_mem_cons.mpr ⟨(wa_32 _ (List.mem_of_getElem? (i := 16) (by decide +kernel))), (List.forall_mem_cons.mpr ⟨(wa_1 _ (List.mem_of_getElem? (i := 5) (by decide +kernel))), (fun _ h => absurd h List.not_mem_nil)⟩)⟩)⟩)⟩)⟩)) rfl rfl rfl (by decide +kernel) ⟨Nat.le_of_ble_eq_true rfl, Nat.le_of_ble_eq_true rfl⟩) hZ.sp.1 kX11 rfl hl.1 rfl (Nat.le_of_ble_eq_true rfl) dX11_film_51 ⟨Nat.le_of_ble_eq_true rfl, Nat.le_of_ble_eq_true rfl⟩) hW (fun V_12 H locs hp_13 hW => ?_)
                have hk_15 := hp_13
                refine lv_iconst (v := nI 0) hx hb dX11_film_54 (by decide) ?_
                refine lv_istore (lv' := [(4, .int (nI 0)), (3, .int (nI 0)), (0, .ref (ad 200)), (1, .int x), (2, .int n)]) hx hb dX11_film_55 hl (by decide) rfl (fun ls hl => ?_)
                have loop_57 : ∀ (n_57 : Nat) (mn k : Nat) (V2 : mV) (H : Heap) (locs : List Loc) (ls : Array Slot), (k ≤ nn) → (gNe q = 0 → k = 0) → (mn ≤ k) → (mn = (zFilm (gAsk q) (gNe q) (gNg q) (gZ q) k).2.2) → (MZ sh V2 (zFilm (gAsk q) (gNe q) (gNg q) (gZ q) k).1 (gNe q) (gNg q) (gRl q) (gT q (gRl q))) → (MBc V_12 V2) → (∀ j, j < 40 → V2 213 (40 * nx + j) = (zFilm (gAsk q) (gNe q) (gNg q) (gZ q) k).2.1 j) → (∀ i, i < 4 → i ≠ nx → ∀ j, j < 40 → V2 213 (40 * i + j) = V 213 (40 * i + j)) → (nn - k) < n_57 → mC (mA ad sh s.heap.size) s.heap s G ad sh V2 H locs → lv_has ls 7 [(0, .ref (ad 200)), (1, .int x), (2, .int n), (3, .int (nI mn)), (4, .int (nI k))] → W p l e ({ frames := 6, cells := 0, slots := 0, locals := 148 } : Room) s m ([.ref (ad 200), .int x, .int n] : List Value).toArray below meth c H locs 0 0 (MQ below (mPost G ad sh s.heap.size (mPi ad sh (fun r V' => (aFilm q x n) = r ∧ (MI sh V' (nFilm q x n)) ∧ (∀ a, a < 200 → V' a = V a)))) ([.ref (ad 200), .int x, .int n] : List Value).toArray s 0 0 (mA ad sh s.heap.size)) (F0 m 57 ls []) := by
                  intro n_57
                  induction n_57 with
                  | zero => intro mn k V2 H locs ls hk hk0 hmk9 hm hZ2 hB hc9 ho9 hM_ hW hl; omega
                  | succ n_57 ih_57 =>
                    intro mn k V2 H locs ls hk hk0 hmk9 hm hZ2 hB hc9 ho9 hM_ hW hl
                    refine lv_iload hx hb dX11_film_57 (lv_at hl 4 rfl) ?_
                    refine lv_iload_n hx hb dX11_film_59 rfl (lv_at hl 2 rfl) ?_
                    refine m_top (y := nI nn) hnn ?_
                    refine lv_icmp_ge (tgt := 174) hx hb dX11_film_60 (by decide) (fun c_16 => ?_) (fun c_16 => ?_)
                    · skip
                      have c_16 : nn ≤ k := (nI_leI (by omega) (by omega)).mp c_16
                      refine lv_aload_n hx hb dX11_film_174 rfl (lv_at hl 0 rfl) ?_
                      refine m_cv (m_rV S hW (c_X11_laysBack l G ad sh V2 hZ.sp) (cwV 0 hts (gCall [.methodLink RX11 225 yX11_laysBack, .instanceMethod yX11_laysBack, .selects RX11 yX11_laysBack yX11_laysBack, .initialized RX11] (List.forall_mem_cons.mpr ⟨(wa_32 _ (List.mem_of_getElem? (i := 21) (by decide +kernel))), (List.forall_mem_cons.mpr ⟨(wa_32 _ (List.mem_of_getElem? (i := 18) (by decide +kernel))), (List.forall_mem_cons.mpr ⟨(wa_32 _ (List.mem_of_getElem? (i := 19) (by decide +kernel))), (List.forall_mem_cons.mpr ⟨(wa_32 _ (List.mem_of_getElem? (i := 20) (by decide +kernel))), (List.forall_mem_cons.mpr ⟨(wa_1 _ (List.mem_of_getElem? (i := 5) (by decide +kernel))), (fun _ h => absurd h List.not_mem_nil)⟩)⟩)⟩)⟩)⟩)) rfl rfl rfl (by decide +kernel) ⟨Nat.le_of_ble_eq_true rfl, Nat.le_of_ble_eq_true rfl⟩) hZ.sp.1 kX11 rfl hl.1 rfl (Nat.le_of_ble_eq_true rfl) dX11_film_175 ⟨Nat.le_of_ble_eq_true rfl, Nat.le_of_ble_eq_true rfl⟩) hW (fun V_17 H locs hp_18 hW => ?_)
                      have hl9_20 := hp_18
                      refine lv_aload_n hx hb dX11_film_178 rfl (lv_at hl 0 rfl) ?_
                      refine m_getr S hW hZ.sp.1 17 rfl (j := 211) rfl kX11 (iW11 _) (by decide) (List.mem_cons_of_mem _ (wa_11 _ (List.mem_of_getElem? (i := 12) (by decide +kernel)))) dX11_film_179 ?_
                      refine lv_iload_n hx hb dX11_film_182 rfl (lv_at hl 1 rfl) ?_
                      refine m_top (y := nI nx) hnx ?_
                      refine lv_iconst (v := nI 0) hx hb dX11_film_183 (by decide) ?_
                      refine m_iast S hW hZ.sp.2.2.2.2.2.2.2.2.2.2.2.1 nx rfl (by omega) (by decide) dX11_film_184 (fun H locs hW => ?_)
                      obtain ⟨V_21, eV_21⟩ : ∃ vv_ : mV, vv_ = mU V_17 211 nx (nI 0) := ⟨_, rfl⟩
                      rw [← eV_21] at hW
                      refine lv_aload_n hx hb dX11_film_185 rfl (lv_at hl 0 rfl) ?_
                      refine m_getr S hW hZ.sp.1 18 rfl (j := 212) rfl kX11 (iW11 _) (by decide) (List.mem_cons_of_mem _ (wa_11 _ (List.mem_of_getElem? (i := 13) (by decide +kernel)))) dX11_film_186 ?_
                      refine lv_iload_n hx hb dX11_film_189 rfl (lv_at hl 1 rfl) ?_
                      refine m_top (y := nI nx) hnx ?_
                      refine lv_iconst (v := nI 3) hx hb dX11_film_190 (by decide) ?_
                      refine lv_iload_n hx hb dX11_film_191 rfl (lv_at hl 3 rfl) ?_
                      refine lv_imul hx hb dX11_film_192 ?_
                      refine m_top (y := nI (3 * mn)) (pk_mul 3 mn) ?_
                      refine m_iast S hW hZ.sp.2.2.2.2.2.2.2.2.2.2.2.2.1 nx rfl (by omega) (by decide) dX11_film_193 (fun H locs hW => ?_)
                      obtain ⟨V_22, eV_22⟩ : ∃ vv_ : mV, vv_ = mU V_21 212 nx (nI (3 * mn)) := ⟨_, rfl⟩
                      rw [← eV_22] at hW
                      refine lv_iload_n hx hb dX11_film_194 rfl (lv_at hl 3 rfl) ?_
                      have hb9 := back213 hk_15 hB hl9_20
                      have hv9 : ∀ a, a ≠ 213 → V1 a = V a := fun a ha => by rw [hv, mFill_no _ _ ha]
                      have hf9 : ∀ a, a ≠ 211 → a ≠ 212 → V_22 a = V_17 a := fun a h1 h2 => by rw [eV_22, mU_no _ _ h2, eV_21, mU_no _ _ h1]
                      have hmi : MI sh V_22 (gSetS q nx (nI 0, 3 * mn, (zFilm (gAsk q) (gNe q) (gNg q) (gZ q) k).2.1)) := hI.setS (k := nx) hlnx (Or.inr trivial) (fun a a1 a2 a3 a4 a5 a6 a7 a8 => by rw [hf9 a a4 a5, hb9.1 a a1 a2 a3 a6 a7, hv9 a a6]) (fun j hj => by rw [hf9 201 (by decide) (by decide), hb9.2.1 j hj, hv9 201 (by decide)]) (fun j hj => by rw [hf9 204 (by decide) (by decide), hb9.2.2.1 j hj, hv9 204 (by decide)]) (fun j h1 h2 h3 => by rw [hf9 200 (by decide) (by decide), hb9.2.2.2.1 j h1 h2 h3, hv9 200 (by decide)]) (by rw [eV_22, mU_no _ _ (by decide), eV_21, mU_eq]) (by rw [eV_22, mU_eq]) (by omega) (fun j hj => by rw [hf9 213 (by decide) (by decide), hb9.2.2.2.2]; exact hc9 j hj) (fun i hi hin => ⟨by rw [eV_22, mU_no _ _ (by decide), eV_21, mU_ne _ _ (by omega), hb9.1 211 (by decide) (by decide) (by decide) (by decide) (by decide), hv9 211 (by decide)], by rw [eV_22, mU_ne _ _ (by omega), eV_21, mU_no _ _ (by decide), hb9.1 212 (by decide) (by decide) (by decide) (by decide) (by decide), hv9 212 (by decide)], fun j hj => by rw [hf9 213 (by decide) (by decide), hb9.2.2.2.2]; exact ho9 i hi hin j hj⟩)
                      have hF9 : ∀ a, a < 200 → V_22 a = V a := fun a ha => by rw [hf9 a (by omega) (by omega), hb9.1 a (by omega) (by omega) (by omega) (by omega) (by omega), hv9 a (by omega)]
                      exact m_iret S hr hlk hW dX11_film_195 (by exact film_e (nn := nn)  hF9 hmi hm hk0 (by intro _; omega) (by intro hh; simp only [aFilm, if_pos hh, if_pos w_3, hcx, if_pos w_8, hcn]) (by intro hh; simp only [nFilm, if_pos hh, if_pos w_3, hcx, if_pos w_8, hcn]) (by intro hh; simp only [aFilm, if_neg hh, if_pos w_3, hcx, if_pos w_8, hcn]) (by intro hh; simp only [nFilm, if_neg hh, if_pos w_3, hcx, if_pos w_8, hcn]))
                    · skip
                      have c_16 : ¬ nn ≤ k := mt (nI_leI (by omega) (by omega)).mpr c_16
                      refine lv_aload_n hx hb dX11_film_63 rfl (lv_at hl 0 rfl) ?_
                      refine m_geti S hW hZ.sp.1 2 rfl kX11 (iW11 _) (by decide) (List.mem_cons_of_mem _ (wa_15 _ (List.mem_of_getElem? (i := 0) (by decide +kernel)))) dX11_film_64 ?_
                      refine m_top (y := nI (gNe q)) hZ2.ne_ ?_
                      refine m_if_le (tgt := 174) hx hb dX11_film_67 (by decide) (fun c_23 => ?_) (fun c_23 => ?_)
                      · skip
                        have c_23 : (gNe q) ≤ 0 := (nI_leI (by omega) (by omega)).mp c_23
                        refine lv_aload_n hx hb dX11_film_174 rfl (lv_at hl 0 rfl) ?_
                        refine m_cv (m_rV S hW (c_X11_laysBack l G ad sh V2 hZ.sp) (cwV 0 hts (gCall [.methodLink RX11 225 yX11_laysBack, .instanceMethod yX11_laysBack, .selects RX11 yX11_laysBack yX11_laysBack, .initialized RX11] (List.forall_mem_cons.mpr ⟨(wa_32 _ (List.mem_of_getElem? (i := 21) (by decide +kernel))), (List.forall_mem_cons.mpr ⟨(wa_32 _ (List.mem_of_getElem? (i := 18) (by decide +kernel))), (List.forall_mem_cons.mpr ⟨(wa_32 _ (List.mem_of_getElem? (i := 19) (by decide +kernel))), (List.forall_mem_cons.mpr ⟨(wa_32 _ (List.mem_of_getElem? (i := 20) (by decide +kernel))), (List.forall_mem_cons.mpr ⟨(wa_1 _ (List.mem_of_getElem? (i := 5) (by decide +kernel))), (fun _ h => absurd h List.not_mem_nil)⟩)⟩)⟩)⟩)⟩)) rfl rfl rfl (by decide +kernel) ⟨Nat.le_of_ble_eq_true rfl, Nat.le_of_ble_eq_true rfl⟩) hZ.sp.1 kX11 rfl hl.1 rfl (Nat.le_of_ble_eq_true rfl) dX11_film_175 ⟨Nat.le_of_ble_eq_true rfl, Nat.le_of_ble_eq_true rfl⟩) hW (fun V_24 H locs hp_25 hW => ?_)
                        have hl9_27 := hp_25
                        refine lv_aload_n hx hb dX11_film_178 rfl (lv_at hl 0 rfl) ?_
                        refine m_getr S hW hZ.sp.1 17 rfl (j := 211) rfl kX11 (iW11 _) (by decide) (List.mem_cons_of_mem _ (wa_11 _ (List.mem_of_getElem? (i := 12) (by decide +kernel)))) dX11_film_179 ?_
                        refine lv_iload_n hx hb dX11_film_182 rfl (lv_at hl 1 rfl) ?_
                        refine m_top (y := nI nx) hnx ?_
                        refine lv_iconst (v := nI 0) hx hb dX11_film_183 (by decide) ?_
                        refine m_iast S hW hZ.sp.2.2.2.2.2.2.2.2.2.2.2.1 nx rfl (by omega) (by decide) dX11_film_184 (fun H locs hW => ?_)
                        obtain ⟨V_28, eV_28⟩ : ∃ vv_ : mV, vv_ = mU V_24 211 nx (nI 0) := ⟨_, rfl⟩
                        rw [← eV_28] at hW
                        refine lv_aload_n hx hb dX11_film_185 rfl (lv_at hl 0 rfl) ?_
                        refine m_getr S hW hZ.sp.1 18 rfl (j := 212) rfl kX11 (iW11 _) (by decide) (List.mem_cons_of_mem _ (wa_11 _ (List.mem_of_getElem? (i := 13) (by decide +kernel)))) dX11_film_186 ?_
                        refine lv_iload_n hx hb dX11_film_189 rfl (lv_at hl 1 rfl) ?_
                        refine m_top (y := nI nx) hnx ?_
                        refine lv_iconst (v := nI 3) hx hb dX11_film_190 (by decide) ?_
                        refine lv_iload_n hx hb dX11_film_191 rfl (lv_at hl 3 rfl) ?_
                        refine lv_imul hx hb dX11_film_192 ?_
                        refine m_top (y := nI (3 * mn)) (pk_mul 3 mn) ?_
                        refine m_iast S hW hZ.sp.2.2.2.2.2.2.2.2.2.2.2.2.1 nx rfl (by omega) (by decide) dX11_film_193 (fun H locs hW => ?_)
                        obtain ⟨V_29, eV_29⟩ : ∃ vv_ : mV, vv_ = mU V_28 212 nx (nI (3 * mn)) := ⟨_, rfl⟩
                        rw [← eV_29] at hW
                        refine lv_iload_n hx hb dX11_film_194 rfl (lv_at hl 3 rfl) ?_
                        have hb9 := back213 hk_15 hB hl9_27
                        have hv9 : ∀ a, a ≠ 213 → V1 a = V a := fun a ha => by rw [hv, mFill_no _ _ ha]
                        have hf9 : ∀ a, a ≠ 211 → a ≠ 212 → V_29 a = V_24 a := fun a h1 h2 => by rw [eV_29, mU_no _ _ h2, eV_28, mU_no _ _ h1]
                        have hmi : MI sh V_29 (gSetS q nx (nI 0, 3 * mn, (zFilm (gAsk q) (gNe q) (gNg q) (gZ q) k).2.1)) := hI.setS (k := nx) hlnx (Or.inr trivial) (fun a a1 a2 a3 a4 a5 a6 a7 a8 => by rw [hf9 a a4 a5, hb9.1 a a1 a2 a3 a6 a7, hv9 a a6]) (fun j hj => by rw [hf9 201 (by decide) (by decide), hb9.2.1 j hj, hv9 201 (by decide)]) (fun j hj => by rw [hf9 204 (by decide) (by decide), hb9.2.2.1 j hj, hv9 204 (by decide)]) (fun j h1 h2 h3 => by rw [hf9 200 (by decide) (by decide), hb9.2.2.2.1 j h1 h2 h3, hv9 200 (by decide)]) (by rw [eV_29, mU_no _ _ (by decide), eV_28, mU_eq]) (by rw [eV_29, mU_eq]) (by omega) (fun j hj => by rw [hf9 213 (by decide) (by decide), hb9.2.2.2.2]; exact hc9 j hj) (fun i hi hin => ⟨by rw [eV_29, mU_no _ _ (by decide), eV_28, mU_ne _ _ (by omega), hb9.1 211 (by decide) (by decide) (by decide) (by decide) (by decide), hv9 211 (by decide)], by rw [eV_29, mU_ne _ _ (by omega), eV_28, mU_no _ _ (by decide), hb9.1 212 (by decide) (by decide) (by decide) (by decide) (by decide), hv9 212 (by decide)], fun j hj => by rw [hf9 213 (by decide) (by decide), hb9.2.2.2.2]; exact ho9 i hi hin j hj⟩)
                        have hF9 : ∀ a, a < 200 → V_29 a = V a := fun a ha => by rw [hf9 a (by omega) (by omega), hb9.1 a (by omega) (by omega) (by omega) (by omega) (by omega), hv9 a (by omega)]
                        exact m_iret S hr hlk hW dX11_film_195 (by exact film_e (nn := nn)  hF9 hmi hm hk0 (by intro _; omega) (by intro hh; simp only [aFilm, if_pos hh, if_pos w_3, hcx, if_pos w_8, hcn]) (by intro hh; simp only [nFilm, if_pos hh, if_pos w_3, hcx, if_pos w_8, hcn]) (by intro hh; simp only [aFilm, if_neg hh, if_pos w_3, hcx, if_pos w_8, hcn]) (by intro hh; simp only [nFilm, if_neg hh, if_pos w_3, hcx, if_pos w_8, hcn]))
                      · skip
                        have c_23 : ¬ (gNe q) ≤ 0 := mt (nI_leI (by omega) (by omega)).mpr c_23
                        refine lv_iload hx hb dX11_film_70 (lv_at hl 4 rfl) ?_
                        refine lv_aload_n hx hb dX11_film_72 rfl (lv_at hl 0 rfl) ?_
                        refine m_geti S hW hZ.sp.1 2 rfl kX11 (iW11 _) (by decide) (List.mem_cons_of_mem _ (wa_15 _ (List.mem_of_getElem? (i := 0) (by decide +kernel)))) dX11_film_73 ?_
                        refine m_top (y := nI (gNe q)) hZ2.ne_ ?_
                        refine lv_irem hx hb dX11_film_76 (nI_ne0 (by omega) (by omega)) ?_
                        refine m_top (y := nI (k % (gNe q))) (pk_rem (by omega) (by omega) (by omega)) ?_
                        refine lv_istore (lv' := [(5, .int (nI (k % (gNe q)))), (0, .ref (ad 200)), (1, .int x), (2, .int n), (3, .int (nI mn)), (4, .int (nI k))]) hx hb dX11_film_77 hl (by decide) rfl (fun ls hl => ?_)
                        refine lv_aload_n hx hb dX11_film_79 rfl (lv_at hl 1 rfl) ?_
                        refine lv_iload hx hb dX11_film_80 (lv_at hl 0 rfl) ?_
                        refine m_ci (m_rV S hW (c_X11_bestOf l G ad sh V2 ((zFilm (gAsk q) (gNe q) (gNg q) (gZ q) k).1) (gNe q) (gNg q) (gRl q) (gT q (gRl q)) (k % (gNe q)) hZ2 (Nat.mod_lt k (show 0 < gNe q by omega))) (cwV 1 hts (gCall [.methodLink RX11 219 yX11_bestOf, .instanceMethod yX11_bestOf, .selects RX11 yX11_bestOf yX11_bestOf, .initialized RX11] (List.forall_mem_cons.mpr ⟨(wa_29 _ (List.mem_of_getElem? (i := 15) (by decide +kernel))), (List.forall_mem_cons.mpr ⟨(wa_29 _ (List.mem_of_getElem? (i := 12) (by decide +kernel))), (List.forall_mem_cons.mpr ⟨(wa_29 _ (List.mem_of_getElem? (i := 13) (by decide +kernel))), (List.forall_mem_cons.mpr ⟨(wa_29 _ (List.mem_of_getElem? (i := 14) (by decide +kernel))), (List.forall_mem_cons.mpr ⟨(wa_1 _ (List.mem_of_getElem? (i := 5) (by decide +kernel))), (fun _ h => absurd h List.not_mem_nil)⟩)⟩)⟩)⟩)⟩)) rfl rfl rfl (by decide +kernel) ⟨Nat.le_of_ble_eq_true rfl, Nat.le_of_ble_eq_true rfl⟩) hZ.sp.1 kX11 rfl hl.1 rfl (Nat.le_of_ble_eq_true rfl) dX11_film_82 ⟨Nat.le_of_ble_eq_true rfl, Nat.le_of_ble_eq_true rfl⟩) hW (fun r_32 V_30 H locs hp_31 hW => ?_)
                        obtain ⟨rfl, hv_33⟩ := hp_31
                        have hZb : MZ sh V_30 (zFilm (gAsk q) (gNe q) (gNg q) (gZ q) k).1 (gNe q) (gNg q) (gRl q) (gT q (gRl q)) := hZ2.k (by rw [hv_33]; exact (MK.rfl _).p200 _ (Or.inl rfl))
                        have hBb : MBc V_12 V_30 := hB.b (by rw [hv_33]; exact (MB.rfl _).p200 _ (Or.inl rfl))
                        have hcb : V_30 213 = V2 213 := by rw [hv_33, mU_no _ _ (by decide)]
                        rcases zBest_range (askT (gT q (gRl q))) (zFilm (gAsk q) (gNe q) (gNg q) (gZ q) k).1 (k % gNe q) (gNg q * 16) with hr0 | ⟨gg, pp, hgp, hpp, hr0, hcan⟩
                        · skip
                          have hr1 : zBest (gAsk q) (zFilm (gAsk q) (gNe q) (gNg q) (gZ q) k).1 (k % gNe q) (gNg q * 16) = _ := hr0
                          refine m_top (y := -1) (by rw [hr0]) ?_
                          refine lv_istore (lv' := [(6, .int (-1)), (5, .int (nI (k % (gNe q)))), (0, .ref (ad 200)), (1, .int x), (2, .int n), (3, .int (nI mn)), (4, .int (nI k))]) hx hb dX11_film_85 hl (by decide) rfl (fun ls hl => ?_)
                          refine lv_iload hx hb dX11_film_87 (lv_at hl 0 rfl) ?_
                          refine lv_iconst (v := -1) hx hb dX11_film_89 (by decide) ?_
                          refine lv_icmp_eq (tgt := 168) hx hb dX11_film_90 (by decide) (fun c_34 => ?_) (fun c_34 => ?_)
                          · skip
                            refine lv_iinc (v := nI (k + 1)) (lv' := [(4, .int (nI (k + 1))), (6, .int (-1)), (5, .int (nI (k % (gNe q)))), (0, .ref (ad 200)), (1, .int x), (2, .int n), (3, .int (nI mn))]) hx hb dX11_film_168 hl (k := 6) rfl (m_inc k 1) (by decide) rfl (fun ls hl => ?_)
                            refine lv_goto (tgt := 57) hx hb dX11_film_171 (by decide) ?_
                            exact ih_57  mn (k + 1) V_30 _ _ _ (by omega) (by intro z; omega) (by omega) (by rw [zFilm_n hr1]; exact hm) (by rw [zFilm_n hr1]; exact hZb) (by exact hBb) (by intro j hj; rw [zFilm_n hr1]; rw [hcb]; exact hc9 j hj) (by intro i hi hin j hj; rw [hcb]; exact ho9 i hi hin j hj) (by omega) hW (lv_sub hl [3, 4, 5, 6, 0] rfl)
                          · exact absurd c_34 (by decide)
                        · skip
                          have hr1 : zBest (gAsk q) (zFilm (gAsk q) (gNe q) (gNg q) (gZ q) k).1 (k % gNe q) (gNg q * 16) = _ := hr0
                          have hgg : gg < gNg q := by omega
                          refine m_top (y := nI (100 * gg + pp)) (by rw [hr0]) ?_
                          refine lv_istore (lv' := [(6, .int (nI (100 * gg + pp))), (5, .int (nI (k % (gNe q)))), (0, .ref (ad 200)), (1, .int x), (2, .int n), (3, .int (nI mn)), (4, .int (nI k))]) hx hb dX11_film_85 hl (by decide) rfl (fun ls hl => ?_)
                          refine lv_iload hx hb dX11_film_87 (lv_at hl 0 rfl) ?_
                          refine lv_iconst (v := -1) hx hb dX11_film_89 (by decide) ?_
                          refine lv_icmp_eq (tgt := 168) hx hb dX11_film_90 (by decide) (fun c_35 => ?_) (fun c_35 => ?_)
                          · exact absurd c_35 (m_nneg (by omega))
                          · skip
                            refine lv_aload_n hx hb dX11_film_93 rfl (lv_at hl 2 rfl) ?_
                            refine m_getr S hW hZ.sp.1 19 rfl (j := 213) rfl kX11 (iW11 _) (by decide) (List.mem_cons_of_mem _ (wa_11 _ (List.mem_of_getElem? (i := 14) (by decide +kernel)))) dX11_film_94 ?_
                            refine lv_bipush (v := nI 40) hx hb dX11_film_97 (by decide) ?_
                            refine lv_iload_n hx hb dX11_film_99 rfl (lv_at hl 3 rfl) ?_
                            refine m_top (y := nI nx) hnx ?_
                            refine lv_imul hx hb dX11_film_100 ?_
                            refine m_top (y := nI (40 * nx)) (pk_mul 40 nx) ?_
                            refine lv_iconst (v := nI 3) hx hb dX11_film_101 (by decide) ?_
                            refine lv_iload_n hx hb dX11_film_102 rfl (lv_at hl 5 rfl) ?_
                            refine lv_imul hx hb dX11_film_103 ?_
                            refine m_top (y := nI (3 * mn)) (pk_mul 3 mn) ?_
                            refine lv_iadd hx hb dX11_film_104 ?_
                            refine m_top (y := nI ((40 * nx) + (3 * mn))) (nI_add (40 * nx) (3 * mn)) ?_
                            refine lv_iload hx hb dX11_film_105 (lv_at hl 1 rfl) ?_
                            refine m_iast S hW hZ.sp.2.2.2.2.2.2.2.2.2.2.2.2.2.1 ((40 * nx) + (3 * mn)) rfl (by omega) (by decide) dX11_film_107 (fun H locs hW => ?_)
                            obtain ⟨V_36, eV_36⟩ : ∃ vv_ : mV, vv_ = mU V_30 213 ((40 * nx) + (3 * mn)) (nI (k % (gNe q))) := ⟨_, rfl⟩
                            rw [← eV_36] at hW
                            refine lv_aload_n hx hb dX11_film_108 rfl (lv_at hl 2 rfl) ?_
                            refine m_getr S hW hZ.sp.1 19 rfl (j := 213) rfl kX11 (iW11 _) (by decide) (List.mem_cons_of_mem _ (wa_11 _ (List.mem_of_getElem? (i := 14) (by decide +kernel)))) dX11_film_109 ?_
                            refine lv_bipush (v := nI 40) hx hb dX11_film_112 (by decide) ?_
                            refine lv_iload_n hx hb dX11_film_114 rfl (lv_at hl 3 rfl) ?_
                            refine m_top (y := nI nx) hnx ?_
                            refine lv_imul hx hb dX11_film_115 ?_
                            refine m_top (y := nI (40 * nx)) (pk_mul 40 nx) ?_
                            refine lv_iconst (v := nI 3) hx hb dX11_film_116 (by decide) ?_
                            refine lv_iload_n hx hb dX11_film_117 rfl (lv_at hl 5 rfl) ?_
                            refine lv_imul hx hb dX11_film_118 ?_
                            refine m_top (y := nI (3 * mn)) (pk_mul 3 mn) ?_
                            refine lv_iadd hx hb dX11_film_119 ?_
                            refine m_top (y := nI ((40 * nx) + (3 * mn))) (nI_add (40 * nx) (3 * mn)) ?_
                            refine lv_iconst (v := nI 1) hx hb dX11_film_120 (by decide) ?_
                            refine lv_iadd hx hb dX11_film_121 ?_
                            refine m_top (y := nI (((40 * nx) + (3 * mn)) + 1)) (nI_add ((40 * nx) + (3 * mn)) 1) ?_
                            refine lv_iload hx hb dX11_film_122 (lv_at hl 0 rfl) ?_
                            refine lv_bipush (v := nI 100) hx hb dX11_film_124 (by decide) ?_
                            refine lv_idiv hx hb dX11_film_126 (by decide) ?_
                            refine m_top (y := nI ((100 * gg + pp) / 100)) (pk_div (by omega) (by omega) (by omega)) ?_
                            refine m_top (y := nI gg) (congrArg nI (show (100 * gg + pp) / 100 = gg by omega)) ?_
                            refine m_iast S hW hZ.sp.2.2.2.2.2.2.2.2.2.2.2.2.2.1 (((40 * nx) + (3 * mn)) + 1) rfl (by omega) (by decide) dX11_film_127 (fun H locs hW => ?_)
                            obtain ⟨V_37, eV_37⟩ : ∃ vv_ : mV, vv_ = mU V_36 213 (((40 * nx) + (3 * mn)) + 1) (nI gg) := ⟨_, rfl⟩
                            rw [← eV_37] at hW
                            refine lv_aload_n hx hb dX11_film_128 rfl (lv_at hl 2 rfl) ?_
                            refine m_getr S hW hZ.sp.1 19 rfl (j := 213) rfl kX11 (iW11 _) (by decide) (List.mem_cons_of_mem _ (wa_11 _ (List.mem_of_getElem? (i := 14) (by decide +kernel)))) dX11_film_129 ?_
                            refine lv_bipush (v := nI 40) hx hb dX11_film_132 (by decide) ?_
                            refine lv_iload_n hx hb dX11_film_134 rfl (lv_at hl 3 rfl) ?_
                            refine m_top (y := nI nx) hnx ?_
                            refine lv_imul hx hb dX11_film_135 ?_
                            refine m_top (y := nI (40 * nx)) (pk_mul 40 nx) ?_
                            refine lv_iconst (v := nI 3) hx hb dX11_film_136 (by decide) ?_
                            refine lv_iload_n hx hb dX11_film_137 rfl (lv_at hl 5 rfl) ?_
                            refine lv_imul hx hb dX11_film_138 ?_
                            refine m_top (y := nI (3 * mn)) (pk_mul 3 mn) ?_
                            refine lv_iadd hx hb dX11_film_139 ?_
                            refine m_top (y := nI ((40 * nx) + (3 * mn))) (nI_add (40 * nx) (3 * mn)) ?_
                            refine lv_iconst (v := nI 2) hx hb dX11_film_140 (by decide) ?_
                            refine lv_iadd hx hb dX11_film_141 ?_
                            refine m_top (y := nI (((40 * nx) + (3 * mn)) + 2)) (nI_add ((40 * nx) + (3 * mn)) 2) ?_
                            refine lv_iload hx hb dX11_film_142 (lv_at hl 0 rfl) ?_
                            refine lv_bipush (v := nI 100) hx hb dX11_film_144 (by decide) ?_
                            refine lv_irem hx hb dX11_film_146 (by decide) ?_
                            refine m_top (y := nI ((100 * gg + pp) % 100)) (pk_rem (by omega) (by omega) (by omega)) ?_
                            refine m_top (y := nI pp) (congrArg nI (show (100 * gg + pp) % 100 = pp by omega)) ?_
                            refine m_iast S hW hZ.sp.2.2.2.2.2.2.2.2.2.2.2.2.2.1 (((40 * nx) + (3 * mn)) + 2) rfl (by omega) (by decide) dX11_film_147 (fun H locs hW => ?_)
                            obtain ⟨V_38, eV_38⟩ : ∃ vv_ : mV, vv_ = mU V_37 213 (((40 * nx) + (3 * mn)) + 2) (nI pp) := ⟨_, rfl⟩
                            rw [← eV_38] at hW
                            have hfc : ∀ a, a ≠ 213 → V_38 a = V_30 a := fun a ha => by rw [eV_38, mU_no _ _ ha, eV_37, mU_no _ _ ha, eV_36, mU_no _ _ ha]
                            have hZc := hZb.c213 hfc
                            have hBc := hBb.c hfc
                            have hcc : ∀ j, V_38 213 j = if j = 40 * nx + 3 * mn + 2 then nI pp else if j = 40 * nx + 3 * mn + 1 then nI gg else if j = 40 * nx + 3 * mn then nI (k % gNe q) else V2 213 j := fun j => by rw [eV_38, eV_37, eV_36]; simp only [mU, true_and, hcb]
                            refine lv_aload_n hx hb dX11_film_148 rfl (lv_at hl 2 rfl) ?_
                            refine lv_iload hx hb dX11_film_149 (lv_at hl 1 rfl) ?_
                            refine lv_iload hx hb dX11_film_151 (lv_at hl 0 rfl) ?_
                            refine lv_bipush (v := nI 100) hx hb dX11_film_153 (by decide) ?_
                            refine lv_idiv hx hb dX11_film_155 (by decide) ?_
                            refine m_top (y := nI ((100 * gg + pp) / 100)) (pk_div (by omega) (by omega) (by omega)) ?_
                            refine m_top (y := nI gg) (congrArg nI (show (100 * gg + pp) / 100 = gg by omega)) ?_
                            refine lv_iload hx hb dX11_film_156 (lv_at hl 0 rfl) ?_
                            refine lv_bipush (v := nI 100) hx hb dX11_film_158 (by decide) ?_
                            refine lv_irem hx hb dX11_film_160 (by decide) ?_
                            refine m_top (y := nI ((100 * gg + pp) % 100)) (pk_rem (by omega) (by omega) (by omega)) ?_
                            refine m_top (y := nI pp) (congrArg nI (show (100 * gg + pp) % 100 = pp by omega)) ?_
                            refine m_ci (m_rV S hW (c_X11_bites l G ad sh V_38 ((zFilm (gAsk q) (gNe q) (gNg q) (gZ q) k).1) (gNe q) (gNg q) (gRl q) (gT q (gRl q)) (k % (gNe q)) gg pp hZc (Nat.mod_lt k (show 0 < gNe q by omega)) (by first | assumption | omega) (by first | assumption | omega) hcan) (cwV 3 hts (gCall [.methodLink RX11 210 yX11_bites, .instanceMethod yX11_bites, .selects RX11 yX11_bites yX11_bites, .initialized RX11] (List.forall_mem_cons.mpr ⟨(wa_28 _ (List.mem_of_getElem? (i := 11) (by decide +kernel))), (List.forall_mem_cons.mpr ⟨(wa_28 _ (List.mem_of_getElem? (i := 8) (by decide +kernel))), (List.forall_mem_cons.mpr ⟨(wa_28 _ (List.mem_of_getElem? (i := 9) (by decide +kernel))), (List.forall_mem_cons.mpr ⟨(wa_28 _ (List.mem_of_getElem? (i := 10) (by decide +kernel))), (List.forall_mem_cons.mpr ⟨(wa_1 _ (List.mem_of_getElem? (i := 5) (by decide +kernel))), (fun _ h => absurd h List.not_mem_nil)⟩)⟩)⟩)⟩)⟩)) rfl rfl rfl (by decide +kernel) ⟨Nat.le_of_ble_eq_true rfl, Nat.le_of_ble_eq_true rfl⟩) hZ.sp.1 kX11 rfl hl.1 rfl (Nat.le_of_ble_eq_true rfl) dX11_film_161 ⟨Nat.le_of_ble_eq_true rfl, Nat.le_of_ble_eq_true rfl⟩) hW (fun r_41 V_39 H locs hp_40 hW => ?_)
                            obtain ⟨rfl, hZ_42, hB_43⟩ := hp_40
                            refine lv_pop hx hb dX11_film_164 rfl ?_
                            refine lv_iinc (v := nI (mn + 1)) (lv' := [(3, .int (nI (mn + 1))), (6, .int (nI (100 * gg + pp))), (5, .int (nI (k % (gNe q)))), (0, .ref (ad 200)), (1, .int x), (2, .int n), (4, .int (nI k))]) hx hb dX11_film_165 hl (k := 5) rfl (m_inc mn 1) (by decide) rfl (fun ls hl => ?_)
                            refine lv_iinc (v := nI (k + 1)) (lv' := [(4, .int (nI (k + 1))), (3, .int (nI (mn + 1))), (6, .int (nI (100 * gg + pp))), (5, .int (nI (k % (gNe q)))), (0, .ref (ad 200)), (1, .int x), (2, .int n)]) hx hb dX11_film_168 hl (k := 6) rfl (m_inc k 1) (by decide) rfl (fun ls hl => ?_)
                            refine lv_goto (tgt := 57) hx hb dX11_film_171 (by decide) ?_
                            exact ih_57  (mn + 1) (k + 1) V_39 _ _ _ (by omega) (by intro z; omega) (by omega) (by rw [zFilm_s hr1 (by omega) hpp]; exact congrArg (· + 1) hm) (by rw [zFilm_s hr1 (by omega) hpp]; exact hZ_42) (by exact hBc.b hB_43) (by intro j hj; rw [zFilm_s hr1 (by omega) hpp]; rw [hB_43.1 213 (by decide) (by decide) (by decide), hcc, ← hm]; simp only [upd]; exact film_c (hc9 j hj) (by omega)) (by intro i hi hin j hj; rw [hB_43.1 213 (by decide) (by decide) (by decide), hcc, if_neg (by omega), if_neg (by omega), if_neg (by omega)]; exact ho9 i hi hin j hj) (by omega) hW (lv_sub hl [4, 5, 6, 1, 0] rfl)
                exact loop_57 (nn - 0 + 1) 0 0 V_12 _ _ _ (by omega) (by exact fun _ => rfl) (by omega) (by rfl) (by exact (hZ.c213 hv9a).k ⟨fun a _ _ _ a9 _ => hk_15.1 a a9, fun k _ => by rw [hk_15.1 201 (by decide)], fun k _ => by rw [hk_15.1 204 (by decide)], fun k _ _ _ => by rw [hk_15.1 200 (by decide)]⟩) (by exact MBc.rfl _) (by intro j hj; rw [hk_15.1 213 (by decide), hv]; exact mFill_in (by omega) (by omega)) (by intro i hi hin j hj; rw [hk_15.1 213 (by decide), hv]; exact mFill_out (by omega)) (by omega) hW (lv_sub hl [2, 3, 4, 1, 0] rfl)
              · skip
                have c_11 : ¬ 40 ≤ k0 := mt (nI_leI (by omega) (by omega)).mpr c_11
                refine lv_aload_n hx hb dX11_film_30 rfl (lv_at hl 0 rfl) ?_
                refine m_getr S hW hZ.sp.1 19 rfl (j := 213) rfl kX11 (iW11 _) (by decide) (List.mem_cons_of_mem _ (wa_11 _ (List.mem_of_getElem? (i := 14) (by decide +kernel)))) dX11_film_31 ?_
                refine lv_bipush (v := nI 40) hx hb dX11_film_34 (by decide) ?_
                refine lv_iload_n hx hb dX11_film_36 rfl (lv_at hl 1 rfl) ?_
                refine m_top (y := nI nx) hnx ?_
                refine lv_imul hx hb dX11_film_37 ?_
                refine m_top (y := nI (40 * nx)) (pk_mul 40 nx) ?_
                refine lv_iload_n hx hb dX11_film_38 rfl (lv_at hl 3 rfl) ?_
                refine lv_iadd hx hb dX11_film_39 ?_
                refine m_top (y := nI ((40 * nx) + k0)) (nI_add (40 * nx) k0) ?_
                refine lv_iconst (v := nI 0) hx hb dX11_film_40 (by decide) ?_
                refine m_iast S hW hZ.sp.2.2.2.2.2.2.2.2.2.2.2.2.2.1 ((40 * nx) + k0) rfl (by omega) (by decide) dX11_film_41 (fun H locs hW => ?_)
                obtain ⟨V_44, eV_44⟩ : ∃ vv_ : mV, vv_ = mU V1 213 ((40 * nx) + k0) (nI 0) := ⟨_, rfl⟩
                rw [← eV_44] at hW
                refine lv_iinc (v := nI (k0 + 1)) (lv' := [(3, .int (nI (k0 + 1))), (0, .ref (ad 200)), (1, .int x), (2, .int n)]) hx hb dX11_film_42 hl (k := 3) rfl (m_inc k0 1) (by decide) rfl (fun ls hl => ?_)
                refine lv_goto (tgt := 24) hx hb dX11_film_45 (by decide) ?_
                exact ih_24  (k0 + 1) V_44 _ _ _ (by omega) (by rw [eV_44, hv0, mFill_1]; rfl) (by omega) hW (lv_sub hl [1, 2, 3, 0] rfl)
          exact loop_24 (40 - 0 + 1) 0 V _ _ _ (by omega) (by exact mFill_0 _ _ _ _) (by omega) hW (lv_sub hl [1, 2, 3, 0] rfl)
        · exact absurd c_10 (by decide)
      · skip
        refine m_if_ne (tgt := 22) hx hb dX11_film_16 (by decide) (fun c_45 => ?_) (fun c_45 => ?_)
        · exact absurd c_45 (by decide)
        · skip
          refine lv_bipush (v := -2) hx hb dX11_film_19 (by decide) ?_
          exact m_iret S hr hlk hW dX11_film_21 (by exact ⟨by simp only [aFilm, if_pos w_3, hcx, if_neg w_9]; try rfl, by simp only [nFilm, if_pos w_3, hcx, if_neg w_9]; exact hI, fun _ _ => rfl⟩)
  · skip
    refine m_if_eq (tgt := 19) hx hb dX11_film_6 (by decide) (fun c_46 => ?_) (fun c_46 => ?_)
    · skip
      refine lv_bipush (v := -2) hx hb dX11_film_19 (by decide) ?_
      exact m_iret S hr hlk hW dX11_film_21 (by exact ⟨by simp only [aFilm, if_neg w_4]; try rfl, by simp only [nFilm, if_neg w_4]; exact hI, fun _ _ => rfl⟩)
    · exact absurd c_46 (by decide)
