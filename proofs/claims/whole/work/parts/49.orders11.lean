/-! the reference: orders, covers, days -/
theorem m_dn {k : Nat} (h : 0 < k) (h2 : k < 2 ^ 31) : nI k - nI 1 + Int32.ofInt (-1) = nI (k - 1) - nI 1 := by
  rw [pk_sub h, Int32.sub_eq_add_neg]
  congr 1
theorem m_d0 : nI 0 - nI 1 = -1 := by decide
theorem dgt_s {n m j : Nat} : m / n ^ j / n = m / n ^ (j + 1) := by rw [Nat.div_div_eq_div_mul, Nat.pow_succ]
theorem fRest_m {c mk : Nat} (hc : c < 1024) : nI c &&& (nI mk ^^^ -1) = nI (fRest c mk) := m_not (n := 10) hc (by omega)
theorem fRest_le (c mk : Nat) : fRest c mk ≤ c := Nat.and_le_left
theorem fRest_lt2 {c sp p : Nat} (hc : c < 1024) (h : ¬ mkN sp c p = 0) : fRest c (mkN sp c p) < c := by
  refine Nat.lt_of_le_of_ne (fRest_le _ _) (fun e => h ?_)
  apply Nat.eq_of_testBit_eq
  intro i
  rw [Nat.zero_testBit]
  cases hb : (mkN sp c p).testBit i with
  | false => rfl
  | true =>
    exfalso
    have h1 : c.testBit i = true := by
      rw [mkN, Nat.testBit_and, Bool.and_eq_true] at hb
      exact hb.2
    have h2 : (fRest c (mkN sp c p)).testBit i = false := by
      rw [fRest, Nat.testBit_and, Nat.testBit_xor, Nat.testBit_mod_two_pow (j := 10), hb]
      have hi : i < 10 := by
        apply Decidable.byContradiction
        intro hi
        have : c.testBit i = false := Nat.testBit_lt_two_pow (Nat.lt_of_lt_of_le hc (Nat.pow_le_pow_right (show 0 < 2 by decide) (show 10 ≤ i by omega)))
        rw [this] at h1
        cases h1
      have : ∀ k, k < 10 → (1023 : Nat).testBit k = true := by decide
      simp [this i hi, hi]
    rw [e, h1] at h2
    cases h2
theorem fwT_step {sp le ce : Nat} {V : mV} {y : Int32} (h0 : 0 < ce) (ht : ∀ j, j < ce → V 221 j = fwT sp le ce j) (hy : y = if fIn ce le then fwP sp ce (fwT sp le ce) 16 else -1) (j : Nat) (hj : j < ce + 1) : mU V 221 ce y 221 j = fwT sp le (ce + 1) j := by
  simp only [fwT]
  by_cases h : j = ce
  · subst h
    rw [mU_eq, if_pos rfl, if_neg (by omega), hy]
  · rw [mU_ne _ _ (by omega), if_neg h]
    exact ht j (by omega)
set_option maxHeartbeats 4000000 in
set_option maxRecDepth 100000 in
theorem c_X11_tells (l : Launch) (G : mG) (ad : Nat → Nat) (sh : Nat → Option mSh) (V : mV) (z : fZ) (ne ng rl : Nat) (tx : sT) (mm : Nat) (hZ : MZ sh V z ne ng rl tx) (hm : mm < 2 ^ 30) : mM l yX11_tells wsX11_tells ({ frames := 0, cells := 0, slots := 0, locals := 0 } : Room) G ad sh V [.ref (ad 200), .int (nI mm)] 0 0 (mPi ad sh (fun r V' => (nI 1 = r ∧ (tellB ne mm) ∧ (∀ a, a ≠ 220 → V' a = V a) ∧ (∀ k, k < ne → V' 220 k = nI (odO ne mm k))) ∨ (nI 0 = r ∧ (¬ tellB ne mm) ∧ (∀ a, a ≠ 220 → V' a = V a) ∧ (∀ k, k < ne → V' 220 k = nI (odO ne mm k))))) := by
  refine mM.of (cc := cX11_tells) (maxL := 5) (ret := (some .boolean)) (by decide) rfl (Nat.le_of_ble_eq_true rfl) ?_
  intro p e s m below meth c S hr hlk hnm hW ls hl
  obtain ⟨hx, hb, hml, hown, hts⟩ := id S
  have hl : lv_has ls 5 [(0, .ref (ad 200)), (1, .int (nI mm))] := hl
  have hS0 : True := trivial
  have hne5 := hZ.ne5
  have hng6 := hZ.ng6
  refine lv_iload_n hx hb dX11_tells_0 rfl (lv_at hl 1 rfl) ?_
  refine lv_istore_n (lv' := [(2, .int (nI mm)), (0, .ref (ad 200)), (1, .int (nI mm))]) hx hb dX11_tells_1 rfl hl (by decide) rfl (fun ls hl => ?_)
  refine lv_iconst (v := nI 0) hx hb dX11_tells_2 (by decide) ?_
  refine lv_istore_n (lv' := [(3, .int (nI 0)), (2, .int (nI mm)), (0, .ref (ad 200)), (1, .int (nI mm))]) hx hb dX11_tells_3 rfl hl (by decide) rfl (fun ls hl => ?_)
  refine lv_aload_n hx hb dX11_tells_4 rfl (lv_at hl 2 rfl) ?_
  refine m_geti S hW hZ.sp.1 2 rfl kX11 (iW11 _) (by decide) (List.mem_cons_of_mem _ (wa_15 _ (List.mem_of_getElem? (i := 0) (by decide +kernel)))) dX11_tells_5 ?_
  refine m_top (y := nI ne) hZ.ne_ ?_
  refine lv_iconst (v := nI 1) hx hb dX11_tells_8 (by decide) ?_
  refine lv_isub hx hb dX11_tells_9 ?_
  refine lv_istore (lv' := [(4, .int ((nI ne) - (nI 1))), (3, .int (nI 0)), (2, .int (nI mm)), (0, .ref (ad 200)), (1, .int (nI mm))]) hx hb dX11_tells_10 hl (by decide) rfl (fun ls hl => ?_)
  have loop_12 : ∀ (n_12 : Nat) (kk rr ss : Nat) (x0 : Int32) (V1 : mV) (H : Heap) (locs : List Loc) (ls : Array Slot), (kk ≤ ne) → (x0 = nI kk - nI 1) → (rr = mm / ne ^ (ne - kk)) → (ss = seenD ne mm (ne - kk)) → (∀ a, a ≠ 220 → V1 a = V a) → (∀ k, kk ≤ k → k < ne → V1 220 k = nI (odO ne mm k)) → kk < n_12 → mC (mA ad sh s.heap.size) s.heap s G ad sh V1 H locs → lv_has ls 5 [(0, .ref (ad 200)), (1, .int (nI mm)), (2, .int (nI rr)), (3, .int (nI ss)), (4, .int x0)] → W p l e ({ frames := 0, cells := 0, slots := 0, locals := 0 } : Room) s m ([.ref (ad 200), .int (nI mm)] : List Value).toArray below meth c H locs 0 0 (MQ below (mPost G ad sh s.heap.size (mPi ad sh (fun r V' => (nI 1 = r ∧ (tellB ne mm) ∧ (∀ a, a ≠ 220 → V' a = V a) ∧ (∀ k, k < ne → V' 220 k = nI (odO ne mm k))) ∨ (nI 0 = r ∧ (¬ tellB ne mm) ∧ (∀ a, a ≠ 220 → V' a = V a) ∧ (∀ k, k < ne → V' 220 k = nI (odO ne mm k)))))) ([.ref (ad 200), .int (nI mm)] : List Value).toArray s 0 0 (mA ad sh s.heap.size)) (F0 m 12 ls []) := by
    intro n_12
    induction n_12 with
    | zero => intro kk rr ss x0 V1 H locs ls hkk hx0 hrr hss hf ho hM_ hW hl; omega
    | succ n_12 ih_12 =>
      intro kk rr ss x0 V1 H locs ls hkk hx0 hrr hss hf ho hM_ hW hl
      have hrm : rr ≤ mm := by rw [hrr]; exact Nat.div_le_self _ _
      by_cases hkk0 : kk = 0
      · skip
        refine lv_iload hx hb dX11_tells_12 (lv_at hl 4 rfl) ?_
        refine m_top (y := -1) (by rw [hx0, hkk0]; exact m_d0) ?_
        refine m_if_lt (tgt := 55) hx hb dX11_tells_14 (by decide) (fun c_1 => ?_) (fun c_1 => ?_)
        · skip
          have hsl : seenD ne mm ne < 32 := (Decidable.em (ne = 0)).elim (fun h => by rw [h]; exact (show 0 < 32 by decide)) (fun h => seenD_lt (by omega) hne5 _)
          have hp5 : 2 ^ ne ≤ 2 ^ 5 := Nat.pow_le_pow_right (by decide) (by omega)
          rw [hkk0, Nat.sub_zero] at hss
          have hp1 : 1 ≤ 2 ^ ne := Nat.one_le_two_pow
          refine lv_iload_n hx hb dX11_tells_55 rfl (lv_at hl 3 rfl) ?_
          refine lv_iconst (v := nI 1) hx hb dX11_tells_56 (by decide) ?_
          refine lv_aload_n hx hb dX11_tells_57 rfl (lv_at hl 0 rfl) ?_
          refine m_geti S hW hZ.sp.1 2 rfl kX11 (iW11 _) (by decide) (List.mem_cons_of_mem _ (wa_15 _ (List.mem_of_getElem? (i := 0) (by decide +kernel)))) dX11_tells_58 ?_
          refine m_top (y := nI ne) ((congrFun (hf 200 (by decide)) 2).trans hZ.ne_) ?_
          refine lv_ishl hx hb dX11_tells_61 ?_
          refine m_top (y := nI (2 ^ ne)) (by rw [m_shl (by omega) (by have : 2 ^ ne ≤ 2 ^ 5 := Nat.pow_le_pow_right (by decide) (by omega); omega), Nat.one_mul]) ?_
          refine lv_iconst (v := nI 1) hx hb dX11_tells_62 (by decide) ?_
          refine lv_isub hx hb dX11_tells_63 ?_
          refine m_top (y := nI ((2 ^ ne) - 1)) (pk_sub (by first | omega | exact Nat.lt_of_le_of_lt (Nat.mod_le _ _) (by omega))) ?_
          refine lv_icmp_ne (tgt := 71) hx hb dX11_tells_64 (by decide) (fun c_2 => ?_) (fun c_2 => ?_)
          · skip
            have c_2 : ¬ ss = ((2 ^ ne) - 1) := mt (nI_eq (by first | omega | exact Nat.lt_of_le_of_lt (Nat.mod_le _ _) (by omega)) (by first | omega | exact Nat.lt_of_le_of_lt (Nat.mod_le _ _) (by omega))).mpr c_2
            refine lv_iconst (v := nI 0) hx hb dX11_tells_71 (by decide) ?_
            exact m_zret S hr hlk hW rfl dX11_tells_72 (by rw [hkk0] at ho; exact Or.inr ⟨rfl, fun z => c_2 (hss.trans z), hf, fun k hk => ho k (by omega) hk⟩)
          · skip
            have c_2 : ss = ((2 ^ ne) - 1) := (nI_eq (by first | omega | exact Nat.lt_of_le_of_lt (Nat.mod_le _ _) (by omega)) (by first | omega | exact Nat.lt_of_le_of_lt (Nat.mod_le _ _) (by omega))).mp c_2
            refine lv_iconst (v := nI 1) hx hb dX11_tells_67 (by decide) ?_
            refine lv_goto (tgt := 72) hx hb dX11_tells_68 (by decide) ?_
            exact m_zret S hr hlk hW rfl dX11_tells_72 (by rw [hkk0] at ho; exact Or.inl ⟨rfl, (hss.symm.trans c_2), hf, fun k hk => ho k (by omega) hk⟩)
        · exact absurd c_1 (by decide)
      · skip
        refine lv_iload hx hb dX11_tells_12 (lv_at hl 4 rfl) ?_
        refine m_top (y := nI (kk - 1)) (by rw [hx0]; exact pk_sub (by omega)) ?_
        refine m_if_lt (tgt := 55) hx hb dX11_tells_14 (by decide) (fun c_3 => ?_) (fun c_3 => ?_)
        · exact absurd c_3 (nI_pos (by first | omega | exact Nat.lt_of_le_of_lt (Nat.mod_le _ _) (by omega)))
        · skip
          have hrl := Nat.mod_lt rr (show 0 < ne by omega)
          have hsl : ss < 32 := by rw [hss]; exact seenD_lt (by omega) hne5 _
          have hp2 : 2 ^ (rr % ne) ≤ 2 ^ 4 := Nat.pow_le_pow_right (by decide) (by omega)
          have hrd : rr / ne ≤ rr := Nat.div_le_self _ _
          refine lv_aload_n hx hb dX11_tells_17 rfl (lv_at hl 0 rfl) ?_
          refine m_getr S hW hZ.sp.1 34 rfl (j := 220) rfl kX11 (iW11 _) (by decide) (List.mem_cons_of_mem _ (wa_11 _ (List.mem_of_getElem? (i := 21) (by decide +kernel)))) dX11_tells_18 ?_
          refine lv_iload hx hb dX11_tells_21 (lv_at hl 4 rfl) ?_
          refine m_top (y := nI (kk - 1)) (by rw [hx0]; exact pk_sub (by omega)) ?_
          refine lv_iload_n hx hb dX11_tells_23 rfl (lv_at hl 2 rfl) ?_
          refine lv_aload_n hx hb dX11_tells_24 rfl (lv_at hl 0 rfl) ?_
          refine m_geti S hW hZ.sp.1 2 rfl kX11 (iW11 _) (by decide) (List.mem_cons_of_mem _ (wa_15 _ (List.mem_of_getElem? (i := 0) (by decide +kernel)))) dX11_tells_25 ?_
          refine m_top (y := nI ne) ((congrFun (hf 200 (by decide)) 2).trans hZ.ne_) ?_
          refine lv_irem hx hb dX11_tells_28 (nI_ne0 (by first | omega | exact Nat.lt_of_le_of_lt (Nat.mod_le _ _) (by omega)) (by first | omega | exact Nat.lt_of_le_of_lt (Nat.mod_le _ _) (by omega))) ?_
          refine m_top (y := nI (rr % ne)) (pk_rem (by first | omega | exact Nat.lt_of_le_of_lt (Nat.mod_le _ _) (by omega)) (by first | omega | exact Nat.lt_of_le_of_lt (Nat.mod_le _ _) (by omega)) (by first | omega | exact Nat.lt_of_le_of_lt (Nat.mod_le _ _) (by omega))) ?_
          refine m_iast S hW hZ.sp.2.2.2.2.2.2.2.2.2.2.2.2.2.2.2.2.2.2.2.2.1 (kk - 1) rfl (by first | omega | exact Nat.lt_of_le_of_lt (Nat.mod_le _ _) (by omega)) (by decide) dX11_tells_29 (fun H locs hW => ?_)
          obtain ⟨V_4, eV_4⟩ : ∃ vv_ : mV, vv_ = mU V1 220 (kk - 1) (nI (rr % ne)) := ⟨_, rfl⟩
          rw [← eV_4] at hW
          refine lv_iload_n hx hb dX11_tells_30 rfl (lv_at hl 2 rfl) ?_
          refine lv_aload_n hx hb dX11_tells_31 rfl (lv_at hl 0 rfl) ?_
          refine m_geti S hW hZ.sp.1 2 rfl kX11 (iW11 _) (by decide) (List.mem_cons_of_mem _ (wa_15 _ (List.mem_of_getElem? (i := 0) (by decide +kernel)))) dX11_tells_32 ?_
          refine m_top (y := nI ne) (by rw [eV_4, mU_no _ _ (by decide), hf 200 (by decide)]; exact hZ.ne_) ?_
          refine lv_idiv hx hb dX11_tells_35 (nI_ne0 (by first | omega | exact Nat.lt_of_le_of_lt (Nat.mod_le _ _) (by omega)) (by first | omega | exact Nat.lt_of_le_of_lt (Nat.mod_le _ _) (by omega))) ?_
          refine m_top (y := nI (rr / ne)) (pk_div (by first | omega | exact Nat.lt_of_le_of_lt (Nat.mod_le _ _) (by omega)) (by first | omega | exact Nat.lt_of_le_of_lt (Nat.mod_le _ _) (by omega)) (by first | omega | exact Nat.lt_of_le_of_lt (Nat.mod_le _ _) (by omega))) ?_
          refine lv_istore_n (lv' := [(2, .int (nI (rr / ne))), (0, .ref (ad 200)), (1, .int (nI mm)), (3, .int (nI ss)), (4, .int x0)]) hx hb dX11_tells_36 rfl hl (by decide) rfl (fun ls hl => ?_)
          refine lv_iload_n hx hb dX11_tells_37 rfl (lv_at hl 3 rfl) ?_
          refine lv_iconst (v := nI 1) hx hb dX11_tells_38 (by decide) ?_
          refine lv_aload_n hx hb dX11_tells_39 rfl (lv_at hl 1 rfl) ?_
          refine m_getr S hW hZ.sp.1 34 rfl (j := 220) rfl kX11 (iW11 _) (by decide) (List.mem_cons_of_mem _ (wa_11 _ (List.mem_of_getElem? (i := 21) (by decide +kernel)))) dX11_tells_40 ?_
          refine lv_iload hx hb dX11_tells_43 (lv_at hl 4 rfl) ?_
          refine m_top (y := nI (kk - 1)) (by rw [hx0]; exact pk_sub (by omega)) ?_
          refine m_iald S hW hZ.sp.2.2.2.2.2.2.2.2.2.2.2.2.2.2.2.2.2.2.2.2.1 (kk - 1) rfl (by first | omega | exact Nat.lt_of_le_of_lt (Nat.mod_le _ _) (by omega)) (by decide) dX11_tells_45 ?_
          refine m_top (y := nI (rr % ne)) (by rw [eV_4, mU_eq]) ?_
          refine lv_ishl hx hb dX11_tells_46 ?_
          refine m_top (y := nI (2 ^ (rr % ne))) (by rw [m_shl (by omega) (by omega), Nat.one_mul]) ?_
          refine lv_ior hx hb dX11_tells_47 ?_
          refine m_top (y := nI (ss ||| 2 ^ (rr % ne))) (m_or) ?_
          refine lv_istore_n (lv' := [(3, .int (nI (ss ||| 2 ^ (rr % ne)))), (2, .int (nI (rr / ne))), (0, .ref (ad 200)), (1, .int (nI mm)), (4, .int x0)]) hx hb dX11_tells_48 rfl hl (by decide) rfl (fun ls hl => ?_)
          refine lv_iinc (v := (x0 + Int32.ofInt (-1))) (lv' := [(4, .int (x0 + Int32.ofInt (-1))), (3, .int (nI (ss ||| 2 ^ (rr % ne)))), (2, .int (nI (rr / ne))), (0, .ref (ad 200)), (1, .int (nI mm))]) hx hb dX11_tells_49 hl (k := 4) rfl rfl (by decide) rfl (fun ls hl => ?_)
          refine lv_goto (tgt := 12) hx hb dX11_tells_52 (by decide) ?_
          exact ih_12  (kk - 1) (rr / ne) (ss ||| 2 ^ (rr % ne)) (x0 + Int32.ofInt (-1)) V_4 _ _ _ (by omega) (by rw [hx0]; exact m_dn (by omega) (by omega)) (by rw [show ne - (kk - 1) = (ne - kk) + 1 by omega, ← dgt_s, ← hrr]) (by rw [show ne - (kk - 1) = (ne - kk) + 1 by omega, seenD, ← hss, dgt, ← hrr]) (by intro a ha; rw [eV_4, mU_no _ _ ha]; exact hf a ha) (by exact fun j hj1 hj2 => (Decidable.em (j = kk - 1)).elim (fun h => by rw [eV_4, h, mU_eq, odO, show ne - 1 - (kk - 1) = ne - kk by omega, dgt, ← hrr]) (fun h => by rw [eV_4, mU_ne _ _ (by omega)]; exact ho j (by omega) hj2)) (by omega) hW (lv_sub hl [3, 4, 2, 1, 0] rfl)
  exact loop_12 (ne + 1) ne mm 0 ((nI ne) - (nI 1)) V _ _ _ (by omega) (by rfl) (by rw [Nat.sub_self, Nat.pow_zero, Nat.div_one]) (by rw [Nat.sub_self]; rfl) (by exact fun _ _ => rfl) (by intro k h1 h2; omega) (by omega) hW (lv_sub hl [3, 4, 2, 1, 0] rfl)
set_option maxHeartbeats 4000000 in
set_option maxRecDepth 100000 in
theorem c_X11_gainsByOrder (l : Launch) (G : mG) (ad : Nat → Nat) (sh : Nat → Option mSh) (V : mV) (z : fZ) (ne ng rl : Nat) (tx : sT) (od : Nat → Nat) (hZ : MZ sh V z ne ng rl tx) (hod : ∀ k, k < ne → V 220 k = nI (od k) ∧ od k < ne) : mM l yX11_gainsByOrder wsX11_gainsByOrder ({ frames := 6, cells := 0, slots := 0, locals := 148 } : Room) G ad sh V [.ref (ad 200)] 0 0 (mPi ad sh (fun r V' => (gnO (askT tx) ng z od ne).2 = r ∧ (MK V V') ∧ (V' 220 = V 220))) := by
  refine mM.of (cc := cX11_gainsByOrder) (maxL := 4) (ret := (some .int)) (by decide) rfl (Nat.le_of_ble_eq_true rfl) ?_
  intro p e s m below meth c S hr hlk hnm hW ls hl
  obtain ⟨hx, hb, hml, hown, hts⟩ := id S
  have hl : lv_has ls 4 [(0, .ref (ad 200))] := hl
  have hS0 : True := trivial
  have hne5 := hZ.ne5
  have hng6 := hZ.ng6
  refine lv_iconst (v := nI 0) hx hb dX11_gainsByOrder_0 (by decide) ?_
  refine lv_istore_n (lv' := [(1, .int (nI 0)), (0, .ref (ad 200))]) hx hb dX11_gainsByOrder_1 rfl hl (by decide) rfl (fun ls hl => ?_)
  refine lv_aload_n hx hb dX11_gainsByOrder_2 rfl (lv_at hl 1 rfl) ?_
  refine m_cv (m_rV S hW (c_X11_keeps l G ad sh V hZ.sp) (cwV 0 hts (gCall [.methodLink RX11 222 yX11_keeps, .instanceMethod yX11_keeps, .selects RX11 yX11_keeps yX11_keeps, .initialized RX11] (List.forall_mem_cons.mpr ⟨(wa_32 _ (List.mem_of_getElem? (i := 17) (by decide +kernel))), (List.forall_mem_cons.mpr ⟨(wa_32 _ (List.mem_of_getElem? (i := 14) (by decide +kernel))), (List.forall_mem_cons.mpr ⟨(wa_32 _ (List.mem_of_getElem? (i := 15) (by decide +kernel))), (List.forall_mem_cons.mpr ⟨(wa_32 _ (List.mem_of_getElem? (i := 16) (by decide +kernel))), (List.forall_mem_cons.mpr ⟨(wa_1 _ (List.mem_of_getElem? (i := 5) (by decide +kernel))), (fun _ h => absurd h List.not_mem_nil)⟩)⟩)⟩)⟩)⟩)) rfl rfl rfl (by decide +kernel) ⟨Nat.le_of_ble_eq_true rfl, Nat.le_of_ble_eq_true rfl⟩) hZ.sp.1 kX11 rfl hl.1 rfl (Nat.le_of_ble_eq_true rfl) dX11_gainsByOrder_3 ⟨Nat.le_of_ble_eq_true rfl, Nat.le_of_ble_eq_true rfl⟩) hW (fun V_1 H locs hp_2 hW => ?_)
  have hk_4 := hp_2
  refine lv_iconst (v := nI 0) hx hb dX11_gainsByOrder_6 (by decide) ?_
  refine lv_istore_n (lv' := [(2, .int (nI 0)), (1, .int (nI 0)), (0, .ref (ad 200))]) hx hb dX11_gainsByOrder_7 rfl hl (by decide) rfl (fun ls hl => ?_)
  have loop_8 : ∀ (n_8 : Nat) (sm : Int32) (k : Nat) (V2 : mV) (H : Heap) (locs : List Loc) (ls : Array Slot), (k ≤ ne) → (MZ sh V2 (gnO (askT tx) ng z od k).1 ne ng rl tx) → (MB V_1 V2) → (sm = (gnO (askT tx) ng z od k).2) → (ne - k) < n_8 → mC (mA ad sh s.heap.size) s.heap s G ad sh V2 H locs → lv_has ls 4 [(0, .ref (ad 200)), (1, .int sm), (2, .int (nI k))] → W p l e ({ frames := 6, cells := 0, slots := 0, locals := 148 } : Room) s m ([.ref (ad 200)] : List Value).toArray below meth c H locs 0 0 (MQ below (mPost G ad sh s.heap.size (mPi ad sh (fun r V' => (gnO (askT tx) ng z od ne).2 = r ∧ (MK V V') ∧ (V' 220 = V 220)))) ([.ref (ad 200)] : List Value).toArray s 0 0 (mA ad sh s.heap.size)) (F0 m 8 ls []) := by
    intro n_8
    induction n_8 with
    | zero => intro sm k V2 H locs ls hk hZ2 hB hsm hM_ hW hl; omega
    | succ n_8 ih_8 =>
      intro sm k V2 H locs ls hk hZ2 hB hsm hM_ hW hl
      have e220 : V2 220 = V 220 := by rw [hB.1 220 (by decide) (by decide) (by decide), hk_4.1 220 (by decide)]
      refine lv_iload_n hx hb dX11_gainsByOrder_8 rfl (lv_at hl 2 rfl) ?_
      refine lv_aload_n hx hb dX11_gainsByOrder_9 rfl (lv_at hl 0 rfl) ?_
      refine m_geti S hW hZ.sp.1 2 rfl kX11 (iW11 _) (by decide) (List.mem_cons_of_mem _ (wa_15 _ (List.mem_of_getElem? (i := 0) (by decide +kernel)))) dX11_gainsByOrder_10 ?_
      refine m_top (y := nI ne) hZ2.ne_ ?_
      refine lv_icmp_ge (tgt := 59) hx hb dX11_gainsByOrder_13 (by decide) (fun c_5 => ?_) (fun c_5 => ?_)
      · skip
        have c_5 : ne ≤ k := (nI_leI (by omega) (by omega)).mp c_5
        refine lv_aload_n hx hb dX11_gainsByOrder_59 rfl (lv_at hl 0 rfl) ?_
        refine m_cv (m_rV S hW (c_X11_laysBack l G ad sh V2 hZ.sp) (cwV 0 hts (gCall [.methodLink RX11 225 yX11_laysBack, .instanceMethod yX11_laysBack, .selects RX11 yX11_laysBack yX11_laysBack, .initialized RX11] (List.forall_mem_cons.mpr ⟨(wa_32 _ (List.mem_of_getElem? (i := 21) (by decide +kernel))), (List.forall_mem_cons.mpr ⟨(wa_32 _ (List.mem_of_getElem? (i := 18) (by decide +kernel))), (List.forall_mem_cons.mpr ⟨(wa_32 _ (List.mem_of_getElem? (i := 19) (by decide +kernel))), (List.forall_mem_cons.mpr ⟨(wa_32 _ (List.mem_of_getElem? (i := 20) (by decide +kernel))), (List.forall_mem_cons.mpr ⟨(wa_1 _ (List.mem_of_getElem? (i := 5) (by decide +kernel))), (fun _ h => absurd h List.not_mem_nil)⟩)⟩)⟩)⟩)⟩)) rfl rfl rfl (by decide +kernel) ⟨Nat.le_of_ble_eq_true rfl, Nat.le_of_ble_eq_true rfl⟩) hZ.sp.1 kX11 rfl hl.1 rfl (Nat.le_of_ble_eq_true rfl) dX11_gainsByOrder_60 ⟨Nat.le_of_ble_eq_true rfl, Nat.le_of_ble_eq_true rfl⟩) hW (fun V_6 H locs hp_7 hW => ?_)
        have hl9_9 := hp_7
        refine lv_iload_n hx hb dX11_gainsByOrder_63 rfl (lv_at hl 1 rfl) ?_
        exact m_iret S hr hlk hW dX11_gainsByOrder_64 (by rw [show k = ne by omega] at hsm; exact ⟨hsm.symm, MK.back hk_4 hB hl9_9, by rw [hl9_9.1 220 (by decide) (by decide), hB.1 220 (by decide) (by decide) (by decide), hk_4.1 220 (by decide)]⟩)
      · skip
        have c_5 : ¬ ne ≤ k := mt (nI_leI (by omega) (by omega)).mpr c_5
        refine lv_aload_n hx hb dX11_gainsByOrder_16 rfl (lv_at hl 0 rfl) ?_
        refine lv_aload_n hx hb dX11_gainsByOrder_17 rfl (lv_at hl 0 rfl) ?_
        refine m_getr S hW hZ.sp.1 34 rfl (j := 220) rfl kX11 (iW11 _) (by decide) (List.mem_cons_of_mem _ (wa_11 _ (List.mem_of_getElem? (i := 21) (by decide +kernel)))) dX11_gainsByOrder_18 ?_
        refine lv_iload_n hx hb dX11_gainsByOrder_21 rfl (lv_at hl 2 rfl) ?_
        refine m_iald S hW hZ.sp.2.2.2.2.2.2.2.2.2.2.2.2.2.2.2.2.2.2.2.2.1 k rfl (by omega) (by decide) dX11_gainsByOrder_22 ?_
        refine m_top (y := nI (od k)) (by rw [e220]; exact (hod k (by omega)).1) ?_
        refine m_ci (m_rV S hW (c_X11_bestOf l G ad sh V2 ((gnO (askT tx) ng z od k).1) ne ng rl tx (od k) hZ2 ((hod k (by omega)).2)) (cwV 1 hts (gCall [.methodLink RX11 219 yX11_bestOf, .instanceMethod yX11_bestOf, .selects RX11 yX11_bestOf yX11_bestOf, .initialized RX11] (List.forall_mem_cons.mpr ⟨(wa_29 _ (List.mem_of_getElem? (i := 15) (by decide +kernel))), (List.forall_mem_cons.mpr ⟨(wa_29 _ (List.mem_of_getElem? (i := 12) (by decide +kernel))), (List.forall_mem_cons.mpr ⟨(wa_29 _ (List.mem_of_getElem? (i := 13) (by decide +kernel))), (List.forall_mem_cons.mpr ⟨(wa_29 _ (List.mem_of_getElem? (i := 14) (by decide +kernel))), (List.forall_mem_cons.mpr ⟨(wa_1 _ (List.mem_of_getElem? (i := 5) (by decide +kernel))), (fun _ h => absurd h List.not_mem_nil)⟩)⟩)⟩)⟩)⟩)) rfl rfl rfl (by decide +kernel) ⟨Nat.le_of_ble_eq_true rfl, Nat.le_of_ble_eq_true rfl⟩) hZ.sp.1 kX11 rfl hl.1 rfl (Nat.le_of_ble_eq_true rfl) dX11_gainsByOrder_23 ⟨Nat.le_of_ble_eq_true rfl, Nat.le_of_ble_eq_true rfl⟩) hW (fun r_12 V_10 H locs hp_11 hW => ?_)
        obtain ⟨rfl, hv_13⟩ := hp_11
        rcases zBest_range (askT tx) (gnO (askT tx) ng z od k).1 (od k) (ng * 16) with hr0 | ⟨gg, pp, hgp, hpp, hr0, hcan⟩
        · skip
          refine m_top (y := -1) (by rw [hr0]) ?_
          refine lv_istore_n (lv' := [(3, .int (-1)), (0, .ref (ad 200)), (1, .int sm), (2, .int (nI k))]) hx hb dX11_gainsByOrder_26 rfl hl (by decide) rfl (fun ls hl => ?_)
          refine lv_iload_n hx hb dX11_gainsByOrder_27 rfl (lv_at hl 0 rfl) ?_
          refine lv_iconst (v := -1) hx hb dX11_gainsByOrder_28 (by decide) ?_
          refine lv_icmp_eq (tgt := 53) hx hb dX11_gainsByOrder_29 (by decide) (fun c_14 => ?_) (fun c_14 => ?_)
          · skip
            refine lv_iinc (v := nI (k + 1)) (lv' := [(2, .int (nI (k + 1))), (3, .int (-1)), (0, .ref (ad 200)), (1, .int sm)]) hx hb dX11_gainsByOrder_53 hl (k := 3) rfl (m_inc k 1) (by decide) rfl (fun ls hl => ?_)
            refine lv_goto (tgt := 8) hx hb dX11_gainsByOrder_56 (by decide) ?_
            exact ih_8  sm (k + 1) V_10 _ _ _ (by omega) (by rw [gnO_n hr0]; exact hZ2.k (by rw [hv_13]; exact (MK.rfl _).p200 _ (Or.inl rfl))) (by rw [hv_13]; exact hB.p200 _ (Or.inl rfl)) (by rw [gnO_n hr0]; exact hsm) (by omega) hW (lv_sub hl [2, 3, 0] rfl)
          · exact absurd c_14 (by decide)
        · skip
          have hgg : gg < ng := by omega
          refine m_top (y := nI (100 * gg + pp)) (by rw [hr0]) ?_
          refine lv_istore_n (lv' := [(3, .int (nI (100 * gg + pp))), (0, .ref (ad 200)), (1, .int sm), (2, .int (nI k))]) hx hb dX11_gainsByOrder_26 rfl hl (by decide) rfl (fun ls hl => ?_)
          refine lv_iload_n hx hb dX11_gainsByOrder_27 rfl (lv_at hl 0 rfl) ?_
          refine lv_iconst (v := -1) hx hb dX11_gainsByOrder_28 (by decide) ?_
          refine lv_icmp_eq (tgt := 53) hx hb dX11_gainsByOrder_29 (by decide) (fun c_15 => ?_) (fun c_15 => ?_)
          · exact absurd c_15 (m_nneg (by omega))
          · skip
            refine lv_iload_n hx hb dX11_gainsByOrder_32 rfl (lv_at hl 2 rfl) ?_
            refine lv_aload_n hx hb dX11_gainsByOrder_33 rfl (lv_at hl 1 rfl) ?_
            refine lv_aload_n hx hb dX11_gainsByOrder_34 rfl (lv_at hl 1 rfl) ?_
            refine m_getr S hW hZ.sp.1 34 rfl (j := 220) rfl kX11 (iW11 _) (by decide) (List.mem_cons_of_mem _ (wa_11 _ (List.mem_of_getElem? (i := 21) (by decide +kernel)))) dX11_gainsByOrder_35 ?_
            refine lv_iload_n hx hb dX11_gainsByOrder_38 rfl (lv_at hl 3 rfl) ?_
            refine m_iald S hW hZ.sp.2.2.2.2.2.2.2.2.2.2.2.2.2.2.2.2.2.2.2.2.1 k rfl (by omega) (by decide) dX11_gainsByOrder_39 ?_
            refine m_top (y := nI (od k)) (by rw [show V_10 220 = V2 220 by rw [hv_13, mU_no _ _ (by decide)], e220]; exact (hod k (by omega)).1) ?_
            refine lv_iload_n hx hb dX11_gainsByOrder_40 rfl (lv_at hl 0 rfl) ?_
            refine lv_bipush (v := nI 100) hx hb dX11_gainsByOrder_41 (by decide) ?_
            refine lv_idiv hx hb dX11_gainsByOrder_43 (by decide) ?_
            refine m_top (y := nI ((100 * gg + pp) / 100)) (pk_div (by omega) (by omega) (by omega)) ?_
            refine m_top (y := nI gg) (congrArg nI (show (100 * gg + pp) / 100 = gg by omega)) ?_
            refine lv_iload_n hx hb dX11_gainsByOrder_44 rfl (lv_at hl 0 rfl) ?_
            refine lv_bipush (v := nI 100) hx hb dX11_gainsByOrder_45 (by decide) ?_
            refine lv_irem hx hb dX11_gainsByOrder_47 (by decide) ?_
            refine m_top (y := nI ((100 * gg + pp) % 100)) (pk_rem (by omega) (by omega) (by omega)) ?_
            refine m_top (y := nI pp) (congrArg nI (show (100 * gg + pp) % 100 = pp by omega)) ?_
            refine m_ci (m_rV S hW (c_X11_bites l G ad sh V_10 ((gnO (askT tx) ng z od k).1) ne ng rl tx (od k) gg pp (hZ2.k (by rw [hv_13]; exact (MK.rfl _).p200 _ (Or.inl rfl))) ((hod k (by omega)).2) (by first | assumption | omega) (by first | assumption | omega) hcan) (cwV 3 hts (gCall [.methodLink RX11 210 yX11_bites, .instanceMethod yX11_bites, .selects RX11 yX11_bites yX11_bites, .initialized RX11] (List.forall_mem_cons.mpr ⟨(wa_28 _ (List.mem_of_getElem? (i := 11) (by decide +kernel))), (List.forall_mem_cons.mpr ⟨(wa_28 _ (List.mem_of_getElem? (i := 8) (by decide +kernel))), (List.forall_mem_cons.mpr ⟨(wa_28 _ (List.mem_of_getElem? (i := 9) (by decide +kernel))), (List.forall_mem_cons.mpr ⟨(wa_28 _ (List.mem_of_getElem? (i := 10) (by decide +kernel))), (List.forall_mem_cons.mpr ⟨(wa_1 _ (List.mem_of_getElem? (i := 5) (by decide +kernel))), (fun _ h => absurd h List.not_mem_nil)⟩)⟩)⟩)⟩)⟩)) rfl rfl rfl (by decide +kernel) ⟨Nat.le_of_ble_eq_true rfl, Nat.le_of_ble_eq_true rfl⟩) hZ.sp.1 kX11 rfl hl.1 rfl (Nat.le_of_ble_eq_true rfl) dX11_gainsByOrder_48 ⟨Nat.le_of_ble_eq_true rfl, Nat.le_of_ble_eq_true rfl⟩) hW (fun r_18 V_16 H locs hp_17 hW => ?_)
            obtain ⟨rfl, hZ_19, hB_20⟩ := hp_17
            refine lv_iadd hx hb dX11_gainsByOrder_51 ?_
            refine lv_istore_n (lv' := [(1, .int (sm + (zGa (askT tx) ((gnO (askT tx) ng z od k).1) (od k) gg pp))), (3, .int (nI (100 * gg + pp))), (0, .ref (ad 200)), (2, .int (nI k))]) hx hb dX11_gainsByOrder_52 rfl hl (by decide) rfl (fun ls hl => ?_)
            refine lv_iinc (v := nI (k + 1)) (lv' := [(2, .int (nI (k + 1))), (1, .int (sm + (zGa (askT tx) ((gnO (askT tx) ng z od k).1) (od k) gg pp))), (3, .int (nI (100 * gg + pp))), (0, .ref (ad 200))]) hx hb dX11_gainsByOrder_53 hl (k := 3) rfl (m_inc k 1) (by decide) rfl (fun ls hl => ?_)
            refine lv_goto (tgt := 8) hx hb dX11_gainsByOrder_56 (by decide) ?_
            exact ih_8  (sm + (zGa (askT tx) ((gnO (askT tx) ng z od k).1) (od k) gg pp)) (k + 1) V_16 _ _ _ (by omega) (by rw [gnO_s hr0 (by omega) hpp]; exact hZ_19) (by exact MB.trans (by rw [hv_13]; exact hB.p200 _ (Or.inl rfl)) hB_20) (by rw [gnO_s hr0 (by omega) hpp, hsm]) (by omega) hW (lv_sub hl [3, 1, 0] rfl)
  exact loop_8 (ne - 0 + 1) (nI 0) 0 V_1 _ _ _ (by omega) (by exact hZ.k ⟨fun a _ _ _ a9 _ => hk_4.1 a a9, fun k _ => by rw [hk_4.1 201 (by decide)], fun k _ => by rw [hk_4.1 204 (by decide)], fun k _ _ _ => by rw [hk_4.1 200 (by decide)]⟩) (by exact MB.rfl _) (by rfl) (by omega) hW (lv_sub hl [2, 1, 0] rfl)
