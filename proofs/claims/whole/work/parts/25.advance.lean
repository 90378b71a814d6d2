/-! the next token -/
def fSign (x : Int32) : Bool := decide (x = nI 40 ∨ x = nI 41 ∨ x = nI 59 ∨ nI 2 ≤ fRank x)
def pAdv (B : Nat → Int32) (sz : Nat) (q : pS) : pS :=
  if sz ≤ fSpan fWhite B sz q.1 then (fSpan fWhite B sz q.1, nI 0, fSpan fWhite B sz q.1, q.2.2.2)
  else if fLet (B (fSpan fWhite B sz q.1)) = true then (fSpan fLet B sz (fSpan fWhite B sz q.1), fWordT B (fSpan fWhite B sz q.1) (fSpan fLet B sz (fSpan fWhite B sz q.1)), fSpan fWhite B sz q.1, q.2.2.2)
  else if fDig (B (fSpan fWhite B sz q.1)) = true then pNum B sz (fSpan fWhite B sz q.1, q.2.1, fSpan fWhite B sz q.1, q.2.2.2)
  else (fSpan fWhite B sz q.1 + 1, if fSign (B (fSpan fWhite B sz q.1)) = true then B (fSpan fWhite B sz q.1) else -1, fSpan fWhite B sz q.1, q.2.2.2)
theorem pAdv_e {B : Nat → Int32} {sz n : Nat} {q : pS} (ha : fSpan fWhite B sz q.1 = n) (h : sz ≤ n) : pAdv B sz q = (n, nI 0, n, q.2.2.2) := by rw [pAdv, ha, if_pos h]
theorem pAdv_w {B : Nat → Int32} {sz n n2 : Nat} {q : pS} (ha : fSpan fWhite B sz q.1 = n) (h : ¬ sz ≤ n) (hw : mIn (B n) 97 123) (h2 : fSpan fLet B sz n = n2) : pAdv B sz q = (n2, fWordT B n n2, n, q.2.2.2) := by rw [pAdv, ha, if_neg h, if_pos (show fLet (B n) = true from decide_eq_true hw), h2]
theorem pAdv_d {B : Nat → Int32} {sz n : Nat} {q : pS} (ha : fSpan fWhite B sz q.1 = n) (h : ¬ sz ≤ n) (hw : ¬ mIn (B n) 97 123) (hd : mIn (B n) 48 58) : pAdv B sz q = pNum B sz (n, q.2.1, n, q.2.2.2) := by rw [pAdv, ha, if_neg h, if_neg (show ¬ fLet (B n) = true from fun z => hw (of_decide_eq_true z)), if_pos (show fDig (B n) = true from decide_eq_true hd)]
theorem pAdv_s {B : Nat → Int32} {sz n : Nat} {q : pS} (ha : fSpan fWhite B sz q.1 = n) (h : ¬ sz ≤ n) (hw : ¬ mIn (B n) 97 123) (hd : ¬ mIn (B n) 48 58) : pAdv B sz q = (n + 1, if fSign (B n) = true then B n else -1, n, q.2.2.2) := by rw [pAdv, ha, if_neg h, if_neg (show ¬ fLet (B n) = true from fun z => hw (of_decide_eq_true z)), if_neg (show ¬ fDig (B n) = true from fun z => hd (of_decide_eq_true z))]
theorem fSign_t {x : Int32} (h : ¬ (if x = nI 40 ∨ x = nI 41 ∨ x = nI 59 ∨ nI 2 ≤ fRank x then nI 1 else nI 0) = nI 0) : fSign x = true := by
  by_cases c : x = nI 40 ∨ x = nI 41 ∨ x = nI 59 ∨ nI 2 ≤ fRank x
  · exact decide_eq_true c
  · exact absurd (if_neg c) h
theorem fSign_f {x : Int32} (h : (if x = nI 40 ∨ x = nI 41 ∨ x = nI 59 ∨ nI 2 ≤ fRank x then nI 1 else nI 0) = nI 0) : ¬ fSign x = true := by
  by_cases c : x = nI 40 ∨ x = nI 41 ∨ x = nI 59 ∨ nI 2 ≤ fRank x
  · rw [if_pos c] at h
    exact absurd h (by decide)
  · exact fun z => c (of_decide_eq_true z)
def pExp (w : Int32) (B : Nat → Int32) (sz : Nat) (q : pS) : pS := if q.2.1 = w then pAdv B sz q else pFail q
set_option maxHeartbeats 4000000 in
set_option maxRecDepth 100000 in
theorem c_X6_advance (l : Launch) (G : mG) (ad : Nat → Nat) (sh : Nat → Option mSh) (V : mV) (sz : Nat) (B : Nat → Int32) (q : pS) (hT : TpOk sh V sz B q) : mM l yX6_advance wsX6_advance ({ frames := 8, cells := 0, slots := 0, locals := 266 } : Room) G ad sh V [.ref (ad 1)] 0 0 (mPv ad sh (fun V' => (TpOk sh V' sz B (pAdv B sz q)) ∧ (TpFr V V'))) := by
  refine mM.of (cc := cX6_advance) (maxL := 1) (ret := none) (by decide) rfl (Nat.le_of_ble_eq_true rfl) ?_
  intro p e s m below meth c S hr hlk hnm hW ls hl
  obtain ⟨hx, hb, hml, hown, hts⟩ := id S
  have hl : lv_has ls 1 [(0, .ref (ad 1))] := hl
  have hS0 : True := trivial
  have hs1 := hT.s160
  have hn1 := hT.nxl
  have ha1 := hT.tal
  have hc1 := hT.scl
  have loop_0 : ∀ (n_0 : Nat) (n1 : Nat) (V1 : mV) (H : Heap) (locs : List Loc) (ls : Array Slot), (n1 ≤ sz) → (TpOk sh V1 sz B (n1, q.2)) → (TpFr V V1) → (fSpan fWhite B sz n1 = fSpan fWhite B sz q.1) → (sz - n1) < n_0 → mC (mA ad sh s.heap.size) s.heap s G ad sh V1 H locs → lv_has ls 1 [(0, .ref (ad 1))] → W p l e ({ frames := 8, cells := 0, slots := 0, locals := 266 } : Room) s m ([.ref (ad 1)] : List Value).toArray below meth c H locs 0 0 (MQ below (mPost G ad sh s.heap.size (mPv ad sh (fun V' => (TpOk sh V' sz B (pAdv B sz q)) ∧ (TpFr V V')))) ([.ref (ad 1)] : List Value).toArray s 0 0 (mA ad sh s.heap.size)) (F0 m 0 ls []) := by
    intro n_0
    induction n_0 with
    | zero => intro n1 V1 H locs ls hk hT1 hf1 hsp hM_ hW hl; omega
    | succ n_0 ih_0 =>
      intro n1 V1 H locs ls hk hT1 hf1 hsp hM_ hW hl
      have hn1b := hT1.nxl
      refine lv_aload_n hx hb dX6_advance_0 rfl (lv_at hl 0 rfl) ?_
      refine m_geti S hW hT.h1 2 rfl kX6 (iW6 _) (by decide) (List.mem_cons_of_mem _ (wa_6 _ (List.mem_of_getElem? (i := 2) (by decide +kernel)))) dX6_advance_1 ?_
      refine m_top (y := nI n1) hT1.nx ?_
      refine lv_aload_n hx hb dX6_advance_4 rfl (lv_at hl 0 rfl) ?_
      refine m_geti S hW hT.h1 1 rfl kX6 (iW6 _) (by decide) (List.mem_cons_of_mem _ (wa_5 _ (List.mem_of_getElem? (i := 21) (by decide +kernel)))) dX6_advance_5 ?_
      refine m_top (y := nI sz) hT1.size ?_
      refine lv_icmp_ge (tgt := 52) hx hb dX6_advance_8 (by decide) (fun c_1 => ?_) (fun c_1 => ?_)
      · skip
        have c_1 : sz ≤ n1 := (nI_leI (by omega) (by omega)).mp c_1
        have ha : fSpan fWhite B sz q.1 = n1 := hsp.symm.trans (fSpan_e (by omega))
        refine lv_aload_n hx hb dX6_advance_52 rfl (lv_at hl 0 rfl) ?_
        refine lv_aload_n hx hb dX6_advance_53 rfl (lv_at hl 0 rfl) ?_
        refine m_geti S hW hT.h1 2 rfl kX6 (iW6 _) (by decide) (List.mem_cons_of_mem _ (wa_6 _ (List.mem_of_getElem? (i := 2) (by decide +kernel)))) dX6_advance_54 ?_
        refine m_top (y := nI n1) hT1.nx ?_
        refine m_puti S hW hT.h1 4 rfl kX6 (iW6 _) tyX6 tyX6_ok nmX6 (by decide) (List.mem_cons_of_mem _ (wa_6 _ (List.mem_of_getElem? (i := 12) (by decide +kernel)))) (Or.inl rfl) rfl rfl dX6_advance_57 (fun H locs hW => ?_)
        obtain ⟨V_2, eV_2⟩ : ∃ z : mV, z = mU V1 1 4 (nI n1) := ⟨_, rfl⟩
        rw [← eV_2] at hW
        have hTa : TpOk sh V_2 sz B (n1, q.2.1, n1, q.2.2.2) := by rw [eV_2]; exact hT1.uTa (n := n1) (by omega)
        have hfa : TpFr V V_2 := by rw [eV_2]; exact hf1.p1 _ (by decide)
        have hBa : V_2 2 = B := hTa.by_
        refine lv_aload_n hx hb dX6_advance_60 rfl (lv_at hl 0 rfl) ?_
        refine m_geti S hW hT.h1 2 rfl kX6 (iW6 _) (by decide) (List.mem_cons_of_mem _ (wa_6 _ (List.mem_of_getElem? (i := 2) (by decide +kernel)))) dX6_advance_61 ?_
        refine m_top (y := nI n1) hTa.nx ?_
        refine lv_aload_n hx hb dX6_advance_64 rfl (lv_at hl 0 rfl) ?_
        refine m_geti S hW hT.h1 1 rfl kX6 (iW6 _) (by decide) (List.mem_cons_of_mem _ (wa_5 _ (List.mem_of_getElem? (i := 21) (by decide +kernel)))) dX6_advance_65 ?_
        refine m_top (y := nI sz) hTa.size ?_
        refine lv_icmp_lt (tgt := 79) hx hb dX6_advance_68 (by decide) (fun c_3 => ?_) (fun c_3 => ?_)
        · skip
          have c_3 : n1 < sz := (nI_ltI (by omega) (by omega)).mp c_3
          exfalso; omega
        · skip
          have c_3 : ¬ n1 < sz := mt (nI_ltI (by omega) (by omega)).mpr c_3
          refine lv_aload_n hx hb dX6_advance_71 rfl (lv_at hl 0 rfl) ?_
          refine lv_iconst (v := nI 0) hx hb dX6_advance_72 (by decide) ?_
          refine m_puti S hW hT.h1 3 rfl kX6 (iW6 _) tyX6 tyX6_ok nmX6 (by decide) (List.mem_cons_of_mem _ (wa_6 _ (List.mem_of_getElem? (i := 7) (by decide +kernel)))) (Or.inl rfl) rfl rfl dX6_advance_73 (fun H locs hW => ?_)
          obtain ⟨V_4, eV_4⟩ : ∃ z : mV, z = mU V_2 1 3 (nI 0) := ⟨_, rfl⟩
          rw [← eV_4] at hW
          refine lv_goto (tgt := 208) hx hb dX6_advance_76 (by decide) ?_
          exact m_vret S hr hlk hW dX6_advance_208 (by rw [pAdv_e ha (by omega), eV_4]; exact ⟨hTa.uTk _, hfa.p1 _ (by decide)⟩)
      · skip
        have c_1 : ¬ sz ≤ n1 := mt (nI_leI (by omega) (by omega)).mpr c_1
        refine lv_aload_n hx hb dX6_advance_11 rfl (lv_at hl 0 rfl) ?_
        refine m_getr S hW hT.h1 0 rfl (j := 2) rfl kX6 (iW6 _) (by decide) (List.mem_cons_of_mem _ (wa_2 _ (List.mem_of_getElem? (i := 20) (by decide +kernel)))) dX6_advance_12 ?_
        refine lv_aload_n hx hb dX6_advance_15 rfl (lv_at hl 0 rfl) ?_
        refine m_geti S hW hT.h1 2 rfl kX6 (iW6 _) (by decide) (List.mem_cons_of_mem _ (wa_6 _ (List.mem_of_getElem? (i := 2) (by decide +kernel)))) dX6_advance_16 ?_
        refine m_top (y := nI n1) hT1.nx ?_
        refine m_iald S hW hT.h2 n1 rfl (by omega) (by decide) dX6_advance_19 ?_
        refine lv_bipush (v := nI 32) hx hb dX6_advance_20 (by decide) ?_
        refine lv_icmp_eq (tgt := 39) hx hb dX6_advance_22 (by decide) (fun c_5 => ?_) (fun c_5 => ?_)
        · skip
          refine lv_aload_n hx hb dX6_advance_39 rfl (lv_at hl 0 rfl) ?_
          refine lv_dup hx hb dX6_advance_40 rfl ?_
          refine m_geti S hW hT.h1 2 rfl kX6 (iW6 _) (by decide) (List.mem_cons_of_mem _ (wa_6 _ (List.mem_of_getElem? (i := 2) (by decide +kernel)))) dX6_advance_41 ?_
          refine m_top (y := nI n1) hT1.nx ?_
          refine lv_iconst (v := nI 1) hx hb dX6_advance_44 (by decide) ?_
          refine lv_iadd hx hb dX6_advance_45 ?_
          refine m_top (y := nI (n1 + 1)) (nI_add n1 1) ?_
          refine m_puti S hW hT.h1 2 rfl kX6 (iW6 _) tyX6 tyX6_ok nmX6 (by decide) (List.mem_cons_of_mem _ (wa_6 _ (List.mem_of_getElem? (i := 2) (by decide +kernel)))) (Or.inl rfl) rfl rfl dX6_advance_46 (fun H locs hW => ?_)
          obtain ⟨V_6, eV_6⟩ : ∃ z : mV, z = mU V1 1 2 (nI (n1 + 1)) := ⟨_, rfl⟩
          rw [← eV_6] at hW
          refine lv_goto (tgt := 0) hx hb dX6_advance_49 (by decide) ?_
          exact ih_0  (n1 + 1) V_6 _ _ _ (by omega) (by rw [eV_6]; exact hT1.uNx (n := n1 + 1) (by omega)) (by rw [eV_6]; exact hf1.p1 _ (by decide)) (by exact (fSpan_s (by omega) (decide_eq_true (by rw [← hT1.by_]; exact Or.inl c_5))).symm.trans hsp) (by omega) hW (lv_sub hl [0] rfl)
        · skip
          refine lv_aload_n hx hb dX6_advance_25 rfl (lv_at hl 0 rfl) ?_
          refine m_getr S hW hT.h1 0 rfl (j := 2) rfl kX6 (iW6 _) (by decide) (List.mem_cons_of_mem _ (wa_2 _ (List.mem_of_getElem? (i := 20) (by decide +kernel)))) dX6_advance_26 ?_
          refine lv_aload_n hx hb dX6_advance_29 rfl (lv_at hl 0 rfl) ?_
          refine m_geti S hW hT.h1 2 rfl kX6 (iW6 _) (by decide) (List.mem_cons_of_mem _ (wa_6 _ (List.mem_of_getElem? (i := 2) (by decide +kernel)))) dX6_advance_30 ?_
          refine m_top (y := nI n1) hT1.nx ?_
          refine m_iald S hW hT.h2 n1 rfl (by omega) (by decide) dX6_advance_33 ?_
          refine lv_bipush (v := nI 10) hx hb dX6_advance_34 (by decide) ?_
          refine lv_icmp_ne (tgt := 52) hx hb dX6_advance_36 (by decide) (fun c_7 => ?_) (fun c_7 => ?_)
          · skip
            have ha : fSpan fWhite B sz q.1 = n1 := hsp.symm.trans (fSpan_n (fun z => (of_decide_eq_true z).elim (fun y => c_5 (by rw [hT1.by_]; exact y)) (fun y => c_7 (by rw [hT1.by_]; exact y))))
            refine lv_aload_n hx hb dX6_advance_52 rfl (lv_at hl 0 rfl) ?_
            refine lv_aload_n hx hb dX6_advance_53 rfl (lv_at hl 0 rfl) ?_
            refine m_geti S hW hT.h1 2 rfl kX6 (iW6 _) (by decide) (List.mem_cons_of_mem _ (wa_6 _ (List.mem_of_getElem? (i := 2) (by decide +kernel)))) dX6_advance_54 ?_
            refine m_top (y := nI n1) hT1.nx ?_
            refine m_puti S hW hT.h1 4 rfl kX6 (iW6 _) tyX6 tyX6_ok nmX6 (by decide) (List.mem_cons_of_mem _ (wa_6 _ (List.mem_of_getElem? (i := 12) (by decide +kernel)))) (Or.inl rfl) rfl rfl dX6_advance_57 (fun H locs hW => ?_)
            obtain ⟨V_8, eV_8⟩ : ∃ z : mV, z = mU V1 1 4 (nI n1) := ⟨_, rfl⟩
            rw [← eV_8] at hW
            have hTa : TpOk sh V_8 sz B (n1, q.2.1, n1, q.2.2.2) := by rw [eV_8]; exact hT1.uTa (n := n1) (by omega)
            have hfa : TpFr V V_8 := by rw [eV_8]; exact hf1.p1 _ (by decide)
            have hBa : V_8 2 = B := hTa.by_
            refine lv_aload_n hx hb dX6_advance_60 rfl (lv_at hl 0 rfl) ?_
            refine m_geti S hW hT.h1 2 rfl kX6 (iW6 _) (by decide) (List.mem_cons_of_mem _ (wa_6 _ (List.mem_of_getElem? (i := 2) (by decide +kernel)))) dX6_advance_61 ?_
            refine m_top (y := nI n1) hTa.nx ?_
            refine lv_aload_n hx hb dX6_advance_64 rfl (lv_at hl 0 rfl) ?_
            refine m_geti S hW hT.h1 1 rfl kX6 (iW6 _) (by decide) (List.mem_cons_of_mem _ (wa_5 _ (List.mem_of_getElem? (i := 21) (by decide +kernel)))) dX6_advance_65 ?_
            refine m_top (y := nI sz) hTa.size ?_
            refine lv_icmp_lt (tgt := 79) hx hb dX6_advance_68 (by decide) (fun c_9 => ?_) (fun c_9 => ?_)
            · skip
              have c_9 : n1 < sz := (nI_ltI (by omega) (by omega)).mp c_9
              refine lv_aload_n hx hb dX6_advance_79 rfl (lv_at hl 0 rfl) ?_
              refine m_getr S hW hT.h1 0 rfl (j := 2) rfl kX6 (iW6 _) (by decide) (List.mem_cons_of_mem _ (wa_2 _ (List.mem_of_getElem? (i := 20) (by decide +kernel)))) dX6_advance_80 ?_
              refine lv_aload_n hx hb dX6_advance_83 rfl (lv_at hl 0 rfl) ?_
              refine m_geti S hW hT.h1 2 rfl kX6 (iW6 _) (by decide) (List.mem_cons_of_mem _ (wa_6 _ (List.mem_of_getElem? (i := 2) (by decide +kernel)))) dX6_advance_84 ?_
              refine m_top (y := nI n1) hTa.nx ?_
              refine m_iald S hW hT.h2 n1 rfl (by omega) (by decide) dX6_advance_87 ?_
              refine m_cip (m_rS S hW (c_X6_isLetter l G ad sh V_8 (V_8 2 n1)) (va_cwS 1 hts (gCall [.methodLink RX6 104 yX6_isLetter, .static yX6_isLetter, .initialized RX6] (List.forall_mem_cons.mpr ⟨(wa_6 _ (List.mem_of_getElem? (i := 15) (by decide +kernel))), (List.forall_mem_cons.mpr ⟨(wa_6 _ (List.mem_of_getElem? (i := 13) (by decide +kernel))), (List.forall_mem_cons.mpr ⟨(wa_6 _ (List.mem_of_getElem? (i := 14) (by decide +kernel))), (List.forall_mem_cons.mpr ⟨(wa_1 _ (List.mem_of_getElem? (i := 14) (by decide +kernel))), (fun _ h => absurd h List.not_mem_nil)⟩)⟩)⟩)⟩)) rfl rfl rfl (by decide +kernel) ⟨Nat.le_of_ble_eq_true rfl, Nat.le_of_ble_eq_true rfl⟩) rfl hl.1 rfl (Nat.le_of_ble_eq_true rfl) dX6_advance_88 ⟨Nat.le_of_ble_eq_true rfl, Nat.le_of_ble_eq_true rfl⟩) hW (fun r_11 H locs hp_10 hW => ?_)
              rcases hp_10 with ⟨rfl, w_12⟩ | ⟨rfl, w_13⟩
              · skip
                refine m_if_eq (tgt := 144) hx hb dX6_advance_91 (by decide) (fun c_14 => ?_) (fun c_14 => ?_)
                · exact absurd c_14 (by decide)
                · skip
                  have loop_94 : ∀ (n_94 : Nat) (n2 : Nat) (V2 : mV) (H : Heap) (locs : List Loc) (ls : Array Slot), (n1 ≤ n2) → (TpOk sh V2 sz B (n2, q.2.1, n1, q.2.2.2)) → (TpFr V V2) → (fSpan fLet B sz n2 = fSpan fLet B sz n1) → (sz - n2) < n_94 → mC (mA ad sh s.heap.size) s.heap s G ad sh V2 H locs → lv_has ls 1 [(0, .ref (ad 1))] → W p l e ({ frames := 8, cells := 0, slots := 0, locals := 266 } : Room) s m ([.ref (ad 1)] : List Value).toArray below meth c H locs 0 0 (MQ below (mPost G ad sh s.heap.size (mPv ad sh (fun V' => (TpOk sh V' sz B (pAdv B sz q)) ∧ (TpFr V V')))) ([.ref (ad 1)] : List Value).toArray s 0 0 (mA ad sh s.heap.size)) (F0 m 94 ls []) := by
                    intro n_94
                    induction n_94 with
                    | zero => intro n2 V2 H locs ls hk2 hT2 hf2 hsp2 hM_ hW hl; omega
                    | succ n_94 ih_94 =>
                      intro n2 V2 H locs ls hk2 hT2 hf2 hsp2 hM_ hW hl
                      have hn2b := hT2.nxl
                      refine lv_aload_n hx hb dX6_advance_94 rfl (lv_at hl 0 rfl) ?_
                      refine m_geti S hW hT.h1 2 rfl kX6 (iW6 _) (by decide) (List.mem_cons_of_mem _ (wa_6 _ (List.mem_of_getElem? (i := 2) (by decide +kernel)))) dX6_advance_95 ?_
                      refine m_top (y := nI n2) hT2.nx ?_
                      refine lv_aload_n hx hb dX6_advance_98 rfl (lv_at hl 0 rfl) ?_
                      refine m_geti S hW hT.h1 1 rfl kX6 (iW6 _) (by decide) (List.mem_cons_of_mem _ (wa_5 _ (List.mem_of_getElem? (i := 21) (by decide +kernel)))) dX6_advance_99 ?_
                      refine m_top (y := nI sz) hT2.size ?_
                      refine lv_icmp_ge (tgt := 133) hx hb dX6_advance_102 (by decide) (fun c_15 => ?_) (fun c_15 => ?_)
                      · skip
                        have c_15 : sz ≤ n2 := (nI_leI (by omega) (by omega)).mp c_15
                        have hn2 : fSpan fLet B sz n1 = n2 := hsp2.symm.trans (fSpan_e (by omega))
                        refine lv_aload_n hx hb dX6_advance_133 rfl (lv_at hl 0 rfl) ?_
                        refine lv_aload_n hx hb dX6_advance_134 rfl (lv_at hl 0 rfl) ?_
                        refine m_cie (m_rV S hW (c_X6_wordToken l G ad sh V2 sz B (n2, q.2.1, n1, q.2.2.2) hT2 hk2) (cwV 0 hts (gCall [.methodLink RX6 107 yX6_wordToken, .instanceMethod yX6_wordToken, .selects RX6 yX6_wordToken yX6_wordToken, .initialized RX6] (List.forall_mem_cons.mpr ⟨(wa_6 _ (List.mem_of_getElem? (i := 19) (by decide +kernel))), (List.forall_mem_cons.mpr ⟨(wa_6 _ (List.mem_of_getElem? (i := 16) (by decide +kernel))), (List.forall_mem_cons.mpr ⟨(wa_6 _ (List.mem_of_getElem? (i := 17) (by decide +kernel))), (List.forall_mem_cons.mpr ⟨(wa_6 _ (List.mem_of_getElem? (i := 18) (by decide +kernel))), (List.forall_mem_cons.mpr ⟨(wa_1 _ (List.mem_of_getElem? (i := 14) (by decide +kernel))), (fun _ h => absurd h List.not_mem_nil)⟩)⟩)⟩)⟩)⟩)) rfl rfl rfl (by decide +kernel) ⟨Nat.le_of_ble_eq_true rfl, Nat.le_of_ble_eq_true rfl⟩) hT.h1 kX6 rfl hl.1 rfl (Nat.le_of_ble_eq_true rfl) dX6_advance_135 ⟨Nat.le_of_ble_eq_true rfl, Nat.le_of_ble_eq_true rfl⟩) hW (fun H locs hW => ?_)
                        refine m_puti S hW hT.h1 3 rfl kX6 (iW6 _) tyX6 tyX6_ok nmX6 (by decide) (List.mem_cons_of_mem _ (wa_6 _ (List.mem_of_getElem? (i := 7) (by decide +kernel)))) (Or.inl rfl) rfl rfl dX6_advance_138 (fun H locs hW => ?_)
                        obtain ⟨V_16, eV_16⟩ : ∃ z : mV, z = mU V2 1 3 ((fWordT B (n2, q.2.1, n1, q.2.2.2).2.2.1 (n2, q.2.1, n1, q.2.2.2).1)) := ⟨_, rfl⟩
                        rw [← eV_16] at hW
                        refine lv_goto (tgt := 208) hx hb dX6_advance_141 (by decide) ?_
                        exact m_vret S hr hlk hW dX6_advance_208 (by rw [pAdv_w ha (by omega) (by rw [← hBa]; exact w_12) hn2, eV_16]; exact ⟨hT2.uTk _, hf2.p1 _ (by decide)⟩)
                      · skip
                        have c_15 : ¬ sz ≤ n2 := mt (nI_leI (by omega) (by omega)).mpr c_15
                        refine lv_aload_n hx hb dX6_advance_105 rfl (lv_at hl 0 rfl) ?_
                        refine m_getr S hW hT.h1 0 rfl (j := 2) rfl kX6 (iW6 _) (by decide) (List.mem_cons_of_mem _ (wa_2 _ (List.mem_of_getElem? (i := 20) (by decide +kernel)))) dX6_advance_106 ?_
                        refine lv_aload_n hx hb dX6_advance_109 rfl (lv_at hl 0 rfl) ?_
                        refine m_geti S hW hT.h1 2 rfl kX6 (iW6 _) (by decide) (List.mem_cons_of_mem _ (wa_6 _ (List.mem_of_getElem? (i := 2) (by decide +kernel)))) dX6_advance_110 ?_
                        refine m_top (y := nI n2) hT2.nx ?_
                        refine m_iald S hW hT.h2 n2 rfl (by omega) (by decide) dX6_advance_113 ?_
                        refine m_cip (m_rS S hW (c_X6_isLetter l G ad sh V2 (V2 2 n2)) (va_cwS 1 hts (gCall [.methodLink RX6 104 yX6_isLetter, .static yX6_isLetter, .initialized RX6] (List.forall_mem_cons.mpr ⟨(wa_6 _ (List.mem_of_getElem? (i := 15) (by decide +kernel))), (List.forall_mem_cons.mpr ⟨(wa_6 _ (List.mem_of_getElem? (i := 13) (by decide +kernel))), (List.forall_mem_cons.mpr ⟨(wa_6 _ (List.mem_of_getElem? (i := 14) (by decide +kernel))), (List.forall_mem_cons.mpr ⟨(wa_1 _ (List.mem_of_getElem? (i := 14) (by decide +kernel))), (fun _ h => absurd h List.not_mem_nil)⟩)⟩)⟩)⟩)) rfl rfl rfl (by decide +kernel) ⟨Nat.le_of_ble_eq_true rfl, Nat.le_of_ble_eq_true rfl⟩) rfl hl.1 rfl (Nat.le_of_ble_eq_true rfl) dX6_advance_114 ⟨Nat.le_of_ble_eq_true rfl, Nat.le_of_ble_eq_true rfl⟩) hW (fun r_18 H locs hp_17 hW => ?_)
                        rcases hp_17 with ⟨rfl, w_19⟩ | ⟨rfl, w_20⟩
                        · skip
                          refine m_if_eq (tgt := 133) hx hb dX6_advance_117 (by decide) (fun c_21 => ?_) (fun c_21 => ?_)
                          · exact absurd c_21 (by decide)
                          · skip
                            refine lv_aload_n hx hb dX6_advance_120 rfl (lv_at hl 0 rfl) ?_
                            refine lv_dup hx hb dX6_advance_121 rfl ?_
                            refine m_geti S hW hT.h1 2 rfl kX6 (iW6 _) (by decide) (List.mem_cons_of_mem _ (wa_6 _ (List.mem_of_getElem? (i := 2) (by decide +kernel)))) dX6_advance_122 ?_
                            refine m_top (y := nI n2) hT2.nx ?_
                            refine lv_iconst (v := nI 1) hx hb dX6_advance_125 (by decide) ?_
                            refine lv_iadd hx hb dX6_advance_126 ?_
                            refine m_top (y := nI (n2 + 1)) (nI_add n2 1) ?_
                            refine m_puti S hW hT.h1 2 rfl kX6 (iW6 _) tyX6 tyX6_ok nmX6 (by decide) (List.mem_cons_of_mem _ (wa_6 _ (List.mem_of_getElem? (i := 2) (by decide +kernel)))) (Or.inl rfl) rfl rfl dX6_advance_127 (fun H locs hW => ?_)
                            obtain ⟨V_22, eV_22⟩ : ∃ z : mV, z = mU V2 1 2 (nI (n2 + 1)) := ⟨_, rfl⟩
                            rw [← eV_22] at hW
                            refine lv_goto (tgt := 94) hx hb dX6_advance_130 (by decide) ?_
                            exact ih_94  (n2 + 1) V_22 _ _ _ (by omega) (by rw [eV_22]; exact hT2.uNx (n := n2 + 1) (by omega)) (by rw [eV_22]; exact hf2.p1 _ (by decide)) (by exact (fSpan_s (by omega) (decide_eq_true (by rw [← hT2.by_]; exact w_19))).symm.trans hsp2) (by omega) hW (lv_sub hl [0] rfl)
                        · skip
                          refine m_if_eq (tgt := 133) hx hb dX6_advance_117 (by decide) (fun c_23 => ?_) (fun c_23 => ?_)
                          · skip
                            have hn2 : fSpan fLet B sz n1 = n2 := hsp2.symm.trans (fSpan_n (fun z => w_20 (by rw [hT2.by_]; exact of_decide_eq_true z)))
                            refine lv_aload_n hx hb dX6_advance_133 rfl (lv_at hl 0 rfl) ?_
                            refine lv_aload_n hx hb dX6_advance_134 rfl (lv_at hl 0 rfl) ?_
                            refine m_cie (m_rV S hW (c_X6_wordToken l G ad sh V2 sz B (n2, q.2.1, n1, q.2.2.2) hT2 hk2) (cwV 0 hts (gCall [.methodLink RX6 107 yX6_wordToken, .instanceMethod yX6_wordToken, .selects RX6 yX6_wordToken yX6_wordToken, .initialized RX6] (List.forall_mem_cons.mpr ⟨(wa_6 _ (List.mem_of_getElem? (i := 19) (by decide +kernel))), (List.forall_mem_cons.mpr ⟨(wa_6 _ (List.mem_of_getElem? (i := 16) (by decide +kernel))), (List.forall_mem_cons.mpr ⟨(wa_6 _ (List.mem_of_getElem? (i := 17) (by decide +kernel))), (List.forall_mem_cons.mpr ⟨(wa_6 _ (List.mem_of_getElem? (i := 18) (by decide +kernel))), (List.forall_mem_cons.mpr ⟨(wa_1 _ (List.mem_of_getElem? (i := 14) (by decide +kernel))), (fun _ h => absurd h List.not_mem_nil)⟩)⟩)⟩)⟩)⟩)) rfl rfl rfl (by decide +kernel) ⟨Nat.le_of_ble_eq_true rfl, Nat.le_of_ble_eq_true rfl⟩) hT.h1 kX6 rfl hl.1 rfl (Nat.le_of_ble_eq_true rfl) dX6_advance_135 ⟨Nat.le_of_ble_eq_true rfl, Nat.le_of_ble_eq_true rfl⟩) hW (fun H locs hW => ?_)
                            refine m_puti S hW hT.h1 3 rfl kX6 (iW6 _) tyX6 tyX6_ok nmX6 (by decide) (List.mem_cons_of_mem _ (wa_6 _ (List.mem_of_getElem? (i := 7) (by decide +kernel)))) (Or.inl rfl) rfl rfl dX6_advance_138 (fun H locs hW => ?_)
                            obtain ⟨V_24, eV_24⟩ : ∃ z : mV, z = mU V2 1 3 ((fWordT B (n2, q.2.1, n1, q.2.2.2).2.2.1 (n2, q.2.1, n1, q.2.2.2).1)) := ⟨_, rfl⟩
                            rw [← eV_24] at hW
                            refine lv_goto (tgt := 208) hx hb dX6_advance_141 (by decide) ?_
                            exact m_vret S hr hlk hW dX6_advance_208 (by rw [pAdv_w ha (by omega) (by rw [← hBa]; exact w_12) hn2, eV_24]; exact ⟨hT2.uTk _, hf2.p1 _ (by decide)⟩)
                          · exact absurd c_23 (by decide)
                  exact loop_94 (sz - n1 + 1) n1 V_8 _ _ _ (by exact Nat.le_refl _) (by exact hTa) (by exact hfa) (by rfl) (by omega) hW (lv_sub hl [0] rfl)
              · skip
                refine m_if_eq (tgt := 144) hx hb dX6_advance_91 (by decide) (fun c_25 => ?_) (fun c_25 => ?_)
                · skip
                  refine lv_aload_n hx hb dX6_advance_144 rfl (lv_at hl 0 rfl) ?_
                  refine m_getr S hW hT.h1 0 rfl (j := 2) rfl kX6 (iW6 _) (by decide) (List.mem_cons_of_mem _ (wa_2 _ (List.mem_of_getElem? (i := 20) (by decide +kernel)))) dX6_advance_145 ?_
                  refine lv_aload_n hx hb dX6_advance_148 rfl (lv_at hl 0 rfl) ?_
                  refine m_geti S hW hT.h1 2 rfl kX6 (iW6 _) (by decide) (List.mem_cons_of_mem _ (wa_6 _ (List.mem_of_getElem? (i := 2) (by decide +kernel)))) dX6_advance_149 ?_
                  refine m_top (y := nI n1) hTa.nx ?_
                  refine m_iald S hW hT.h2 n1 rfl (by omega) (by decide) dX6_advance_152 ?_
                  refine m_cip (m_rS S hW (c_X6_isDigit l G ad sh V_8 (V_8 2 n1)) (va_cwS 1 hts (gCall [.methodLink RX6 110 yX6_isDigit, .static yX6_isDigit, .initialized RX6] (List.forall_mem_cons.mpr ⟨(wa_7 _ (List.mem_of_getElem? (i := 2) (by decide +kernel))), (List.forall_mem_cons.mpr ⟨(wa_7 _ (List.mem_of_getElem? (i := 0) (by decide +kernel))), (List.forall_mem_cons.mpr ⟨(wa_7 _ (List.mem_of_getElem? (i := 1) (by decide +kernel))), (List.forall_mem_cons.mpr ⟨(wa_1 _ (List.mem_of_getElem? (i := 14) (by decide +kernel))), (fun _ h => absurd h List.not_mem_nil)⟩)⟩)⟩)⟩)) rfl rfl rfl (by decide +kernel) ⟨Nat.le_of_ble_eq_true rfl, Nat.le_of_ble_eq_true rfl⟩) rfl hl.1 rfl (Nat.le_of_ble_eq_true rfl) dX6_advance_153 ⟨Nat.le_of_ble_eq_true rfl, Nat.le_of_ble_eq_true rfl⟩) hW (fun r_27 H locs hp_26 hW => ?_)
                  rcases hp_26 with ⟨rfl, w_28⟩ | ⟨rfl, w_29⟩
                  · skip
                    refine m_if_eq (tgt := 166) hx hb dX6_advance_156 (by decide) (fun c_30 => ?_) (fun c_30 => ?_)
                    · exact absurd c_30 (by decide)
                    · skip
                      refine lv_aload_n hx hb dX6_advance_159 rfl (lv_at hl 0 rfl) ?_
                      refine m_cv (m_rV S hW (c_X6_readNumber l G ad sh V_8 sz B (n1, q.2.1, n1, q.2.2.2) hTa (Nat.le_refl _)) (cwV 0 hts (gCall [.methodLink RX6 113 yX6_readNumber, .instanceMethod yX6_readNumber, .selects RX6 yX6_readNumber yX6_readNumber, .initialized RX6] (List.forall_mem_cons.mpr ⟨(wa_7 _ (List.mem_of_getElem? (i := 6) (by decide +kernel))), (List.forall_mem_cons.mpr ⟨(wa_7 _ (List.mem_of_getElem? (i := 3) (by decide +kernel))), (List.forall_mem_cons.mpr ⟨(wa_7 _ (List.mem_of_getElem? (i := 4) (by decide +kernel))), (List.forall_mem_cons.mpr ⟨(wa_7 _ (List.mem_of_getElem? (i := 5) (by decide +kernel))), (List.forall_mem_cons.mpr ⟨(wa_1 _ (List.mem_of_getElem? (i := 14) (by decide +kernel))), (fun _ h => absurd h List.not_mem_nil)⟩)⟩)⟩)⟩)⟩)) rfl rfl rfl (by decide +kernel) ⟨Nat.le_of_ble_eq_true rfl, Nat.le_of_ble_eq_true rfl⟩) hT.h1 kX6 rfl hl.1 rfl (Nat.le_of_ble_eq_true rfl) dX6_advance_160 ⟨Nat.le_of_ble_eq_true rfl, Nat.le_of_ble_eq_true rfl⟩) hW (fun V_31 H locs hp_32 hW => ?_)
                      obtain ⟨hT_34, hf_35⟩ := hp_32
                      refine lv_goto (tgt := 208) hx hb dX6_advance_163 (by decide) ?_
                      exact m_vret S hr hlk hW dX6_advance_208 (by rw [pAdv_d ha (by omega) (by rw [← hBa]; exact w_13) (by rw [← hBa]; exact w_28)]; exact ⟨hT_34, hfa.trans hf_35⟩)
                  · skip
                    refine m_if_eq (tgt := 166) hx hb dX6_advance_156 (by decide) (fun c_36 => ?_) (fun c_36 => ?_)
                    · skip
                      refine lv_aload_n hx hb dX6_advance_166 rfl (lv_at hl 0 rfl) ?_
                      refine lv_aload_n hx hb dX6_advance_167 rfl (lv_at hl 0 rfl) ?_
                      refine m_getr S hW hT.h1 0 rfl (j := 2) rfl kX6 (iW6 _) (by decide) (List.mem_cons_of_mem _ (wa_2 _ (List.mem_of_getElem? (i := 20) (by decide +kernel)))) dX6_advance_168 ?_
                      refine lv_aload_n hx hb dX6_advance_171 rfl (lv_at hl 0 rfl) ?_
                      refine m_geti S hW hT.h1 2 rfl kX6 (iW6 _) (by decide) (List.mem_cons_of_mem _ (wa_6 _ (List.mem_of_getElem? (i := 2) (by decide +kernel)))) dX6_advance_172 ?_
                      refine m_top (y := nI n1) hTa.nx ?_
                      refine m_iald S hW hT.h2 n1 rfl (by omega) (by decide) dX6_advance_175 ?_
                      refine m_cie (m_rS S hW (c_X9_isSign l G ad sh V_8 (V_8 2 n1)) (va_cwS 1 hts (gCall [.methodLink RX6 116 yX9_isSign, .static yX9_isSign, .initialized RX9] (List.forall_mem_cons.mpr ⟨(wa_7 _ (List.mem_of_getElem? (i := 11) (by decide +kernel))), (List.forall_mem_cons.mpr ⟨(wa_7 _ (List.mem_of_getElem? (i := 8) (by decide +kernel))), (List.forall_mem_cons.mpr ⟨(wa_7 _ (List.mem_of_getElem? (i := 9) (by decide +kernel))), (List.forall_mem_cons.mpr ⟨(wa_7 _ (List.mem_of_getElem? (i := 10) (by decide +kernel))), (fun _ h => absurd h List.not_mem_nil)⟩)⟩)⟩)⟩)) rfl rfl rfl (by decide +kernel) ⟨Nat.le_of_ble_eq_true rfl, Nat.le_of_ble_eq_true rfl⟩) rfl hl.1 rfl (Nat.le_of_ble_eq_true rfl) dX6_advance_176 ⟨Nat.le_of_ble_eq_true rfl, Nat.le_of_ble_eq_true rfl⟩) hW (fun H locs hW => ?_)
                      refine m_if_eq (tgt := 194) hx hb dX6_advance_179 (by decide) (fun c_37 => ?_) (fun c_37 => ?_)
                      · skip
                        refine lv_iconst (v := -1) hx hb dX6_advance_194 (by decide) ?_
                        refine m_puti S hW hT.h1 3 rfl kX6 (iW6 _) tyX6 tyX6_ok nmX6 (by decide) (List.mem_cons_of_mem _ (wa_6 _ (List.mem_of_getElem? (i := 7) (by decide +kernel)))) (Or.inl rfl) rfl rfl dX6_advance_195 (fun H locs hW => ?_)
                        obtain ⟨V_38, eV_38⟩ : ∃ z : mV, z = mU V_8 1 3 (-1) := ⟨_, rfl⟩
                        rw [← eV_38] at hW
                        refine lv_aload_n hx hb dX6_advance_198 rfl (lv_at hl 0 rfl) ?_
                        refine lv_dup hx hb dX6_advance_199 rfl ?_
                        refine m_geti S hW hT.h1 2 rfl kX6 (iW6 _) (by decide) (List.mem_cons_of_mem _ (wa_6 _ (List.mem_of_getElem? (i := 2) (by decide +kernel)))) dX6_advance_200 ?_
                        refine m_top (y := nI n1) (by rw [eV_38, mU_ne _ _ (by omega)]; exact hTa.nx) ?_
                        refine lv_iconst (v := nI 1) hx hb dX6_advance_203 (by decide) ?_
                        refine lv_iadd hx hb dX6_advance_204 ?_
                        refine m_top (y := nI (n1 + 1)) (nI_add n1 1) ?_
                        refine m_puti S hW hT.h1 2 rfl kX6 (iW6 _) tyX6 tyX6_ok nmX6 (by decide) (List.mem_cons_of_mem _ (wa_6 _ (List.mem_of_getElem? (i := 2) (by decide +kernel)))) (Or.inl rfl) rfl rfl dX6_advance_205 (fun H locs hW => ?_)
                        obtain ⟨V_39, eV_39⟩ : ∃ z : mV, z = mU V_38 1 2 (nI (n1 + 1)) := ⟨_, rfl⟩
                        rw [← eV_39] at hW
                        exact m_vret S hr hlk hW dX6_advance_208 (by rw [pAdv_s ha (by omega) (by rw [← hBa]; exact w_13) (by rw [← hBa]; exact w_29), if_neg (fSign_f (by rw [← hBa]; exact c_37)), eV_39, eV_38]; (try rw [hBa]); exact ⟨(hTa.uTk _).uNx (n := n1 + 1) (by omega), (hfa.p1 _ (by decide)).p1 _ (by decide)⟩)
                      · skip
                        refine lv_aload_n hx hb dX6_advance_182 rfl (lv_at hl 0 rfl) ?_
                        refine m_getr S hW hT.h1 0 rfl (j := 2) rfl kX6 (iW6 _) (by decide) (List.mem_cons_of_mem _ (wa_2 _ (List.mem_of_getElem? (i := 20) (by decide +kernel)))) dX6_advance_183 ?_
                        refine lv_aload_n hx hb dX6_advance_186 rfl (lv_at hl 0 rfl) ?_
                        refine m_geti S hW hT.h1 2 rfl kX6 (iW6 _) (by decide) (List.mem_cons_of_mem _ (wa_6 _ (List.mem_of_getElem? (i := 2) (by decide +kernel)))) dX6_advance_187 ?_
                        refine m_top (y := nI n1) hTa.nx ?_
                        refine m_iald S hW hT.h2 n1 rfl (by omega) (by decide) dX6_advance_190 ?_
                        refine lv_goto (tgt := 195) hx hb dX6_advance_191 (by decide) ?_
                        refine m_puti S hW hT.h1 3 rfl kX6 (iW6 _) tyX6 tyX6_ok nmX6 (by decide) (List.mem_cons_of_mem _ (wa_6 _ (List.mem_of_getElem? (i := 7) (by decide +kernel)))) (Or.inl rfl) rfl rfl dX6_advance_195 (fun H locs hW => ?_)
                        obtain ⟨V_40, eV_40⟩ : ∃ z : mV, z = mU V_8 1 3 (V_8 2 n1) := ⟨_, rfl⟩
                        rw [← eV_40] at hW
                        refine lv_aload_n hx hb dX6_advance_198 rfl (lv_at hl 0 rfl) ?_
                        refine lv_dup hx hb dX6_advance_199 rfl ?_
                        refine m_geti S hW hT.h1 2 rfl kX6 (iW6 _) (by decide) (List.mem_cons_of_mem _ (wa_6 _ (List.mem_of_getElem? (i := 2) (by decide +kernel)))) dX6_advance_200 ?_
                        refine m_top (y := nI n1) (by rw [eV_40, mU_ne _ _ (by omega)]; exact hTa.nx) ?_
                        refine lv_iconst (v := nI 1) hx hb dX6_advance_203 (by decide) ?_
                        refine lv_iadd hx hb dX6_advance_204 ?_
                        refine m_top (y := nI (n1 + 1)) (nI_add n1 1) ?_
                        refine m_puti S hW hT.h1 2 rfl kX6 (iW6 _) tyX6 tyX6_ok nmX6 (by decide) (List.mem_cons_of_mem _ (wa_6 _ (List.mem_of_getElem? (i := 2) (by decide +kernel)))) (Or.inl rfl) rfl rfl dX6_advance_205 (fun H locs hW => ?_)
                        obtain ⟨V_41, eV_41⟩ : ∃ z : mV, z = mU V_40 1 2 (nI (n1 + 1)) := ⟨_, rfl⟩
                        rw [← eV_41] at hW
                        exact m_vret S hr hlk hW dX6_advance_208 (by rw [pAdv_s ha (by omega) (by rw [← hBa]; exact w_13) (by rw [← hBa]; exact w_29), if_pos (fSign_t (by rw [← hBa]; exact c_37)), eV_41, eV_40]; (try rw [hBa]); exact ⟨(hTa.uTk _).uNx (n := n1 + 1) (by omega), (hfa.p1 _ (by decide)).p1 _ (by decide)⟩)
                    · exact absurd c_36 (by decide)
                · exact absurd c_25 (by decide)
            · skip
              have c_9 : ¬ n1 < sz := mt (nI_ltI (by omega) (by omega)).mpr c_9
              exfalso; omega
          · skip
            refine lv_aload_n hx hb dX6_advance_39 rfl (lv_at hl 0 rfl) ?_
            refine lv_dup hx hb dX6_advance_40 rfl ?_
            refine m_geti S hW hT.h1 2 rfl kX6 (iW6 _) (by decide) (List.mem_cons_of_mem _ (wa_6 _ (List.mem_of_getElem? (i := 2) (by decide +kernel)))) dX6_advance_41 ?_
            refine m_top (y := nI n1) hT1.nx ?_
            refine lv_iconst (v := nI 1) hx hb dX6_advance_44 (by decide) ?_
            refine lv_iadd hx hb dX6_advance_45 ?_
            refine m_top (y := nI (n1 + 1)) (nI_add n1 1) ?_
            refine m_puti S hW hT.h1 2 rfl kX6 (iW6 _) tyX6 tyX6_ok nmX6 (by decide) (List.mem_cons_of_mem _ (wa_6 _ (List.mem_of_getElem? (i := 2) (by decide +kernel)))) (Or.inl rfl) rfl rfl dX6_advance_46 (fun H locs hW => ?_)
            obtain ⟨V_42, eV_42⟩ : ∃ z : mV, z = mU V1 1 2 (nI (n1 + 1)) := ⟨_, rfl⟩
            rw [← eV_42] at hW
            refine lv_goto (tgt := 0) hx hb dX6_advance_49 (by decide) ?_
            exact ih_0  (n1 + 1) V_42 _ _ _ (by omega) (by rw [eV_42]; exact hT1.uNx (n := n1 + 1) (by omega)) (by rw [eV_42]; exact hf1.p1 _ (by decide)) (by exact (fSpan_s (by omega) (decide_eq_true (by rw [← hT1.by_]; exact Or.inr c_7))).symm.trans hsp) (by omega) hW (lv_sub hl [0] rfl)
  exact loop_0 (sz - q.1 + 1) q.1 V _ _ _ (by exact hT.nxl) (by exact hT) (by exact TpFr.rfl V) (by rfl) (by omega) hW (lv_sub hl [0] rfl)
set_option maxHeartbeats 4000000 in
set_option maxRecDepth 100000 in
theorem c_X6_expect (l : Launch) (G : mG) (ad : Nat → Nat) (sh : Nat → Option mSh) (V : mV) (sz : Nat) (B : Nat → Int32) (q : pS) (w : Int32) (hT : TpOk sh V sz B q) : mM l yX6_expect wsX6_expect ({ frames := 9, cells := 0, slots := 0, locals := 286 } : Room) G ad sh V [.ref (ad 1), .int w] 0 0 (mPv ad sh (fun V' => (TpOk sh V' sz B (pExp w B sz q)) ∧ (TpFr V V'))) := by
  refine mM.of (cc := cX6_expect) (maxL := 2) (ret := none) (by decide) rfl (Nat.le_of_ble_eq_true rfl) ?_
  intro p e s m below meth c S hr hlk hnm hW ls hl
  obtain ⟨hx, hb, hml, hown, hts⟩ := id S
  have hl : lv_has ls 2 [(0, .ref (ad 1)), (1, .int w)] := hl
  have hS0 : True := trivial
  have hs1 := hT.s160
  have hn1 := hT.nxl
  have ha1 := hT.tal
  have hc1 := hT.scl
  refine lv_aload_n hx hb dX6_expect_0 rfl (lv_at hl 0 rfl) ?_
  refine m_geti S hW hT.h1 3 rfl kX6 (iW6 _) (by decide) (List.mem_cons_of_mem _ (wa_6 _ (List.mem_of_getElem? (i := 7) (by decide +kernel)))) dX6_expect_1 ?_
  refine m_top (y := q.2.1) hT.tk ?_
  refine lv_iload_n hx hb dX6_expect_4 rfl (lv_at hl 1 rfl) ?_
  refine lv_icmp_ne (tgt := 15) hx hb dX6_expect_5 (by decide) (fun c_1 => ?_) (fun c_1 => ?_)
  · skip
    refine lv_aload_n hx hb dX6_expect_15 rfl (lv_at hl 0 rfl) ?_
    refine m_cv (m_rV S hW (c_X6_fail l G ad sh V sz B q (by first | assumption | omega)) (cwV 0 hts (gCall [.methodLink RX6 66 yX6_fail, .instanceMethod yX6_fail, .selects RX6 yX6_fail yX6_fail, .initialized RX6] (List.forall_mem_cons.mpr ⟨(wa_7 _ (List.mem_of_getElem? (i := 22) (by decide +kernel))), (List.forall_mem_cons.mpr ⟨(wa_7 _ (List.mem_of_getElem? (i := 19) (by decide +kernel))), (List.forall_mem_cons.mpr ⟨(wa_7 _ (List.mem_of_getElem? (i := 20) (by decide +kernel))), (List.forall_mem_cons.mpr ⟨(wa_7 _ (List.mem_of_getElem? (i := 21) (by decide +kernel))), (List.forall_mem_cons.mpr ⟨(wa_1 _ (List.mem_of_getElem? (i := 14) (by decide +kernel))), (fun _ h => absurd h List.not_mem_nil)⟩)⟩)⟩)⟩)⟩)) rfl rfl rfl (by decide +kernel) ⟨Nat.le_of_ble_eq_true rfl, Nat.le_of_ble_eq_true rfl⟩) hT.h1 kX6 rfl hl.1 rfl (Nat.le_of_ble_eq_true rfl) dX6_expect_16 ⟨Nat.le_of_ble_eq_true rfl, Nat.le_of_ble_eq_true rfl⟩) hW (fun V_2 H locs hp_3 hW => ?_)
    obtain ⟨hT_5, hf_6⟩ := hp_3
    exact m_vret S hr hlk hW dX6_expect_19 (by rw [pExp, if_neg c_1]; exact ⟨hT_5, hf_6⟩)
  · skip
    refine lv_aload_n hx hb dX6_expect_8 rfl (lv_at hl 0 rfl) ?_
    refine m_cv (m_rV S hW (c_X6_advance l G ad sh V sz B q (by first | assumption | omega)) (cwV 0 hts (gCall [.methodLink RX6 45 yX6_advance, .instanceMethod yX6_advance, .selects RX6 yX6_advance yX6_advance, .initialized RX6] (List.forall_mem_cons.mpr ⟨(wa_6 _ (List.mem_of_getElem? (i := 11) (by decide +kernel))), (List.forall_mem_cons.mpr ⟨(wa_6 _ (List.mem_of_getElem? (i := 8) (by decide +kernel))), (List.forall_mem_cons.mpr ⟨(wa_6 _ (List.mem_of_getElem? (i := 9) (by decide +kernel))), (List.forall_mem_cons.mpr ⟨(wa_6 _ (List.mem_of_getElem? (i := 10) (by decide +kernel))), (List.forall_mem_cons.mpr ⟨(wa_1 _ (List.mem_of_getElem? (i := 14) (by decide +kernel))), (fun _ h => absurd h List.not_mem_nil)⟩)⟩)⟩)⟩)⟩)) rfl rfl rfl (by decide +kernel) ⟨Nat.le_of_ble_eq_true rfl, Nat.le_of_ble_eq_true rfl⟩) hT.h1 kX6 rfl hl.1 rfl (Nat.le_of_ble_eq_true rfl) dX6_expect_9 ⟨Nat.le_of_ble_eq_true rfl, Nat.le_of_ble_eq_true rfl⟩) hW (fun V_7 H locs hp_8 hW => ?_)
    obtain ⟨hT_10, hf_11⟩ := hp_8
    refine lv_goto (tgt := 19) hx hb dX6_expect_12 (by decide) ?_
    exact m_vret S hr hlk hW dX6_expect_19 (by rw [pExp, if_pos c_1]; exact ⟨hT_10, hf_11⟩)
