/-! the reference's reading: what binds, tokens -/
theorem rkN_le (n : Nat) : rkN n ≤ 7 := by
  unfold rkN
  repeat' split
  all_goals decide
theorem rkN_0 {l x : Nat} (h : 1 ≤ l) (h2 : l ≤ rkN x) : x ≠ 0 := fun e => by
  rw [e] at h2
  exact absurd (Nat.le_trans h h2) (by decide)
theorem unw_c {l x : Nat} {h cs : List Nat} (hr : l ≤ rkN x) : unw l (x :: h) cs = unw l h (cs ++ [x]) := by rw [unw, if_pos hr]
theorem unw_s {l x : Nat} {h cs : List Nat} (hr : ¬ l ≤ rkN x) : unw l (x :: h) cs = (x :: h, cs) := by rw [unw, if_neg hr]
/-- between two operands: what is popped for a sign -/
def btw (s : Nat) : Nat := if rkN s = 4 then 5 else rkN s
/-- whether it can't stand -/
def btNo (s : Nat) (th : List Nat) : Bool := decide (rkN s = 4) && (match th with | [] => false | x :: _ => decide (rkN x = 4))
theorem unw_20 {l : Nat} : ∀ {th cs : List Nat}, (∀ x ∈ th, x < 20) → ∀ x ∈ (unw l th cs).1, x < 20
  | [], _, _, x, hx => by cases hx
  | y :: h, cs, h20, x, hx => by
    rw [unw] at hx
    split at hx
    · exact unw_20 (fun z hz => h20 z (List.mem_cons_of_mem _ hz)) x hx
    · exact h20 x hx
set_option maxHeartbeats 4000000 in
set_option maxRecDepth 100000 in
theorem c_X11_unwinds (l : Launch) (G : mG) (ad : Nat → Nat) (sh : Nat → Option mSh) (V : mV) (tn : Nat) (th cs : List Nat) (l2 : Nat) (hM : MSh sh) (hS : SkOk V tn th cs) (hl2 : 1 ≤ l2 ∧ l2 < 8) : mM l yX11_unwinds wsX11_unwinds ({ frames := 1, cells := 0, slots := 0, locals := 21 } : Room) G ad sh V [.ref (ad 200), .int (nI l2)] 0 0 (mPv ad sh (fun V' => (SkOk V' tn (unw l2 th cs).1 (unw l2 th cs).2) ∧ (SkF tn V V'))) := by
  refine mM.of (cc := cX11_unwinds) (maxL := 3) (ret := none) (by decide) rfl (Nat.le_of_ble_eq_true rfl) ?_
  intro p e s m below meth c S hr hlk hnm hW ls hl
  obtain ⟨hx, hb, hml, hown, hts⟩ := id S
  have hl : lv_has ls 3 [(0, .ref (ad 200)), (1, .int (nI l2))] := hl
  have hS0 : True := trivial
  have hlen := hS.len
  have htn6 := hS.tn6
  have hcnt := cntO_le th
  have loop_0 : ∀ (n_0 : Nat) (t1 c1 : List Nat) (V1 : mV) (H : Heap) (locs : List Loc) (ls : Array Slot), (True) → (SkOk V1 tn t1 c1) → (SkF tn V V1) → (unw l2 t1 c1 = (unw l2 th cs)) → t1.length < n_0 → mC (mA ad sh s.heap.size) s.heap s G ad sh V1 H locs → lv_has ls 3 [(0, .ref (ad 200)), (1, .int (nI l2))] → W p l e ({ frames := 1, cells := 0, slots := 0, locals := 21 } : Room) s m ([.ref (ad 200), .int (nI l2)] : List Value).toArray below meth c H locs 0 0 (MQ below (mPost G ad sh s.heap.size (mPv ad sh (fun V' => (SkOk V' tn (unw l2 th cs).1 (unw l2 th cs).2) ∧ (SkF tn V V')))) ([.ref (ad 200), .int (nI l2)] : List Value).toArray s 0 0 (mA ad sh s.heap.size)) (F0 m 0 ls []) := by
    intro n_0
    induction n_0 with
    | zero => intro t1 c1 V1 H locs ls hk hS1 hF1 hun hM_ hW hl; omega
    | succ n_0 ih_0 =>
      intro t1 c1 V1 H locs ls hk hS1 hF1 hun hM_ hW hl
      rcases t1 with _ | ⟨x0, t0⟩
      · skip
        refine lv_aload_n hx hb dX11_unwinds_0 rfl (lv_at hl 0 rfl) ?_
        refine m_geti S hW hM.1 27 rfl kX11 (iW11 _) (by decide) (List.mem_cons_of_mem _ (wa_13 _ (List.mem_of_getElem? (i := 1) (by decide +kernel)))) dX11_unwinds_1 ?_
        refine m_top (y := nI 0) hS1.hm ?_
        refine m_if_le (tgt := 79) hx hb dX11_unwinds_4 (by decide) (fun c_1 => ?_) (fun c_1 => ?_)
        · skip
          exact m_vret S hr hlk hW dX11_unwinds_79 (by rw [← hun]; exact ⟨hS1, hF1⟩)
        · exact absurd c_1 (by decide)
      · skip
        have hx0 := hS1.h20 x0 List.mem_cons_self
        have hrk7 := rkN_le x0
        have hl1 := hS1.len
        rw [List.length_cons] at hl1
        have hcn0 := cntO_le t0
        refine lv_aload_n hx hb dX11_unwinds_0 rfl (lv_at hl 0 rfl) ?_
        refine m_geti S hW hM.1 27 rfl kX11 (iW11 _) (by decide) (List.mem_cons_of_mem _ (wa_13 _ (List.mem_of_getElem? (i := 1) (by decide +kernel)))) dX11_unwinds_1 ?_
        refine m_top (y := nI (t0.length + 1)) hS1.hm ?_
        refine m_if_le (tgt := 79) hx hb dX11_unwinds_4 (by decide) (fun c_2 => ?_) (fun c_2 => ?_)
        · skip
          have c_2 : (t0.length + 1) ≤ 0 := (nI_leI (by omega) (by omega)).mp c_2
          exfalso; omega
        · skip
          have c_2 : ¬ (t0.length + 1) ≤ 0 := mt (nI_leI (by omega) (by omega)).mpr c_2
          refine lv_aload_n hx hb dX11_unwinds_7 rfl (lv_at hl 0 rfl) ?_
          refine m_getr S hW hM.1 26 rfl (j := 216) rfl kX11 (iW11 _) (by decide) (List.mem_cons_of_mem _ (wa_11 _ (List.mem_of_getElem? (i := 17) (by decide +kernel)))) dX11_unwinds_8 ?_
          refine lv_aload_n hx hb dX11_unwinds_11 rfl (lv_at hl 0 rfl) ?_
          refine m_geti S hW hM.1 27 rfl kX11 (iW11 _) (by decide) (List.mem_cons_of_mem _ (wa_13 _ (List.mem_of_getElem? (i := 1) (by decide +kernel)))) dX11_unwinds_12 ?_
          refine m_top (y := nI (t0.length + 1)) hS1.hm ?_
          refine lv_iconst (v := nI 1) hx hb dX11_unwinds_15 (by decide) ?_
          refine lv_isub hx hb dX11_unwinds_16 ?_
          refine m_top (y := nI ((t0.length + 1) - 1)) (pk_sub (by omega)) ?_
          refine m_iald S hW hM.2.2.2.2.2.2.2.2.2.2.2.2.2.2.2.2.1 t0.length (congrArg nI (Nat.add_sub_cancel _ 1)) (by omega) (by decide) dX11_unwinds_17 ?_
          refine m_top (y := nI x0) hS1.hd.1 ?_
          refine m_cie (m_rS S hW (c_X11_rank l G ad sh V1 x0 (by first | assumption | omega)) (va_cwS 1 hts (gCall [.methodLink RX11 126 yX11_rank, .static yX11_rank, .initialized RX11] (List.forall_mem_cons.mpr ⟨(wa_13 _ (List.mem_of_getElem? (i := 14) (by decide +kernel))), (List.forall_mem_cons.mpr ⟨(wa_13 _ (List.mem_of_getElem? (i := 12) (by decide +kernel))), (List.forall_mem_cons.mpr ⟨(wa_13 _ (List.mem_of_getElem? (i := 13) (by decide +kernel))), (List.forall_mem_cons.mpr ⟨(wa_1 _ (List.mem_of_getElem? (i := 5) (by decide +kernel))), (fun _ h => absurd h List.not_mem_nil)⟩)⟩)⟩)⟩)) rfl rfl rfl (by decide +kernel) ⟨Nat.le_of_ble_eq_true rfl, Nat.le_of_ble_eq_true rfl⟩) rfl hl.1 rfl (Nat.le_of_ble_eq_true rfl) dX11_unwinds_18 ⟨Nat.le_of_ble_eq_true rfl, Nat.le_of_ble_eq_true rfl⟩) hW (fun H locs hW => ?_)
          refine lv_iload_n hx hb dX11_unwinds_21 rfl (lv_at hl 1 rfl) ?_
          refine lv_icmp_lt (tgt := 79) hx hb dX11_unwinds_22 (by decide) (fun c_3 => ?_) (fun c_3 => ?_)
          · skip
            have c_3 : (rkN x0) < l2 := (nI_ltI (by omega) (by omega)).mp c_3
            exact m_vret S hr hlk hW dX11_unwinds_79 (by rw [← hun, unw_s (by omega)]; exact ⟨hS1, hF1⟩)
          · skip
            have c_3 : ¬ (rkN x0) < l2 := mt (nI_ltI (by omega) (by omega)).mpr c_3
            have hrk : l2 ≤ rkN x0 := by omega
            have hx0n := rkN_0 hl2.1 hrk
            refine lv_aload_n hx hb dX11_unwinds_25 rfl (lv_at hl 0 rfl) ?_
            refine lv_dup hx hb dX11_unwinds_26 rfl ?_
            refine m_geti S hW hM.1 27 rfl kX11 (iW11 _) (by decide) (List.mem_cons_of_mem _ (wa_13 _ (List.mem_of_getElem? (i := 1) (by decide +kernel)))) dX11_unwinds_27 ?_
            refine m_top (y := nI (t0.length + 1)) hS1.hm ?_
            refine lv_iconst (v := nI 1) hx hb dX11_unwinds_30 (by decide) ?_
            refine lv_isub hx hb dX11_unwinds_31 ?_
            refine m_top (y := nI ((t0.length + 1) - 1)) (pk_sub (by omega)) ?_
            refine m_puti S hW hM.1 27 rfl kX11 (iW11 _) tyX11 tyX11_ok nmX11 (by decide) (List.mem_cons_of_mem _ (wa_13 _ (List.mem_of_getElem? (i := 1) (by decide +kernel)))) (Or.inl rfl) rfl rfl dX11_unwinds_32 (fun H locs hW => ?_)
            obtain ⟨V_4, eV_4⟩ : ∃ vv_ : mV, vv_ = mU V1 200 27 (nI ((t0.length + 1) - 1)) := ⟨_, rfl⟩
            rw [← eV_4] at hW
            refine lv_aload_n hx hb dX11_unwinds_35 rfl (lv_at hl 0 rfl) ?_
            refine m_getr S hW hM.1 26 rfl (j := 216) rfl kX11 (iW11 _) (by decide) (List.mem_cons_of_mem _ (wa_11 _ (List.mem_of_getElem? (i := 17) (by decide +kernel)))) dX11_unwinds_36 ?_
            refine lv_aload_n hx hb dX11_unwinds_39 rfl (lv_at hl 0 rfl) ?_
            refine m_geti S hW hM.1 27 rfl kX11 (iW11 _) (by decide) (List.mem_cons_of_mem _ (wa_13 _ (List.mem_of_getElem? (i := 1) (by decide +kernel)))) dX11_unwinds_40 ?_
            refine m_top (y := nI t0.length) (by rw [eV_4, mU_eq, Nat.add_sub_cancel]) ?_
            refine m_iald S hW hM.2.2.2.2.2.2.2.2.2.2.2.2.2.2.2.2.1 t0.length rfl (by omega) (by decide) dX11_unwinds_43 ?_
            refine m_top (y := nI x0) (by rw [eV_4, mU_no _ _ (by decide)]; exact hS1.hd.1) ?_
            refine lv_istore_n (lv' := [(2, .int (nI x0)), (0, .ref (ad 200)), (1, .int (nI l2))]) hx hb dX11_unwinds_44 rfl hl (by decide) rfl (fun ls hl => ?_)
            refine lv_aload_n hx hb dX11_unwinds_45 rfl (lv_at hl 1 rfl) ?_
            refine lv_dup hx hb dX11_unwinds_46 rfl ?_
            refine m_geti S hW hM.1 28 rfl kX11 (iW11 _) (by decide) (List.mem_cons_of_mem _ (wa_13 _ (List.mem_of_getElem? (i := 2) (by decide +kernel)))) dX11_unwinds_47 ?_
            refine m_top (y := nI (cntO (x0 :: t0))) (by rw [eV_4, mU_ne _ _ (by decide)]; exact hS1.op) ?_
            refine lv_iload_n hx hb dX11_unwinds_50 rfl (lv_at hl 0 rfl) ?_
            refine lv_bipush (v := nI 13) hx hb dX11_unwinds_51 (by decide) ?_
            refine lv_icmp_eq (tgt := 62) hx hb dX11_unwinds_53 (by decide) (fun c_5 => ?_) (fun c_5 => ?_)
            · skip
              have c_5 : x0 = 13 := (nI_eq (by omega) (by omega)).mp c_5
              refine lv_iconst (v := nI 1) hx hb dX11_unwinds_62 (by decide) ?_
              refine lv_goto (tgt := 67) hx hb dX11_unwinds_63 (by decide) ?_
              refine lv_isub hx hb dX11_unwinds_67 ?_
              refine m_top (y := nI (cntO t0)) (by rw [show cntO (x0 :: t0) = 1 + cntO t0 from by rw [cntO, if_pos (by omega)], pk_sub (by omega), Nat.add_sub_cancel_left]) ?_
              refine m_puti S hW hM.1 28 rfl kX11 (iW11 _) tyX11 tyX11_ok nmX11 (by decide) (List.mem_cons_of_mem _ (wa_13 _ (List.mem_of_getElem? (i := 2) (by decide +kernel)))) (Or.inl rfl) rfl rfl dX11_unwinds_68 (fun H locs hW => ?_)
              obtain ⟨V_6, eV_6⟩ : ∃ vv_ : mV, vv_ = mU V_4 200 28 (nI (cntO t0)) := ⟨_, rfl⟩
              rw [← eV_6] at hW
              have hS2 : SkOk V_6 tn t0 c1 := hS1.pop (by rw [eV_6, mU_ne _ _ (by decide), eV_4, mU_eq, Nat.add_sub_cancel]) (by rw [eV_6, mU_eq]) (by rw [eV_6, mU_no _ _ (by decide), eV_4, mU_no _ _ (by decide)]) (fun k h1 h2 => by rw [eV_6, mU_ne _ _ (by omega), eV_4, mU_ne _ _ (by omega)]) (by rw [eV_6, mU_no _ _ (by decide), eV_4, mU_no _ _ (by decide)])
              have hF2 : SkF tn V V_6 := by rw [eV_6, eV_4]; exact (hF1.p200 _ (Or.inl rfl)).p200 _ (Or.inr (Or.inl rfl))
              refine lv_aload_n hx hb dX11_unwinds_71 rfl (lv_at hl 1 rfl) ?_
              refine lv_iload_n hx hb dX11_unwinds_72 rfl (lv_at hl 0 rfl) ?_
              refine m_cv (m_rV S hW (c_X11_puts l G ad sh V_6 tn t0 c1 x0 hM hS2 (by omega)) (cwV 1 hts (gCall [.methodLink RX11 133 yX11_puts, .instanceMethod yX11_puts, .selects RX11 yX11_puts yX11_puts, .initialized RX11] (List.forall_mem_cons.mpr ⟨(wa_13 _ (List.mem_of_getElem? (i := 7) (by decide +kernel))), (List.forall_mem_cons.mpr ⟨(wa_13 _ (List.mem_of_getElem? (i := 4) (by decide +kernel))), (List.forall_mem_cons.mpr ⟨(wa_13 _ (List.mem_of_getElem? (i := 5) (by decide +kernel))), (List.forall_mem_cons.mpr ⟨(wa_13 _ (List.mem_of_getElem? (i := 6) (by decide +kernel))), (List.forall_mem_cons.mpr ⟨(wa_1 _ (List.mem_of_getElem? (i := 5) (by decide +kernel))), (fun _ h => absurd h List.not_mem_nil)⟩)⟩)⟩)⟩)⟩)) rfl rfl rfl (by decide +kernel) ⟨Nat.le_of_ble_eq_true rfl, Nat.le_of_ble_eq_true rfl⟩) hM.1 kX11 rfl hl.1 rfl (Nat.le_of_ble_eq_true rfl) dX11_unwinds_73 ⟨Nat.le_of_ble_eq_true rfl, Nat.le_of_ble_eq_true rfl⟩) hW (fun V_7 H locs hp_8 hW => ?_)
              obtain ⟨hS_10, hF_11⟩ := hp_8
              refine lv_goto (tgt := 0) hx hb dX11_unwinds_76 (by decide) ?_
              exact ih_0  t0 (c1 ++ [x0]) V_7 _ _ _ (by trivial) (by exact hS_10) (by exact hF2.trans hF_11) (by rw [← unw_c hrk]; exact hun) (by first | exact Nat.lt_succ_self _ | (simp at hM_; omega)) hW (lv_sub hl [1, 2] rfl)
            · skip
              have c_5 : ¬ x0 = 13 := mt (nI_eq (by omega) (by omega)).mpr c_5
              refine lv_iload_n hx hb dX11_unwinds_56 rfl (lv_at hl 0 rfl) ?_
              refine lv_bipush (v := nI 19) hx hb dX11_unwinds_57 (by decide) ?_
              refine lv_icmp_ne (tgt := 66) hx hb dX11_unwinds_59 (by decide) (fun c_12 => ?_) (fun c_12 => ?_)
              · skip
                have c_12 : ¬ x0 = 19 := mt (nI_eq (by omega) (by omega)).mpr c_12
                refine lv_iconst (v := nI 0) hx hb dX11_unwinds_66 (by decide) ?_
                refine lv_isub hx hb dX11_unwinds_67 ?_
                refine m_top (y := nI (cntO t0)) (by rw [show cntO (x0 :: t0) = cntO t0 from by rw [cntO, if_neg (by omega), Nat.zero_add], pk_sub (Nat.zero_le _), Nat.sub_zero]) ?_
                refine m_puti S hW hM.1 28 rfl kX11 (iW11 _) tyX11 tyX11_ok nmX11 (by decide) (List.mem_cons_of_mem _ (wa_13 _ (List.mem_of_getElem? (i := 2) (by decide +kernel)))) (Or.inl rfl) rfl rfl dX11_unwinds_68 (fun H locs hW => ?_)
                obtain ⟨V_13, eV_13⟩ : ∃ vv_ : mV, vv_ = mU V_4 200 28 (nI (cntO t0)) := ⟨_, rfl⟩
                rw [← eV_13] at hW
                have hS2 : SkOk V_13 tn t0 c1 := hS1.pop (by rw [eV_13, mU_ne _ _ (by decide), eV_4, mU_eq, Nat.add_sub_cancel]) (by rw [eV_13, mU_eq]) (by rw [eV_13, mU_no _ _ (by decide), eV_4, mU_no _ _ (by decide)]) (fun k h1 h2 => by rw [eV_13, mU_ne _ _ (by omega), eV_4, mU_ne _ _ (by omega)]) (by rw [eV_13, mU_no _ _ (by decide), eV_4, mU_no _ _ (by decide)])
                have hF2 : SkF tn V V_13 := by rw [eV_13, eV_4]; exact (hF1.p200 _ (Or.inl rfl)).p200 _ (Or.inr (Or.inl rfl))
                refine lv_aload_n hx hb dX11_unwinds_71 rfl (lv_at hl 1 rfl) ?_
                refine lv_iload_n hx hb dX11_unwinds_72 rfl (lv_at hl 0 rfl) ?_
                refine m_cv (m_rV S hW (c_X11_puts l G ad sh V_13 tn t0 c1 x0 hM hS2 (by omega)) (cwV 1 hts (gCall [.methodLink RX11 133 yX11_puts, .instanceMethod yX11_puts, .selects RX11 yX11_puts yX11_puts, .initialized RX11] (List.forall_mem_cons.mpr ⟨(wa_13 _ (List.mem_of_getElem? (i := 7) (by decide +kernel))), (List.forall_mem_cons.mpr ⟨(wa_13 _ (List.mem_of_getElem? (i := 4) (by decide +kernel))), (List.forall_mem_cons.mpr ⟨(wa_13 _ (List.mem_of_getElem? (i := 5) (by decide +kernel))), (List.forall_mem_cons.mpr ⟨(wa_13 _ (List.mem_of_getElem? (i := 6) (by decide +kernel))), (List.forall_mem_cons.mpr ⟨(wa_1 _ (List.mem_of_getElem? (i := 5) (by decide +kernel))), (fun _ h => absurd h List.not_mem_nil)⟩)⟩)⟩)⟩)⟩)) rfl rfl rfl (by decide +kernel) ⟨Nat.le_of_ble_eq_true rfl, Nat.le_of_ble_eq_true rfl⟩) hM.1 kX11 rfl hl.1 rfl (Nat.le_of_ble_eq_true rfl) dX11_unwinds_73 ⟨Nat.le_of_ble_eq_true rfl, Nat.le_of_ble_eq_true rfl⟩) hW (fun V_14 H locs hp_15 hW => ?_)
                obtain ⟨hS_17, hF_18⟩ := hp_15
                refine lv_goto (tgt := 0) hx hb dX11_unwinds_76 (by decide) ?_
                exact ih_0  t0 (c1 ++ [x0]) V_14 _ _ _ (by trivial) (by exact hS_17) (by exact hF2.trans hF_18) (by rw [← unw_c hrk]; exact hun) (by first | exact Nat.lt_succ_self _ | (simp at hM_; omega)) hW (lv_sub hl [1, 2] rfl)
              · skip
                have c_12 : x0 = 19 := (nI_eq (by omega) (by omega)).mp c_12
                refine lv_iconst (v := nI 1) hx hb dX11_unwinds_62 (by decide) ?_
                refine lv_goto (tgt := 67) hx hb dX11_unwinds_63 (by decide) ?_
                refine lv_isub hx hb dX11_unwinds_67 ?_
                refine m_top (y := nI (cntO t0)) (by rw [show cntO (x0 :: t0) = 1 + cntO t0 from by rw [cntO, if_pos (by omega)], pk_sub (by omega), Nat.add_sub_cancel_left]) ?_
                refine m_puti S hW hM.1 28 rfl kX11 (iW11 _) tyX11 tyX11_ok nmX11 (by decide) (List.mem_cons_of_mem _ (wa_13 _ (List.mem_of_getElem? (i := 2) (by decide +kernel)))) (Or.inl rfl) rfl rfl dX11_unwinds_68 (fun H locs hW => ?_)
                obtain ⟨V_19, eV_19⟩ : ∃ vv_ : mV, vv_ = mU V_4 200 28 (nI (cntO t0)) := ⟨_, rfl⟩
                rw [← eV_19] at hW
                have hS2 : SkOk V_19 tn t0 c1 := hS1.pop (by rw [eV_19, mU_ne _ _ (by decide), eV_4, mU_eq, Nat.add_sub_cancel]) (by rw [eV_19, mU_eq]) (by rw [eV_19, mU_no _ _ (by decide), eV_4, mU_no _ _ (by decide)]) (fun k h1 h2 => by rw [eV_19, mU_ne _ _ (by omega), eV_4, mU_ne _ _ (by omega)]) (by rw [eV_19, mU_no _ _ (by decide), eV_4, mU_no _ _ (by decide)])
                have hF2 : SkF tn V V_19 := by rw [eV_19, eV_4]; exact (hF1.p200 _ (Or.inl rfl)).p200 _ (Or.inr (Or.inl rfl))
                refine lv_aload_n hx hb dX11_unwinds_71 rfl (lv_at hl 1 rfl) ?_
                refine lv_iload_n hx hb dX11_unwinds_72 rfl (lv_at hl 0 rfl) ?_
                refine m_cv (m_rV S hW (c_X11_puts l G ad sh V_19 tn t0 c1 x0 hM hS2 (by omega)) (cwV 1 hts (gCall [.methodLink RX11 133 yX11_puts, .instanceMethod yX11_puts, .selects RX11 yX11_puts yX11_puts, .initialized RX11] (List.forall_mem_cons.mpr ⟨(wa_13 _ (List.mem_of_getElem? (i := 7) (by decide +kernel))), (List.forall_mem_cons.mpr ⟨(wa_13 _ (List.mem_of_getElem? (i := 4) (by decide +kernel))), (List.forall_mem_cons.mpr ⟨(wa_13 _ (List.mem_of_getElem? (i := 5) (by decide +kernel))), (List.forall_mem_cons.mpr ⟨(wa_13 _ (List.mem_of_getElem? (i := 6) (by decide +kernel))), (List.forall_mem_cons.mpr ⟨(wa_1 _ (List.mem_of_getElem? (i := 5) (by decide +kernel))), (fun _ h => absurd h List.not_mem_nil)⟩)⟩)⟩)⟩)⟩)) rfl rfl rfl (by decide +kernel) ⟨Nat.le_of_ble_eq_true rfl, Nat.le_of_ble_eq_true rfl⟩) hM.1 kX11 rfl hl.1 rfl (Nat.le_of_ble_eq_true rfl) dX11_unwinds_73 ⟨Nat.le_of_ble_eq_true rfl, Nat.le_of_ble_eq_true rfl⟩) hW (fun V_20 H locs hp_21 hW => ?_)
                obtain ⟨hS_23, hF_24⟩ := hp_21
                refine lv_goto (tgt := 0) hx hb dX11_unwinds_76 (by decide) ?_
                exact ih_0  t0 (c1 ++ [x0]) V_20 _ _ _ (by trivial) (by exact hS_23) (by exact hF2.trans hF_24) (by rw [← unw_c hrk]; exact hun) (by first | exact Nat.lt_succ_self _ | (simp at hM_; omega)) hW (lv_sub hl [1, 2] rfl)
  exact loop_0 (th.length + 1) th cs V _ _ _ (by trivial) (by exact hS) (by exact SkF.rfl tn V) (by rfl) (by first | exact Nat.lt_succ_self _ | (simp at hM_; omega)) hW (lv_sub hl [0, 1] rfl)
