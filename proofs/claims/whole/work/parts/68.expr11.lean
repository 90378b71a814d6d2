/-! the reference's reading: an expression -/
def CdOk (V : mV) (tn : Nat) (cs : List Nat) : Prop := (V 200 29 = nI cs.length ∧ ∀ k x, cs[k]? = some x → V 206 (200 * tn + k) = nI x) ∧ cs.length ≤ 170 ∧ tn < 6 ∧ V 200 11 = nI tn
def EF (tn : Nat) (V V' : mV) : Prop := (∀ a, a ≠ 200 → a ≠ 206 → a ≠ 216 → V' a = V a) ∧ (∀ k, k < 21 ∨ (24 < k ∧ k ≠ 27 ∧ k ≠ 28 ∧ k ≠ 29) → V' 200 k = V 200 k) ∧ (∀ k, k < 200 * tn → V' 206 k = V 206 k)
theorem EF.rfl (tn : Nat) (V : mV) : EF tn V V := ⟨fun _ _ _ _ => Eq.refl _, fun _ _ => Eq.refl _, fun _ _ => Eq.refl _⟩
theorem EF.trans {tn : Nat} {V V1 V2 : mV} (h : EF tn V V1) (h' : EF tn V1 V2) : EF tn V V2 := ⟨fun a h1 h2 h3 => (h'.1 a h1 h2 h3).trans (h.1 a h1 h2 h3), fun k hk => (h'.2.1 k hk).trans (h.2.1 k hk), fun k hk => (h'.2.2 k hk).trans (h.2.2 k hk)⟩
theorem SkF.ef {tn : Nat} {V V' : mV} (h : SkF tn V V') : EF tn V V' := ⟨h.1, fun k hk => h.2.1 k (by omega) (by omega) (by omega), h.2.2⟩
theorem TkF.ef {tn : Nat} {V V' : mV} (h : TkF V V') : EF tn V V' := ⟨fun a h1 _ _ => h.1 a h1, fun k hk => h.2 k (by omega), fun k _ => by rw [h.1 206 (by decide)]⟩
theorem SkOk.cdo {V : mV} {tn : Nat} {th cs : List Nat} (h : SkOk V tn th cs) : CdOk V tn cs := ⟨h.2.1, by have := h.len; omega, h.2.2.2⟩
theorem CdOk.sk0 {V V' : mV} {tn : Nat} {cs : List Nat} (h : CdOk V tn cs) (e : V' = mU (mU V 200 27 (nI 0)) 200 28 (nI 0)) : SkOk V' tn [] cs := by
  subst e
  refine ⟨⟨by rw [mU_ne _ _ (by decide), mU_eq]; rfl, trivial, fun x hx => (by cases hx), by rw [mU_eq]; rfl⟩, ⟨by rw [mU_ne _ _ (by decide), mU_ne _ _ (by decide)]; exact h.1.1, fun k x hk => by rw [mU_no _ _ (by decide), mU_no _ _ (by decide)]; exact h.1.2 k x hk⟩, by have := h.2.1; simp; omega, h.2.2.1, by rw [mU_ne _ _ (by decide), mU_ne _ _ (by decide)]; exact h.2.2.2⟩
theorem SkOk.tk {V V' : mV} {tn : Nat} {th cs : List Nat} (h : SkOk V tn th cs) (hF : TkF V V') : SkOk V' tn th cs :=
  ⟨⟨by rw [hF.2 27 (by decide)]; exact h.hm, h.hd.eq (fun k _ => by rw [hF.1 216 (by decide)]), h.h20, by rw [hF.2 28 (by decide)]; exact h.op⟩, ⟨by rw [hF.2 29 (by decide)]; exact h.out, fun k x hk => by rw [hF.1 206 (by decide)]; exact h.cd k x hk⟩, h.len, h.tn6, by rw [hF.2 11 (by decide)]; exact h.tn_⟩
theorem TkOk.sk {V V' : mV} {sz tn : Nat} {q : pS} (h : TkOk V sz q) (hF : SkF tn V V') : TkOk V' sz q :=
  ⟨⟨by rw [hF.2.1 21 (by decide) (by decide) (by decide)]; exact h.1.1, h.1.2⟩, ⟨by rw [hF.2.1 22 (by decide) (by decide) (by decide)]; exact h.2.1.1, h.2.1.2⟩, by rw [hF.2.1 23 (by decide) (by decide) (by decide)]; exact h.2.2.1, fun z => by rw [hF.2.1 24 (by decide) (by decide) (by decide)]; exact h.2.2.2.1 z, fun z => by rw [hF.2.1 24 (by decide) (by decide) (by decide)]; exact h.2.2.2.2 z⟩
theorem unw_top {l : Nat} : ∀ {th cs : List Nat} {x : Nat} {t : List Nat}, x :: t = (unw l th cs).1 → ¬ l ≤ rkN x
  | [], _, _, _, h => by cases h
  | y :: u, cs, x, t, h => by
    rw [unw] at h
    split at h
    · exact unw_top h
    · injection h with h1 h2
      rw [h1]
      assumption
theorem rkN_z {x : Nat} (h : ¬ 1 ≤ rkN x) : x = 0 := by
  apply Decidable.byContradiction
  intro hx
  unfold rkN at h
  rw [if_neg hx] at h
  revert h
  repeat' split
  all_goals decide
theorem cntO_0 (t : List Nat) : cntO (0 :: t) = cntO t + 1 := by rw [cntO, if_pos (Or.inl rfl), Nat.add_comm]
set_option maxHeartbeats 4000000 in
set_option maxRecDepth 100000 in
theorem c_X11_eRead (l : Launch) (G : mG) (ad : Nat → Nat) (sh : Nat → Option mSh) (V : mV) (sz : Nat) (B : Nat → Int32) (q : pS) (tn : Nat) (cs : List Nat) (hM : MSh sh) (hB : V 205 = B) (hsz : V 200 8 = nI sz) (hs160 : sz ≤ 160) (hwd : ∀ k, k < 96 → V 215 k = wdT.getD k 0) (hat : V 200 21 = nI q.1) (hql : q.1 ≤ sz) (hC : CdOk V tn cs) (hcl : cs.length ≤ q.1) : mM l yX11_eRead wsX11_eRead ({ frames := 3, cells := 0, slots := 0, locals := 64 } : Room) G ad sh V [.ref (ad 200)] 0 0 (mPi ad sh (fun r V' => ∃ (ok : Nat) (q2 : pS) (c2 : List Nat), nI ok = r ∧ (ok ≤ 1) ∧ (Er B sz (1, 1, q, [], cs) (ok, q2, c2)) ∧ (TkOk V' sz q2) ∧ (ok = 1 → CdOk V' tn c2 ∧ c2.length ≤ q2.1) ∧ (EF tn V V'))) := by
  refine mM.of (cc := cX11_eRead) (maxL := 4) (ret := (some .boolean)) (by decide) rfl (Nat.le_of_ble_eq_true rfl) ?_
  intro p e s m below meth c S hr hlk hnm hW ls hl
  obtain ⟨hx, hb, hml, hown, hts⟩ := id S
  have hl : lv_has ls 4 [(0, .ref (ad 200))] := hl
  have hS0 : True := trivial
  refine lv_aload_n hx hb dX11_eRead_0 rfl (lv_at hl 0 rfl) ?_
  refine lv_iconst (v := nI 0) hx hb dX11_eRead_1 (by decide) ?_
  refine m_puti S hW hM.1 27 rfl kX11 (iW11 _) tyX11 tyX11_ok nmX11 (by decide) (List.mem_cons_of_mem _ (wa_13 _ (List.mem_of_getElem? (i := 1) (by decide +kernel)))) (Or.inl rfl) rfl rfl dX11_eRead_2 (fun H locs hW => ?_)
  obtain ⟨V_1, eV_1⟩ : ∃ vv_ : mV, vv_ = mU V 200 27 (nI 0) := ⟨_, rfl⟩
  rw [← eV_1] at hW
  refine lv_aload_n hx hb dX11_eRead_5 rfl (lv_at hl 0 rfl) ?_
  refine lv_iconst (v := nI 0) hx hb dX11_eRead_6 (by decide) ?_
  refine m_puti S hW hM.1 28 rfl kX11 (iW11 _) tyX11 tyX11_ok nmX11 (by decide) (List.mem_cons_of_mem _ (wa_13 _ (List.mem_of_getElem? (i := 2) (by decide +kernel)))) (Or.inl rfl) rfl rfl dX11_eRead_7 (fun H locs hW => ?_)
  obtain ⟨V_2, eV_2⟩ : ∃ vv_ : mV, vv_ = mU V_1 200 28 (nI 0) := ⟨_, rfl⟩
  rw [← eV_2] at hW
  refine lv_iconst (v := nI 1) hx hb dX11_eRead_10 (by decide) ?_
  refine lv_istore_n (lv' := [(1, .int (nI 1)), (0, .ref (ad 200))]) hx hb dX11_eRead_11 rfl hl (by decide) rfl (fun ls hl => ?_)
  refine lv_iconst (v := nI 1) hx hb dX11_eRead_12 (by decide) ?_
  refine lv_istore_n (lv' := [(2, .int (nI 1)), (1, .int (nI 1)), (0, .ref (ad 200))]) hx hb dX11_eRead_13 rfl hl (by decide) rfl (fun ls hl => ?_)
  have loop_14 : ∀ (n_14 : Nat) (w mn : Nat) (q1 : pS) (t1 c1 : List Nat) (V1 : mV) (H : Heap) (locs : List Loc) (ls : Array Slot), (w ≤ 1) → (mn ≤ 1) → (SkOk V1 tn t1 c1) → (EF tn V V1) → (V1 200 21 = nI q1.1) → (q1.1 ≤ sz) → (t1.length + c1.length ≤ q1.1) → (Go B sz (1, 1, q, [], cs) (w, mn, q1, t1, c1)) → (sz - q1.1) < n_14 → mC (mA ad sh s.heap.size) s.heap s G ad sh V1 H locs → lv_has ls 4 [(0, .ref (ad 200)), (1, .int (nI w)), (2, .int (nI mn))] → W p l e ({ frames := 3, cells := 0, slots := 0, locals := 64 } : Room) s m ([.ref (ad 200)] : List Value).toArray below meth c H locs 0 0 (MQ below (mPost G ad sh s.heap.size (mPi ad sh (fun r V' => ∃ (ok : Nat) (q2 : pS) (c2 : List Nat), nI ok = r ∧ (ok ≤ 1) ∧ (Er B sz (1, 1, q, [], cs) (ok, q2, c2)) ∧ (TkOk V' sz q2) ∧ (ok = 1 → CdOk V' tn c2 ∧ c2.length ≤ q2.1) ∧ (EF tn V V')))) ([.ref (ad 200)] : List Value).toArray s 0 0 (mA ad sh s.heap.size)) (F0 m 14 ls []) := by
    intro n_14
    induction n_14 with
    | zero => intro w mn q1 t1 c1 V1 H locs ls hw1 hm1 hS1 hF1 hT1 hq1s hln hgo hM_ hW hl; omega
    | succ n_14 ih_14 =>
      intro w mn q1 t1 c1 V1 H locs ls hw1 hm1 hS1 hF1 hT1 hq1s hln hgo hM_ hW hl
      refine lv_aload_n hx hb dX11_eRead_14 rfl (lv_at hl 0 rfl) ?_
      refine m_cv (m_rV S hW (c_X11_next l G ad sh V1 sz B q1 hM ((hF1.1 205 (by decide) (by decide) (by decide)).trans hB) ((hF1.2.1 8 (by decide)).trans hsz) (by first | assumption | omega) (fun k hk => by rw [hF1.1 215 (by decide) (by decide) (by decide)]; exact hwd k hk) hT1 hq1s) (cwV 0 hts (gCall [.methodLink RX11 143 yX11_next, .instanceMethod yX11_next, .selects RX11 yX11_next yX11_next, .initialized RX11] (List.forall_mem_cons.mpr ⟨(wa_12 _ (List.mem_of_getElem? (i := 13) (by decide +kernel))), (List.forall_mem_cons.mpr ⟨(wa_12 _ (List.mem_of_getElem? (i := 10) (by decide +kernel))), (List.forall_mem_cons.mpr ⟨(wa_12 _ (List.mem_of_getElem? (i := 11) (by decide +kernel))), (List.forall_mem_cons.mpr ⟨(wa_12 _ (List.mem_of_getElem? (i := 12) (by decide +kernel))), (List.forall_mem_cons.mpr ⟨(wa_1 _ (List.mem_of_getElem? (i := 5) (by decide +kernel))), (fun _ h => absurd h List.not_mem_nil)⟩)⟩)⟩)⟩)⟩)) rfl rfl rfl (by decide +kernel) ⟨Nat.le_of_ble_eq_true rfl, Nat.le_of_ble_eq_true rfl⟩) hM.1 kX11 rfl hl.1 rfl (Nat.le_of_ble_eq_true rfl) dX11_eRead_15 ⟨Nat.le_of_ble_eq_true rfl, Nat.le_of_ble_eq_true rfl⟩) hW (fun V_3 H locs hp_4 hW => ?_)
      obtain ⟨hT_6, hF_7⟩ := hp_4
      obtain ⟨qq, hqq⟩ : ∃ vv_ : pS, vv_ = pAdv B sz q1 := ⟨_, rfl⟩
      have htl := pAdv_tk B sz q1
      have hadv := pAdv_lt (B := B) hq1s
      have hval := pAdv_val (B := B) (sz := sz) (q := q1)
      rw [← hqq] at hT_6 htl hadv hval
      have hS2 := hS1.tk hF_7
      have hE2 := hF1.trans hF_7.ef
      have hT2 := hT_6
      have hct1 := cntO_le t1
      refine lv_iload_n hx hb dX11_eRead_18 rfl (lv_at hl 1 rfl) ?_
      refine m_if_eq (tgt := 150) hx hb dX11_eRead_19 (by decide) (fun c_8 => ?_) (fun c_8 => ?_)
      · skip
        have c_8 : w = 0 := (nI_eq (by omega) (by omega)).mp c_8
        refine lv_aload_n hx hb dX11_eRead_150 rfl (lv_at hl 0 rfl) ?_
        refine m_geti S hW hM.1 23 rfl kX11 (iW11 _) (by decide) (List.mem_cons_of_mem _ (wa_12 _ (List.mem_of_getElem? (i := 7) (by decide +kernel)))) dX11_eRead_151 ?_
        refine m_top (y := mTk qq.2.1) hT2.2.2.1 ?_
        refine lv_bipush (v := nI 59) hx hb dX11_eRead_154 (by decide) ?_
        refine lv_icmp_ne (tgt := 177) hx hb dX11_eRead_156 (by decide) (fun c_9 => ?_) (fun c_9 => ?_)
        · skip
          refine lv_aload_n hx hb dX11_eRead_177 rfl (lv_at hl 0 rfl) ?_
          refine m_geti S hW hM.1 23 rfl kX11 (iW11 _) (by decide) (List.mem_cons_of_mem _ (wa_12 _ (List.mem_of_getElem? (i := 7) (by decide +kernel)))) dX11_eRead_178 ?_
          refine m_top (y := mTk qq.2.1) hT2.2.2.1 ?_
          refine lv_bipush (v := nI 41) hx hb dX11_eRead_181 (by decide) ?_
          refine lv_icmp_ne (tgt := 229) hx hb dX11_eRead_183 (by decide) (fun c_10 => ?_) (fun c_10 => ?_)
          · skip
            refine lv_aload_n hx hb dX11_eRead_229 rfl (lv_at hl 0 rfl) ?_
            refine m_cie (m_rV S hW (c_X11_signOf l G ad sh V_3 qq.2.1 hM htl hT2.2.2.1) (cwV 0 hts (gCall [.methodLink RX11 150 yX11_signOf, .instanceMethod yX11_signOf, .selects RX11 yX11_signOf yX11_signOf, .initialized RX11] (List.forall_mem_cons.mpr ⟨(wa_14 _ (List.mem_of_getElem? (i := 2) (by decide +kernel))), (List.forall_mem_cons.mpr ⟨(wa_13 _ (List.mem_of_getElem? (i := 23) (by decide +kernel))), (List.forall_mem_cons.mpr ⟨(wa_14 _ (List.mem_of_getElem? (i := 0) (by decide +kernel))), (List.forall_mem_cons.mpr ⟨(wa_14 _ (List.mem_of_getElem? (i := 1) (by decide +kernel))), (List.forall_mem_cons.mpr ⟨(wa_1 _ (List.mem_of_getElem? (i := 5) (by decide +kernel))), (fun _ h => absurd h List.not_mem_nil)⟩)⟩)⟩)⟩)⟩)) rfl rfl rfl (by decide +kernel) ⟨Nat.le_of_ble_eq_true rfl, Nat.le_of_ble_eq_true rfl⟩) hM.1 kX11 rfl hl.1 rfl (Nat.le_of_ble_eq_true rfl) dX11_eRead_230 ⟨Nat.le_of_ble_eq_true rfl, Nat.le_of_ble_eq_true rfl⟩) hW (fun H locs hW => ?_)
            by_cases hs0 : mSg qq.2.1 = 0
            · skip
              refine m_top (y := -1) (sgI_0 hs0) ?_
              refine lv_istore_n (lv' := [(3, .int (-1)), (0, .ref (ad 200)), (1, .int (nI w)), (2, .int (nI mn))]) hx hb dX11_eRead_233 rfl hl (by decide) rfl (fun ls hl => ?_)
              refine lv_iload_n hx hb dX11_eRead_234 rfl (lv_at hl 0 rfl) ?_
              refine lv_iconst (v := -1) hx hb dX11_eRead_235 (by decide) ?_
              refine lv_icmp_eq (tgt := 247) hx hb dX11_eRead_236 (by decide) (fun c_11 => ?_) (fun c_11 => ?_)
              · skip
                refine lv_iconst (v := nI 0) hx hb dX11_eRead_247 (by decide) ?_
                exact m_zret S hr hlk hW rfl dX11_eRead_248 (by exact ⟨0, qq, [], rfl, by decide, hgo.er (Er.one (es_b c_8 hqq (eb_s c_9 c_10 (by rw [if_pos hs0])))), hT2, fun z => absurd z (by decide), hE2⟩)
              · exact absurd c_11 (by decide)
            · skip
              refine m_top (y := nI (mSg qq.2.1)) (sgI_n rfl hs0) ?_
              have hsr := tk_ls _ htl hs0
              refine lv_istore_n (lv' := [(3, .int (nI (mSg qq.2.1))), (0, .ref (ad 200)), (1, .int (nI w)), (2, .int (nI mn))]) hx hb dX11_eRead_233 rfl hl (by decide) rfl (fun ls hl => ?_)
              refine lv_iload_n hx hb dX11_eRead_234 rfl (lv_at hl 0 rfl) ?_
              refine lv_iconst (v := -1) hx hb dX11_eRead_235 (by decide) ?_
              refine lv_icmp_eq (tgt := 247) hx hb dX11_eRead_236 (by decide) (fun c_12 => ?_) (fun c_12 => ?_)
              · exact absurd c_12 (m_nneg (by omega))
              · skip
                refine lv_aload_n hx hb dX11_eRead_239 rfl (lv_at hl 1 rfl) ?_
                refine lv_iload_n hx hb dX11_eRead_240 rfl (lv_at hl 0 rfl) ?_
                refine m_ci (m_rV S hW (c_X11_between l G ad sh V_3 tn t1 c1 (mSg qq.2.1) hM hS2 (by first | assumption | omega) (by first | assumption | omega)) (cwV 1 hts (gCall [.methodLink RX11 153 yX11_between, .instanceMethod yX11_between, .selects RX11 yX11_between yX11_between, .initialized RX11] (List.forall_mem_cons.mpr ⟨(wa_14 _ (List.mem_of_getElem? (i := 6) (by decide +kernel))), (List.forall_mem_cons.mpr ⟨(wa_14 _ (List.mem_of_getElem? (i := 3) (by decide +kernel))), (List.forall_mem_cons.mpr ⟨(wa_14 _ (List.mem_of_getElem? (i := 4) (by decide +kernel))), (List.forall_mem_cons.mpr ⟨(wa_14 _ (List.mem_of_getElem? (i := 5) (by decide +kernel))), (List.forall_mem_cons.mpr ⟨(wa_1 _ (List.mem_of_getElem? (i := 5) (by decide +kernel))), (fun _ h => absurd h List.not_mem_nil)⟩)⟩)⟩)⟩)⟩)) rfl rfl rfl (by decide +kernel) ⟨Nat.le_of_ble_eq_true rfl, Nat.le_of_ble_eq_true rfl⟩) hM.1 kX11 rfl hl.1 rfl (Nat.le_of_ble_eq_true rfl) dX11_eRead_241 ⟨Nat.le_of_ble_eq_true rfl, Nat.le_of_ble_eq_true rfl⟩) hW (fun r_15 V_13 H locs hp_14 hW => ?_)
                rcases hp_14 with ⟨rfl, w_16, hS_17, hF_18⟩ | ⟨rfl, w_19, hS_20, hF_21⟩
                · skip
                  refine m_if_ne (tgt := 249) hx hb dX11_eRead_244 (by decide) (fun c_22 => ?_) (fun c_22 => ?_)
                  · exact absurd c_22 (by decide)
                  · skip
                    refine lv_iconst (v := nI 0) hx hb dX11_eRead_247 (by decide) ?_
                    exact m_zret S hr hlk hW rfl dX11_eRead_248 (by exact ⟨0, qq, [], rfl, by decide, hgo.er (Er.one (es_b c_8 hqq (eb_s c_9 c_10 (by rw [if_neg hs0, if_pos w_16])))), (hT2.sk hF_18), fun z => absurd z (by decide), (hE2.trans hF_18.ef)⟩)
                · skip
                  refine m_if_ne (tgt := 249) hx hb dX11_eRead_244 (by decide) (fun c_23 => ?_) (fun c_23 => ?_)
                  · skip
                    refine lv_iconst (v := nI 1) hx hb dX11_eRead_249 (by decide) ?_
                    refine lv_istore_n (lv' := [(1, .int (nI 1)), (3, .int (nI (mSg qq.2.1))), (0, .ref (ad 200)), (2, .int (nI mn))]) hx hb dX11_eRead_250 rfl hl (by decide) rfl (fun ls hl => ?_)
                    refine lv_iload_n hx hb dX11_eRead_251 rfl (lv_at hl 1 rfl) ?_
                    refine lv_bipush (v := nI 12) hx hb dX11_eRead_252 (by decide) ?_
                    refine lv_icmp_gt (tgt := 261) hx hb dX11_eRead_254 (by decide) (fun c_24 => ?_) (fun c_24 => ?_)
                    · skip
                      have c_24 : 12 < (mSg qq.2.1) := (nI_ltI (by omega) (by omega)).mp c_24
                      refine lv_iconst (v := nI 0) hx hb dX11_eRead_261 (by decide) ?_
                      refine lv_istore_n (lv' := [(2, .int (nI 0)), (1, .int (nI 1)), (3, .int (nI (mSg qq.2.1))), (0, .ref (ad 200))]) hx hb dX11_eRead_262 rfl hl (by decide) rfl (fun ls hl => ?_)
                      refine lv_goto (tgt := 14) hx hb dX11_eRead_263 (by decide) ?_
                      exact ih_14  1 0 qq (mSg qq.2.1 :: (unw (btw (mSg qq.2.1)) t1 c1).1) ((unw (btw (mSg qq.2.1)) t1 c1).2) V_13 _ _ _ (by omega) (by omega) (by exact hS_20) (by exact hE2.trans hF_21.ef) (by exact (hT2.sk hF_21).1.1) (by exact hT2.1.2) (by have h9 := (hadv (hsr.1)).1; have hq := unw_len (btw (mSg qq.2.1)) t1 c1; rw [List.length_cons]; omega) (by exact hgo.trans (Go.one (es_b c_8 hqq (eb_s c_9 c_10 (by rw [if_neg hs0, if_neg (by rw [w_19]; decide), if_pos c_24]))))) (by have h9 := hadv (hsr.1); omega) hW (lv_sub hl [3, 1, 0] rfl)
                    · skip
                      have c_24 : ¬ 12 < (mSg qq.2.1) := mt (nI_ltI (by omega) (by omega)).mpr c_24
                      refine lv_iconst (v := nI 1) hx hb dX11_eRead_257 (by decide) ?_
                      refine lv_goto (tgt := 262) hx hb dX11_eRead_258 (by decide) ?_
                      refine lv_istore_n (lv' := [(2, .int (nI 1)), (1, .int (nI 1)), (3, .int (nI (mSg qq.2.1))), (0, .ref (ad 200))]) hx hb dX11_eRead_262 rfl hl (by decide) rfl (fun ls hl => ?_)
                      refine lv_goto (tgt := 14) hx hb dX11_eRead_263 (by decide) ?_
                      exact ih_14  1 1 qq (mSg qq.2.1 :: (unw (btw (mSg qq.2.1)) t1 c1).1) ((unw (btw (mSg qq.2.1)) t1 c1).2) V_13 _ _ _ (by omega) (by omega) (by exact hS_20) (by exact hE2.trans hF_21.ef) (by exact (hT2.sk hF_21).1.1) (by exact hT2.1.2) (by have h9 := (hadv (hsr.1)).1; have hq := unw_len (btw (mSg qq.2.1)) t1 c1; rw [List.length_cons]; omega) (by exact hgo.trans (Go.one (es_b c_8 hqq (eb_s c_9 c_10 (by rw [if_neg hs0, if_neg (by rw [w_19]; decide), if_neg c_24]))))) (by have h9 := hadv (hsr.1); omega) hW (lv_sub hl [3, 1, 0] rfl)
                  · exact absurd c_23 (by decide)
          · skip
            refine lv_aload_n hx hb dX11_eRead_186 rfl (lv_at hl 0 rfl) ?_
            refine lv_iconst (v := nI 1) hx hb dX11_eRead_187 (by decide) ?_
            refine m_cv (m_rV S hW (c_X11_unwinds l G ad sh V_3 tn t1 c1 1 hM hS2 (by first | assumption | omega)) (cwV 1 hts (gCall [.methodLink RX11 140 yX11_unwinds, .instanceMethod yX11_unwinds, .selects RX11 yX11_unwinds yX11_unwinds, .initialized RX11] (List.forall_mem_cons.mpr ⟨(wa_13 _ (List.mem_of_getElem? (i := 11) (by decide +kernel))), (List.forall_mem_cons.mpr ⟨(wa_13 _ (List.mem_of_getElem? (i := 8) (by decide +kernel))), (List.forall_mem_cons.mpr ⟨(wa_13 _ (List.mem_of_getElem? (i := 9) (by decide +kernel))), (List.forall_mem_cons.mpr ⟨(wa_13 _ (List.mem_of_getElem? (i := 10) (by decide +kernel))), (List.forall_mem_cons.mpr ⟨(wa_1 _ (List.mem_of_getElem? (i := 5) (by decide +kernel))), (fun _ h => absurd h List.not_mem_nil)⟩)⟩)⟩)⟩)⟩)) rfl rfl rfl (by decide +kernel) ⟨Nat.le_of_ble_eq_true rfl, Nat.le_of_ble_eq_true rfl⟩) hM.1 kX11 rfl hl.1 rfl (Nat.le_of_ble_eq_true rfl) dX11_eRead_188 ⟨Nat.le_of_ble_eq_true rfl, Nat.le_of_ble_eq_true rfl⟩) hW (fun V_25 H locs hp_26 hW => ?_)
            obtain ⟨hS_28, hF_29⟩ := hp_26
            have hul := unw_len 1 t1 c1
            obtain ⟨t2, ht2⟩ : ∃ vv_ : List Nat, vv_ = (unw 1 t1 c1).1 := ⟨_, rfl⟩
            obtain ⟨c2, hc2⟩ : ∃ vv_ : List Nat, vv_ = (unw 1 t1 c1).2 := ⟨_, rfl⟩
            rw [← ht2, ← hc2] at hS_28 hul
            rcases t2 with _ | ⟨x0, t3⟩
            · skip
              refine lv_aload_n hx hb dX11_eRead_191 rfl (lv_at hl 0 rfl) ?_
              refine m_geti S hW hM.1 27 rfl kX11 (iW11 _) (by decide) (List.mem_cons_of_mem _ (wa_13 _ (List.mem_of_getElem? (i := 1) (by decide +kernel)))) dX11_eRead_192 ?_
              refine m_top (y := nI 0) hS_28.hm ?_
              refine m_if_ne (tgt := 200) hx hb dX11_eRead_195 (by decide) (fun c_30 => ?_) (fun c_30 => ?_)
              · exact absurd c_30 (by decide)
              · skip
                refine lv_iconst (v := nI 0) hx hb dX11_eRead_198 (by decide) ?_
                exact m_zret S hr hlk hW rfl dX11_eRead_199 (by exact ⟨0, qq, [], rfl, by decide, hgo.er (Er.one (es_b c_8 hqq (eb_41n c_10 ht2.symm))), (hT2.sk hF_29), fun z => absurd z (by decide), (hE2.trans hF_29.ef)⟩)
            · skip
              have hx00 : x0 = 0 := rkN_z (unw_top ht2)
              rw [List.length_cons] at hul
              have hcn : cntO (x0 :: t3) = cntO t3 + 1 := by rw [hx00, cntO_0]
              have hcl3 := cntO_le t3
              refine lv_aload_n hx hb dX11_eRead_191 rfl (lv_at hl 0 rfl) ?_
              refine m_geti S hW hM.1 27 rfl kX11 (iW11 _) (by decide) (List.mem_cons_of_mem _ (wa_13 _ (List.mem_of_getElem? (i := 1) (by decide +kernel)))) dX11_eRead_192 ?_
              refine m_top (y := nI (t3.length + 1)) hS_28.hm ?_
              refine m_if_ne (tgt := 200) hx hb dX11_eRead_195 (by decide) (fun c_31 => ?_) (fun c_31 => ?_)
              · skip
                have c_31 : ¬ (t3.length + 1) = 0 := mt (nI_eq (by omega) (by omega)).mpr c_31
                refine lv_aload_n hx hb dX11_eRead_200 rfl (lv_at hl 0 rfl) ?_
                refine lv_dup hx hb dX11_eRead_201 rfl ?_
                refine m_geti S hW hM.1 27 rfl kX11 (iW11 _) (by decide) (List.mem_cons_of_mem _ (wa_13 _ (List.mem_of_getElem? (i := 1) (by decide +kernel)))) dX11_eRead_202 ?_
                refine m_top (y := nI (t3.length + 1)) hS_28.hm ?_
                refine lv_iconst (v := nI 1) hx hb dX11_eRead_205 (by decide) ?_
                refine lv_isub hx hb dX11_eRead_206 ?_
                refine m_top (y := nI ((t3.length + 1) - 1)) (pk_sub (by omega)) ?_
                refine m_puti S hW hM.1 27 rfl kX11 (iW11 _) tyX11 tyX11_ok nmX11 (by decide) (List.mem_cons_of_mem _ (wa_13 _ (List.mem_of_getElem? (i := 1) (by decide +kernel)))) (Or.inl rfl) rfl rfl dX11_eRead_207 (fun H locs hW => ?_)
                obtain ⟨V_32, eV_32⟩ : ∃ vv_ : mV, vv_ = mU V_25 200 27 (nI ((t3.length + 1) - 1)) := ⟨_, rfl⟩
                rw [← eV_32] at hW
                refine lv_aload_n hx hb dX11_eRead_210 rfl (lv_at hl 0 rfl) ?_
                refine lv_dup hx hb dX11_eRead_211 rfl ?_
                refine m_geti S hW hM.1 28 rfl kX11 (iW11 _) (by decide) (List.mem_cons_of_mem _ (wa_13 _ (List.mem_of_getElem? (i := 2) (by decide +kernel)))) dX11_eRead_212 ?_
                refine m_top (y := nI (cntO (x0 :: t3))) (by rw [eV_32, mU_ne _ _ (by omega)]; exact hS_28.op) ?_
                refine lv_iconst (v := nI 1) hx hb dX11_eRead_215 (by decide) ?_
                refine lv_isub hx hb dX11_eRead_216 ?_
                refine m_top (y := nI ((cntO (x0 :: t3)) - 1)) (pk_sub (by omega)) ?_
                refine m_puti S hW hM.1 28 rfl kX11 (iW11 _) tyX11 tyX11_ok nmX11 (by decide) (List.mem_cons_of_mem _ (wa_13 _ (List.mem_of_getElem? (i := 2) (by decide +kernel)))) (Or.inl rfl) rfl rfl dX11_eRead_217 (fun H locs hW => ?_)
                obtain ⟨V_33, eV_33⟩ : ∃ vv_ : mV, vv_ = mU V_32 200 28 (nI ((cntO (x0 :: t3)) - 1)) := ⟨_, rfl⟩
                rw [← eV_33] at hW
                have hS3 : SkOk V_33 tn t3 c2 := hS_28.pop (by rw [eV_33, mU_ne _ _ (by decide), eV_32, mU_eq, Nat.add_sub_cancel]) (by rw [eV_33, mU_eq, hcn, Nat.add_sub_cancel]) (by rw [eV_33, mU_no _ _ (by decide), eV_32, mU_no _ _ (by decide)]) (fun k h1 h2 => by rw [eV_33, mU_ne _ _ (by omega), eV_32, mU_ne _ _ (by omega)]) (by rw [eV_33, mU_no _ _ (by decide), eV_32, mU_no _ _ (by decide)])
                have hK3 : SkF tn V_3 V_33 := by rw [eV_33, eV_32]; exact (hF_29.p200 _ (Or.inl rfl)).p200 _ (Or.inr (Or.inl rfl))
                refine lv_aload_n hx hb dX11_eRead_220 rfl (lv_at hl 0 rfl) ?_
                refine lv_bipush (v := nI 7) hx hb dX11_eRead_221 (by decide) ?_
                refine m_cv (m_rV S hW (c_X11_unwinds l G ad sh V_33 tn t3 c2 7 hM hS3 (by first | assumption | omega)) (cwV 1 hts (gCall [.methodLink RX11 140 yX11_unwinds, .instanceMethod yX11_unwinds, .selects RX11 yX11_unwinds yX11_unwinds, .initialized RX11] (List.forall_mem_cons.mpr ⟨(wa_13 _ (List.mem_of_getElem? (i := 11) (by decide +kernel))), (List.forall_mem_cons.mpr ⟨(wa_13 _ (List.mem_of_getElem? (i := 8) (by decide +kernel))), (List.forall_mem_cons.mpr ⟨(wa_13 _ (List.mem_of_getElem? (i := 9) (by decide +kernel))), (List.forall_mem_cons.mpr ⟨(wa_13 _ (List.mem_of_getElem? (i := 10) (by decide +kernel))), (List.forall_mem_cons.mpr ⟨(wa_1 _ (List.mem_of_getElem? (i := 5) (by decide +kernel))), (fun _ h => absurd h List.not_mem_nil)⟩)⟩)⟩)⟩)⟩)) rfl rfl rfl (by decide +kernel) ⟨Nat.le_of_ble_eq_true rfl, Nat.le_of_ble_eq_true rfl⟩) hM.1 kX11 rfl hl.1 rfl (Nat.le_of_ble_eq_true rfl) dX11_eRead_223 ⟨Nat.le_of_ble_eq_true rfl, Nat.le_of_ble_eq_true rfl⟩) hW (fun V_34 H locs hp_35 hW => ?_)
                obtain ⟨hS_37, hF_38⟩ := hp_35
                refine lv_goto (tgt := 14) hx hb dX11_eRead_226 (by decide) ?_
                exact ih_14  w mn qq ((unw 7 t3 c2).1) ((unw 7 t3 c2).2) V_34 _ _ _ (by omega) (by omega) (by exact hS_37) (by exact hE2.trans (hK3.trans hF_38).ef) (by exact (hT2.sk (hK3.trans hF_38)).1.1) (by exact hT2.1.2) (by have h9 := (hadv (by rw [c_10]; decide)).1; have hq := unw_len 7 t3 c2; omega) (by exact hgo.trans (Go.one (es_b c_8 hqq (by rw [eb_41 c_10 ht2.symm, ← hc2, show w = 0 by omega])))) (by have h9 := hadv (by rw [c_10]; decide); omega) hW (lv_sub hl [0, 1, 2] rfl)
              · skip
                have c_31 : (t3.length + 1) = 0 := (nI_eq (by omega) (by omega)).mp c_31
                exfalso; omega
        · skip
          refine lv_aload_n hx hb dX11_eRead_159 rfl (lv_at hl 0 rfl) ?_
          refine lv_iconst (v := nI 1) hx hb dX11_eRead_160 (by decide) ?_
          refine m_cv (m_rV S hW (c_X11_unwinds l G ad sh V_3 tn t1 c1 1 hM hS2 (by first | assumption | omega)) (cwV 1 hts (gCall [.methodLink RX11 140 yX11_unwinds, .instanceMethod yX11_unwinds, .selects RX11 yX11_unwinds yX11_unwinds, .initialized RX11] (List.forall_mem_cons.mpr ⟨(wa_13 _ (List.mem_of_getElem? (i := 11) (by decide +kernel))), (List.forall_mem_cons.mpr ⟨(wa_13 _ (List.mem_of_getElem? (i := 8) (by decide +kernel))), (List.forall_mem_cons.mpr ⟨(wa_13 _ (List.mem_of_getElem? (i := 9) (by decide +kernel))), (List.forall_mem_cons.mpr ⟨(wa_13 _ (List.mem_of_getElem? (i := 10) (by decide +kernel))), (List.forall_mem_cons.mpr ⟨(wa_1 _ (List.mem_of_getElem? (i := 5) (by decide +kernel))), (fun _ h => absurd h List.not_mem_nil)⟩)⟩)⟩)⟩)⟩)) rfl rfl rfl (by decide +kernel) ⟨Nat.le_of_ble_eq_true rfl, Nat.le_of_ble_eq_true rfl⟩) hM.1 kX11 rfl hl.1 rfl (Nat.le_of_ble_eq_true rfl) dX11_eRead_161 ⟨Nat.le_of_ble_eq_true rfl, Nat.le_of_ble_eq_true rfl⟩) hW (fun V_39 H locs hp_40 hW => ?_)
          obtain ⟨hS_42, hF_43⟩ := hp_40
          have hul := unw_len 1 t1 c1
          refine lv_aload_n hx hb dX11_eRead_164 rfl (lv_at hl 0 rfl) ?_
          refine m_geti S hW hM.1 27 rfl kX11 (iW11 _) (by decide) (List.mem_cons_of_mem _ (wa_13 _ (List.mem_of_getElem? (i := 1) (by decide +kernel)))) dX11_eRead_165 ?_
          refine m_top (y := nI ((unw 1 t1 c1).1.length)) hS_42.hm ?_
          refine m_if_ne (tgt := 175) hx hb dX11_eRead_168 (by decide) (fun c_44 => ?_) (fun c_44 => ?_)
          · skip
            have c_44 : ¬ ((unw 1 t1 c1).1.length) = 0 := mt (nI_eq (by omega) (by omega)).mpr c_44
            refine lv_iconst (v := nI 0) hx hb dX11_eRead_175 (by decide) ?_
            exact m_zret S hr hlk hW rfl dX11_eRead_176 (by exact ⟨0, qq, (unw 1 t1 c1).2, rfl, by decide, hgo.er (Er.one (es_b c_8 hqq (by rw [eb_59 c_9, if_neg c_44]))), (hT2.sk hF_43), fun _ => ⟨hS_42.cdo, by have h9 := (hadv (by rw [c_9]; decide)).1; omega⟩, (hE2.trans hF_43.ef)⟩)
          · skip
            have c_44 : ((unw 1 t1 c1).1.length) = 0 := (nI_eq (by omega) (by omega)).mp c_44
            refine lv_iconst (v := nI 1) hx hb dX11_eRead_171 (by decide) ?_
            refine lv_goto (tgt := 176) hx hb dX11_eRead_172 (by decide) ?_
            exact m_zret S hr hlk hW rfl dX11_eRead_176 (by exact ⟨1, qq, (unw 1 t1 c1).2, rfl, by decide, hgo.er (Er.one (es_b c_8 hqq (by rw [eb_59 c_9, if_pos c_44]))), (hT2.sk hF_43), fun _ => ⟨hS_42.cdo, by have h9 := (hadv (by rw [c_9]; decide)).1; omega⟩, (hE2.trans hF_43.ef)⟩)
      · skip
        have c_8 : ¬ w = 0 := mt (nI_eq (by omega) (by omega)).mpr c_8
        refine lv_aload_n hx hb dX11_eRead_22 rfl (lv_at hl 0 rfl) ?_
        refine m_geti S hW hM.1 23 rfl kX11 (iW11 _) (by decide) (List.mem_cons_of_mem _ (wa_12 _ (List.mem_of_getElem? (i := 7) (by decide +kernel)))) dX11_eRead_23 ?_
        refine m_top (y := mTk qq.2.1) hT2.2.2.1 ?_
        refine lv_iconst (v := nI 1) hx hb dX11_eRead_26 (by decide) ?_
        refine lv_icmp_eq (tgt := 38) hx hb dX11_eRead_27 (by decide) (fun c_45 => ?_) (fun c_45 => ?_)
        · skip
          refine lv_aload_n hx hb dX11_eRead_38 rfl (lv_at hl 0 rfl) ?_
          refine lv_aload_n hx hb dX11_eRead_39 rfl (lv_at hl 0 rfl) ?_
          refine m_geti S hW hM.1 23 rfl kX11 (iW11 _) (by decide) (List.mem_cons_of_mem _ (wa_12 _ (List.mem_of_getElem? (i := 7) (by decide +kernel)))) dX11_eRead_40 ?_
          refine m_top (y := mTk qq.2.1) hT2.2.2.1 ?_
          refine lv_iconst (v := nI 1) hx hb dX11_eRead_43 (by decide) ?_
          refine lv_icmp_ne (tgt := 57) hx hb dX11_eRead_44 (by decide) (fun c_46 => ?_) (fun c_46 => ?_)
          · first | exact absurd c_46 c_45 | exact absurd c_45 c_46 | (exfalso; simp_all; done)
          · skip
            refine lv_ldc (v := nI 100000) hx hb hown (hts (.constant RX11 146 (100000)) (List.mem_cons_of_mem _ (wa_13 _ (List.mem_of_getElem? (i := 3) (by decide +kernel))))) dX11_eRead_47 ?_
            refine lv_aload_n hx hb dX11_eRead_49 rfl (lv_at hl 0 rfl) ?_
            refine m_geti S hW hM.1 24 rfl kX11 (iW11 _) (by decide) (List.mem_cons_of_mem _ (wa_12 _ (List.mem_of_getElem? (i := 8) (by decide +kernel)))) dX11_eRead_50 ?_
            refine m_top (y := nI (tkn qq.2.2.2.1)) (by obtain ⟨n, hn, e⟩ := hval (tk_l1 _ htl c_45); rw [hT2.2.2.2.1 (tk_l1 _ htl c_45), e, tkn_nI (by omega)]) ?_
            refine lv_iadd hx hb dX11_eRead_53 ?_
            refine m_top (y := nI (100000 + (tkn qq.2.2.2.1))) (nI_add 100000 (tkn qq.2.2.2.1)) ?_
            refine lv_goto (tgt := 61) hx hb dX11_eRead_54 (by decide) ?_
            refine m_cv (m_rV S hW (c_X11_puts l G ad sh V_3 tn t1 c1 (100000 + (tkn qq.2.2.2.1)) hM hS2 (by first | assumption | omega)) (cwV 1 hts (gCall [.methodLink RX11 133 yX11_puts, .instanceMethod yX11_puts, .selects RX11 yX11_puts yX11_puts, .initialized RX11] (List.forall_mem_cons.mpr ⟨(wa_13 _ (List.mem_of_getElem? (i := 7) (by decide +kernel))), (List.forall_mem_cons.mpr ⟨(wa_13 _ (List.mem_of_getElem? (i := 4) (by decide +kernel))), (List.forall_mem_cons.mpr ⟨(wa_13 _ (List.mem_of_getElem? (i := 5) (by decide +kernel))), (List.forall_mem_cons.mpr ⟨(wa_13 _ (List.mem_of_getElem? (i := 6) (by decide +kernel))), (List.forall_mem_cons.mpr ⟨(wa_1 _ (List.mem_of_getElem? (i := 5) (by decide +kernel))), (fun _ h => absurd h List.not_mem_nil)⟩)⟩)⟩)⟩)⟩)) rfl rfl rfl (by decide +kernel) ⟨Nat.le_of_ble_eq_true rfl, Nat.le_of_ble_eq_true rfl⟩) hM.1 kX11 rfl hl.1 rfl (Nat.le_of_ble_eq_true rfl) dX11_eRead_61 ⟨Nat.le_of_ble_eq_true rfl, Nat.le_of_ble_eq_true rfl⟩) hW (fun V_47 H locs hp_48 hW => ?_)
            obtain ⟨hS_50, hF_51⟩ := hp_48
            refine lv_aload_n hx hb dX11_eRead_64 rfl (lv_at hl 0 rfl) ?_
            refine lv_bipush (v := nI 7) hx hb dX11_eRead_65 (by decide) ?_
            refine m_cv (m_rV S hW (c_X11_unwinds l G ad sh V_47 tn t1 (c1 ++ [100000 + (tkn qq.2.2.2.1)]) 7 hM hS_50 (by first | assumption | omega)) (cwV 1 hts (gCall [.methodLink RX11 140 yX11_unwinds, .instanceMethod yX11_unwinds, .selects RX11 yX11_unwinds yX11_unwinds, .initialized RX11] (List.forall_mem_cons.mpr ⟨(wa_13 _ (List.mem_of_getElem? (i := 11) (by decide +kernel))), (List.forall_mem_cons.mpr ⟨(wa_13 _ (List.mem_of_getElem? (i := 8) (by decide +kernel))), (List.forall_mem_cons.mpr ⟨(wa_13 _ (List.mem_of_getElem? (i := 9) (by decide +kernel))), (List.forall_mem_cons.mpr ⟨(wa_13 _ (List.mem_of_getElem? (i := 10) (by decide +kernel))), (List.forall_mem_cons.mpr ⟨(wa_1 _ (List.mem_of_getElem? (i := 5) (by decide +kernel))), (fun _ h => absurd h List.not_mem_nil)⟩)⟩)⟩)⟩)⟩)) rfl rfl rfl (by decide +kernel) ⟨Nat.le_of_ble_eq_true rfl, Nat.le_of_ble_eq_true rfl⟩) hM.1 kX11 rfl hl.1 rfl (Nat.le_of_ble_eq_true rfl) dX11_eRead_67 ⟨Nat.le_of_ble_eq_true rfl, Nat.le_of_ble_eq_true rfl⟩) hW (fun V_52 H locs hp_53 hW => ?_)
            obtain ⟨hS_55, hF_56⟩ := hp_53
            refine lv_iconst (v := nI 0) hx hb dX11_eRead_70 (by decide) ?_
            refine lv_istore_n (lv' := [(1, .int (nI 0)), (0, .ref (ad 200)), (2, .int (nI mn))]) hx hb dX11_eRead_71 rfl hl (by decide) rfl (fun ls hl => ?_)
            refine lv_goto (tgt := 14) hx hb dX11_eRead_72 (by decide) ?_
            exact ih_14  0 mn qq ((unw 7 t1 (c1 ++ [100000 + (tkn qq.2.2.2.1)])).1) ((unw 7 t1 (c1 ++ [100000 + (tkn qq.2.2.2.1)])).2) V_52 _ _ _ (by omega) (by omega) (by exact hS_55) (by exact hE2.trans (hF_51.trans hF_56).ef) (by exact (hT2.sk (hF_51.trans hF_56)).1.1) (by exact hT2.1.2) (by have h9 := (hadv (by rw [c_45]; decide)).1; have hq := unw_len 7 t1 (c1 ++ [100000 + (tkn qq.2.2.2.1)]); simp only [List.length_append, List.length_cons, List.length_nil] at hq; omega) (by exact hgo.trans (Go.one (es_w hw1 c_8 hqq (ew_1 c_45)))) (by have h9 := hadv (by rw [c_45]; decide); omega) hW (lv_sub hl [1, 0, 2] rfl)
        · skip
          refine lv_aload_n hx hb dX11_eRead_30 rfl (lv_at hl 0 rfl) ?_
          refine m_geti S hW hM.1 23 rfl kX11 (iW11 _) (by decide) (List.mem_cons_of_mem _ (wa_12 _ (List.mem_of_getElem? (i := 7) (by decide +kernel)))) dX11_eRead_31 ?_
          refine m_top (y := mTk qq.2.1) hT2.2.2.1 ?_
          refine lv_iconst (v := nI 2) hx hb dX11_eRead_34 (by decide) ?_
          refine lv_icmp_ne (tgt := 75) hx hb dX11_eRead_35 (by decide) (fun c_57 => ?_) (fun c_57 => ?_)
          · skip
            refine lv_aload_n hx hb dX11_eRead_75 rfl (lv_at hl 0 rfl) ?_
            refine m_geti S hW hM.1 23 rfl kX11 (iW11 _) (by decide) (List.mem_cons_of_mem _ (wa_12 _ (List.mem_of_getElem? (i := 7) (by decide +kernel)))) dX11_eRead_76 ?_
            refine m_top (y := mTk qq.2.1) hT2.2.2.1 ?_
            refine lv_bipush (v := nI 6) hx hb dX11_eRead_79 (by decide) ?_
            refine lv_icmp_ne (tgt := 99) hx hb dX11_eRead_81 (by decide) (fun c_58 => ?_) (fun c_58 => ?_)
            · skip
              refine lv_aload_n hx hb dX11_eRead_99 rfl (lv_at hl 0 rfl) ?_
              refine m_geti S hW hM.1 23 rfl kX11 (iW11 _) (by decide) (List.mem_cons_of_mem _ (wa_12 _ (List.mem_of_getElem? (i := 7) (by decide +kernel)))) dX11_eRead_100 ?_
              refine m_top (y := mTk qq.2.1) hT2.2.2.1 ?_
              refine lv_bipush (v := nI 45) hx hb dX11_eRead_103 (by decide) ?_
              refine lv_icmp_ne (tgt := 124) hx hb dX11_eRead_105 (by decide) (fun c_59 => ?_) (fun c_59 => ?_)
              · skip
                refine lv_aload_n hx hb dX11_eRead_124 rfl (lv_at hl 0 rfl) ?_
                refine m_geti S hW hM.1 23 rfl kX11 (iW11 _) (by decide) (List.mem_cons_of_mem _ (wa_12 _ (List.mem_of_getElem? (i := 7) (by decide +kernel)))) dX11_eRead_125 ?_
                refine m_top (y := mTk qq.2.1) hT2.2.2.1 ?_
                refine lv_bipush (v := nI 40) hx hb dX11_eRead_128 (by decide) ?_
                refine lv_icmp_ne (tgt := 148) hx hb dX11_eRead_130 (by decide) (fun c_60 => ?_) (fun c_60 => ?_)
                · skip
                  refine lv_iconst (v := nI 0) hx hb dX11_eRead_148 (by decide) ?_
                  exact m_zret S hr hlk hW rfl dX11_eRead_149 (by exact ⟨0, qq, [], rfl, by decide, hgo.er (Er.one (es_w hw1 c_8 hqq (ew_no c_45 c_57 c_58 c_59 c_60))), hT2, fun z => absurd z (by decide), hE2⟩)
                · skip
                  refine lv_aload_n hx hb dX11_eRead_133 rfl (lv_at hl 0 rfl) ?_
                  refine lv_iconst (v := nI 0) hx hb dX11_eRead_134 (by decide) ?_
                  refine m_ci (m_rV S hW (c_X11_opensOne l G ad sh V_3 tn t1 c1 0 hM hS2 (by first | assumption | omega) (by first | assumption | omega) (by first | assumption | omega)) (cwV 1 hts (gCall [.methodLink RX11 147 yX11_opensOne, .instanceMethod yX11_opensOne, .selects RX11 yX11_opensOne yX11_opensOne, .initialized RX11] (List.forall_mem_cons.mpr ⟨(wa_13 _ (List.mem_of_getElem? (i := 18) (by decide +kernel))), (List.forall_mem_cons.mpr ⟨(wa_13 _ (List.mem_of_getElem? (i := 15) (by decide +kernel))), (List.forall_mem_cons.mpr ⟨(wa_13 _ (List.mem_of_getElem? (i := 16) (by decide +kernel))), (List.forall_mem_cons.mpr ⟨(wa_13 _ (List.mem_of_getElem? (i := 17) (by decide +kernel))), (List.forall_mem_cons.mpr ⟨(wa_1 _ (List.mem_of_getElem? (i := 5) (by decide +kernel))), (fun _ h => absurd h List.not_mem_nil)⟩)⟩)⟩)⟩)⟩)) rfl rfl rfl (by decide +kernel) ⟨Nat.le_of_ble_eq_true rfl, Nat.le_of_ble_eq_true rfl⟩) hM.1 kX11 rfl hl.1 rfl (Nat.le_of_ble_eq_true rfl) dX11_eRead_135 ⟨Nat.le_of_ble_eq_true rfl, Nat.le_of_ble_eq_true rfl⟩) hW (fun r_63 V_61 H locs hp_62 hW => ?_)
                  rcases hp_62 with ⟨rfl, eV_61, w_64⟩ | ⟨rfl, w_65, hS_66, hF_67⟩
                  · skip
                    refine m_if_ne (tgt := 143) hx hb dX11_eRead_138 (by decide) (fun c_68 => ?_) (fun c_68 => ?_)
                    · exact absurd c_68 (by decide)
                    · skip
                      refine lv_iconst (v := nI 0) hx hb dX11_eRead_141 (by decide) ?_
                      exact m_zret S hr hlk hW rfl dX11_eRead_142 (by exact ⟨0, qq, [], rfl, by decide, hgo.er (Er.one (es_w hw1 c_8 hqq (by rw [ew_40 c_60, if_pos w_64]))), (by rw [eV_61]; exact hT2), fun z => absurd z (by decide), (by rw [eV_61]; exact hE2)⟩)
                  · skip
                    refine m_if_ne (tgt := 143) hx hb dX11_eRead_138 (by decide) (fun c_69 => ?_) (fun c_69 => ?_)
                    · skip
                      refine lv_iconst (v := nI 1) hx hb dX11_eRead_143 (by decide) ?_
                      refine lv_istore_n (lv' := [(2, .int (nI 1)), (0, .ref (ad 200)), (1, .int (nI w))]) hx hb dX11_eRead_144 rfl hl (by decide) rfl (fun ls hl => ?_)
                      refine lv_goto (tgt := 14) hx hb dX11_eRead_145 (by decide) ?_
                      exact ih_14  w 1 qq (0 :: t1) c1 V_61 _ _ _ (by omega) (by omega) (by exact hS_66) (by exact hE2.trans hF_67.ef) (by exact (hT2.sk hF_67).1.1) (by exact hT2.1.2) (by have h9 := (hadv (by rw [c_60]; decide)).1; rw [List.length_cons]; omega) (by exact hgo.trans (Go.one (es_w hw1 c_8 hqq (by rw [ew_40 c_60, if_neg w_65, show w = 1 by omega])))) (by have h9 := hadv (by rw [c_60]; decide); omega) hW (lv_sub hl [1, 2, 0] rfl)
                    · exact absurd c_69 (by decide)
              · skip
                refine lv_aload_n hx hb dX11_eRead_108 rfl (lv_at hl 0 rfl) ?_
                refine lv_bipush (v := nI 19) hx hb dX11_eRead_109 (by decide) ?_
                refine m_ci (m_rV S hW (c_X11_opensOne l G ad sh V_3 tn t1 c1 19 hM hS2 (by first | assumption | omega) (by first | assumption | omega) (by first | assumption | omega)) (cwV 1 hts (gCall [.methodLink RX11 147 yX11_opensOne, .instanceMethod yX11_opensOne, .selects RX11 yX11_opensOne yX11_opensOne, .initialized RX11] (List.forall_mem_cons.mpr ⟨(wa_13 _ (List.mem_of_getElem? (i := 18) (by decide +kernel))), (List.forall_mem_cons.mpr ⟨(wa_13 _ (List.mem_of_getElem? (i := 15) (by decide +kernel))), (List.forall_mem_cons.mpr ⟨(wa_13 _ (List.mem_of_getElem? (i := 16) (by decide +kernel))), (List.forall_mem_cons.mpr ⟨(wa_13 _ (List.mem_of_getElem? (i := 17) (by decide +kernel))), (List.forall_mem_cons.mpr ⟨(wa_1 _ (List.mem_of_getElem? (i := 5) (by decide +kernel))), (fun _ h => absurd h List.not_mem_nil)⟩)⟩)⟩)⟩)⟩)) rfl rfl rfl (by decide +kernel) ⟨Nat.le_of_ble_eq_true rfl, Nat.le_of_ble_eq_true rfl⟩) hM.1 kX11 rfl hl.1 rfl (Nat.le_of_ble_eq_true rfl) dX11_eRead_111 ⟨Nat.le_of_ble_eq_true rfl, Nat.le_of_ble_eq_true rfl⟩) hW (fun r_72 V_70 H locs hp_71 hW => ?_)
                rcases hp_71 with ⟨rfl, eV_70, w_73⟩ | ⟨rfl, w_74, hS_75, hF_76⟩
                · skip
                  refine m_if_ne (tgt := 119) hx hb dX11_eRead_114 (by decide) (fun c_77 => ?_) (fun c_77 => ?_)
                  · exact absurd c_77 (by decide)
                  · skip
                    refine lv_iconst (v := nI 0) hx hb dX11_eRead_117 (by decide) ?_
                    exact m_zret S hr hlk hW rfl dX11_eRead_118 (by exact ⟨0, qq, [], rfl, by decide, hgo.er (Er.one (es_w hw1 c_8 hqq (by rw [ew_45 c_59, if_pos w_73]))), (by rw [eV_70]; exact hT2), fun z => absurd z (by decide), (by rw [eV_70]; exact hE2)⟩)
                · skip
                  refine m_if_ne (tgt := 119) hx hb dX11_eRead_114 (by decide) (fun c_78 => ?_) (fun c_78 => ?_)
                  · skip
                    refine lv_iconst (v := nI 0) hx hb dX11_eRead_119 (by decide) ?_
                    refine lv_istore_n (lv' := [(2, .int (nI 0)), (0, .ref (ad 200)), (1, .int (nI w))]) hx hb dX11_eRead_120 rfl hl (by decide) rfl (fun ls hl => ?_)
                    refine lv_goto (tgt := 14) hx hb dX11_eRead_121 (by decide) ?_
                    exact ih_14  w 0 qq (19 :: t1) c1 V_70 _ _ _ (by omega) (by omega) (by exact hS_75) (by exact hE2.trans hF_76.ef) (by exact (hT2.sk hF_76).1.1) (by exact hT2.1.2) (by have h9 := (hadv (by rw [c_59]; decide)).1; rw [List.length_cons]; omega) (by exact hgo.trans (Go.one (es_w hw1 c_8 hqq (by rw [ew_45 c_59, if_neg w_74, show w = 1 by omega])))) (by have h9 := hadv (by rw [c_59]; decide); omega) hW (lv_sub hl [1, 2, 0] rfl)
                  · exact absurd c_78 (by decide)
            · skip
              refine lv_iload_n hx hb dX11_eRead_84 rfl (lv_at hl 2 rfl) ?_
              refine m_if_eq (tgt := 99) hx hb dX11_eRead_85 (by decide) (fun c_79 => ?_) (fun c_79 => ?_)
              · skip
                have c_79 : mn = 0 := (nI_eq (by omega) (by omega)).mp c_79
                refine lv_aload_n hx hb dX11_eRead_99 rfl (lv_at hl 0 rfl) ?_
                refine m_geti S hW hM.1 23 rfl kX11 (iW11 _) (by decide) (List.mem_cons_of_mem _ (wa_12 _ (List.mem_of_getElem? (i := 7) (by decide +kernel)))) dX11_eRead_100 ?_
                refine m_top (y := mTk qq.2.1) hT2.2.2.1 ?_
                refine lv_bipush (v := nI 45) hx hb dX11_eRead_103 (by decide) ?_
                refine lv_icmp_ne (tgt := 124) hx hb dX11_eRead_105 (by decide) (fun c_80 => ?_) (fun c_80 => ?_)
                · skip
                  refine lv_aload_n hx hb dX11_eRead_124 rfl (lv_at hl 0 rfl) ?_
                  refine m_geti S hW hM.1 23 rfl kX11 (iW11 _) (by decide) (List.mem_cons_of_mem _ (wa_12 _ (List.mem_of_getElem? (i := 7) (by decide +kernel)))) dX11_eRead_125 ?_
                  refine m_top (y := mTk qq.2.1) hT2.2.2.1 ?_
                  refine lv_bipush (v := nI 40) hx hb dX11_eRead_128 (by decide) ?_
                  refine lv_icmp_ne (tgt := 148) hx hb dX11_eRead_130 (by decide) (fun c_81 => ?_) (fun c_81 => ?_)
                  · skip
                    refine lv_iconst (v := nI 0) hx hb dX11_eRead_148 (by decide) ?_
                    exact m_zret S hr hlk hW rfl dX11_eRead_149 (by exact ⟨0, qq, [], rfl, by decide, hgo.er (Er.one (es_w hw1 c_8 hqq (ew_6n c_58 (by omega)))), hT2, fun z => absurd z (by decide), hE2⟩)
                  · skip
                    exact absurd (c_58.symm.trans c_81) (by decide)
                · skip
                  exact absurd (c_58.symm.trans c_80) (by decide)
              · skip
                have c_79 : ¬ mn = 0 := mt (nI_eq (by omega) (by omega)).mpr c_79
                refine lv_aload_n hx hb dX11_eRead_88 rfl (lv_at hl 0 rfl) ?_
                refine lv_bipush (v := nI 13) hx hb dX11_eRead_89 (by decide) ?_
                refine m_ci (m_rV S hW (c_X11_opensOne l G ad sh V_3 tn t1 c1 13 hM hS2 (by first | assumption | omega) (by first | assumption | omega) (by first | assumption | omega)) (cwV 1 hts (gCall [.methodLink RX11 147 yX11_opensOne, .instanceMethod yX11_opensOne, .selects RX11 yX11_opensOne yX11_opensOne, .initialized RX11] (List.forall_mem_cons.mpr ⟨(wa_13 _ (List.mem_of_getElem? (i := 18) (by decide +kernel))), (List.forall_mem_cons.mpr ⟨(wa_13 _ (List.mem_of_getElem? (i := 15) (by decide +kernel))), (List.forall_mem_cons.mpr ⟨(wa_13 _ (List.mem_of_getElem? (i := 16) (by decide +kernel))), (List.forall_mem_cons.mpr ⟨(wa_13 _ (List.mem_of_getElem? (i := 17) (by decide +kernel))), (List.forall_mem_cons.mpr ⟨(wa_1 _ (List.mem_of_getElem? (i := 5) (by decide +kernel))), (fun _ h => absurd h List.not_mem_nil)⟩)⟩)⟩)⟩)⟩)) rfl rfl rfl (by decide +kernel) ⟨Nat.le_of_ble_eq_true rfl, Nat.le_of_ble_eq_true rfl⟩) hM.1 kX11 rfl hl.1 rfl (Nat.le_of_ble_eq_true rfl) dX11_eRead_91 ⟨Nat.le_of_ble_eq_true rfl, Nat.le_of_ble_eq_true rfl⟩) hW (fun r_84 V_82 H locs hp_83 hW => ?_)
                rcases hp_83 with ⟨rfl, eV_82, w_85⟩ | ⟨rfl, w_86, hS_87, hF_88⟩
                · skip
                  refine m_if_ne (tgt := 14) hx hb dX11_eRead_94 (by decide) (fun c_89 => ?_) (fun c_89 => ?_)
                  · exact absurd c_89 (by decide)
                  · skip
                    refine lv_iconst (v := nI 0) hx hb dX11_eRead_97 (by decide) ?_
                    exact m_zret S hr hlk hW rfl dX11_eRead_98 (by exact ⟨0, qq, [], rfl, by decide, hgo.er (Er.one (es_w hw1 c_8 hqq (by rw [ew_6 c_58 (by omega), if_pos w_85]))), (by rw [eV_82]; exact hT2), fun z => absurd z (by decide), (by rw [eV_82]; exact hE2)⟩)
                · skip
                  refine m_if_ne (tgt := 14) hx hb dX11_eRead_94 (by decide) (fun c_90 => ?_) (fun c_90 => ?_)
                  · skip
                    exact ih_14  w mn qq (13 :: t1) c1 V_82 _ _ _ (by omega) (by omega) (by exact hS_87) (by exact hE2.trans hF_88.ef) (by exact (hT2.sk hF_88).1.1) (by exact hT2.1.2) (by have h9 := (hadv (by rw [c_58]; decide)).1; rw [List.length_cons]; omega) (by exact hgo.trans (Go.one (es_w hw1 c_8 hqq (by rw [ew_6 c_58 (by omega), if_neg w_86, show w = 1 by omega, show mn = 1 by omega])))) (by have h9 := hadv (by rw [c_58]; decide); omega) hW (lv_sub hl [0, 1, 2] rfl)
                  · exact absurd c_90 (by decide)
          · skip
            refine lv_aload_n hx hb dX11_eRead_38 rfl (lv_at hl 0 rfl) ?_
            refine lv_aload_n hx hb dX11_eRead_39 rfl (lv_at hl 0 rfl) ?_
            refine m_geti S hW hM.1 23 rfl kX11 (iW11 _) (by decide) (List.mem_cons_of_mem _ (wa_12 _ (List.mem_of_getElem? (i := 7) (by decide +kernel)))) dX11_eRead_40 ?_
            refine m_top (y := mTk qq.2.1) hT2.2.2.1 ?_
            refine lv_iconst (v := nI 1) hx hb dX11_eRead_43 (by decide) ?_
            refine lv_icmp_ne (tgt := 57) hx hb dX11_eRead_44 (by decide) (fun c_91 => ?_) (fun c_91 => ?_)
            · skip
              refine lv_aload_n hx hb dX11_eRead_57 rfl (lv_at hl 0 rfl) ?_
              refine m_geti S hW hM.1 24 rfl kX11 (iW11 _) (by decide) (List.mem_cons_of_mem _ (wa_12 _ (List.mem_of_getElem? (i := 8) (by decide +kernel)))) dX11_eRead_58 ?_
              refine m_top (y := nI (tkn (mVl qq.2.1))) (by rw [hT2.2.2.2.2 (tk_l2 _ htl c_57).1]; exact (tk_l2 _ htl c_57).2.1) ?_
              refine m_cv (m_rV S hW (c_X11_puts l G ad sh V_3 tn t1 c1 (tkn (mVl qq.2.1)) hM hS2 (by first | assumption | omega)) (cwV 1 hts (gCall [.methodLink RX11 133 yX11_puts, .instanceMethod yX11_puts, .selects RX11 yX11_puts yX11_puts, .initialized RX11] (List.forall_mem_cons.mpr ⟨(wa_13 _ (List.mem_of_getElem? (i := 7) (by decide +kernel))), (List.forall_mem_cons.mpr ⟨(wa_13 _ (List.mem_of_getElem? (i := 4) (by decide +kernel))), (List.forall_mem_cons.mpr ⟨(wa_13 _ (List.mem_of_getElem? (i := 5) (by decide +kernel))), (List.forall_mem_cons.mpr ⟨(wa_13 _ (List.mem_of_getElem? (i := 6) (by decide +kernel))), (List.forall_mem_cons.mpr ⟨(wa_1 _ (List.mem_of_getElem? (i := 5) (by decide +kernel))), (fun _ h => absurd h List.not_mem_nil)⟩)⟩)⟩)⟩)⟩)) rfl rfl rfl (by decide +kernel) ⟨Nat.le_of_ble_eq_true rfl, Nat.le_of_ble_eq_true rfl⟩) hM.1 kX11 rfl hl.1 rfl (Nat.le_of_ble_eq_true rfl) dX11_eRead_61 ⟨Nat.le_of_ble_eq_true rfl, Nat.le_of_ble_eq_true rfl⟩) hW (fun V_92 H locs hp_93 hW => ?_)
              obtain ⟨hS_95, hF_96⟩ := hp_93
              refine lv_aload_n hx hb dX11_eRead_64 rfl (lv_at hl 0 rfl) ?_
              refine lv_bipush (v := nI 7) hx hb dX11_eRead_65 (by decide) ?_
              refine m_cv (m_rV S hW (c_X11_unwinds l G ad sh V_92 tn t1 (c1 ++ [(tkn (mVl qq.2.1))]) 7 hM hS_95 (by first | assumption | omega)) (cwV 1 hts (gCall [.methodLink RX11 140 yX11_unwinds, .instanceMethod yX11_unwinds, .selects RX11 yX11_unwinds yX11_unwinds, .initialized RX11] (List.forall_mem_cons.mpr ⟨(wa_13 _ (List.mem_of_getElem? (i := 11) (by decide +kernel))), (List.forall_mem_cons.mpr ⟨(wa_13 _ (List.mem_of_getElem? (i := 8) (by decide +kernel))), (List.forall_mem_cons.mpr ⟨(wa_13 _ (List.mem_of_getElem? (i := 9) (by decide +kernel))), (List.forall_mem_cons.mpr ⟨(wa_13 _ (List.mem_of_getElem? (i := 10) (by decide +kernel))), (List.forall_mem_cons.mpr ⟨(wa_1 _ (List.mem_of_getElem? (i := 5) (by decide +kernel))), (fun _ h => absurd h List.not_mem_nil)⟩)⟩)⟩)⟩)⟩)) rfl rfl rfl (by decide +kernel) ⟨Nat.le_of_ble_eq_true rfl, Nat.le_of_ble_eq_true rfl⟩) hM.1 kX11 rfl hl.1 rfl (Nat.le_of_ble_eq_true rfl) dX11_eRead_67 ⟨Nat.le_of_ble_eq_true rfl, Nat.le_of_ble_eq_true rfl⟩) hW (fun V_97 H locs hp_98 hW => ?_)
              obtain ⟨hS_100, hF_101⟩ := hp_98
              refine lv_iconst (v := nI 0) hx hb dX11_eRead_70 (by decide) ?_
              refine lv_istore_n (lv' := [(1, .int (nI 0)), (0, .ref (ad 200)), (2, .int (nI mn))]) hx hb dX11_eRead_71 rfl hl (by decide) rfl (fun ls hl => ?_)
              refine lv_goto (tgt := 14) hx hb dX11_eRead_72 (by decide) ?_
              exact ih_14  0 mn qq ((unw 7 t1 (c1 ++ [(tkn (mVl qq.2.1))])).1) ((unw 7 t1 (c1 ++ [(tkn (mVl qq.2.1))])).2) V_97 _ _ _ (by omega) (by omega) (by exact hS_100) (by exact hE2.trans (hF_96.trans hF_101).ef) (by exact (hT2.sk (hF_96.trans hF_101)).1.1) (by exact hT2.1.2) (by have h9 := (hadv (by rw [c_57]; decide)).1; have hq := unw_len 7 t1 (c1 ++ [(tkn (mVl qq.2.1))]); simp only [List.length_append, List.length_cons, List.length_nil] at hq; omega) (by exact hgo.trans (Go.one (es_w hw1 c_8 hqq (ew_2 c_57)))) (by have h9 := hadv (by rw [c_57]; decide); omega) hW (lv_sub hl [1, 0, 2] rfl)
            · first | exact absurd c_91 c_45 | exact absurd c_45 c_91 | (exfalso; simp_all; done)
  exact loop_14 (sz - q.1 + 1) 1 1 q ([]) cs V_2 _ _ _ (by decide) (by decide) (by exact hC.sk0 (by rw [eV_2, eV_1])) (by rw [eV_2, eV_1]; exact (((SkF.rfl tn V).p200 _ (Or.inl rfl)).p200 _ (Or.inr (Or.inl rfl))).ef) (by rw [eV_2, mU_ne _ _ (by decide), eV_1, mU_ne _ _ (by decide)]; exact hat) (by exact hql) (by rw [List.length_nil, Nat.zero_add]; exact hcl) (by exact Go.rfl) (by omega) hW (lv_sub hl [2, 1, 0] rfl)
