/-! the reference's reading: a text -/
section TXP
variable (B : Nat → Int32) (sz : Nat) (qs : pS)
/-- where p parts are read -/
def TxP : Nat → pS → List Nat → List Nat → Prop
  | 0, q, cs, ss => q = qs ∧ cs = [] ∧ ss = []
  | p + 1, q, cs, ss => ∃ q0 cs0 ss0, TxP p q0 cs0 ss0 ∧ (pAdv B sz q0).2.1 = nI (8 + p) ∧ ss = ss0 ++ [cs0.length] ∧ Er B sz (1, 1, pAdv B sz q0, [], cs0) (1, q, cs)
/-- a fault, at b -/
def TxF (b : Nat) : Prop := (∃ p q cs ss, p < 3 ∧ TxP B sz qs p q cs ss ∧ ((¬ (pAdv B sz q).2.1 = nI (8 + p) ∧ b = (pAdv B sz q).2.2.1) ∨ ((pAdv B sz q).2.1 = nI (8 + p) ∧ ∃ q' cs', Er B sz (1, 1, pAdv B sz q, [], cs) (0, q', cs') ∧ b = q'.2.2.1))) ∨ ∃ q cs ss, TxP B sz qs 3 q cs ss ∧ ¬ (pAdv B sz q).2.1 = nI 0 ∧ b = (pAdv B sz q).2.2.1
end TXP
def XFr (tn : Nat) (V V' : mV) : Prop := (∀ a, a ≠ 200 → a ≠ 206 → a ≠ 207 → a ≠ 216 → V' a = V a) ∧ (∀ k, k < 21 ∨ (24 < k ∧ k ≠ 27 ∧ k ≠ 28 ∧ k ≠ 29) → V' 200 k = V 200 k) ∧ (∀ k, k < 200 * tn → V' 206 k = V 206 k) ∧ (∀ k, k < 4 * tn → V' 207 k = V 207 k)
theorem XFr.rfl (tn : Nat) (V : mV) : XFr tn V V := ⟨fun _ _ _ _ _ => Eq.refl _, fun _ _ => Eq.refl _, fun _ _ => Eq.refl _, fun _ _ => Eq.refl _⟩
theorem XFr.trans {tn : Nat} {V V1 V2 : mV} (h : XFr tn V V1) (h' : XFr tn V1 V2) : XFr tn V V2 := ⟨fun a h1 h2 h3 h4 => (h'.1 a h1 h2 h3 h4).trans (h.1 a h1 h2 h3 h4), fun k hk => (h'.2.1 k hk).trans (h.2.1 k hk), fun k hk => (h'.2.2.1 k hk).trans (h.2.2.1 k hk), fun k hk => (h'.2.2.2 k hk).trans (h.2.2.2 k hk)⟩
theorem EF.x {tn : Nat} {V V' : mV} (h : EF tn V V') : XFr tn V V' := ⟨fun a h1 h2 _ h4 => h.1 a h1 h2 h4, h.2.1, h.2.2, fun k _ => by rw [h.1 207 (by decide) (by decide) (by decide)]⟩
theorem XFr.p207 {tn : Nat} {V V' : mV} (h : XFr tn V V') (j : Nat) (x : Int32) : XFr tn V (mU V' 207 (4 * tn + j) x) := ⟨fun a h1 h2 h3 h4 => by rw [mU_no _ _ h3]; exact h.1 a h1 h2 h3 h4, fun k hk => by rw [mU_no _ _ (by decide)]; exact h.2.1 k hk, fun k hk => by rw [mU_no _ _ (by decide)]; exact h.2.2.1 k hk, fun k hk => by rw [mU_ne _ _ (by omega)]; exact h.2.2.2 k hk⟩
theorem XFr.p200 {tn : Nat} {V V' : mV} (h : XFr tn V V') {k : Nat} (x : Int32) (hk : (20 < k ∧ k < 25) ∨ k = 27 ∨ k = 28 ∨ k = 29) : XFr tn V (mU V' 200 k x) := ⟨fun a h1 h2 h3 h4 => by rw [mU_no _ _ h1]; exact h.1 a h1 h2 h3 h4, fun j hj => by rw [mU_ne _ _ (by omega)]; exact h.2.1 j hj, fun j hj => by rw [mU_no _ _ (by decide)]; exact h.2.2.1 j hj, fun j hj => by rw [mU_no _ _ (by decide)]; exact h.2.2.2 j hj⟩
theorem CdOk.of {V V' : mV} {tn : Nat} {cs : List Nat} (h : CdOk V tn cs) (h1 : V' 200 29 = V 200 29) (h2 : V' 206 = V 206) (h3 : V' 200 11 = V 200 11) : CdOk V' tn cs := ⟨⟨by rw [h1]; exact h.1.1, by rw [h2]; exact h.1.2⟩, h.2.1, h.2.2.1, by rw [h3]; exact h.2.2.2⟩
/-- the starts that lie there -/
def SsOk (V : mV) (tn : Nat) (ss : List Nat) : Prop := ∀ j x, ss[j]? = some x → V 207 (4 * tn + j) = nI x
theorem SsOk.of {V V' : mV} {tn : Nat} {ss : List Nat} (h : SsOk V tn ss) (h2 : V' 207 = V 207) : SsOk V' tn ss := fun j x hj => by rw [h2]; exact h j x hj
theorem SsOk.s {V V' : mV} {tn : Nat} {ss : List Nat} {x : Nat} (h : SsOk V tn ss) (h2 : V' 207 = mU V 207 (4 * tn + ss.length) (nI x) 207) : SsOk V' tn (ss ++ [x]) := fun j y hj => by
  rw [h2]
  by_cases hk : j = ss.length
  · subst hk
    rw [mU_eq]
    simp at hj
    rw [hj]
  · rw [mU_ne _ _ (by omega)]
    have := (List.getElem?_eq_some_iff.mp hj).1
    simp at this
    rw [List.getElem?_append_left (by omega)] at hj
    exact h j y hj
theorem tk_w3 : ∀ t ∈ tkL, mTk t = nI 3 → ∀ p, p < 3 → (tkn (mVl t) = p ↔ t = nI (8 + p)) := by decide +kernel
theorem tk_w3n : ∀ t ∈ tkL, ¬ mTk t = nI 3 → ∀ p, p < 3 → ¬ t = nI (8 + p) := by decide +kernel
theorem tk_00 : ∀ t ∈ tkL, mTk t = nI 0 ↔ t = nI 0 := by decide +kernel
/-- where a text's reading stands -/
def TxL (V : mV) (tn sz : Nat) (B : Nat → Int32) (qs : pS) (part : Nat) (q : pS) (cs ss : List Nat) : Prop := TxP B sz qs part q cs ss ∧ CdOk V tn cs ∧ (cs.length ≤ q.1 ∧ V 200 21 = nI q.1 ∧ q.1 ≤ sz) ∧ SsOk V tn ss ∧ ss.length = part
def TxN (V : mV) (sz : Nat) (B : Nat → Int32) (qs q : pS) : Prop := TxF B sz qs q.2.2.1 ∧ V 200 22 = nI q.2.2.1 ∧ q.2.2.1 ≤ sz
theorem m_ne08 {p : Nat} (h : p < 3) : ¬ (nI 0 = nI (8 + p)) := fun z => absurd ((nI_eq (by decide) (by omega)).mp z) (by omega)
/-- what a text's reading leaves alone, when it stands -/
def XF8 (tn : Nat) (V V' : mV) : Prop := (∀ a, a ≠ 200 → a ≠ 206 → a ≠ 207 → a ≠ 216 → V' a = V a) ∧ (∀ k, k ≠ 8 → k ≠ 11 → k < 21 ∨ (24 < k ∧ k ≠ 27 ∧ k ≠ 28 ∧ k ≠ 29) → V' 200 k = V 200 k) ∧ (∀ k, k < 200 * tn → V' 206 k = V 206 k) ∧ (∀ k, k < 4 * tn → V' 207 k = V 207 k)
theorem XFr.p8 {tn : Nat} {V V' : mV} (h : XFr tn V V') : XF8 tn V (mU V' 200 8 (nI 0)) := ⟨fun a h1 h2 h3 h4 => by rw [mU_no _ _ h1]; exact h.1 a h1 h2 h3 h4, fun j h1 h2 hj => by rw [mU_ne _ _ (by omega)]; exact h.2.1 j hj, fun j hj => by rw [mU_no _ _ (by decide)]; exact h.2.2.1 j hj, fun j hj => by rw [mU_no _ _ (by decide)]; exact h.2.2.2 j hj⟩
theorem XF8.p11 {tn : Nat} {V V' : mV} (h : XF8 tn V V') (x : Int32) : XF8 tn V (mU V' 200 11 x) := ⟨fun a h1 h2 h3 h4 => by rw [mU_no _ _ h1]; exact h.1 a h1 h2 h3 h4, fun j h1 h2 hj => by rw [mU_ne _ _ (by omega)]; exact h.2.1 j h1 h2 hj, fun j hj => by rw [mU_no _ _ (by decide)]; exact h.2.2.1 j hj, fun j hj => by rw [mU_no _ _ (by decide)]; exact h.2.2.2 j hj⟩
/-- a text that was read: its codes and starts lie there -/
def TxY (V : mV) (tn : Nat) (cs ss : List Nat) : Prop := V 200 11 = nI (tn + 1) ∧ (∀ k x, cs[k]? = some x → V 206 (200 * tn + k) = nI x) ∧ SsOk V tn (ss ++ [cs.length]) ∧ ss.length = 3
theorem TxY.of {V V2 V3 V4 : mV} {tn : Nat} {cs ss : List Nat} (hC : CdOk V tn cs) (hs : SsOk V tn ss) (hl : ss.length = 3) (e2 : V2 = mU V 207 (4 * tn + 3) (nI cs.length)) (e3 : V3 = mU V2 200 8 (nI 0)) (e4 : V4 = mU V3 200 11 (nI (tn + 1))) : TxY V4 tn cs ss := by
  refine ⟨by rw [e4, mU_eq], fun k x hk => ?_, ?_, hl⟩
  · rw [e4, mU_no _ _ (by decide), e3, mU_no _ _ (by decide), e2, mU_no _ _ (by decide)]
    exact hC.1.2 k x hk
  · refine hs.s ?_
    rw [hl, e4, mU_no _ _ (by decide), e3, mU_no _ _ (by decide), e2]
set_option maxHeartbeats 4000000 in
set_option maxRecDepth 100000 in
theorem c_X11_text (l : Launch) (G : mG) (ad : Nat → Nat) (sh : Nat → Option mSh) (V : mV) (sz : Nat) (B : Nat → Int32) (qs : pS) (tn : Nat) (hM : MSh sh) (hB : V 205 = B) (hsz : V 200 8 = nI sz) (hs160 : sz ≤ 160) (hwd : ∀ k, k < 96 → V 215 k = wdT.getD k 0) (htn : V 200 11 = nI tn) (htn7 : tn ≤ 6) (hq0 : qs.1 = 0) : mM l yX11_text wsX11_text ({ frames := 4, cells := 0, slots := 0, locals := 87 } : Room) G ad sh V [.ref (ad 200)] 0 0 (mPi ad sh (fun r V' => (-4 = r ∧ V' = V ∧ (tn = 6)) ∨ (∃ (b : Nat), (-100 - nI b) = r ∧ (TxF B sz qs b) ∧ (b ≤ sz) ∧ (V' 200 8 = nI 0) ∧ (XF8 tn V V') ∧ (V' 200 11 = nI tn) ∧ (¬ tn = 6)) ∨ (∃ (q2 : pS) (cs ss : List Nat), nI tn = r ∧ (TxP B sz qs 3 q2 cs ss) ∧ ((pAdv B sz q2).2.1 = nI 0) ∧ (TxY V' tn cs ss) ∧ (XF8 tn V V') ∧ (V' 200 8 = nI 0) ∧ (¬ tn = 6)))) := by
  refine mM.of (cc := cX11_text) (maxL := 3) (ret := (some .int)) (by decide) rfl (Nat.le_of_ble_eq_true rfl) ?_
  intro p e s m below meth c S hr hlk hnm hW ls hl
  obtain ⟨hx, hb, hml, hown, hts⟩ := id S
  have hl : lv_has ls 3 [(0, .ref (ad 200))] := hl
  have hS0 : True := trivial
  refine lv_aload_n hx hb dX11_text_0 rfl (lv_at hl 0 rfl) ?_
  refine m_geti S hW hM.1 11 rfl kX11 (iW11 _) (by decide) (List.mem_cons_of_mem _ (wa_12 _ (List.mem_of_getElem? (i := 4) (by decide +kernel)))) dX11_text_1 ?_
  refine m_top (y := nI tn) htn ?_
  refine lv_bipush (v := nI 6) hx hb dX11_text_4 (by decide) ?_
  refine lv_icmp_ne (tgt := 12) hx hb dX11_text_6 (by decide) (fun c_1 => ?_) (fun c_1 => ?_)
  · skip
    have c_1 : ¬ tn = 6 := mt (nI_eq (by omega) (by omega)).mpr c_1
    refine lv_aload_n hx hb dX11_text_12 rfl (lv_at hl 0 rfl) ?_
    refine lv_iconst (v := nI 0) hx hb dX11_text_13 (by decide) ?_
    refine m_puti S hW hM.1 21 rfl kX11 (iW11 _) tyX11 tyX11_ok nmX11 (by decide) (List.mem_cons_of_mem _ (wa_12 _ (List.mem_of_getElem? (i := 5) (by decide +kernel)))) (Or.inl rfl) rfl rfl dX11_text_14 (fun H locs hW => ?_)
    obtain ⟨V_2, eV_2⟩ : ∃ vv_ : mV, vv_ = mU V 200 21 (nI 0) := ⟨_, rfl⟩
    rw [← eV_2] at hW
    refine lv_aload_n hx hb dX11_text_17 rfl (lv_at hl 0 rfl) ?_
    refine lv_iconst (v := nI 0) hx hb dX11_text_18 (by decide) ?_
    refine m_puti S hW hM.1 29 rfl kX11 (iW11 _) tyX11 tyX11_ok nmX11 (by decide) (List.mem_cons_of_mem _ (wa_12 _ (List.mem_of_getElem? (i := 6) (by decide +kernel)))) (Or.inl rfl) rfl rfl dX11_text_19 (fun H locs hW => ?_)
    obtain ⟨V_3, eV_3⟩ : ∃ vv_ : mV, vv_ = mU V_2 200 29 (nI 0) := ⟨_, rfl⟩
    rw [← eV_3] at hW
    refine lv_iconst (v := nI 1) hx hb dX11_text_22 (by decide) ?_
    refine lv_istore_n (lv' := [(1, .int (nI 1)), (0, .ref (ad 200))]) hx hb dX11_text_23 rfl hl (by decide) rfl (fun ls hl => ?_)
    refine lv_iconst (v := nI 0) hx hb dX11_text_24 (by decide) ?_
    refine lv_istore_n (lv' := [(2, .int (nI 0)), (1, .int (nI 1)), (0, .ref (ad 200))]) hx hb dX11_text_25 rfl hl (by decide) rfl (fun ls hl => ?_)
    have loop_26 : ∀ (n_26 : Nat) (ok part : Nat) (q1 : pS) (c1 ss : List Nat) (V1 : mV) (H : Heap) (locs : List Loc) (ls : Array Slot), (ok ≤ 1) → (part ≤ 3) → (ok = 1 → TxL V1 tn sz B qs part q1 c1 ss) → (ok = 0 → TxN V1 sz B qs q1) → (XFr tn V V1) → (3 - part) < n_26 → mC (mA ad sh s.heap.size) s.heap s G ad sh V1 H locs → lv_has ls 3 [(0, .ref (ad 200)), (1, .int (nI ok)), (2, .int (nI part))] → W p l e ({ frames := 4, cells := 0, slots := 0, locals := 87 } : Room) s m ([.ref (ad 200)] : List Value).toArray below meth c H locs 0 0 (MQ below (mPost G ad sh s.heap.size (mPi ad sh (fun r V' => (-4 = r ∧ V' = V ∧ (tn = 6)) ∨ (∃ (b : Nat), (-100 - nI b) = r ∧ (TxF B sz qs b) ∧ (b ≤ sz) ∧ (V' 200 8 = nI 0) ∧ (XF8 tn V V') ∧ (V' 200 11 = nI tn) ∧ (¬ tn = 6)) ∨ (∃ (q2 : pS) (cs ss : List Nat), nI tn = r ∧ (TxP B sz qs 3 q2 cs ss) ∧ ((pAdv B sz q2).2.1 = nI 0) ∧ (TxY V' tn cs ss) ∧ (XF8 tn V V') ∧ (V' 200 8 = nI 0) ∧ (¬ tn = 6))))) ([.ref (ad 200)] : List Value).toArray s 0 0 (mA ad sh s.heap.size)) (F0 m 26 ls []) := by
      intro n_26
      induction n_26 with
      | zero => intro ok part q1 c1 ss V1 H locs ls hok1 hp1 hP hN hX hM_ hW hl; omega
      | succ n_26 ih_26 =>
        intro ok part q1 c1 ss V1 H locs ls hok1 hp1 hP hN hX hM_ hW hl
        refine lv_iload_n hx hb dX11_text_26 rfl (lv_at hl 2 rfl) ?_
        refine lv_iconst (v := nI 3) hx hb dX11_text_27 (by decide) ?_
        refine lv_icmp_ge (tgt := 101) hx hb dX11_text_28 (by decide) (fun c_4 => ?_) (fun c_4 => ?_)
        · skip
          have c_4 : 3 ≤ part := (nI_leI (by omega) (by omega)).mp c_4
          refine lv_iload_n hx hb dX11_text_101 rfl (lv_at hl 1 rfl) ?_
          refine m_if_eq (tgt := 122) hx hb dX11_text_102 (by decide) (fun c_5 => ?_) (fun c_5 => ?_)
          · skip
            have c_5 : ok = 0 := (nI_eq (by omega) (by omega)).mp c_5
            refine lv_aload_n hx hb dX11_text_122 rfl (lv_at hl 0 rfl) ?_
            refine m_getr S hW hM.1 10 rfl (j := 207) rfl kX11 (iW11 _) (by decide) (List.mem_cons_of_mem _ (wa_11 _ (List.mem_of_getElem? (i := 8) (by decide +kernel)))) dX11_text_123 ?_
            refine lv_iconst (v := nI 4) hx hb dX11_text_126 (by decide) ?_
            refine lv_aload_n hx hb dX11_text_127 rfl (lv_at hl 0 rfl) ?_
            refine m_geti S hW hM.1 11 rfl kX11 (iW11 _) (by decide) (List.mem_cons_of_mem _ (wa_12 _ (List.mem_of_getElem? (i := 4) (by decide +kernel)))) dX11_text_128 ?_
            refine m_top (y := nI tn) ((hX.2.1 11 (by decide)).trans htn) ?_
            refine lv_imul hx hb dX11_text_131 ?_
            refine m_top (y := nI (4 * tn)) (pk_mul 4 tn) ?_
            refine lv_iconst (v := nI 3) hx hb dX11_text_132 (by decide) ?_
            refine lv_iadd hx hb dX11_text_133 ?_
            refine m_top (y := nI ((4 * tn) + 3)) (nI_add (4 * tn) 3) ?_
            refine lv_aload_n hx hb dX11_text_134 rfl (lv_at hl 0 rfl) ?_
            refine m_geti S hW hM.1 29 rfl kX11 (iW11 _) (by decide) (List.mem_cons_of_mem _ (wa_12 _ (List.mem_of_getElem? (i := 6) (by decide +kernel)))) dX11_text_135 ?_
            refine m_iast S hW hM.2.2.2.2.2.2.2.1 ((4 * tn) + 3) rfl (by omega) (by decide) dX11_text_138 (fun H locs hW => ?_)
            obtain ⟨V_6, eV_6⟩ : ∃ vv_ : mV, vv_ = mU V1 207 ((4 * tn) + 3) (V1 200 29) := ⟨_, rfl⟩
            rw [← eV_6] at hW
            refine lv_aload_n hx hb dX11_text_139 rfl (lv_at hl 0 rfl) ?_
            refine lv_iconst (v := nI 0) hx hb dX11_text_140 (by decide) ?_
            refine m_puti S hW hM.1 8 rfl kX11 (iW11 _) tyX11 tyX11_ok nmX11 (by decide) (List.mem_cons_of_mem _ (wa_11 _ (List.mem_of_getElem? (i := 23) (by decide +kernel)))) (Or.inl rfl) rfl rfl dX11_text_141 (fun H locs hW => ?_)
            obtain ⟨V_7, eV_7⟩ : ∃ vv_ : mV, vv_ = mU V_6 200 8 (nI 0) := ⟨_, rfl⟩
            rw [← eV_7] at hW
            refine lv_iload_n hx hb dX11_text_144 rfl (lv_at hl 1 rfl) ?_
            refine m_if_ne (tgt := 156) hx hb dX11_text_145 (by decide) (fun c_8 => ?_) (fun c_8 => ?_)
            · skip
              have c_8 : ¬ ok = 0 := mt (nI_eq (by omega) (by omega)).mpr c_8
              exfalso; omega
            · skip
              have c_8 : ok = 0 := (nI_eq (by omega) (by omega)).mp c_8
              refine lv_bipush (v := -100) hx hb dX11_text_148 (by decide) ?_
              refine lv_aload_n hx hb dX11_text_150 rfl (lv_at hl 0 rfl) ?_
              refine m_geti S hW hM.1 22 rfl kX11 (iW11 _) (by decide) (List.mem_cons_of_mem _ (wa_12 _ (List.mem_of_getElem? (i := 9) (by decide +kernel)))) dX11_text_151 ?_
              refine m_top (y := nI q1.2.2.1) (by rw [eV_7, mU_ne _ _ (by decide), eV_6, mU_no _ _ (by decide)]; exact (hN (by omega)).2.1) ?_
              refine lv_isub hx hb dX11_text_154 ?_
              exact m_iret S hr hlk hW dX11_text_155 (by exact Or.inr (Or.inl ⟨q1.2.2.1, rfl, (hN (by omega)).1, (hN (by omega)).2.2, by rw [eV_7, mU_eq], by rw [eV_7, eV_6]; exact (hX.p207 _ _).p8, by rw [eV_7, mU_ne _ _ (by decide), eV_6, mU_no _ _ (by decide)]; exact (hX.2.1 11 (by decide)).trans htn, c_1⟩))
          · skip
            have c_5 : ¬ ok = 0 := mt (nI_eq (by omega) (by omega)).mpr c_5
            have hp3 : part = 3 := by omega
            have hok2 : ok = 1 := by omega
            obtain ⟨hP1, hC1, ⟨hc1q, ht21, hqs1⟩, hss1, hssl⟩ := hP hok2
            rw [hp3] at hP1
            refine lv_aload_n hx hb dX11_text_105 rfl (lv_at hl 0 rfl) ?_
            refine m_cv (m_rV S hW (c_X11_next l G ad sh V1 sz B q1 hM ((hX.1 205 (by decide) (by decide) (by decide) (by decide)).trans hB) ((hX.2.1 8 (by decide)).trans hsz) (by first | assumption | omega) (fun k hk => by rw [hX.1 215 (by decide) (by decide) (by decide) (by decide)]; exact hwd k hk) ht21 hqs1) (cwV 0 hts (gCall [.methodLink RX11 143 yX11_next, .instanceMethod yX11_next, .selects RX11 yX11_next yX11_next, .initialized RX11] (List.forall_mem_cons.mpr ⟨(wa_12 _ (List.mem_of_getElem? (i := 13) (by decide +kernel))), (List.forall_mem_cons.mpr ⟨(wa_12 _ (List.mem_of_getElem? (i := 10) (by decide +kernel))), (List.forall_mem_cons.mpr ⟨(wa_12 _ (List.mem_of_getElem? (i := 11) (by decide +kernel))), (List.forall_mem_cons.mpr ⟨(wa_12 _ (List.mem_of_getElem? (i := 12) (by decide +kernel))), (List.forall_mem_cons.mpr ⟨(wa_1 _ (List.mem_of_getElem? (i := 5) (by decide +kernel))), (fun _ h => absurd h List.not_mem_nil)⟩)⟩)⟩)⟩)⟩)) rfl rfl rfl (by decide +kernel) ⟨Nat.le_of_ble_eq_true rfl, Nat.le_of_ble_eq_true rfl⟩) hM.1 kX11 rfl hl.1 rfl (Nat.le_of_ble_eq_true rfl) dX11_text_106 ⟨Nat.le_of_ble_eq_true rfl, Nat.le_of_ble_eq_true rfl⟩) hW (fun V_9 H locs hp_10 hW => ?_)
            obtain ⟨hT_12, hF_13⟩ := hp_10
            obtain ⟨qq, hqq⟩ : ∃ vv_ : pS, vv_ = pAdv B sz q1 := ⟨_, rfl⟩
            have htl := pAdv_tk B sz q1
            have hadv := pAdv_lt (B := B) hqs1
            rw [← hqq] at hT_12 htl hadv
            have hT2 := hT_12
            have hC2 : CdOk V_9 tn c1 := hC1.of (hF_13.2 29 (by decide)) (hF_13.1 206 (by decide)) (hF_13.2 11 (by decide))
            have hX2 := hX.trans (hF_13.ef (tn := tn)).x
            have hss2 : SsOk V_9 tn ss := hss1.of (hF_13.1 207 (by decide))
            have hC2l := hC2.2.1
            have htn6 := hC2.2.2.1
            refine lv_aload_n hx hb dX11_text_109 rfl (lv_at hl 0 rfl) ?_
            refine m_geti S hW hM.1 23 rfl kX11 (iW11 _) (by decide) (List.mem_cons_of_mem _ (wa_12 _ (List.mem_of_getElem? (i := 7) (by decide +kernel)))) dX11_text_110 ?_
            refine m_top (y := mTk qq.2.1) hT2.2.2.1 ?_
            refine m_if_ne (tgt := 120) hx hb dX11_text_113 (by decide) (fun c_14 => ?_) (fun c_14 => ?_)
            · skip
              refine lv_iconst (v := nI 0) hx hb dX11_text_120 (by decide) ?_
              refine lv_istore_n (lv' := [(1, .int (nI 0)), (0, .ref (ad 200)), (2, .int (nI part))]) hx hb dX11_text_121 rfl hl (by decide) rfl (fun ls hl => ?_)
              refine lv_aload_n hx hb dX11_text_122 rfl (lv_at hl 1 rfl) ?_
              refine m_getr S hW hM.1 10 rfl (j := 207) rfl kX11 (iW11 _) (by decide) (List.mem_cons_of_mem _ (wa_11 _ (List.mem_of_getElem? (i := 8) (by decide +kernel)))) dX11_text_123 ?_
              refine lv_iconst (v := nI 4) hx hb dX11_text_126 (by decide) ?_
              refine lv_aload_n hx hb dX11_text_127 rfl (lv_at hl 1 rfl) ?_
              refine m_geti S hW hM.1 11 rfl kX11 (iW11 _) (by decide) (List.mem_cons_of_mem _ (wa_12 _ (List.mem_of_getElem? (i := 4) (by decide +kernel)))) dX11_text_128 ?_
              refine m_top (y := nI tn) hC2.2.2.2 ?_
              refine lv_imul hx hb dX11_text_131 ?_
              refine m_top (y := nI (4 * tn)) (pk_mul 4 tn) ?_
              refine lv_iconst (v := nI 3) hx hb dX11_text_132 (by decide) ?_
              refine lv_iadd hx hb dX11_text_133 ?_
              refine m_top (y := nI ((4 * tn) + 3)) (nI_add (4 * tn) 3) ?_
              refine lv_aload_n hx hb dX11_text_134 rfl (lv_at hl 1 rfl) ?_
              refine m_geti S hW hM.1 29 rfl kX11 (iW11 _) (by decide) (List.mem_cons_of_mem _ (wa_12 _ (List.mem_of_getElem? (i := 6) (by decide +kernel)))) dX11_text_135 ?_
              refine m_top (y := nI c1.length) hC2.1.1 ?_
              refine m_iast S hW hM.2.2.2.2.2.2.2.1 ((4 * tn) + 3) rfl (by omega) (by decide) dX11_text_138 (fun H locs hW => ?_)
              obtain ⟨V_15, eV_15⟩ : ∃ vv_ : mV, vv_ = mU V_9 207 ((4 * tn) + 3) (nI c1.length) := ⟨_, rfl⟩
              rw [← eV_15] at hW
              refine lv_aload_n hx hb dX11_text_139 rfl (lv_at hl 1 rfl) ?_
              refine lv_iconst (v := nI 0) hx hb dX11_text_140 (by decide) ?_
              refine m_puti S hW hM.1 8 rfl kX11 (iW11 _) tyX11 tyX11_ok nmX11 (by decide) (List.mem_cons_of_mem _ (wa_11 _ (List.mem_of_getElem? (i := 23) (by decide +kernel)))) (Or.inl rfl) rfl rfl dX11_text_141 (fun H locs hW => ?_)
              obtain ⟨V_16, eV_16⟩ : ∃ vv_ : mV, vv_ = mU V_15 200 8 (nI 0) := ⟨_, rfl⟩
              rw [← eV_16] at hW
              refine lv_iload_n hx hb dX11_text_144 rfl (lv_at hl 0 rfl) ?_
              refine m_if_ne (tgt := 156) hx hb dX11_text_145 (by decide) (fun c_17 => ?_) (fun c_17 => ?_)
              · exact absurd c_17 (by decide)
              · skip
                refine lv_bipush (v := -100) hx hb dX11_text_148 (by decide) ?_
                refine lv_aload_n hx hb dX11_text_150 rfl (lv_at hl 1 rfl) ?_
                refine m_geti S hW hM.1 22 rfl kX11 (iW11 _) (by decide) (List.mem_cons_of_mem _ (wa_12 _ (List.mem_of_getElem? (i := 9) (by decide +kernel)))) dX11_text_151 ?_
                refine m_top (y := nI qq.2.2.1) (by rw [eV_16, mU_ne _ _ (by decide), eV_15, mU_no _ _ (by decide)]; exact hT2.2.1.1) ?_
                refine lv_isub hx hb dX11_text_154 ?_
                exact m_iret S hr hlk hW dX11_text_155 (by exact Or.inr (Or.inl ⟨qq.2.2.1, rfl, Or.inr ⟨q1, c1, ss, hP1, by rw [← hqq]; exact fun z => c_14 ((tk_00 _ htl).mpr z), by rw [hqq]⟩, hT2.2.1.2, by rw [eV_16, mU_eq], by rw [eV_16, eV_15]; exact (hX2.p207 _ _).p8, by rw [eV_16, mU_ne _ _ (by decide), eV_15, mU_no _ _ (by decide)]; exact (hX2.2.1 11 (by decide)).trans htn, c_1⟩))
            · skip
              refine lv_iconst (v := nI 1) hx hb dX11_text_116 (by decide) ?_
              refine lv_goto (tgt := 121) hx hb dX11_text_117 (by decide) ?_
              refine lv_istore_n (lv' := [(1, .int (nI 1)), (0, .ref (ad 200)), (2, .int (nI part))]) hx hb dX11_text_121 rfl hl (by decide) rfl (fun ls hl => ?_)
              refine lv_aload_n hx hb dX11_text_122 rfl (lv_at hl 1 rfl) ?_
              refine m_getr S hW hM.1 10 rfl (j := 207) rfl kX11 (iW11 _) (by decide) (List.mem_cons_of_mem _ (wa_11 _ (List.mem_of_getElem? (i := 8) (by decide +kernel)))) dX11_text_123 ?_
              refine lv_iconst (v := nI 4) hx hb dX11_text_126 (by decide) ?_
              refine lv_aload_n hx hb dX11_text_127 rfl (lv_at hl 1 rfl) ?_
              refine m_geti S hW hM.1 11 rfl kX11 (iW11 _) (by decide) (List.mem_cons_of_mem _ (wa_12 _ (List.mem_of_getElem? (i := 4) (by decide +kernel)))) dX11_text_128 ?_
              refine m_top (y := nI tn) hC2.2.2.2 ?_
              refine lv_imul hx hb dX11_text_131 ?_
              refine m_top (y := nI (4 * tn)) (pk_mul 4 tn) ?_
              refine lv_iconst (v := nI 3) hx hb dX11_text_132 (by decide) ?_
              refine lv_iadd hx hb dX11_text_133 ?_
              refine m_top (y := nI ((4 * tn) + 3)) (nI_add (4 * tn) 3) ?_
              refine lv_aload_n hx hb dX11_text_134 rfl (lv_at hl 1 rfl) ?_
              refine m_geti S hW hM.1 29 rfl kX11 (iW11 _) (by decide) (List.mem_cons_of_mem _ (wa_12 _ (List.mem_of_getElem? (i := 6) (by decide +kernel)))) dX11_text_135 ?_
              refine m_top (y := nI c1.length) hC2.1.1 ?_
              refine m_iast S hW hM.2.2.2.2.2.2.2.1 ((4 * tn) + 3) rfl (by omega) (by decide) dX11_text_138 (fun H locs hW => ?_)
              obtain ⟨V_18, eV_18⟩ : ∃ vv_ : mV, vv_ = mU V_9 207 ((4 * tn) + 3) (nI c1.length) := ⟨_, rfl⟩
              rw [← eV_18] at hW
              refine lv_aload_n hx hb dX11_text_139 rfl (lv_at hl 1 rfl) ?_
              refine lv_iconst (v := nI 0) hx hb dX11_text_140 (by decide) ?_
              refine m_puti S hW hM.1 8 rfl kX11 (iW11 _) tyX11 tyX11_ok nmX11 (by decide) (List.mem_cons_of_mem _ (wa_11 _ (List.mem_of_getElem? (i := 23) (by decide +kernel)))) (Or.inl rfl) rfl rfl dX11_text_141 (fun H locs hW => ?_)
              obtain ⟨V_19, eV_19⟩ : ∃ vv_ : mV, vv_ = mU V_18 200 8 (nI 0) := ⟨_, rfl⟩
              rw [← eV_19] at hW
              refine lv_iload_n hx hb dX11_text_144 rfl (lv_at hl 0 rfl) ?_
              refine m_if_ne (tgt := 156) hx hb dX11_text_145 (by decide) (fun c_20 => ?_) (fun c_20 => ?_)
              · skip
                refine lv_aload_n hx hb dX11_text_156 rfl (lv_at hl 1 rfl) ?_
                refine lv_dup hx hb dX11_text_157 rfl ?_
                refine m_geti S hW hM.1 11 rfl kX11 (iW11 _) (by decide) (List.mem_cons_of_mem _ (wa_12 _ (List.mem_of_getElem? (i := 4) (by decide +kernel)))) dX11_text_158 ?_
                refine m_top (y := nI tn) (by rw [eV_19, mU_ne _ _ (by decide), eV_18, mU_no _ _ (by decide)]; exact hC2.2.2.2) ?_
                refine lv_iconst (v := nI 1) hx hb dX11_text_161 (by decide) ?_
                refine lv_iadd hx hb dX11_text_162 ?_
                refine m_top (y := nI (tn + 1)) (nI_add tn 1) ?_
                refine m_puti S hW hM.1 11 rfl kX11 (iW11 _) tyX11 tyX11_ok nmX11 (by decide) (List.mem_cons_of_mem _ (wa_12 _ (List.mem_of_getElem? (i := 4) (by decide +kernel)))) (Or.inl rfl) rfl rfl dX11_text_163 (fun H locs hW => ?_)
                obtain ⟨V_21, eV_21⟩ : ∃ vv_ : mV, vv_ = mU V_19 200 11 (nI (tn + 1)) := ⟨_, rfl⟩
                rw [← eV_21] at hW
                refine lv_aload_n hx hb dX11_text_166 rfl (lv_at hl 1 rfl) ?_
                refine m_geti S hW hM.1 11 rfl kX11 (iW11 _) (by decide) (List.mem_cons_of_mem _ (wa_12 _ (List.mem_of_getElem? (i := 4) (by decide +kernel)))) dX11_text_167 ?_
                refine m_top (y := nI (tn + 1)) (by rw [eV_21, mU_eq]) ?_
                refine lv_iconst (v := nI 1) hx hb dX11_text_170 (by decide) ?_
                refine lv_isub hx hb dX11_text_171 ?_
                refine m_top (y := nI ((tn + 1) - 1)) (pk_sub (by omega)) ?_
                exact m_iret S hr hlk hW dX11_text_172 (by exact Or.inr (Or.inr ⟨q1, c1, ss, rfl, hP1, by rw [← hqq]; exact (tk_00 _ htl).mp c_14, .of hC2 hss2 (hssl.trans hp3) eV_18 eV_19 eV_21, by rw [eV_21, eV_19, eV_18]; exact ((hX2.p207 _ _).p8).p11 _, by rw [eV_21, mU_ne _ _ (by decide), eV_19, mU_eq], c_1⟩))
              · exact absurd c_20 (by decide)
        · skip
          have c_4 : ¬ 3 ≤ part := mt (nI_leI (by omega) (by omega)).mpr c_4
          refine lv_iload_n hx hb dX11_text_31 rfl (lv_at hl 1 rfl) ?_
          refine m_if_eq (tgt := 101) hx hb dX11_text_32 (by decide) (fun c_22 => ?_) (fun c_22 => ?_)
          · skip
            have c_22 : ok = 0 := (nI_eq (by omega) (by omega)).mp c_22
            refine lv_iload_n hx hb dX11_text_101 rfl (lv_at hl 1 rfl) ?_
            refine m_if_eq (tgt := 122) hx hb dX11_text_102 (by decide) (fun c_23 => ?_) (fun c_23 => ?_)
            · skip
              have c_23 : ok = 0 := (nI_eq (by omega) (by omega)).mp c_23
              refine lv_aload_n hx hb dX11_text_122 rfl (lv_at hl 0 rfl) ?_
              refine m_getr S hW hM.1 10 rfl (j := 207) rfl kX11 (iW11 _) (by decide) (List.mem_cons_of_mem _ (wa_11 _ (List.mem_of_getElem? (i := 8) (by decide +kernel)))) dX11_text_123 ?_
              refine lv_iconst (v := nI 4) hx hb dX11_text_126 (by decide) ?_
              refine lv_aload_n hx hb dX11_text_127 rfl (lv_at hl 0 rfl) ?_
              refine m_geti S hW hM.1 11 rfl kX11 (iW11 _) (by decide) (List.mem_cons_of_mem _ (wa_12 _ (List.mem_of_getElem? (i := 4) (by decide +kernel)))) dX11_text_128 ?_
              refine m_top (y := nI tn) ((hX.2.1 11 (by decide)).trans htn) ?_
              refine lv_imul hx hb dX11_text_131 ?_
              refine m_top (y := nI (4 * tn)) (pk_mul 4 tn) ?_
              refine lv_iconst (v := nI 3) hx hb dX11_text_132 (by decide) ?_
              refine lv_iadd hx hb dX11_text_133 ?_
              refine m_top (y := nI ((4 * tn) + 3)) (nI_add (4 * tn) 3) ?_
              refine lv_aload_n hx hb dX11_text_134 rfl (lv_at hl 0 rfl) ?_
              refine m_geti S hW hM.1 29 rfl kX11 (iW11 _) (by decide) (List.mem_cons_of_mem _ (wa_12 _ (List.mem_of_getElem? (i := 6) (by decide +kernel)))) dX11_text_135 ?_
              refine m_iast S hW hM.2.2.2.2.2.2.2.1 ((4 * tn) + 3) rfl (by omega) (by decide) dX11_text_138 (fun H locs hW => ?_)
              obtain ⟨V_24, eV_24⟩ : ∃ vv_ : mV, vv_ = mU V1 207 ((4 * tn) + 3) (V1 200 29) := ⟨_, rfl⟩
              rw [← eV_24] at hW
              refine lv_aload_n hx hb dX11_text_139 rfl (lv_at hl 0 rfl) ?_
              refine lv_iconst (v := nI 0) hx hb dX11_text_140 (by decide) ?_
              refine m_puti S hW hM.1 8 rfl kX11 (iW11 _) tyX11 tyX11_ok nmX11 (by decide) (List.mem_cons_of_mem _ (wa_11 _ (List.mem_of_getElem? (i := 23) (by decide +kernel)))) (Or.inl rfl) rfl rfl dX11_text_141 (fun H locs hW => ?_)
              obtain ⟨V_25, eV_25⟩ : ∃ vv_ : mV, vv_ = mU V_24 200 8 (nI 0) := ⟨_, rfl⟩
              rw [← eV_25] at hW
              refine lv_iload_n hx hb dX11_text_144 rfl (lv_at hl 1 rfl) ?_
              refine m_if_ne (tgt := 156) hx hb dX11_text_145 (by decide) (fun c_26 => ?_) (fun c_26 => ?_)
              · skip
                have c_26 : ¬ ok = 0 := mt (nI_eq (by omega) (by omega)).mpr c_26
                exfalso; omega
              · skip
                have c_26 : ok = 0 := (nI_eq (by omega) (by omega)).mp c_26
                refine lv_bipush (v := -100) hx hb dX11_text_148 (by decide) ?_
                refine lv_aload_n hx hb dX11_text_150 rfl (lv_at hl 0 rfl) ?_
                refine m_geti S hW hM.1 22 rfl kX11 (iW11 _) (by decide) (List.mem_cons_of_mem _ (wa_12 _ (List.mem_of_getElem? (i := 9) (by decide +kernel)))) dX11_text_151 ?_
                refine m_top (y := nI q1.2.2.1) (by rw [eV_25, mU_ne _ _ (by decide), eV_24, mU_no _ _ (by decide)]; exact (hN (by omega)).2.1) ?_
                refine lv_isub hx hb dX11_text_154 ?_
                exact m_iret S hr hlk hW dX11_text_155 (by exact Or.inr (Or.inl ⟨q1.2.2.1, rfl, (hN (by omega)).1, (hN (by omega)).2.2, by rw [eV_25, mU_eq], by rw [eV_25, eV_24]; exact (hX.p207 _ _).p8, by rw [eV_25, mU_ne _ _ (by decide), eV_24, mU_no _ _ (by decide)]; exact (hX.2.1 11 (by decide)).trans htn, c_1⟩))
            · skip
              have c_23 : ¬ ok = 0 := mt (nI_eq (by omega) (by omega)).mpr c_23
              have hp3 : part = 3 := by omega
              have hok2 : ok = 1 := by omega
              obtain ⟨hP1, hC1, ⟨hc1q, ht21, hqs1⟩, hss1, hssl⟩ := hP hok2
              rw [hp3] at hP1
              refine lv_aload_n hx hb dX11_text_105 rfl (lv_at hl 0 rfl) ?_
              refine m_cv (m_rV S hW (c_X11_next l G ad sh V1 sz B q1 hM ((hX.1 205 (by decide) (by decide) (by decide) (by decide)).trans hB) ((hX.2.1 8 (by decide)).trans hsz) (by first | assumption | omega) (fun k hk => by rw [hX.1 215 (by decide) (by decide) (by decide) (by decide)]; exact hwd k hk) ht21 hqs1) (cwV 0 hts (gCall [.methodLink RX11 143 yX11_next, .instanceMethod yX11_next, .selects RX11 yX11_next yX11_next, .initialized RX11] (List.forall_mem_cons.mpr ⟨(wa_12 _ (List.mem_of_getElem? (i := 13) (by decide +kernel))), (List.forall_mem_cons.mpr ⟨(wa_12 _ (List.mem_of_getElem? (i := 10) (by decide +kernel))), (List.forall_mem_cons.mpr ⟨(wa_12 _ (List.mem_of_getElem? (i := 11) (by decide +kernel))), (List.forall_mem_cons.mpr ⟨(wa_12 _ (List.mem_of_getElem? (i := 12) (by decide +kernel))), (List.forall_mem_cons.mpr ⟨(wa_1 _ (List.mem_of_getElem? (i := 5) (by decide +kernel))), (fun _ h => absurd h List.not_mem_nil)⟩)⟩)⟩)⟩)⟩)) rfl rfl rfl (by decide +kernel) ⟨Nat.le_of_ble_eq_true rfl, Nat.le_of_ble_eq_true rfl⟩) hM.1 kX11 rfl hl.1 rfl (Nat.le_of_ble_eq_true rfl) dX11_text_106 ⟨Nat.le_of_ble_eq_true rfl, Nat.le_of_ble_eq_true rfl⟩) hW (fun V_27 H locs hp_28 hW => ?_)
              obtain ⟨hT_30, hF_31⟩ := hp_28
              obtain ⟨qq, hqq⟩ : ∃ vv_ : pS, vv_ = pAdv B sz q1 := ⟨_, rfl⟩
              have htl := pAdv_tk B sz q1
              have hadv := pAdv_lt (B := B) hqs1
              rw [← hqq] at hT_30 htl hadv
              have hT2 := hT_30
              have hC2 : CdOk V_27 tn c1 := hC1.of (hF_31.2 29 (by decide)) (hF_31.1 206 (by decide)) (hF_31.2 11 (by decide))
              have hX2 := hX.trans (hF_31.ef (tn := tn)).x
              have hss2 : SsOk V_27 tn ss := hss1.of (hF_31.1 207 (by decide))
              have hC2l := hC2.2.1
              have htn6 := hC2.2.2.1
              refine lv_aload_n hx hb dX11_text_109 rfl (lv_at hl 0 rfl) ?_
              refine m_geti S hW hM.1 23 rfl kX11 (iW11 _) (by decide) (List.mem_cons_of_mem _ (wa_12 _ (List.mem_of_getElem? (i := 7) (by decide +kernel)))) dX11_text_110 ?_
              refine m_top (y := mTk qq.2.1) hT2.2.2.1 ?_
              refine m_if_ne (tgt := 120) hx hb dX11_text_113 (by decide) (fun c_32 => ?_) (fun c_32 => ?_)
              · skip
                refine lv_iconst (v := nI 0) hx hb dX11_text_120 (by decide) ?_
                refine lv_istore_n (lv' := [(1, .int (nI 0)), (0, .ref (ad 200)), (2, .int (nI part))]) hx hb dX11_text_121 rfl hl (by decide) rfl (fun ls hl => ?_)
                refine lv_aload_n hx hb dX11_text_122 rfl (lv_at hl 1 rfl) ?_
                refine m_getr S hW hM.1 10 rfl (j := 207) rfl kX11 (iW11 _) (by decide) (List.mem_cons_of_mem _ (wa_11 _ (List.mem_of_getElem? (i := 8) (by decide +kernel)))) dX11_text_123 ?_
                refine lv_iconst (v := nI 4) hx hb dX11_text_126 (by decide) ?_
                refine lv_aload_n hx hb dX11_text_127 rfl (lv_at hl 1 rfl) ?_
                refine m_geti S hW hM.1 11 rfl kX11 (iW11 _) (by decide) (List.mem_cons_of_mem _ (wa_12 _ (List.mem_of_getElem? (i := 4) (by decide +kernel)))) dX11_text_128 ?_
                refine m_top (y := nI tn) hC2.2.2.2 ?_
                refine lv_imul hx hb dX11_text_131 ?_
                refine m_top (y := nI (4 * tn)) (pk_mul 4 tn) ?_
                refine lv_iconst (v := nI 3) hx hb dX11_text_132 (by decide) ?_
                refine lv_iadd hx hb dX11_text_133 ?_
                refine m_top (y := nI ((4 * tn) + 3)) (nI_add (4 * tn) 3) ?_
                refine lv_aload_n hx hb dX11_text_134 rfl (lv_at hl 1 rfl) ?_
                refine m_geti S hW hM.1 29 rfl kX11 (iW11 _) (by decide) (List.mem_cons_of_mem _ (wa_12 _ (List.mem_of_getElem? (i := 6) (by decide +kernel)))) dX11_text_135 ?_
                refine m_top (y := nI c1.length) hC2.1.1 ?_
                refine m_iast S hW hM.2.2.2.2.2.2.2.1 ((4 * tn) + 3) rfl (by omega) (by decide) dX11_text_138 (fun H locs hW => ?_)
                obtain ⟨V_33, eV_33⟩ : ∃ vv_ : mV, vv_ = mU V_27 207 ((4 * tn) + 3) (nI c1.length) := ⟨_, rfl⟩
                rw [← eV_33] at hW
                refine lv_aload_n hx hb dX11_text_139 rfl (lv_at hl 1 rfl) ?_
                refine lv_iconst (v := nI 0) hx hb dX11_text_140 (by decide) ?_
                refine m_puti S hW hM.1 8 rfl kX11 (iW11 _) tyX11 tyX11_ok nmX11 (by decide) (List.mem_cons_of_mem _ (wa_11 _ (List.mem_of_getElem? (i := 23) (by decide +kernel)))) (Or.inl rfl) rfl rfl dX11_text_141 (fun H locs hW => ?_)
                obtain ⟨V_34, eV_34⟩ : ∃ vv_ : mV, vv_ = mU V_33 200 8 (nI 0) := ⟨_, rfl⟩
                rw [← eV_34] at hW
                refine lv_iload_n hx hb dX11_text_144 rfl (lv_at hl 0 rfl) ?_
                refine m_if_ne (tgt := 156) hx hb dX11_text_145 (by decide) (fun c_35 => ?_) (fun c_35 => ?_)
                · exact absurd c_35 (by decide)
                · skip
                  refine lv_bipush (v := -100) hx hb dX11_text_148 (by decide) ?_
                  refine lv_aload_n hx hb dX11_text_150 rfl (lv_at hl 1 rfl) ?_
                  refine m_geti S hW hM.1 22 rfl kX11 (iW11 _) (by decide) (List.mem_cons_of_mem _ (wa_12 _ (List.mem_of_getElem? (i := 9) (by decide +kernel)))) dX11_text_151 ?_
                  refine m_top (y := nI qq.2.2.1) (by rw [eV_34, mU_ne _ _ (by decide), eV_33, mU_no _ _ (by decide)]; exact hT2.2.1.1) ?_
                  refine lv_isub hx hb dX11_text_154 ?_
                  exact m_iret S hr hlk hW dX11_text_155 (by exact Or.inr (Or.inl ⟨qq.2.2.1, rfl, Or.inr ⟨q1, c1, ss, hP1, by rw [← hqq]; exact fun z => c_32 ((tk_00 _ htl).mpr z), by rw [hqq]⟩, hT2.2.1.2, by rw [eV_34, mU_eq], by rw [eV_34, eV_33]; exact (hX2.p207 _ _).p8, by rw [eV_34, mU_ne _ _ (by decide), eV_33, mU_no _ _ (by decide)]; exact (hX2.2.1 11 (by decide)).trans htn, c_1⟩))
              · skip
                refine lv_iconst (v := nI 1) hx hb dX11_text_116 (by decide) ?_
                refine lv_goto (tgt := 121) hx hb dX11_text_117 (by decide) ?_
                refine lv_istore_n (lv' := [(1, .int (nI 1)), (0, .ref (ad 200)), (2, .int (nI part))]) hx hb dX11_text_121 rfl hl (by decide) rfl (fun ls hl => ?_)
                refine lv_aload_n hx hb dX11_text_122 rfl (lv_at hl 1 rfl) ?_
                refine m_getr S hW hM.1 10 rfl (j := 207) rfl kX11 (iW11 _) (by decide) (List.mem_cons_of_mem _ (wa_11 _ (List.mem_of_getElem? (i := 8) (by decide +kernel)))) dX11_text_123 ?_
                refine lv_iconst (v := nI 4) hx hb dX11_text_126 (by decide) ?_
                refine lv_aload_n hx hb dX11_text_127 rfl (lv_at hl 1 rfl) ?_
                refine m_geti S hW hM.1 11 rfl kX11 (iW11 _) (by decide) (List.mem_cons_of_mem _ (wa_12 _ (List.mem_of_getElem? (i := 4) (by decide +kernel)))) dX11_text_128 ?_
                refine m_top (y := nI tn) hC2.2.2.2 ?_
                refine lv_imul hx hb dX11_text_131 ?_
                refine m_top (y := nI (4 * tn)) (pk_mul 4 tn) ?_
                refine lv_iconst (v := nI 3) hx hb dX11_text_132 (by decide) ?_
                refine lv_iadd hx hb dX11_text_133 ?_
                refine m_top (y := nI ((4 * tn) + 3)) (nI_add (4 * tn) 3) ?_
                refine lv_aload_n hx hb dX11_text_134 rfl (lv_at hl 1 rfl) ?_
                refine m_geti S hW hM.1 29 rfl kX11 (iW11 _) (by decide) (List.mem_cons_of_mem _ (wa_12 _ (List.mem_of_getElem? (i := 6) (by decide +kernel)))) dX11_text_135 ?_
                refine m_top (y := nI c1.length) hC2.1.1 ?_
                refine m_iast S hW hM.2.2.2.2.2.2.2.1 ((4 * tn) + 3) rfl (by omega) (by decide) dX11_text_138 (fun H locs hW => ?_)
                obtain ⟨V_36, eV_36⟩ : ∃ vv_ : mV, vv_ = mU V_27 207 ((4 * tn) + 3) (nI c1.length) := ⟨_, rfl⟩
                rw [← eV_36] at hW
                refine lv_aload_n hx hb dX11_text_139 rfl (lv_at hl 1 rfl) ?_
                refine lv_iconst (v := nI 0) hx hb dX11_text_140 (by decide) ?_
                refine m_puti S hW hM.1 8 rfl kX11 (iW11 _) tyX11 tyX11_ok nmX11 (by decide) (List.mem_cons_of_mem _ (wa_11 _ (List.mem_of_getElem? (i := 23) (by decide +kernel)))) (Or.inl rfl) rfl rfl dX11_text_141 (fun H locs hW => ?_)
                obtain ⟨V_37, eV_37⟩ : ∃ vv_ : mV, vv_ = mU V_36 200 8 (nI 0) := ⟨_, rfl⟩
                rw [← eV_37] at hW
                refine lv_iload_n hx hb dX11_text_144 rfl (lv_at hl 0 rfl) ?_
                refine m_if_ne (tgt := 156) hx hb dX11_text_145 (by decide) (fun c_38 => ?_) (fun c_38 => ?_)
                · skip
                  refine lv_aload_n hx hb dX11_text_156 rfl (lv_at hl 1 rfl) ?_
                  refine lv_dup hx hb dX11_text_157 rfl ?_
                  refine m_geti S hW hM.1 11 rfl kX11 (iW11 _) (by decide) (List.mem_cons_of_mem _ (wa_12 _ (List.mem_of_getElem? (i := 4) (by decide +kernel)))) dX11_text_158 ?_
                  refine m_top (y := nI tn) (by rw [eV_37, mU_ne _ _ (by decide), eV_36, mU_no _ _ (by decide)]; exact hC2.2.2.2) ?_
                  refine lv_iconst (v := nI 1) hx hb dX11_text_161 (by decide) ?_
                  refine lv_iadd hx hb dX11_text_162 ?_
                  refine m_top (y := nI (tn + 1)) (nI_add tn 1) ?_
                  refine m_puti S hW hM.1 11 rfl kX11 (iW11 _) tyX11 tyX11_ok nmX11 (by decide) (List.mem_cons_of_mem _ (wa_12 _ (List.mem_of_getElem? (i := 4) (by decide +kernel)))) (Or.inl rfl) rfl rfl dX11_text_163 (fun H locs hW => ?_)
                  obtain ⟨V_39, eV_39⟩ : ∃ vv_ : mV, vv_ = mU V_37 200 11 (nI (tn + 1)) := ⟨_, rfl⟩
                  rw [← eV_39] at hW
                  refine lv_aload_n hx hb dX11_text_166 rfl (lv_at hl 1 rfl) ?_
                  refine m_geti S hW hM.1 11 rfl kX11 (iW11 _) (by decide) (List.mem_cons_of_mem _ (wa_12 _ (List.mem_of_getElem? (i := 4) (by decide +kernel)))) dX11_text_167 ?_
                  refine m_top (y := nI (tn + 1)) (by rw [eV_39, mU_eq]) ?_
                  refine lv_iconst (v := nI 1) hx hb dX11_text_170 (by decide) ?_
                  refine lv_isub hx hb dX11_text_171 ?_
                  refine m_top (y := nI ((tn + 1) - 1)) (pk_sub (by omega)) ?_
                  exact m_iret S hr hlk hW dX11_text_172 (by exact Or.inr (Or.inr ⟨q1, c1, ss, rfl, hP1, by rw [← hqq]; exact (tk_00 _ htl).mp c_32, .of hC2 hss2 (hssl.trans hp3) eV_36 eV_37 eV_39, by rw [eV_39, eV_37, eV_36]; exact ((hX2.p207 _ _).p8).p11 _, by rw [eV_39, mU_ne _ _ (by decide), eV_37, mU_eq], c_1⟩))
                · exact absurd c_38 (by decide)
          · skip
            have c_22 : ¬ ok = 0 := mt (nI_eq (by omega) (by omega)).mpr c_22
            have hok2 : ok = 1 := by omega
            obtain ⟨hP1, hC1, ⟨hc1q, ht21, hqs1⟩, hss1, hssl⟩ := hP hok2
            refine lv_aload_n hx hb dX11_text_35 rfl (lv_at hl 0 rfl) ?_
            refine m_cv (m_rV S hW (c_X11_next l G ad sh V1 sz B q1 hM ((hX.1 205 (by decide) (by decide) (by decide) (by decide)).trans hB) ((hX.2.1 8 (by decide)).trans hsz) (by first | assumption | omega) (fun k hk => by rw [hX.1 215 (by decide) (by decide) (by decide) (by decide)]; exact hwd k hk) ht21 hqs1) (cwV 0 hts (gCall [.methodLink RX11 143 yX11_next, .instanceMethod yX11_next, .selects RX11 yX11_next yX11_next, .initialized RX11] (List.forall_mem_cons.mpr ⟨(wa_12 _ (List.mem_of_getElem? (i := 13) (by decide +kernel))), (List.forall_mem_cons.mpr ⟨(wa_12 _ (List.mem_of_getElem? (i := 10) (by decide +kernel))), (List.forall_mem_cons.mpr ⟨(wa_12 _ (List.mem_of_getElem? (i := 11) (by decide +kernel))), (List.forall_mem_cons.mpr ⟨(wa_12 _ (List.mem_of_getElem? (i := 12) (by decide +kernel))), (List.forall_mem_cons.mpr ⟨(wa_1 _ (List.mem_of_getElem? (i := 5) (by decide +kernel))), (fun _ h => absurd h List.not_mem_nil)⟩)⟩)⟩)⟩)⟩)) rfl rfl rfl (by decide +kernel) ⟨Nat.le_of_ble_eq_true rfl, Nat.le_of_ble_eq_true rfl⟩) hM.1 kX11 rfl hl.1 rfl (Nat.le_of_ble_eq_true rfl) dX11_text_36 ⟨Nat.le_of_ble_eq_true rfl, Nat.le_of_ble_eq_true rfl⟩) hW (fun V_40 H locs hp_41 hW => ?_)
            obtain ⟨hT_43, hF_44⟩ := hp_41
            obtain ⟨qq, hqq⟩ : ∃ vv_ : pS, vv_ = pAdv B sz q1 := ⟨_, rfl⟩
            have htl := pAdv_tk B sz q1
            have hadv := pAdv_lt (B := B) hqs1
            rw [← hqq] at hT_43 htl hadv
            have hT2 := hT_43
            have hC2 : CdOk V_40 tn c1 := hC1.of (hF_44.2 29 (by decide)) (hF_44.1 206 (by decide)) (hF_44.2 11 (by decide))
            have hX2 := hX.trans (hF_44.ef (tn := tn)).x
            have hss2 : SsOk V_40 tn ss := hss1.of (hF_44.1 207 (by decide))
            have hC2l := hC2.2.1
            have htn6 := hC2.2.2.1
            refine lv_aload_n hx hb dX11_text_39 rfl (lv_at hl 0 rfl) ?_
            refine m_geti S hW hM.1 23 rfl kX11 (iW11 _) (by decide) (List.mem_cons_of_mem _ (wa_12 _ (List.mem_of_getElem? (i := 7) (by decide +kernel)))) dX11_text_40 ?_
            refine m_top (y := mTk qq.2.1) hT2.2.2.1 ?_
            refine lv_iconst (v := nI 3) hx hb dX11_text_43 (by decide) ?_
            refine lv_icmp_ne (tgt := 59) hx hb dX11_text_44 (by decide) (fun c_45 => ?_) (fun c_45 => ?_)
            · skip
              have htw : ¬ qq.2.1 = nI (8 + part) := tk_w3n _ htl c_45 part (by omega)
              refine lv_iconst (v := nI 0) hx hb dX11_text_59 (by decide) ?_
              refine lv_istore_n (lv' := [(1, .int (nI 0)), (0, .ref (ad 200)), (2, .int (nI part))]) hx hb dX11_text_60 rfl hl (by decide) rfl (fun ls hl => ?_)
              refine lv_aload_n hx hb dX11_text_61 rfl (lv_at hl 1 rfl) ?_
              refine m_getr S hW hM.1 10 rfl (j := 207) rfl kX11 (iW11 _) (by decide) (List.mem_cons_of_mem _ (wa_11 _ (List.mem_of_getElem? (i := 8) (by decide +kernel)))) dX11_text_62 ?_
              refine lv_iconst (v := nI 4) hx hb dX11_text_65 (by decide) ?_
              refine lv_aload_n hx hb dX11_text_66 rfl (lv_at hl 1 rfl) ?_
              refine m_geti S hW hM.1 11 rfl kX11 (iW11 _) (by decide) (List.mem_cons_of_mem _ (wa_12 _ (List.mem_of_getElem? (i := 4) (by decide +kernel)))) dX11_text_67 ?_
              refine m_top (y := nI tn) hC2.2.2.2 ?_
              refine lv_imul hx hb dX11_text_70 ?_
              refine m_top (y := nI (4 * tn)) (pk_mul 4 tn) ?_
              refine lv_iload_n hx hb dX11_text_71 rfl (lv_at hl 2 rfl) ?_
              refine lv_iadd hx hb dX11_text_72 ?_
              refine m_top (y := nI ((4 * tn) + part)) (nI_add (4 * tn) part) ?_
              refine lv_aload_n hx hb dX11_text_73 rfl (lv_at hl 1 rfl) ?_
              refine m_geti S hW hM.1 29 rfl kX11 (iW11 _) (by decide) (List.mem_cons_of_mem _ (wa_12 _ (List.mem_of_getElem? (i := 6) (by decide +kernel)))) dX11_text_74 ?_
              refine m_top (y := nI c1.length) hC2.1.1 ?_
              refine m_iast S hW hM.2.2.2.2.2.2.2.1 ((4 * tn) + part) rfl (by omega) (by decide) dX11_text_77 (fun H locs hW => ?_)
              obtain ⟨V_46, eV_46⟩ : ∃ vv_ : mV, vv_ = mU V_40 207 ((4 * tn) + part) (nI c1.length) := ⟨_, rfl⟩
              rw [← eV_46] at hW
              have hX3 : XFr tn V V_46 := by rw [eV_46]; exact hX2.p207 _ _
              have hC3 : CdOk V_46 tn c1 := by rw [eV_46]; exact hC2.of (by rw [mU_no _ _ (by decide)]) (by rw [mU_no _ _ (by decide)]) (by rw [mU_no _ _ (by decide)])
              have hss3 : SsOk V_46 tn (ss ++ [c1.length]) := by rw [eV_46]; exact hss2.s (by rw [hssl])
              have hT3 : V_46 200 21 = nI qq.1 ∧ V_46 200 22 = nI qq.2.2.1 := by rw [eV_46, mU_no _ _ (by decide)]; exact ⟨hT2.1.1, hT2.2.1.1⟩
              refine lv_iload_n hx hb dX11_text_78 rfl (lv_at hl 0 rfl) ?_
              refine m_if_eq (tgt := 93) hx hb dX11_text_79 (by decide) (fun c_47 => ?_) (fun c_47 => ?_)
              · skip
                refine lv_iconst (v := nI 0) hx hb dX11_text_93 (by decide) ?_
                refine lv_istore_n (lv' := [(1, .int (nI 0)), (0, .ref (ad 200)), (2, .int (nI part))]) hx hb dX11_text_94 rfl hl (by decide) rfl (fun ls hl => ?_)
                refine lv_iinc (v := nI (part + 1)) (lv' := [(2, .int (nI (part + 1))), (1, .int (nI 0)), (0, .ref (ad 200))]) hx hb dX11_text_95 hl (k := 2) rfl (m_inc part 1) (by decide) rfl (fun ls hl => ?_)
                refine lv_goto (tgt := 26) hx hb dX11_text_98 (by decide) ?_
                exact ih_26  0 (part + 1) qq ([]) ([]) V_46 _ _ _ (by omega) (by omega) (by exact fun z => absurd z (by decide)) (by exact fun _ => ⟨Or.inl ⟨part, q1, c1, ss, by omega, hP1, Or.inl ⟨by rw [← hqq]; exact htw, by rw [hqq]⟩⟩, hT3.2, hT2.2.1.2⟩) (by exact hX3) (by omega) hW (lv_sub hl [2, 1, 0] rfl)
              · exact absurd c_47 (by decide)
            · skip
              have htk3 := tk_l3 _ htl c_45
              refine lv_aload_n hx hb dX11_text_47 rfl (lv_at hl 0 rfl) ?_
              refine m_geti S hW hM.1 24 rfl kX11 (iW11 _) (by decide) (List.mem_cons_of_mem _ (wa_12 _ (List.mem_of_getElem? (i := 8) (by decide +kernel)))) dX11_text_48 ?_
              refine m_top (y := nI (tkn (mVl qq.2.1))) (by rw [hT2.2.2.2.2 (tk_l3 _ htl c_45).1]; exact (tk_l3 _ htl c_45).2.1) ?_
              refine lv_iload_n hx hb dX11_text_51 rfl (lv_at hl 2 rfl) ?_
              refine lv_icmp_ne (tgt := 59) hx hb dX11_text_52 (by decide) (fun c_48 => ?_) (fun c_48 => ?_)
              · skip
                have c_48 : ¬ (tkn (mVl qq.2.1)) = part := mt (nI_eq (by omega) (by omega)).mpr c_48
                have htw : ¬ qq.2.1 = nI (8 + part) := fun z => c_48 ((tk_w3 _ htl c_45 part (by omega)).mpr z)
                refine lv_iconst (v := nI 0) hx hb dX11_text_59 (by decide) ?_
                refine lv_istore_n (lv' := [(1, .int (nI 0)), (0, .ref (ad 200)), (2, .int (nI part))]) hx hb dX11_text_60 rfl hl (by decide) rfl (fun ls hl => ?_)
                refine lv_aload_n hx hb dX11_text_61 rfl (lv_at hl 1 rfl) ?_
                refine m_getr S hW hM.1 10 rfl (j := 207) rfl kX11 (iW11 _) (by decide) (List.mem_cons_of_mem _ (wa_11 _ (List.mem_of_getElem? (i := 8) (by decide +kernel)))) dX11_text_62 ?_
                refine lv_iconst (v := nI 4) hx hb dX11_text_65 (by decide) ?_
                refine lv_aload_n hx hb dX11_text_66 rfl (lv_at hl 1 rfl) ?_
                refine m_geti S hW hM.1 11 rfl kX11 (iW11 _) (by decide) (List.mem_cons_of_mem _ (wa_12 _ (List.mem_of_getElem? (i := 4) (by decide +kernel)))) dX11_text_67 ?_
                refine m_top (y := nI tn) hC2.2.2.2 ?_
                refine lv_imul hx hb dX11_text_70 ?_
                refine m_top (y := nI (4 * tn)) (pk_mul 4 tn) ?_
                refine lv_iload_n hx hb dX11_text_71 rfl (lv_at hl 2 rfl) ?_
                refine lv_iadd hx hb dX11_text_72 ?_
                refine m_top (y := nI ((4 * tn) + part)) (nI_add (4 * tn) part) ?_
                refine lv_aload_n hx hb dX11_text_73 rfl (lv_at hl 1 rfl) ?_
                refine m_geti S hW hM.1 29 rfl kX11 (iW11 _) (by decide) (List.mem_cons_of_mem _ (wa_12 _ (List.mem_of_getElem? (i := 6) (by decide +kernel)))) dX11_text_74 ?_
                refine m_top (y := nI c1.length) hC2.1.1 ?_
                refine m_iast S hW hM.2.2.2.2.2.2.2.1 ((4 * tn) + part) rfl (by omega) (by decide) dX11_text_77 (fun H locs hW => ?_)
                obtain ⟨V_49, eV_49⟩ : ∃ vv_ : mV, vv_ = mU V_40 207 ((4 * tn) + part) (nI c1.length) := ⟨_, rfl⟩
                rw [← eV_49] at hW
                have hX3 : XFr tn V V_49 := by rw [eV_49]; exact hX2.p207 _ _
                have hC3 : CdOk V_49 tn c1 := by rw [eV_49]; exact hC2.of (by rw [mU_no _ _ (by decide)]) (by rw [mU_no _ _ (by decide)]) (by rw [mU_no _ _ (by decide)])
                have hss3 : SsOk V_49 tn (ss ++ [c1.length]) := by rw [eV_49]; exact hss2.s (by rw [hssl])
                have hT3 : V_49 200 21 = nI qq.1 ∧ V_49 200 22 = nI qq.2.2.1 := by rw [eV_49, mU_no _ _ (by decide)]; exact ⟨hT2.1.1, hT2.2.1.1⟩
                refine lv_iload_n hx hb dX11_text_78 rfl (lv_at hl 0 rfl) ?_
                refine m_if_eq (tgt := 93) hx hb dX11_text_79 (by decide) (fun c_50 => ?_) (fun c_50 => ?_)
                · skip
                  refine lv_iconst (v := nI 0) hx hb dX11_text_93 (by decide) ?_
                  refine lv_istore_n (lv' := [(1, .int (nI 0)), (0, .ref (ad 200)), (2, .int (nI part))]) hx hb dX11_text_94 rfl hl (by decide) rfl (fun ls hl => ?_)
                  refine lv_iinc (v := nI (part + 1)) (lv' := [(2, .int (nI (part + 1))), (1, .int (nI 0)), (0, .ref (ad 200))]) hx hb dX11_text_95 hl (k := 2) rfl (m_inc part 1) (by decide) rfl (fun ls hl => ?_)
                  refine lv_goto (tgt := 26) hx hb dX11_text_98 (by decide) ?_
                  exact ih_26  0 (part + 1) qq ([]) ([]) V_49 _ _ _ (by omega) (by omega) (by exact fun z => absurd z (by decide)) (by exact fun _ => ⟨Or.inl ⟨part, q1, c1, ss, by omega, hP1, Or.inl ⟨by rw [← hqq]; exact htw, by rw [hqq]⟩⟩, hT3.2, hT2.2.1.2⟩) (by exact hX3) (by omega) hW (lv_sub hl [2, 1, 0] rfl)
                · exact absurd c_50 (by decide)
              · skip
                have c_48 : (tkn (mVl qq.2.1)) = part := (nI_eq (by omega) (by omega)).mp c_48
                have htw : qq.2.1 = nI (8 + part) := (tk_w3 _ htl c_45 part (by omega)).mp c_48
                refine lv_iconst (v := nI 1) hx hb dX11_text_55 (by decide) ?_
                refine lv_goto (tgt := 60) hx hb dX11_text_56 (by decide) ?_
                refine lv_istore_n (lv' := [(1, .int (nI 1)), (0, .ref (ad 200)), (2, .int (nI part))]) hx hb dX11_text_60 rfl hl (by decide) rfl (fun ls hl => ?_)
                refine lv_aload_n hx hb dX11_text_61 rfl (lv_at hl 1 rfl) ?_
                refine m_getr S hW hM.1 10 rfl (j := 207) rfl kX11 (iW11 _) (by decide) (List.mem_cons_of_mem _ (wa_11 _ (List.mem_of_getElem? (i := 8) (by decide +kernel)))) dX11_text_62 ?_
                refine lv_iconst (v := nI 4) hx hb dX11_text_65 (by decide) ?_
                refine lv_aload_n hx hb dX11_text_66 rfl (lv_at hl 1 rfl) ?_
                refine m_geti S hW hM.1 11 rfl kX11 (iW11 _) (by decide) (List.mem_cons_of_mem _ (wa_12 _ (List.mem_of_getElem? (i := 4) (by decide +kernel)))) dX11_text_67 ?_
                refine m_top (y := nI tn) hC2.2.2.2 ?_
                refine lv_imul hx hb dX11_text_70 ?_
                refine m_top (y := nI (4 * tn)) (pk_mul 4 tn) ?_
                refine lv_iload_n hx hb dX11_text_71 rfl (lv_at hl 2 rfl) ?_
                refine lv_iadd hx hb dX11_text_72 ?_
                refine m_top (y := nI ((4 * tn) + part)) (nI_add (4 * tn) part) ?_
                refine lv_aload_n hx hb dX11_text_73 rfl (lv_at hl 1 rfl) ?_
                refine m_geti S hW hM.1 29 rfl kX11 (iW11 _) (by decide) (List.mem_cons_of_mem _ (wa_12 _ (List.mem_of_getElem? (i := 6) (by decide +kernel)))) dX11_text_74 ?_
                refine m_top (y := nI c1.length) hC2.1.1 ?_
                refine m_iast S hW hM.2.2.2.2.2.2.2.1 ((4 * tn) + part) rfl (by omega) (by decide) dX11_text_77 (fun H locs hW => ?_)
                obtain ⟨V_51, eV_51⟩ : ∃ vv_ : mV, vv_ = mU V_40 207 ((4 * tn) + part) (nI c1.length) := ⟨_, rfl⟩
                rw [← eV_51] at hW
                have hX3 : XFr tn V V_51 := by rw [eV_51]; exact hX2.p207 _ _
                have hC3 : CdOk V_51 tn c1 := by rw [eV_51]; exact hC2.of (by rw [mU_no _ _ (by decide)]) (by rw [mU_no _ _ (by decide)]) (by rw [mU_no _ _ (by decide)])
                have hss3 : SsOk V_51 tn (ss ++ [c1.length]) := by rw [eV_51]; exact hss2.s (by rw [hssl])
                have hT3 : V_51 200 21 = nI qq.1 ∧ V_51 200 22 = nI qq.2.2.1 := by rw [eV_51, mU_no _ _ (by decide)]; exact ⟨hT2.1.1, hT2.2.1.1⟩
                have h9 := hadv (fun z => absurd (((tk_00 _ htl).mp z).symm.trans htw) (m_ne08 (by omega)))
                refine lv_iload_n hx hb dX11_text_78 rfl (lv_at hl 0 rfl) ?_
                refine m_if_eq (tgt := 93) hx hb dX11_text_79 (by decide) (fun c_52 => ?_) (fun c_52 => ?_)
                · exact absurd c_52 (by decide)
                · skip
                  refine lv_aload_n hx hb dX11_text_82 rfl (lv_at hl 1 rfl) ?_
                  refine m_ci (m_rV S hW (c_X11_eRead l G ad sh V_51 sz B qq tn c1 hM ((hX3.1 205 (by decide) (by decide) (by decide) (by decide)).trans hB) ((hX3.2.1 8 (by decide)).trans hsz) (by first | assumption | omega) (fun k hk => by rw [hX3.1 215 (by decide) (by decide) (by decide) (by decide)]; exact hwd k hk) hT3.1 hT2.1.2 hC3 (by omega)) (cwV 0 hts (gCall [.methodLink RX11 156 yX11_eRead, .instanceMethod yX11_eRead, .selects RX11 yX11_eRead yX11_eRead, .initialized RX11] (List.forall_mem_cons.mpr ⟨(wa_13 _ (List.mem_of_getElem? (i := 0) (by decide +kernel))), (List.forall_mem_cons.mpr ⟨(wa_12 _ (List.mem_of_getElem? (i := 21) (by decide +kernel))), (List.forall_mem_cons.mpr ⟨(wa_12 _ (List.mem_of_getElem? (i := 22) (by decide +kernel))), (List.forall_mem_cons.mpr ⟨(wa_12 _ (List.mem_of_getElem? (i := 23) (by decide +kernel))), (List.forall_mem_cons.mpr ⟨(wa_1 _ (List.mem_of_getElem? (i := 5) (by decide +kernel))), (fun _ h => absurd h List.not_mem_nil)⟩)⟩)⟩)⟩)⟩)) rfl rfl rfl (by decide +kernel) ⟨Nat.le_of_ble_eq_true rfl, Nat.le_of_ble_eq_true rfl⟩) hM.1 kX11 rfl hl.1 rfl (Nat.le_of_ble_eq_true rfl) dX11_text_83 ⟨Nat.le_of_ble_eq_true rfl, Nat.le_of_ble_eq_true rfl⟩) hW (fun r_55 V_53 H locs hp_54 hW => ?_)
                  obtain ⟨ok_56, q2_57, c2_58, rfl, hok_59, hEr_60, hT_61, hCd_62, hE_63⟩ := hp_54
                  have hX4 := hX3.trans hE_63.x
                  have hss4 : SsOk V_53 tn (ss ++ [c1.length]) := hss3.of (hE_63.1 207 (by decide) (by decide) (by decide))
                  have hT4 := hT_61
                  refine m_if_eq (tgt := 93) hx hb dX11_text_86 (by decide) (fun c_64 => ?_) (fun c_64 => ?_)
                  · skip
                    have c_64 : ok_56 = 0 := (nI_eq (by omega) (by omega)).mp c_64
                    have hok9 : ok_56 = 0 := by omega
                    refine lv_iconst (v := nI 0) hx hb dX11_text_93 (by decide) ?_
                    refine lv_istore_n (lv' := [(1, .int (nI 0)), (0, .ref (ad 200)), (2, .int (nI part))]) hx hb dX11_text_94 rfl hl (by decide) rfl (fun ls hl => ?_)
                    refine lv_iinc (v := nI (part + 1)) (lv' := [(2, .int (nI (part + 1))), (1, .int (nI 0)), (0, .ref (ad 200))]) hx hb dX11_text_95 hl (k := 2) rfl (m_inc part 1) (by decide) rfl (fun ls hl => ?_)
                    refine lv_goto (tgt := 26) hx hb dX11_text_98 (by decide) ?_
                    exact ih_26  0 (part + 1) q2_57 ([]) ([]) V_53 _ _ _ (by omega) (by omega) (by exact fun z => absurd z (by decide)) (by exact fun _ => ⟨Or.inl ⟨part, q1, c1, ss, by omega, hP1, Or.inr ⟨by rw [← hqq]; exact htw, q2_57, c2_58, by rw [← hqq]; have h9 := hEr_60; rw [hok9] at h9; exact h9, rfl⟩⟩, hT4.2.1⟩) (by exact hX4) (by omega) hW (lv_sub hl [2, 1, 0] rfl)
                  · skip
                    have c_64 : ¬ ok_56 = 0 := mt (nI_eq (by omega) (by omega)).mpr c_64
                    have hok9 : ok_56 = 1 := by omega
                    refine lv_iconst (v := nI 1) hx hb dX11_text_89 (by decide) ?_
                    refine lv_goto (tgt := 94) hx hb dX11_text_90 (by decide) ?_
                    refine lv_istore_n (lv' := [(1, .int (nI 1)), (0, .ref (ad 200)), (2, .int (nI part))]) hx hb dX11_text_94 rfl hl (by decide) rfl (fun ls hl => ?_)
                    refine lv_iinc (v := nI (part + 1)) (lv' := [(2, .int (nI (part + 1))), (1, .int (nI 1)), (0, .ref (ad 200))]) hx hb dX11_text_95 hl (k := 2) rfl (m_inc part 1) (by decide) rfl (fun ls hl => ?_)
                    refine lv_goto (tgt := 26) hx hb dX11_text_98 (by decide) ?_
                    exact ih_26  1 (part + 1) q2_57 c2_58 (ss ++ [c1.length]) V_53 _ _ _ (by omega) (by omega) (by exact fun _ => ⟨⟨q1, c1, ss, hP1, by rw [← hqq]; exact htw, rfl, by rw [← hqq]; have h9 := hEr_60; rw [hok9] at h9; exact h9⟩, (hCd_62 hok9).1, ⟨(hCd_62 hok9).2, hT4.1⟩, hss4, by simp; omega⟩) (by exact fun z => absurd z (by decide)) (by exact hX4) (by omega) hW (lv_sub hl [2, 1, 0] rfl)
    exact loop_26 (3 - 0 + 1) 1 0 qs ([]) ([]) V_3 _ _ _ (by decide) (by decide) (by intro _; rw [eV_3, eV_2]; exact ⟨⟨rfl, rfl, rfl⟩, ⟨⟨by rw [mU_eq]; rfl, fun k x hk => absurd hk (by simp)⟩, Nat.zero_le _, by omega, by rw [mU_ne _ _ (by decide), mU_ne _ _ (by decide)]; exact htn⟩, ⟨Nat.zero_le _, by rw [mU_ne _ _ (by decide), mU_eq, hq0], by omega⟩, fun j x hj => absurd hj (by simp), rfl⟩) (by intro z; exact absurd z (by decide)) (by rw [eV_3, eV_2]; exact ((XFr.rfl tn V).p200 _ (by decide)).p200 _ (by decide)) (by omega) hW (lv_sub hl [2, 1, 0] rfl)
  · skip
    have c_1 : tn = 6 := (nI_eq (by omega) (by omega)).mp c_1
    refine lv_bipush (v := -4) hx hb dX11_text_9 (by decide) ?_
    exact m_iret S hr hlk hW dX11_text_11 (by exact Or.inl ⟨rfl, rfl, c_1⟩)
