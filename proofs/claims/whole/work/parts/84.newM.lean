/-! a new object of the reference -/
def so0 : List Int32 := [-1, -1, -1, -1]
theorem tx0_B {V : mV} (h : ∀ k, k < 40 → V 205 k = tx0.getD k 0) : ∀ k, k < 40 → V 205 k = tpB q01 k := h
theorem zok_00 : ZOk z00 0 0 := ⟨⟨0, by decide, nI_0.symm⟩, fun u hu => absurd hu (Nat.not_lt_zero u), fun g hg => absurd hg (Nat.not_lt_zero g)⟩
def q0x (x : sT) : Sg := ((z00, 0, 0, 0), [x], [], (false, (z00, 0, 0, 0)), fun _ => (-1, 0, fun _ => 0))
theorem q00_x : q00 = q0x x00 := rfl
theorem mi_q0x {sh : Nat → Option mSh} {V V' : mV} {x : sT} (hM : MSh sh) (hz : ∀ k, k ≠ 8 → V 200 k = 0) (hso : ∀ k, k < 4 → V 211 k = -1) (hsz : ∀ k, V 212 k = 0) (hsc : ∀ k, V 213 k = 0) (hwd : ∀ k, k < 96 → V 215 k = wdT.getD k 0) (h4 : XF8 0 V V') (h5 : V' 200 8 = nI 0) (h11 : V' 200 11 = nI 1) (hx : MTx V' 0 x) (hw : WfT x) : MI sh V' (q0x x) := by
  have k := fun a (h1 : a ≠ 200 ∧ a ≠ 206 ∧ a ≠ 207 ∧ a ≠ 216) => h4.1 a h1.1 h1.2.1 h1.2.2.1 h1.2.2.2
  have f := fun j (h1 : j ≠ 8 ∧ j ≠ 11 ∧ j < 21) => (h4.2.1 j h1.1 h1.2.1 (Or.inl h1.2.2)).trans ((hz j h1.1).trans nI_0.symm)
  refine ⟨⟨hM, ⟨f 2 (by decide), f 0 (by decide), Nat.zero_le _, Nat.zero_le _⟩, (mv_00 ((f 6 (by decide)).trans nI_0)).symm, zok_00, ⟨f 12 (by decide), by show 0 < 6; omega⟩, hx, hw⟩, ⟨h11, Nat.le_refl 1, by show 1 ≤ 6; omega, Nat.zero_lt_one⟩, fun t ht => ?_, ⟨h5, Nat.zero_le _, fun k x hk => by cases hk⟩, ⟨f 13 (by decide), fun h => by cases h⟩, fun i hi => ?_, fun j hj => by rw [k 215 (by decide)]; exact hwd j hj⟩
  · have ht : t < 1 := ht
    obtain rfl : t = 0 := by omega
    exact ⟨hx, hw⟩
  · rw [k 211 (by decide), k 212 (by decide), k 213 (by decide)]
    exact ⟨hso i hi, (hsz i).trans nI_0.symm, Nat.zero_le _, fun j _ => hsc _⟩
theorem mi_q00 {sh : Nat → Option mSh} {V V' : mV} {r : Int32} (hM : MSh sh) (hz : ∀ k, k ≠ 8 → V 200 k = 0) (hso : ∀ k, k < 4 → V 211 k = -1) (hsz : ∀ k, V 212 k = 0) (hsc : ∀ k, V 213 k = 0) (hwd : ∀ k, k < 96 → V 215 k = wdT.getD k 0) (htp : ∀ k, k < 40 → V 205 k = tx0.getD k 0)
    (hp : (-4 = r ∧ V' = V ∧ (0 = 6)) ∨ (∃ (b : Nat), (-100 - nI b) = r ∧ (TxF (V 205) 40 qs0 b) ∧ (b ≤ 40) ∧ (V' 200 8 = nI 0) ∧ (XF8 0 V V') ∧ (V' 200 11 = nI 0) ∧ (¬ 0 = 6)) ∨ (∃ (q2 : pS) (cs ss : List Nat), nI 0 = r ∧ (TxP (V 205) 40 qs0 3 q2 cs ss) ∧ ((pAdv (V 205) 40 q2).2.1 = nI 0) ∧ (TxY V' 0 cs ss) ∧ (XF8 0 V V') ∧ (V' 200 8 = nI 0) ∧ (¬ 0 = 6))) : MI sh V' q00 ∧ ∀ a, a < 200 → V' a = V a := by
  have h160 : (gTp q01).length ≤ 160 := by decide +kernel
  have h40 : (gTp q01).length = 40 := tx0_len
  have hA := pAdv_B (tx0_B htp)
  have hG : ∃ A, TxP (tpB q01) 40 qs0 3 A (x00.1.map cdN) [0, x00.2.1, x00.2.2] ∧ (pAdv (tpB q01) 40 A).2.1 = nI 0 := by
    rcases tq_all h160 qs0_ok with ⟨b, hb, -⟩ | ⟨-, A, e1, e2, e3, g1, g2, -⟩
    · exact absurd fl00 hb.n1
    · rw [h40] at g1 g2
      refine ⟨A, ?_, g2⟩
      have e : x00.1 = cdl (gTq q01 qs0) := nwT_1 q01 qs0
      rw [e]
      exact g1
  obtain ⟨A, hG1, hG2⟩ := hG
  have hw := x00_wf
  rw [q00_x]
  generalize x00 = x at hG1 hw
  rw [TxF_B hA, TxP_B hA, hA] at hp
  rcases hp with ⟨-, -, h⟩ | ⟨b, -, h1, -⟩ | ⟨q2, cs, ss, -, h1, h2, h3, h4, h5, -⟩
  · exact absurd h (by decide)
  · exact (h1.no hG1 hG2).elim
  · obtain ⟨k1, k2, k3⟩ := TxP.one h1 hG1
    rw [k2, k3] at h3
    exact ⟨mi_q0x hM hz hso hsz hsc hwd h4 h5 h3.1 (MTx.new h3 hw.2.1 hw.2.2.1 hw.2.2.2) hw.1, h4.lo⟩
set_option maxHeartbeats 40000000 in
set_option maxRecDepth 100000 in
theorem c_X11_init (l : Launch) (G : mG) (ad : Nat → Nat) (sh : Nat → Option mSh) (V : mV)  (h0 : sh 200 = some (mO 10 (nKs [false, true, false, true, true, true, false, true, false, true, true, false, false, false, true, true, true, true, true, true, true, false, false, false, false, true, true, false, false, false, true, true, false, true, true, true, false, false]))) (hno : ∀ a, 200 < a → sh a = none) (hz : V 200 = fun _ => 0) : mM l yX11_init wsX11_init ({ frames := 10, cells := 21, slots := 3332, locals := 300 } : Room) G ad sh V [.ref (ad 200)] 21 3332 (fun v ad' sh' V' => v = none ∧ (∀ a, a ≤ 200 → ad' a = ad a) ∧ (∀ a, a < 200 → sh' a = sh a) ∧ (∀ a, a < 200 → V' a = V a) ∧ (MI sh' V' q00)) := by
  refine mM.of (cc := cX11_init) (maxL := 2) (ret := none) (by decide) rfl (Nat.le_of_ble_eq_true rfl) ?_
  intro p e s m below meth c S hr hlk hnm hW ls hl
  obtain ⟨hx, hb, hml, hown, hts⟩ := id S
  have hl : lv_has ls 2 [(0, .ref (ad 200))] := hl
  skip
  refine lv_aload_n hx hb dX11_init_0 rfl (lv_at hl 0 rfl) ?_
  refine W.objInit hx hb hown (hts (.methodLink RX11 1 objectInit) (List.mem_cons_of_mem _ (wa_11 _ (List.mem_of_getElem? (i := 1) (by decide +kernel))))) (hts (.instanceMethod objectInit) (List.mem_cons_of_mem _ (wa_1 _ (List.mem_of_getElem? (i := 10) (by decide +kernel))))) (hts (.code objectInit ⟨#[0xb1]⟩ 1 none) (List.mem_cons_of_mem _ (wa_1 _ (List.mem_of_getElem? (i := 11) (by decide +kernel))))) rfl (by rw [hml]; exact hl.1) rfl dX11_init_1 (Nat.le_of_ble_eq_true rfl) (Nat.le_of_ble_eq_true rfl) ?_
  refine W.eq (g2 := F0 m 4 ls []) rfl ?_
  refine lv_aload_n hx hb dX11_init_4 rfl (lv_at hl 0 rfl) ?_
  refine lv_bipush (v := nI 72) hx hb dX11_init_5 (by decide) ?_
  refine m_newI S hW 201 72 true (hno 201 (by omega)) (List.mem_cons_of_mem _ (wa_2 _ (List.mem_of_getElem? (i := 19) (by decide +kernel)))) (by decide) (Nat.le_of_ble_eq_true rfl) (Nat.le_of_ble_eq_true rfl) dX11_init_7 (fun ad_1 H fad_1 hW => ?_)
  refine W.eq (g2 := F0 m 9 ls [.ref (ad_1 201), .ref (ad_1 200)]) (by rw [fad_1 200 (by omega)]) ?_
  have hl : lv_has ls 2 [(0, .ref (ad_1 200))] := by rw [fad_1 200 (by omega)]; exact hl
  obtain ⟨sh_2, esh_2⟩ : ∃ vv_ : Nat → Option mSh, vv_ = va_up sh 201 (some (mI 72)) := ⟨_, rfl⟩
  rw [← esh_2] at hW
  have qsh_2 : sh_2 201 = some (mI 72) := by rw [esh_2]; exact va_up_self _ _ _
  have fsh_2 : ∀ a, a ≠ 201 → sh_2 a = sh a := fun a ha => by rw [esh_2]; exact va_up_ne _ _ ha
  clear esh_2
  obtain ⟨V_3, eV_3⟩ : ∃ vv_ : mV, vv_ = va_up V 201 (fun _ => 0) := ⟨_, rfl⟩
  rw [← eV_3] at hW
  have qV_3 : V_3 201 = fun _ => 0 := by rw [eV_3]; exact va_up_self _ _ _
  have fV_3 : ∀ a, a ≠ 201 → V_3 a = V a := fun a ha => by rw [eV_3]; exact va_up_ne _ _ ha
  clear eV_3
  refine m_putc S hW (fun _ => some 201) ((fsh_2 200 (by omega)).trans h0) 1 (Nat.lt_of_lt_of_eq (by decide : 1 < 38) rfl) (j := 201) rfl (by rw [qsh_2]; exact fun z => by cases z) kX11 (iW11 _) tyX11 tyX11_ok nmX11 (by decide) (List.mem_cons_of_mem _ (wa_11 _ (List.mem_of_getElem? (i := 2) (by decide +kernel)))) (Or.inr ⟨rfl, hnm, rfl⟩) (fun _ => rfl) (fun _ => rfl) dX11_init_9 (fun H locs hW => ?_)
  obtain ⟨sh_4, esh_4⟩ : ∃ vv_ : Nat → Option mSh, vv_ = va_up sh_2 200 (some (mO 10 ((nKs [false, true, false, true, true, true, false, true, false, true, true, false, false, false, true, true, true, true, true, true, true, false, false, false, false, true, true, false, false, false, true, true, false, true, true, true, false, false]).set 1 (some (fun _ => some 201))))) := ⟨_, rfl⟩
  rw [← esh_4] at hW
  have qsh_4 : sh_4 200 = some (mO 10 ((nKs [false, true, false, true, true, true, false, true, false, true, true, false, false, false, true, true, true, true, true, true, true, false, false, false, false, true, true, false, false, false, true, true, false, true, true, true, false, false]).set 1 (some (fun _ => some 201)))) := by rw [esh_4]; exact va_up_self _ _ _
  have fsh_4 : ∀ a, a ≠ 200 → sh_4 a = sh_2 a := fun a ha => by rw [esh_4]; exact va_up_ne _ _ ha
  clear esh_4
  refine lv_aload_n hx hb dX11_init_12 rfl (lv_at hl 0 rfl) ?_
  refine lv_iconst (v := nI 5) hx hb dX11_init_13 (by decide) ?_
  refine m_newI S hW 202 5 true ((fsh_4 202 (by omega)).trans ((fsh_2 202 (by omega)).trans (hno 202 (by omega)))) (List.mem_cons_of_mem _ (wa_2 _ (List.mem_of_getElem? (i := 19) (by decide +kernel)))) (by decide) (Nat.le_of_ble_eq_true rfl) (Nat.le_of_ble_eq_true rfl) dX11_init_14 (fun ad_5 H fad_5 hW => ?_)
  refine W.eq (g2 := F0 m 16 ls [.ref (ad_5 202), .ref (ad_5 200)]) (by rw [fad_5 200 (by omega)]) ?_
  have hl : lv_has ls 2 [(0, .ref (ad_5 200))] := by rw [fad_5 200 (by omega)]; exact hl
  obtain ⟨sh_6, esh_6⟩ : ∃ vv_ : Nat → Option mSh, vv_ = va_up sh_4 202 (some (mI 5)) := ⟨_, rfl⟩
  rw [← esh_6] at hW
  have qsh_6 : sh_6 202 = some (mI 5) := by rw [esh_6]; exact va_up_self _ _ _
  have fsh_6 : ∀ a, a ≠ 202 → sh_6 a = sh_4 a := fun a ha => by rw [esh_6]; exact va_up_ne _ _ ha
  clear esh_6
  obtain ⟨V_7, eV_7⟩ : ∃ vv_ : mV, vv_ = va_up V_3 202 (fun _ => 0) := ⟨_, rfl⟩
  rw [← eV_7] at hW
  have qV_7 : V_7 202 = fun _ => 0 := by rw [eV_7]; exact va_up_self _ _ _
  have fV_7 : ∀ a, a ≠ 202 → V_7 a = V_3 a := fun a ha => by rw [eV_7]; exact va_up_ne _ _ ha
  clear eV_7
  refine m_putc S hW (fun _ => some 202) ((fsh_6 200 (by omega)).trans qsh_4) 3 (Nat.lt_of_lt_of_eq (by decide : 3 < 38) rfl) (j := 202) rfl (by rw [qsh_6]; exact fun z => by cases z) kX11 (iW11 _) tyX11 tyX11_ok nmX11 (by decide) (List.mem_cons_of_mem _ (wa_11 _ (List.mem_of_getElem? (i := 3) (by decide +kernel)))) (Or.inr ⟨rfl, hnm, rfl⟩) (fun _ => rfl) (fun _ => rfl) dX11_init_16 (fun H locs hW => ?_)
  obtain ⟨sh_8, esh_8⟩ : ∃ vv_ : Nat → Option mSh, vv_ = va_up sh_6 200 (some (mO 10 (((nKs [false, true, false, true, true, true, false, true, false, true, true, false, false, false, true, true, true, true, true, true, true, false, false, false, false, true, true, false, false, false, true, true, false, true, true, true, false, false]).set 1 (some (fun _ => some 201))).set 3 (some (fun _ => some 202))))) := ⟨_, rfl⟩
  rw [← esh_8] at hW
  have qsh_8 : sh_8 200 = some (mO 10 (((nKs [false, true, false, true, true, true, false, true, false, true, true, false, false, false, true, true, true, true, true, true, true, false, false, false, false, true, true, false, false, false, true, true, false, true, true, true, false, false]).set 1 (some (fun _ => some 201))).set 3 (some (fun _ => some 202)))) := by rw [esh_8]; exact va_up_self _ _ _
  have fsh_8 : ∀ a, a ≠ 200 → sh_8 a = sh_6 a := fun a ha => by rw [esh_8]; exact va_up_ne _ _ ha
  clear esh_8
  refine lv_aload_n hx hb dX11_init_19 rfl (lv_at hl 0 rfl) ?_
  refine lv_iconst (v := nI 5) hx hb dX11_init_20 (by decide) ?_
  refine m_newI S hW 203 5 true ((fsh_8 203 (by omega)).trans ((fsh_6 203 (by omega)).trans ((fsh_4 203 (by omega)).trans ((fsh_2 203 (by omega)).trans (hno 203 (by omega)))))) (List.mem_cons_of_mem _ (wa_2 _ (List.mem_of_getElem? (i := 19) (by decide +kernel)))) (by decide) (Nat.le_of_ble_eq_true rfl) (Nat.le_of_ble_eq_true rfl) dX11_init_21 (fun ad_9 H fad_9 hW => ?_)
  refine W.eq (g2 := F0 m 23 ls [.ref (ad_9 203), .ref (ad_9 200)]) (by rw [fad_9 200 (by omega)]) ?_
  have hl : lv_has ls 2 [(0, .ref (ad_9 200))] := by rw [fad_9 200 (by omega)]; exact hl
  obtain ⟨sh_10, esh_10⟩ : ∃ vv_ : Nat → Option mSh, vv_ = va_up sh_8 203 (some (mI 5)) := ⟨_, rfl⟩
  rw [← esh_10] at hW
  have qsh_10 : sh_10 203 = some (mI 5) := by rw [esh_10]; exact va_up_self _ _ _
  have fsh_10 : ∀ a, a ≠ 203 → sh_10 a = sh_8 a := fun a ha => by rw [esh_10]; exact va_up_ne _ _ ha
  clear esh_10
  obtain ⟨V_11, eV_11⟩ : ∃ vv_ : mV, vv_ = va_up V_7 203 (fun _ => 0) := ⟨_, rfl⟩
  rw [← eV_11] at hW
  have qV_11 : V_11 203 = fun _ => 0 := by rw [eV_11]; exact va_up_self _ _ _
  have fV_11 : ∀ a, a ≠ 203 → V_11 a = V_7 a := fun a ha => by rw [eV_11]; exact va_up_ne _ _ ha
  clear eV_11
  refine m_putc S hW (fun _ => some 203) ((fsh_10 200 (by omega)).trans qsh_8) 4 (Nat.lt_of_lt_of_eq (by decide : 4 < 38) rfl) (j := 203) rfl (by rw [qsh_10]; exact fun z => by cases z) kX11 (iW11 _) tyX11 tyX11_ok nmX11 (by decide) (List.mem_cons_of_mem _ (wa_11 _ (List.mem_of_getElem? (i := 4) (by decide +kernel)))) (Or.inr ⟨rfl, hnm, rfl⟩) (fun _ => rfl) (fun _ => rfl) dX11_init_23 (fun H locs hW => ?_)
  obtain ⟨sh_12, esh_12⟩ : ∃ vv_ : Nat → Option mSh, vv_ = va_up sh_10 200 (some (mO 10 ((((nKs [false, true, false, true, true, true, false, true, false, true, true, false, false, false, true, true, true, true, true, true, true, false, false, false, false, true, true, false, false, false, true, true, false, true, true, true, false, false]).set 1 (some (fun _ => some 201))).set 3 (some (fun _ => some 202))).set 4 (some (fun _ => some 203))))) := ⟨_, rfl⟩
  rw [← esh_12] at hW
  have qsh_12 : sh_12 200 = some (mO 10 ((((nKs [false, true, false, true, true, true, false, true, false, true, true, false, false, false, true, true, true, true, true, true, true, false, false, false, false, true, true, false, false, false, true, true, false, true, true, true, false, false]).set 1 (some (fun _ => some 201))).set 3 (some (fun _ => some 202))).set 4 (some (fun _ => some 203)))) := by rw [esh_12]; exact va_up_self _ _ _
  have fsh_12 : ∀ a, a ≠ 200 → sh_12 a = sh_10 a := fun a ha => by rw [esh_12]; exact va_up_ne _ _ ha
  clear esh_12
  refine lv_aload_n hx hb dX11_init_26 rfl (lv_at hl 0 rfl) ?_
  refine lv_bipush (v := nI 15) hx hb dX11_init_27 (by decide) ?_
  refine m_newI S hW 204 15 true ((fsh_12 204 (by omega)).trans ((fsh_10 204 (by omega)).trans ((fsh_8 204 (by omega)).trans ((fsh_6 204 (by omega)).trans ((fsh_4 204 (by omega)).trans ((fsh_2 204 (by omega)).trans (hno 204 (by omega)))))))) (List.mem_cons_of_mem _ (wa_2 _ (List.mem_of_getElem? (i := 19) (by decide +kernel)))) (by decide) (Nat.le_of_ble_eq_true rfl) (Nat.le_of_ble_eq_true rfl) dX11_init_29 (fun ad_13 H fad_13 hW => ?_)
  refine W.eq (g2 := F0 m 31 ls [.ref (ad_13 204), .ref (ad_13 200)]) (by rw [fad_13 200 (by omega)]) ?_
  have hl : lv_has ls 2 [(0, .ref (ad_13 200))] := by rw [fad_13 200 (by omega)]; exact hl
  obtain ⟨sh_14, esh_14⟩ : ∃ vv_ : Nat → Option mSh, vv_ = va_up sh_12 204 (some (mI 15)) := ⟨_, rfl⟩
  rw [← esh_14] at hW
  have qsh_14 : sh_14 204 = some (mI 15) := by rw [esh_14]; exact va_up_self _ _ _
  have fsh_14 : ∀ a, a ≠ 204 → sh_14 a = sh_12 a := fun a ha => by rw [esh_14]; exact va_up_ne _ _ ha
  clear esh_14
  obtain ⟨V_15, eV_15⟩ : ∃ vv_ : mV, vv_ = va_up V_11 204 (fun _ => 0) := ⟨_, rfl⟩
  rw [← eV_15] at hW
  have qV_15 : V_15 204 = fun _ => 0 := by rw [eV_15]; exact va_up_self _ _ _
  have fV_15 : ∀ a, a ≠ 204 → V_15 a = V_11 a := fun a ha => by rw [eV_15]; exact va_up_ne _ _ ha
  clear eV_15
  refine m_putc S hW (fun _ => some 204) ((fsh_14 200 (by omega)).trans qsh_12) 5 (Nat.lt_of_lt_of_eq (by decide : 5 < 38) rfl) (j := 204) rfl (by rw [qsh_14]; exact fun z => by cases z) kX11 (iW11 _) tyX11 tyX11_ok nmX11 (by decide) (List.mem_cons_of_mem _ (wa_11 _ (List.mem_of_getElem? (i := 5) (by decide +kernel)))) (Or.inr ⟨rfl, hnm, rfl⟩) (fun _ => rfl) (fun _ => rfl) dX11_init_31 (fun H locs hW => ?_)
  obtain ⟨sh_16, esh_16⟩ : ∃ vv_ : Nat → Option mSh, vv_ = va_up sh_14 200 (some (mO 10 (((((nKs [false, true, false, true, true, true, false, true, false, true, true, false, false, false, true, true, true, true, true, true, true, false, false, false, false, true, true, false, false, false, true, true, false, true, true, true, false, false]).set 1 (some (fun _ => some 201))).set 3 (some (fun _ => some 202))).set 4 (some (fun _ => some 203))).set 5 (some (fun _ => some 204))))) := ⟨_, rfl⟩
  rw [← esh_16] at hW
  have qsh_16 : sh_16 200 = some (mO 10 (((((nKs [false, true, false, true, true, true, false, true, false, true, true, false, false, false, true, true, true, true, true, true, true, false, false, false, false, true, true, false, false, false, true, true, false, true, true, true, false, false]).set 1 (some (fun _ => some 201))).set 3 (some (fun _ => some 202))).set 4 (some (fun _ => some 203))).set 5 (some (fun _ => some 204)))) := by rw [esh_16]; exact va_up_self _ _ _
  have fsh_16 : ∀ a, a ≠ 200 → sh_16 a = sh_14 a := fun a ha => by rw [esh_16]; exact va_up_ne _ _ ha
  clear esh_16
  refine lv_aload_n hx hb dX11_init_34 rfl (lv_at hl 0 rfl) ?_
  refine lv_sipush (v := nI 160) hx hb dX11_init_35 (by decide) ?_
  refine m_newI S hW 205 160 true ((fsh_16 205 (by omega)).trans ((fsh_14 205 (by omega)).trans ((fsh_12 205 (by omega)).trans ((fsh_10 205 (by omega)).trans ((fsh_8 205 (by omega)).trans ((fsh_6 205 (by omega)).trans ((fsh_4 205 (by omega)).trans ((fsh_2 205 (by omega)).trans (hno 205 (by omega)))))))))) (List.mem_cons_of_mem _ (wa_2 _ (List.mem_of_getElem? (i := 19) (by decide +kernel)))) (by decide) (Nat.le_of_ble_eq_true rfl) (Nat.le_of_ble_eq_true rfl) dX11_init_38 (fun ad_17 H fad_17 hW => ?_)
  refine W.eq (g2 := F0 m 40 ls [.ref (ad_17 205), .ref (ad_17 200)]) (by rw [fad_17 200 (by omega)]) ?_
  have hl : lv_has ls 2 [(0, .ref (ad_17 200))] := by rw [fad_17 200 (by omega)]; exact hl
  obtain ⟨sh_18, esh_18⟩ : ∃ vv_ : Nat → Option mSh, vv_ = va_up sh_16 205 (some (mI 160)) := ⟨_, rfl⟩
  rw [← esh_18] at hW
  have qsh_18 : sh_18 205 = some (mI 160) := by rw [esh_18]; exact va_up_self _ _ _
  have fsh_18 : ∀ a, a ≠ 205 → sh_18 a = sh_16 a := fun a ha => by rw [esh_18]; exact va_up_ne _ _ ha
  clear esh_18
  obtain ⟨V_19, eV_19⟩ : ∃ vv_ : mV, vv_ = va_up V_15 205 (fun _ => 0) := ⟨_, rfl⟩
  rw [← eV_19] at hW
  have qV_19 : V_19 205 = fun _ => 0 := by rw [eV_19]; exact va_up_self _ _ _
  have fV_19 : ∀ a, a ≠ 205 → V_19 a = V_15 a := fun a ha => by rw [eV_19]; exact va_up_ne _ _ ha
  clear eV_19
  refine m_putc S hW (fun _ => some 205) ((fsh_18 200 (by omega)).trans qsh_16) 7 (Nat.lt_of_lt_of_eq (by decide : 7 < 38) rfl) (j := 205) rfl (by rw [qsh_18]; exact fun z => by cases z) kX11 (iW11 _) tyX11 tyX11_ok nmX11 (by decide) (List.mem_cons_of_mem _ (wa_11 _ (List.mem_of_getElem? (i := 6) (by decide +kernel)))) (Or.inr ⟨rfl, hnm, rfl⟩) (fun _ => rfl) (fun _ => rfl) dX11_init_40 (fun H locs hW => ?_)
  obtain ⟨sh_20, esh_20⟩ : ∃ vv_ : Nat → Option mSh, vv_ = va_up sh_18 200 (some (mO 10 ((((((nKs [false, true, false, true, true, true, false, true, false, true, true, false, false, false, true, true, true, true, true, true, true, false, false, false, false, true, true, false, false, false, true, true, false, true, true, true, false, false]).set 1 (some (fun _ => some 201))).set 3 (some (fun _ => some 202))).set 4 (some (fun _ => some 203))).set 5 (some (fun _ => some 204))).set 7 (some (fun _ => some 205))))) := ⟨_, rfl⟩
  rw [← esh_20] at hW
  have qsh_20 : sh_20 200 = some (mO 10 ((((((nKs [false, true, false, true, true, true, false, true, false, true, true, false, false, false, true, true, true, true, true, true, true, false, false, false, false, true, true, false, false, false, true, true, false, true, true, true, false, false]).set 1 (some (fun _ => some 201))).set 3 (some (fun _ => some 202))).set 4 (some (fun _ => some 203))).set 5 (some (fun _ => some 204))).set 7 (some (fun _ => some 205)))) := by rw [esh_20]; exact va_up_self _ _ _
  have fsh_20 : ∀ a, a ≠ 200 → sh_20 a = sh_18 a := fun a ha => by rw [esh_20]; exact va_up_ne _ _ ha
  clear esh_20
  refine lv_aload_n hx hb dX11_init_43 rfl (lv_at hl 0 rfl) ?_
  refine lv_sipush (v := nI 1200) hx hb dX11_init_44 (by decide) ?_
  refine m_newI S hW 206 1200 true ((fsh_20 206 (by omega)).trans ((fsh_18 206 (by omega)).trans ((fsh_16 206 (by omega)).trans ((fsh_14 206 (by omega)).trans ((fsh_12 206 (by omega)).trans ((fsh_10 206 (by omega)).trans ((fsh_8 206 (by omega)).trans ((fsh_6 206 (by omega)).trans ((fsh_4 206 (by omega)).trans ((fsh_2 206 (by omega)).trans (hno 206 (by omega)))))))))))) (List.mem_cons_of_mem _ (wa_2 _ (List.mem_of_getElem? (i := 19) (by decide +kernel)))) (by decide) (Nat.le_of_ble_eq_true rfl) (Nat.le_of_ble_eq_true rfl) dX11_init_47 (fun ad_21 H fad_21 hW => ?_)
  refine W.eq (g2 := F0 m 49 ls [.ref (ad_21 206), .ref (ad_21 200)]) (by rw [fad_21 200 (by omega)]) ?_
  have hl : lv_has ls 2 [(0, .ref (ad_21 200))] := by rw [fad_21 200 (by omega)]; exact hl
  obtain ⟨sh_22, esh_22⟩ : ∃ vv_ : Nat → Option mSh, vv_ = va_up sh_20 206 (some (mI 1200)) := ⟨_, rfl⟩
  rw [← esh_22] at hW
  have qsh_22 : sh_22 206 = some (mI 1200) := by rw [esh_22]; exact va_up_self _ _ _
  have fsh_22 : ∀ a, a ≠ 206 → sh_22 a = sh_20 a := fun a ha => by rw [esh_22]; exact va_up_ne _ _ ha
  clear esh_22
  obtain ⟨V_23, eV_23⟩ : ∃ vv_ : mV, vv_ = va_up V_19 206 (fun _ => 0) := ⟨_, rfl⟩
  rw [← eV_23] at hW
  have qV_23 : V_23 206 = fun _ => 0 := by rw [eV_23]; exact va_up_self _ _ _
  have fV_23 : ∀ a, a ≠ 206 → V_23 a = V_19 a := fun a ha => by rw [eV_23]; exact va_up_ne _ _ ha
  clear eV_23
  refine m_putc S hW (fun _ => some 206) ((fsh_22 200 (by omega)).trans qsh_20) 9 (Nat.lt_of_lt_of_eq (by decide : 9 < 38) rfl) (j := 206) rfl (by rw [qsh_22]; exact fun z => by cases z) kX11 (iW11 _) tyX11 tyX11_ok nmX11 (by decide) (List.mem_cons_of_mem _ (wa_11 _ (List.mem_of_getElem? (i := 7) (by decide +kernel)))) (Or.inr ⟨rfl, hnm, rfl⟩) (fun _ => rfl) (fun _ => rfl) dX11_init_49 (fun H locs hW => ?_)
  obtain ⟨sh_24, esh_24⟩ : ∃ vv_ : Nat → Option mSh, vv_ = va_up sh_22 200 (some (mO 10 (((((((nKs [false, true, false, true, true, true, false, true, false, true, true, false, false, false, true, true, true, true, true, true, true, false, false, false, false, true, true, false, false, false, true, true, false, true, true, true, false, false]).set 1 (some (fun _ => some 201))).set 3 (some (fun _ => some 202))).set 4 (some (fun _ => some 203))).set 5 (some (fun _ => some 204))).set 7 (some (fun _ => some 205))).set 9 (some (fun _ => some 206))))) := ⟨_, rfl⟩
  rw [← esh_24] at hW
  have qsh_24 : sh_24 200 = some (mO 10 (((((((nKs [false, true, false, true, true, true, false, true, false, true, true, false, false, false, true, true, true, true, true, true, true, false, false, false, false, true, true, false, false, false, true, true, false, true, true, true, false, false]).set 1 (some (fun _ => some 201))).set 3 (some (fun _ => some 202))).set 4 (some (fun _ => some 203))).set 5 (some (fun _ => some 204))).set 7 (some (fun _ => some 205))).set 9 (some (fun _ => some 206)))) := by rw [esh_24]; exact va_up_self _ _ _
  have fsh_24 : ∀ a, a ≠ 200 → sh_24 a = sh_22 a := fun a ha => by rw [esh_24]; exact va_up_ne _ _ ha
  clear esh_24
  refine lv_aload_n hx hb dX11_init_52 rfl (lv_at hl 0 rfl) ?_
  refine lv_bipush (v := nI 24) hx hb dX11_init_53 (by decide) ?_
  refine m_newI S hW 207 24 true ((fsh_24 207 (by omega)).trans ((fsh_22 207 (by omega)).trans ((fsh_20 207 (by omega)).trans ((fsh_18 207 (by omega)).trans ((fsh_16 207 (by omega)).trans ((fsh_14 207 (by omega)).trans ((fsh_12 207 (by omega)).trans ((fsh_10 207 (by omega)).trans ((fsh_8 207 (by omega)).trans ((fsh_6 207 (by omega)).trans ((fsh_4 207 (by omega)).trans ((fsh_2 207 (by omega)).trans (hno 207 (by omega)))))))))))))) (List.mem_cons_of_mem _ (wa_2 _ (List.mem_of_getElem? (i := 19) (by decide +kernel)))) (by decide) (Nat.le_of_ble_eq_true rfl) (Nat.le_of_ble_eq_true rfl) dX11_init_55 (fun ad_25 H fad_25 hW => ?_)
  refine W.eq (g2 := F0 m 57 ls [.ref (ad_25 207), .ref (ad_25 200)]) (by rw [fad_25 200 (by omega)]) ?_
  have hl : lv_has ls 2 [(0, .ref (ad_25 200))] := by rw [fad_25 200 (by omega)]; exact hl
  obtain ⟨sh_26, esh_26⟩ : ∃ vv_ : Nat → Option mSh, vv_ = va_up sh_24 207 (some (mI 24)) := ⟨_, rfl⟩
  rw [← esh_26] at hW
  have qsh_26 : sh_26 207 = some (mI 24) := by rw [esh_26]; exact va_up_self _ _ _
  have fsh_26 : ∀ a, a ≠ 207 → sh_26 a = sh_24 a := fun a ha => by rw [esh_26]; exact va_up_ne _ _ ha
  clear esh_26
  obtain ⟨V_27, eV_27⟩ : ∃ vv_ : mV, vv_ = va_up V_23 207 (fun _ => 0) := ⟨_, rfl⟩
  rw [← eV_27] at hW
  have qV_27 : V_27 207 = fun _ => 0 := by rw [eV_27]; exact va_up_self _ _ _
  have fV_27 : ∀ a, a ≠ 207 → V_27 a = V_23 a := fun a ha => by rw [eV_27]; exact va_up_ne _ _ ha
  clear eV_27
  refine m_putc S hW (fun _ => some 207) ((fsh_26 200 (by omega)).trans qsh_24) 10 (Nat.lt_of_lt_of_eq (by decide : 10 < 38) rfl) (j := 207) rfl (by rw [qsh_26]; exact fun z => by cases z) kX11 (iW11 _) tyX11 tyX11_ok nmX11 (by decide) (List.mem_cons_of_mem _ (wa_11 _ (List.mem_of_getElem? (i := 8) (by decide +kernel)))) (Or.inr ⟨rfl, hnm, rfl⟩) (fun _ => rfl) (fun _ => rfl) dX11_init_57 (fun H locs hW => ?_)
  obtain ⟨sh_28, esh_28⟩ : ∃ vv_ : Nat → Option mSh, vv_ = va_up sh_26 200 (some (mO 10 ((((((((nKs [false, true, false, true, true, true, false, true, false, true, true, false, false, false, true, true, true, true, true, true, true, false, false, false, false, true, true, false, false, false, true, true, false, true, true, true, false, false]).set 1 (some (fun _ => some 201))).set 3 (some (fun _ => some 202))).set 4 (some (fun _ => some 203))).set 5 (some (fun _ => some 204))).set 7 (some (fun _ => some 205))).set 9 (some (fun _ => some 206))).set 10 (some (fun _ => some 207))))) := ⟨_, rfl⟩
  rw [← esh_28] at hW
  have qsh_28 : sh_28 200 = some (mO 10 ((((((((nKs [false, true, false, true, true, true, false, true, false, true, true, false, false, false, true, true, true, true, true, true, true, false, false, false, false, true, true, false, false, false, true, true, false, true, true, true, false, false]).set 1 (some (fun _ => some 201))).set 3 (some (fun _ => some 202))).set 4 (some (fun _ => some 203))).set 5 (some (fun _ => some 204))).set 7 (some (fun _ => some 205))).set 9 (some (fun _ => some 206))).set 10 (some (fun _ => some 207)))) := by rw [esh_28]; exact va_up_self _ _ _
  have fsh_28 : ∀ a, a ≠ 200 → sh_28 a = sh_26 a := fun a ha => by rw [esh_28]; exact va_up_ne _ _ ha
  clear esh_28
  refine lv_aload_n hx hb dX11_init_60 rfl (lv_at hl 0 rfl) ?_
  refine lv_bipush (v := nI 72) hx hb dX11_init_61 (by decide) ?_
  refine m_newI S hW 208 72 true ((fsh_28 208 (by omega)).trans ((fsh_26 208 (by omega)).trans ((fsh_24 208 (by omega)).trans ((fsh_22 208 (by omega)).trans ((fsh_20 208 (by omega)).trans ((fsh_18 208 (by omega)).trans ((fsh_16 208 (by omega)).trans ((fsh_14 208 (by omega)).trans ((fsh_12 208 (by omega)).trans ((fsh_10 208 (by omega)).trans ((fsh_8 208 (by omega)).trans ((fsh_6 208 (by omega)).trans ((fsh_4 208 (by omega)).trans ((fsh_2 208 (by omega)).trans (hno 208 (by omega)))))))))))))))) (List.mem_cons_of_mem _ (wa_2 _ (List.mem_of_getElem? (i := 19) (by decide +kernel)))) (by decide) (Nat.le_of_ble_eq_true rfl) (Nat.le_of_ble_eq_true rfl) dX11_init_63 (fun ad_29 H fad_29 hW => ?_)
  refine W.eq (g2 := F0 m 65 ls [.ref (ad_29 208), .ref (ad_29 200)]) (by rw [fad_29 200 (by omega)]) ?_
  have hl : lv_has ls 2 [(0, .ref (ad_29 200))] := by rw [fad_29 200 (by omega)]; exact hl
  obtain ⟨sh_30, esh_30⟩ : ∃ vv_ : Nat → Option mSh, vv_ = va_up sh_28 208 (some (mI 72)) := ⟨_, rfl⟩
  rw [← esh_30] at hW
  have qsh_30 : sh_30 208 = some (mI 72) := by rw [esh_30]; exact va_up_self _ _ _
  have fsh_30 : ∀ a, a ≠ 208 → sh_30 a = sh_28 a := fun a ha => by rw [esh_30]; exact va_up_ne _ _ ha
  clear esh_30
  obtain ⟨V_31, eV_31⟩ : ∃ vv_ : mV, vv_ = va_up V_27 208 (fun _ => 0) := ⟨_, rfl⟩
  rw [← eV_31] at hW
  have qV_31 : V_31 208 = fun _ => 0 := by rw [eV_31]; exact va_up_self _ _ _
  have fV_31 : ∀ a, a ≠ 208 → V_31 a = V_27 a := fun a ha => by rw [eV_31]; exact va_up_ne _ _ ha
  clear eV_31
  refine m_putc S hW (fun _ => some 208) ((fsh_30 200 (by omega)).trans qsh_28) 14 (Nat.lt_of_lt_of_eq (by decide : 14 < 38) rfl) (j := 208) rfl (by rw [qsh_30]; exact fun z => by cases z) kX11 (iW11 _) tyX11 tyX11_ok nmX11 (by decide) (List.mem_cons_of_mem _ (wa_11 _ (List.mem_of_getElem? (i := 9) (by decide +kernel)))) (Or.inr ⟨rfl, hnm, rfl⟩) (fun _ => rfl) (fun _ => rfl) dX11_init_65 (fun H locs hW => ?_)
  obtain ⟨sh_32, esh_32⟩ : ∃ vv_ : Nat → Option mSh, vv_ = va_up sh_30 200 (some (mO 10 (((((((((nKs [false, true, false, true, true, true, false, true, false, true, true, false, false, false, true, true, true, true, true, true, true, false, false, false, false, true, true, false, false, false, true, true, false, true, true, true, false, false]).set 1 (some (fun _ => some 201))).set 3 (some (fun _ => some 202))).set 4 (some (fun _ => some 203))).set 5 (some (fun _ => some 204))).set 7 (some (fun _ => some 205))).set 9 (some (fun _ => some 206))).set 10 (some (fun _ => some 207))).set 14 (some (fun _ => some 208))))) := ⟨_, rfl⟩
  rw [← esh_32] at hW
  have qsh_32 : sh_32 200 = some (mO 10 (((((((((nKs [false, true, false, true, true, true, false, true, false, true, true, false, false, false, true, true, true, true, true, true, true, false, false, false, false, true, true, false, false, false, true, true, false, true, true, true, false, false]).set 1 (some (fun _ => some 201))).set 3 (some (fun _ => some 202))).set 4 (some (fun _ => some 203))).set 5 (some (fun _ => some 204))).set 7 (some (fun _ => some 205))).set 9 (some (fun _ => some 206))).set 10 (some (fun _ => some 207))).set 14 (some (fun _ => some 208)))) := by rw [esh_32]; exact va_up_self _ _ _
  have fsh_32 : ∀ a, a ≠ 200 → sh_32 a = sh_30 a := fun a ha => by rw [esh_32]; exact va_up_ne _ _ ha
  clear esh_32
  refine lv_aload_n hx hb dX11_init_68 rfl (lv_at hl 0 rfl) ?_
  refine lv_bipush (v := nI 15) hx hb dX11_init_69 (by decide) ?_
  refine m_newI S hW 209 15 true ((fsh_32 209 (by omega)).trans ((fsh_30 209 (by omega)).trans ((fsh_28 209 (by omega)).trans ((fsh_26 209 (by omega)).trans ((fsh_24 209 (by omega)).trans ((fsh_22 209 (by omega)).trans ((fsh_20 209 (by omega)).trans ((fsh_18 209 (by omega)).trans ((fsh_16 209 (by omega)).trans ((fsh_14 209 (by omega)).trans ((fsh_12 209 (by omega)).trans ((fsh_10 209 (by omega)).trans ((fsh_8 209 (by omega)).trans ((fsh_6 209 (by omega)).trans ((fsh_4 209 (by omega)).trans ((fsh_2 209 (by omega)).trans (hno 209 (by omega)))))))))))))))))) (List.mem_cons_of_mem _ (wa_2 _ (List.mem_of_getElem? (i := 19) (by decide +kernel)))) (by decide) (Nat.le_of_ble_eq_true rfl) (Nat.le_of_ble_eq_true rfl) dX11_init_71 (fun ad_33 H fad_33 hW => ?_)
  refine W.eq (g2 := F0 m 73 ls [.ref (ad_33 209), .ref (ad_33 200)]) (by rw [fad_33 200 (by omega)]) ?_
  have hl : lv_has ls 2 [(0, .ref (ad_33 200))] := by rw [fad_33 200 (by omega)]; exact hl
  obtain ⟨sh_34, esh_34⟩ : ∃ vv_ : Nat → Option mSh, vv_ = va_up sh_32 209 (some (mI 15)) := ⟨_, rfl⟩
  rw [← esh_34] at hW
  have qsh_34 : sh_34 209 = some (mI 15) := by rw [esh_34]; exact va_up_self _ _ _
  have fsh_34 : ∀ a, a ≠ 209 → sh_34 a = sh_32 a := fun a ha => by rw [esh_34]; exact va_up_ne _ _ ha
  clear esh_34
  obtain ⟨V_35, eV_35⟩ : ∃ vv_ : mV, vv_ = va_up V_31 209 (fun _ => 0) := ⟨_, rfl⟩
  rw [← eV_35] at hW
  have qV_35 : V_35 209 = fun _ => 0 := by rw [eV_35]; exact va_up_self _ _ _
  have fV_35 : ∀ a, a ≠ 209 → V_35 a = V_31 a := fun a ha => by rw [eV_35]; exact va_up_ne _ _ ha
  clear eV_35
  refine m_putc S hW (fun _ => some 209) ((fsh_34 200 (by omega)).trans qsh_32) 15 (Nat.lt_of_lt_of_eq (by decide : 15 < 38) rfl) (j := 209) rfl (by rw [qsh_34]; exact fun z => by cases z) kX11 (iW11 _) tyX11 tyX11_ok nmX11 (by decide) (List.mem_cons_of_mem _ (wa_11 _ (List.mem_of_getElem? (i := 10) (by decide +kernel)))) (Or.inr ⟨rfl, hnm, rfl⟩) (fun _ => rfl) (fun _ => rfl) dX11_init_73 (fun H locs hW => ?_)
  obtain ⟨sh_36, esh_36⟩ : ∃ vv_ : Nat → Option mSh, vv_ = va_up sh_34 200 (some (mO 10 ((((((((((nKs [false, true, false, true, true, true, false, true, false, true, true, false, false, false, true, true, true, true, true, true, true, false, false, false, false, true, true, false, false, false, true, true, false, true, true, true, false, false]).set 1 (some (fun _ => some 201))).set 3 (some (fun _ => some 202))).set 4 (some (fun _ => some 203))).set 5 (some (fun _ => some 204))).set 7 (some (fun _ => some 205))).set 9 (some (fun _ => some 206))).set 10 (some (fun _ => some 207))).set 14 (some (fun _ => some 208))).set 15 (some (fun _ => some 209))))) := ⟨_, rfl⟩
  rw [← esh_36] at hW
  have qsh_36 : sh_36 200 = some (mO 10 ((((((((((nKs [false, true, false, true, true, true, false, true, false, true, true, false, false, false, true, true, true, true, true, true, true, false, false, false, false, true, true, false, false, false, true, true, false, true, true, true, false, false]).set 1 (some (fun _ => some 201))).set 3 (some (fun _ => some 202))).set 4 (some (fun _ => some 203))).set 5 (some (fun _ => some 204))).set 7 (some (fun _ => some 205))).set 9 (some (fun _ => some 206))).set 10 (some (fun _ => some 207))).set 14 (some (fun _ => some 208))).set 15 (some (fun _ => some 209)))) := by rw [esh_36]; exact va_up_self _ _ _
  have fsh_36 : ∀ a, a ≠ 200 → sh_36 a = sh_34 a := fun a ha => by rw [esh_36]; exact va_up_ne _ _ ha
  clear esh_36
  refine lv_aload_n hx hb dX11_init_76 rfl (lv_at hl 0 rfl) ?_
  refine lv_iconst (v := nI 4) hx hb dX11_init_77 (by decide) ?_
  refine m_newI S hW 210 4 true ((fsh_36 210 (by omega)).trans ((fsh_34 210 (by omega)).trans ((fsh_32 210 (by omega)).trans ((fsh_30 210 (by omega)).trans ((fsh_28 210 (by omega)).trans ((fsh_26 210 (by omega)).trans ((fsh_24 210 (by omega)).trans ((fsh_22 210 (by omega)).trans ((fsh_20 210 (by omega)).trans ((fsh_18 210 (by omega)).trans ((fsh_16 210 (by omega)).trans ((fsh_14 210 (by omega)).trans ((fsh_12 210 (by omega)).trans ((fsh_10 210 (by omega)).trans ((fsh_8 210 (by omega)).trans ((fsh_6 210 (by omega)).trans ((fsh_4 210 (by omega)).trans ((fsh_2 210 (by omega)).trans (hno 210 (by omega)))))))))))))))))))) (List.mem_cons_of_mem _ (wa_2 _ (List.mem_of_getElem? (i := 19) (by decide +kernel)))) (by decide) (Nat.le_of_ble_eq_true rfl) (Nat.le_of_ble_eq_true rfl) dX11_init_78 (fun ad_37 H fad_37 hW => ?_)
  refine W.eq (g2 := F0 m 80 ls [.ref (ad_37 210), .ref (ad_37 200)]) (by rw [fad_37 200 (by omega)]) ?_
  have hl : lv_has ls 2 [(0, .ref (ad_37 200))] := by rw [fad_37 200 (by omega)]; exact hl
  obtain ⟨sh_38, esh_38⟩ : ∃ vv_ : Nat → Option mSh, vv_ = va_up sh_36 210 (some (mI 4)) := ⟨_, rfl⟩
  rw [← esh_38] at hW
  have qsh_38 : sh_38 210 = some (mI 4) := by rw [esh_38]; exact va_up_self _ _ _
  have fsh_38 : ∀ a, a ≠ 210 → sh_38 a = sh_36 a := fun a ha => by rw [esh_38]; exact va_up_ne _ _ ha
  clear esh_38
  obtain ⟨V_39, eV_39⟩ : ∃ vv_ : mV, vv_ = va_up V_35 210 (fun _ => 0) := ⟨_, rfl⟩
  rw [← eV_39] at hW
  have qV_39 : V_39 210 = fun _ => 0 := by rw [eV_39]; exact va_up_self _ _ _
  have fV_39 : ∀ a, a ≠ 210 → V_39 a = V_35 a := fun a ha => by rw [eV_39]; exact va_up_ne _ _ ha
  clear eV_39
  refine m_putc S hW (fun _ => some 210) ((fsh_38 200 (by omega)).trans qsh_36) 16 (Nat.lt_of_lt_of_eq (by decide : 16 < 38) rfl) (j := 210) rfl (by rw [qsh_38]; exact fun z => by cases z) kX11 (iW11 _) tyX11 tyX11_ok nmX11 (by decide) (List.mem_cons_of_mem _ (wa_11 _ (List.mem_of_getElem? (i := 11) (by decide +kernel)))) (Or.inr ⟨rfl, hnm, rfl⟩) (fun _ => rfl) (fun _ => rfl) dX11_init_80 (fun H locs hW => ?_)
  obtain ⟨sh_40, esh_40⟩ : ∃ vv_ : Nat → Option mSh, vv_ = va_up sh_38 200 (some (mO 10 (((((((((((nKs [false, true, false, true, true, true, false, true, false, true, true, false, false, false, true, true, true, true, true, true, true, false, false, false, false, true, true, false, false, false, true, true, false, true, true, true, false, false]).set 1 (some (fun _ => some 201))).set 3 (some (fun _ => some 202))).set 4 (some (fun _ => some 203))).set 5 (some (fun _ => some 204))).set 7 (some (fun _ => some 205))).set 9 (some (fun _ => some 206))).set 10 (some (fun _ => some 207))).set 14 (some (fun _ => some 208))).set 15 (some (fun _ => some 209))).set 16 (some (fun _ => some 210))))) := ⟨_, rfl⟩
  rw [← esh_40] at hW
  have qsh_40 : sh_40 200 = some (mO 10 (((((((((((nKs [false, true, false, true, true, true, false, true, false, true, true, false, false, false, true, true, true, true, true, true, true, false, false, false, false, true, true, false, false, false, true, true, false, true, true, true, false, false]).set 1 (some (fun _ => some 201))).set 3 (some (fun _ => some 202))).set 4 (some (fun _ => some 203))).set 5 (some (fun _ => some 204))).set 7 (some (fun _ => some 205))).set 9 (some (fun _ => some 206))).set 10 (some (fun _ => some 207))).set 14 (some (fun _ => some 208))).set 15 (some (fun _ => some 209))).set 16 (some (fun _ => some 210)))) := by rw [esh_40]; exact va_up_self _ _ _
  have fsh_40 : ∀ a, a ≠ 200 → sh_40 a = sh_38 a := fun a ha => by rw [esh_40]; exact va_up_ne _ _ ha
  clear esh_40
  refine lv_aload_n hx hb dX11_init_83 rfl (lv_at hl 0 rfl) ?_
  refine lv_iconst (v := nI 4) hx hb dX11_init_84 (by decide) ?_
  refine m_newI S hW 211 4 true ((fsh_40 211 (by omega)).trans ((fsh_38 211 (by omega)).trans ((fsh_36 211 (by omega)).trans ((fsh_34 211 (by omega)).trans ((fsh_32 211 (by omega)).trans ((fsh_30 211 (by omega)).trans ((fsh_28 211 (by omega)).trans ((fsh_26 211 (by omega)).trans ((fsh_24 211 (by omega)).trans ((fsh_22 211 (by omega)).trans ((fsh_20 211 (by omega)).trans ((fsh_18 211 (by omega)).trans ((fsh_16 211 (by omega)).trans ((fsh_14 211 (by omega)).trans ((fsh_12 211 (by omega)).trans ((fsh_10 211 (by omega)).trans ((fsh_8 211 (by omega)).trans ((fsh_6 211 (by omega)).trans ((fsh_4 211 (by omega)).trans ((fsh_2 211 (by omega)).trans (hno 211 (by omega)))))))))))))))))))))) (List.mem_cons_of_mem _ (wa_2 _ (List.mem_of_getElem? (i := 19) (by decide +kernel)))) (by decide) (Nat.le_of_ble_eq_true rfl) (Nat.le_of_ble_eq_true rfl) dX11_init_85 (fun ad_41 H fad_41 hW => ?_)
  refine W.eq (g2 := F0 m 87 ls [.ref (ad_41 211), .ref (ad_41 200)]) (by rw [fad_41 200 (by omega)]) ?_
  have hl : lv_has ls 2 [(0, .ref (ad_41 200))] := by rw [fad_41 200 (by omega)]; exact hl
  obtain ⟨sh_42, esh_42⟩ : ∃ vv_ : Nat → Option mSh, vv_ = va_up sh_40 211 (some (mI 4)) := ⟨_, rfl⟩
  rw [← esh_42] at hW
  have qsh_42 : sh_42 211 = some (mI 4) := by rw [esh_42]; exact va_up_self _ _ _
  have fsh_42 : ∀ a, a ≠ 211 → sh_42 a = sh_40 a := fun a ha => by rw [esh_42]; exact va_up_ne _ _ ha
  clear esh_42
  obtain ⟨V_43, eV_43⟩ : ∃ vv_ : mV, vv_ = va_up V_39 211 (fun _ => 0) := ⟨_, rfl⟩
  rw [← eV_43] at hW
  have qV_43 : V_43 211 = fun _ => 0 := by rw [eV_43]; exact va_up_self _ _ _
  have fV_43 : ∀ a, a ≠ 211 → V_43 a = V_39 a := fun a ha => by rw [eV_43]; exact va_up_ne _ _ ha
  clear eV_43
  refine lv_dup hx hb dX11_init_87 rfl ?_
  refine lv_iconst (v := nI 0) hx hb dX11_init_88 (by decide) ?_
  refine lv_iconst (v := -1) hx hb dX11_init_89 (by decide) ?_
  have hf_45 : FillI V_43 V_43 211 so0 0 := FillI.zero _ _ _
  refine m_iast S hW qsh_42 0 rfl (by decide) (by decide) dX11_init_90 (fun H2 locs2 hW2 => ?_)
  obtain ⟨V_44, eV_44⟩ : ∃ vv_ : mV, vv_ = mU V_43 211 0 (-1) := ⟨_, rfl⟩
  rw [← eV_44] at hW2
  have hf_46 : FillI V_43 V_44 211 so0 1 := by rw [eV_44]; exact hf_45.step (by decide +kernel)
  clear hW eV_44 hf_45
  have hW := hW2
  clear hW2
  refine lv_dup hx hb dX11_init_91 rfl ?_
  refine lv_iconst (v := nI 1) hx hb dX11_init_92 (by decide) ?_
  refine lv_iconst (v := -1) hx hb dX11_init_93 (by decide) ?_
  refine m_iast S hW qsh_42 1 rfl (by decide) (by decide) dX11_init_94 (fun H2 locs2 hW2 => ?_)
  obtain ⟨V_47, eV_47⟩ : ∃ vv_ : mV, vv_ = mU V_44 211 1 (-1) := ⟨_, rfl⟩
  rw [← eV_47] at hW2
  have hf_48 : FillI V_43 V_47 211 so0 2 := by rw [eV_47]; exact hf_46.step (by decide +kernel)
  clear hW eV_47 hf_46 V_44
  have hW := hW2
  clear hW2
  refine lv_dup hx hb dX11_init_95 rfl ?_
  refine lv_iconst (v := nI 2) hx hb dX11_init_96 (by decide) ?_
  refine lv_iconst (v := -1) hx hb dX11_init_97 (by decide) ?_
  refine m_iast S hW qsh_42 2 rfl (by decide) (by decide) dX11_init_98 (fun H2 locs2 hW2 => ?_)
  obtain ⟨V_49, eV_49⟩ : ∃ vv_ : mV, vv_ = mU V_47 211 2 (-1) := ⟨_, rfl⟩
  rw [← eV_49] at hW2
  have hf_50 : FillI V_43 V_49 211 so0 3 := by rw [eV_49]; exact hf_48.step (by decide +kernel)
  clear hW eV_49 hf_48 V_47
  have hW := hW2
  clear hW2
  refine lv_dup hx hb dX11_init_99 rfl ?_
  refine lv_iconst (v := nI 3) hx hb dX11_init_100 (by decide) ?_
  refine lv_iconst (v := -1) hx hb dX11_init_101 (by decide) ?_
  refine m_iast S hW qsh_42 3 rfl (by decide) (by decide) dX11_init_102 (fun H2 locs2 hW2 => ?_)
  obtain ⟨V_51, eV_51⟩ : ∃ vv_ : mV, vv_ = mU V_49 211 3 (-1) := ⟨_, rfl⟩
  rw [← eV_51] at hW2
  have hf_52 : FillI V_43 V_51 211 so0 4 := by rw [eV_51]; exact hf_50.step (by decide +kernel)
  clear hW eV_51 hf_50 V_49
  have hW := hW2
  clear hW2
  have fV_51 := hf_52.2
  refine m_putc S hW (fun _ => some 211) ((fsh_42 200 (by omega)).trans qsh_40) 17 (Nat.lt_of_lt_of_eq (by decide : 17 < 38) rfl) (j := 211) rfl (by rw [qsh_42]; exact fun z => by cases z) kX11 (iW11 _) tyX11 tyX11_ok nmX11 (by decide) (List.mem_cons_of_mem _ (wa_11 _ (List.mem_of_getElem? (i := 12) (by decide +kernel)))) (Or.inr ⟨rfl, hnm, rfl⟩) (fun _ => rfl) (fun _ => rfl) dX11_init_103 (fun H locs hW => ?_)
  obtain ⟨sh_53, esh_53⟩ : ∃ vv_ : Nat → Option mSh, vv_ = va_up sh_42 200 (some (mO 10 ((((((((((((nKs [false, true, false, true, true, true, false, true, false, true, true, false, false, false, true, true, true, true, true, true, true, false, false, false, false, true, true, false, false, false, true, true, false, true, true, true, false, false]).set 1 (some (fun _ => some 201))).set 3 (some (fun _ => some 202))).set 4 (some (fun _ => some 203))).set 5 (some (fun _ => some 204))).set 7 (some (fun _ => some 205))).set 9 (some (fun _ => some 206))).set 10 (some (fun _ => some 207))).set 14 (some (fun _ => some 208))).set 15 (some (fun _ => some 209))).set 16 (some (fun _ => some 210))).set 17 (some (fun _ => some 211))))) := ⟨_, rfl⟩
  rw [← esh_53] at hW
  have qsh_53 : sh_53 200 = some (mO 10 ((((((((((((nKs [false, true, false, true, true, true, false, true, false, true, true, false, false, false, true, true, true, true, true, true, true, false, false, false, false, true, true, false, false, false, true, true, false, true, true, true, false, false]).set 1 (some (fun _ => some 201))).set 3 (some (fun _ => some 202))).set 4 (some (fun _ => some 203))).set 5 (some (fun _ => some 204))).set 7 (some (fun _ => some 205))).set 9 (some (fun _ => some 206))).set 10 (some (fun _ => some 207))).set 14 (some (fun _ => some 208))).set 15 (some (fun _ => some 209))).set 16 (some (fun _ => some 210))).set 17 (some (fun _ => some 211)))) := by rw [esh_53]; exact va_up_self _ _ _
  have fsh_53 : ∀ a, a ≠ 200 → sh_53 a = sh_42 a := fun a ha => by rw [esh_53]; exact va_up_ne _ _ ha
  clear esh_53
  refine lv_aload_n hx hb dX11_init_106 rfl (lv_at hl 0 rfl) ?_
  refine lv_iconst (v := nI 4) hx hb dX11_init_107 (by decide) ?_
  refine m_newI S hW 212 4 true ((fsh_53 212 (by omega)).trans ((fsh_42 212 (by omega)).trans ((fsh_40 212 (by omega)).trans ((fsh_38 212 (by omega)).trans ((fsh_36 212 (by omega)).trans ((fsh_34 212 (by omega)).trans ((fsh_32 212 (by omega)).trans ((fsh_30 212 (by omega)).trans ((fsh_28 212 (by omega)).trans ((fsh_26 212 (by omega)).trans ((fsh_24 212 (by omega)).trans ((fsh_22 212 (by omega)).trans ((fsh_20 212 (by omega)).trans ((fsh_18 212 (by omega)).trans ((fsh_16 212 (by omega)).trans ((fsh_14 212 (by omega)).trans ((fsh_12 212 (by omega)).trans ((fsh_10 212 (by omega)).trans ((fsh_8 212 (by omega)).trans ((fsh_6 212 (by omega)).trans ((fsh_4 212 (by omega)).trans ((fsh_2 212 (by omega)).trans (hno 212 (by omega)))))))))))))))))))))))) (List.mem_cons_of_mem _ (wa_2 _ (List.mem_of_getElem? (i := 19) (by decide +kernel)))) (by decide) (Nat.le_of_ble_eq_true rfl) (Nat.le_of_ble_eq_true rfl) dX11_init_108 (fun ad_54 H fad_54 hW => ?_)
  refine W.eq (g2 := F0 m 110 ls [.ref (ad_54 212), .ref (ad_54 200)]) (by rw [fad_54 200 (by omega)]) ?_
  have hl : lv_has ls 2 [(0, .ref (ad_54 200))] := by rw [fad_54 200 (by omega)]; exact hl
  obtain ⟨sh_55, esh_55⟩ : ∃ vv_ : Nat → Option mSh, vv_ = va_up sh_53 212 (some (mI 4)) := ⟨_, rfl⟩
  rw [← esh_55] at hW
  have qsh_55 : sh_55 212 = some (mI 4) := by rw [esh_55]; exact va_up_self _ _ _
  have fsh_55 : ∀ a, a ≠ 212 → sh_55 a = sh_53 a := fun a ha => by rw [esh_55]; exact va_up_ne _ _ ha
  clear esh_55
  obtain ⟨V_56, eV_56⟩ : ∃ vv_ : mV, vv_ = va_up V_51 212 (fun _ => 0) := ⟨_, rfl⟩
  rw [← eV_56] at hW
  have qV_56 : V_56 212 = fun _ => 0 := by rw [eV_56]; exact va_up_self _ _ _
  have fV_56 : ∀ a, a ≠ 212 → V_56 a = V_51 a := fun a ha => by rw [eV_56]; exact va_up_ne _ _ ha
  clear eV_56
  refine m_putc S hW (fun _ => some 212) ((fsh_55 200 (by omega)).trans qsh_53) 18 (Nat.lt_of_lt_of_eq (by decide : 18 < 38) rfl) (j := 212) rfl (by rw [qsh_55]; exact fun z => by cases z) kX11 (iW11 _) tyX11 tyX11_ok nmX11 (by decide) (List.mem_cons_of_mem _ (wa_11 _ (List.mem_of_getElem? (i := 13) (by decide +kernel)))) (Or.inr ⟨rfl, hnm, rfl⟩) (fun _ => rfl) (fun _ => rfl) dX11_init_110 (fun H locs hW => ?_)
  obtain ⟨sh_57, esh_57⟩ : ∃ vv_ : Nat → Option mSh, vv_ = va_up sh_55 200 (some (mO 10 (((((((((((((nKs [false, true, false, true, true, true, false, true, false, true, true, false, false, false, true, true, true, true, true, true, true, false, false, false, false, true, true, false, false, false, true, true, false, true, true, true, false, false]).set 1 (some (fun _ => some 201))).set 3 (some (fun _ => some 202))).set 4 (some (fun _ => some 203))).set 5 (some (fun _ => some 204))).set 7 (some (fun _ => some 205))).set 9 (some (fun _ => some 206))).set 10 (some (fun _ => some 207))).set 14 (some (fun _ => some 208))).set 15 (some (fun _ => some 209))).set 16 (some (fun _ => some 210))).set 17 (some (fun _ => some 211))).set 18 (some (fun _ => some 212))))) := ⟨_, rfl⟩
  rw [← esh_57] at hW
  have qsh_57 : sh_57 200 = some (mO 10 (((((((((((((nKs [false, true, false, true, true, true, false, true, false, true, true, false, false, false, true, true, true, true, true, true, true, false, false, false, false, true, true, false, false, false, true, true, false, true, true, true, false, false]).set 1 (some (fun _ => some 201))).set 3 (some (fun _ => some 202))).set 4 (some (fun _ => some 203))).set 5 (some (fun _ => some 204))).set 7 (some (fun _ => some 205))).set 9 (some (fun _ => some 206))).set 10 (some (fun _ => some 207))).set 14 (some (fun _ => some 208))).set 15 (some (fun _ => some 209))).set 16 (some (fun _ => some 210))).set 17 (some (fun _ => some 211))).set 18 (some (fun _ => some 212)))) := by rw [esh_57]; exact va_up_self _ _ _
  have fsh_57 : ∀ a, a ≠ 200 → sh_57 a = sh_55 a := fun a ha => by rw [esh_57]; exact va_up_ne _ _ ha
  clear esh_57
  refine lv_aload_n hx hb dX11_init_113 rfl (lv_at hl 0 rfl) ?_
  refine lv_sipush (v := nI 160) hx hb dX11_init_114 (by decide) ?_
  refine m_newI S hW 213 160 true ((fsh_57 213 (by omega)).trans ((fsh_55 213 (by omega)).trans ((fsh_53 213 (by omega)).trans ((fsh_42 213 (by omega)).trans ((fsh_40 213 (by omega)).trans ((fsh_38 213 (by omega)).trans ((fsh_36 213 (by omega)).trans ((fsh_34 213 (by omega)).trans ((fsh_32 213 (by omega)).trans ((fsh_30 213 (by omega)).trans ((fsh_28 213 (by omega)).trans ((fsh_26 213 (by omega)).trans ((fsh_24 213 (by omega)).trans ((fsh_22 213 (by omega)).trans ((fsh_20 213 (by omega)).trans ((fsh_18 213 (by omega)).trans ((fsh_16 213 (by omega)).trans ((fsh_14 213 (by omega)).trans ((fsh_12 213 (by omega)).trans ((fsh_10 213 (by omega)).trans ((fsh_8 213 (by omega)).trans ((fsh_6 213 (by omega)).trans ((fsh_4 213 (by omega)).trans ((fsh_2 213 (by omega)).trans (hno 213 (by omega)))))))))))))))))))))))))) (List.mem_cons_of_mem _ (wa_2 _ (List.mem_of_getElem? (i := 19) (by decide +kernel)))) (by decide) (Nat.le_of_ble_eq_true rfl) (Nat.le_of_ble_eq_true rfl) dX11_init_117 (fun ad_58 H fad_58 hW => ?_)
  refine W.eq (g2 := F0 m 119 ls [.ref (ad_58 213), .ref (ad_58 200)]) (by rw [fad_58 200 (by omega)]) ?_
  have hl : lv_has ls 2 [(0, .ref (ad_58 200))] := by rw [fad_58 200 (by omega)]; exact hl
  obtain ⟨sh_59, esh_59⟩ : ∃ vv_ : Nat → Option mSh, vv_ = va_up sh_57 213 (some (mI 160)) := ⟨_, rfl⟩
  rw [← esh_59] at hW
  have qsh_59 : sh_59 213 = some (mI 160) := by rw [esh_59]; exact va_up_self _ _ _
  have fsh_59 : ∀ a, a ≠ 213 → sh_59 a = sh_57 a := fun a ha => by rw [esh_59]; exact va_up_ne _ _ ha
  clear esh_59
  obtain ⟨V_60, eV_60⟩ : ∃ vv_ : mV, vv_ = va_up V_56 213 (fun _ => 0) := ⟨_, rfl⟩
  rw [← eV_60] at hW
  have qV_60 : V_60 213 = fun _ => 0 := by rw [eV_60]; exact va_up_self _ _ _
  have fV_60 : ∀ a, a ≠ 213 → V_60 a = V_56 a := fun a ha => by rw [eV_60]; exact va_up_ne _ _ ha
  clear eV_60
  refine m_putc S hW (fun _ => some 213) ((fsh_59 200 (by omega)).trans qsh_57) 19 (Nat.lt_of_lt_of_eq (by decide : 19 < 38) rfl) (j := 213) rfl (by rw [qsh_59]; exact fun z => by cases z) kX11 (iW11 _) tyX11 tyX11_ok nmX11 (by decide) (List.mem_cons_of_mem _ (wa_11 _ (List.mem_of_getElem? (i := 14) (by decide +kernel)))) (Or.inr ⟨rfl, hnm, rfl⟩) (fun _ => rfl) (fun _ => rfl) dX11_init_119 (fun H locs hW => ?_)
  obtain ⟨sh_61, esh_61⟩ : ∃ vv_ : Nat → Option mSh, vv_ = va_up sh_59 200 (some (mO 10 ((((((((((((((nKs [false, true, false, true, true, true, false, true, false, true, true, false, false, false, true, true, true, true, true, true, true, false, false, false, false, true, true, false, false, false, true, true, false, true, true, true, false, false]).set 1 (some (fun _ => some 201))).set 3 (some (fun _ => some 202))).set 4 (some (fun _ => some 203))).set 5 (some (fun _ => some 204))).set 7 (some (fun _ => some 205))).set 9 (some (fun _ => some 206))).set 10 (some (fun _ => some 207))).set 14 (some (fun _ => some 208))).set 15 (some (fun _ => some 209))).set 16 (some (fun _ => some 210))).set 17 (some (fun _ => some 211))).set 18 (some (fun _ => some 212))).set 19 (some (fun _ => some 213))))) := ⟨_, rfl⟩
  rw [← esh_61] at hW
  have qsh_61 : sh_61 200 = some (mO 10 ((((((((((((((nKs [false, true, false, true, true, true, false, true, false, true, true, false, false, false, true, true, true, true, true, true, true, false, false, false, false, true, true, false, false, false, true, true, false, true, true, true, false, false]).set 1 (some (fun _ => some 201))).set 3 (some (fun _ => some 202))).set 4 (some (fun _ => some 203))).set 5 (some (fun _ => some 204))).set 7 (some (fun _ => some 205))).set 9 (some (fun _ => some 206))).set 10 (some (fun _ => some 207))).set 14 (some (fun _ => some 208))).set 15 (some (fun _ => some 209))).set 16 (some (fun _ => some 210))).set 17 (some (fun _ => some 211))).set 18 (some (fun _ => some 212))).set 19 (some (fun _ => some 213)))) := by rw [esh_61]; exact va_up_self _ _ _
  have fsh_61 : ∀ a, a ≠ 200 → sh_61 a = sh_59 a := fun a ha => by rw [esh_61]; exact va_up_ne _ _ ha
  clear esh_61
  refine lv_aload_n hx hb dX11_init_122 rfl (lv_at hl 0 rfl) ?_
  refine lv_bipush (v := nI 40) hx hb dX11_init_123 (by decide) ?_
  refine m_newI S hW 214 40 true ((fsh_61 214 (by omega)).trans ((fsh_59 214 (by omega)).trans ((fsh_57 214 (by omega)).trans ((fsh_55 214 (by omega)).trans ((fsh_53 214 (by omega)).trans ((fsh_42 214 (by omega)).trans ((fsh_40 214 (by omega)).trans ((fsh_38 214 (by omega)).trans ((fsh_36 214 (by omega)).trans ((fsh_34 214 (by omega)).trans ((fsh_32 214 (by omega)).trans ((fsh_30 214 (by omega)).trans ((fsh_28 214 (by omega)).trans ((fsh_26 214 (by omega)).trans ((fsh_24 214 (by omega)).trans ((fsh_22 214 (by omega)).trans ((fsh_20 214 (by omega)).trans ((fsh_18 214 (by omega)).trans ((fsh_16 214 (by omega)).trans ((fsh_14 214 (by omega)).trans ((fsh_12 214 (by omega)).trans ((fsh_10 214 (by omega)).trans ((fsh_8 214 (by omega)).trans ((fsh_6 214 (by omega)).trans ((fsh_4 214 (by omega)).trans ((fsh_2 214 (by omega)).trans (hno 214 (by omega)))))))))))))))))))))))))))) (List.mem_cons_of_mem _ (wa_2 _ (List.mem_of_getElem? (i := 19) (by decide +kernel)))) (by decide) (Nat.le_of_ble_eq_true rfl) (Nat.le_of_ble_eq_true rfl) dX11_init_125 (fun ad_62 H fad_62 hW => ?_)
  refine W.eq (g2 := F0 m 127 ls [.ref (ad_62 214), .ref (ad_62 200)]) (by rw [fad_62 200 (by omega)]) ?_
  have hl : lv_has ls 2 [(0, .ref (ad_62 200))] := by rw [fad_62 200 (by omega)]; exact hl
  obtain ⟨sh_63, esh_63⟩ : ∃ vv_ : Nat → Option mSh, vv_ = va_up sh_61 214 (some (mI 40)) := ⟨_, rfl⟩
  rw [← esh_63] at hW
  have qsh_63 : sh_63 214 = some (mI 40) := by rw [esh_63]; exact va_up_self _ _ _
  have fsh_63 : ∀ a, a ≠ 214 → sh_63 a = sh_61 a := fun a ha => by rw [esh_63]; exact va_up_ne _ _ ha
  clear esh_63
  obtain ⟨V_64, eV_64⟩ : ∃ vv_ : mV, vv_ = va_up V_60 214 (fun _ => 0) := ⟨_, rfl⟩
  rw [← eV_64] at hW
  have qV_64 : V_64 214 = fun _ => 0 := by rw [eV_64]; exact va_up_self _ _ _
  have fV_64 : ∀ a, a ≠ 214 → V_64 a = V_60 a := fun a ha => by rw [eV_64]; exact va_up_ne _ _ ha
  clear eV_64
  refine lv_dup hx hb dX11_init_127 rfl ?_
  refine lv_iconst (v := nI 0) hx hb dX11_init_128 (by decide) ?_
  refine lv_bipush (v := nI 112) hx hb dX11_init_129 (by decide) ?_
  have hf_66 : FillI V_64 V_64 214 tx0 0 := FillI.zero _ _ _
  refine m_iast S hW qsh_63 0 rfl (by decide) (by decide) dX11_init_131 (fun H2 locs2 hW2 => ?_)
  obtain ⟨V_65, eV_65⟩ : ∃ vv_ : mV, vv_ = mU V_64 214 0 (nI 112) := ⟨_, rfl⟩
  rw [← eV_65] at hW2
  have hf_67 : FillI V_64 V_65 214 tx0 1 := by rw [eV_65]; exact hf_66.step (by decide +kernel)
  clear hW eV_65 hf_66
  have hW := hW2
  clear hW2
  refine lv_dup hx hb dX11_init_132 rfl ?_
  refine lv_iconst (v := nI 1) hx hb dX11_init_133 (by decide) ?_
  refine lv_bipush (v := nI 97) hx hb dX11_init_134 (by decide) ?_
  refine m_iast S hW qsh_63 1 rfl (by decide) (by decide) dX11_init_136 (fun H2 locs2 hW2 => ?_)
  obtain ⟨V_68, eV_68⟩ : ∃ vv_ : mV, vv_ = mU V_65 214 1 (nI 97) := ⟨_, rfl⟩
  rw [← eV_68] at hW2
  have hf_69 : FillI V_64 V_68 214 tx0 2 := by rw [eV_68]; exact hf_67.step (by decide +kernel)
  clear hW eV_68 hf_67 V_65
  have hW := hW2
  clear hW2
  refine lv_dup hx hb dX11_init_137 rfl ?_
  refine lv_iconst (v := nI 2) hx hb dX11_init_138 (by decide) ?_
  refine lv_bipush (v := nI 121) hx hb dX11_init_139 (by decide) ?_
  refine m_iast S hW qsh_63 2 rfl (by decide) (by decide) dX11_init_141 (fun H2 locs2 hW2 => ?_)
  obtain ⟨V_70, eV_70⟩ : ∃ vv_ : mV, vv_ = mU V_68 214 2 (nI 121) := ⟨_, rfl⟩
  rw [← eV_70] at hW2
  have hf_71 : FillI V_64 V_70 214 tx0 3 := by rw [eV_70]; exact hf_69.step (by decide +kernel)
  clear hW eV_70 hf_69 V_68
  have hW := hW2
  clear hW2
  refine lv_dup hx hb dX11_init_142 rfl ?_
  refine lv_iconst (v := nI 3) hx hb dX11_init_143 (by decide) ?_
  refine lv_bipush (v := nI 115) hx hb dX11_init_144 (by decide) ?_
  refine m_iast S hW qsh_63 3 rfl (by decide) (by decide) dX11_init_146 (fun H2 locs2 hW2 => ?_)
  obtain ⟨V_72, eV_72⟩ : ∃ vv_ : mV, vv_ = mU V_70 214 3 (nI 115) := ⟨_, rfl⟩
  rw [← eV_72] at hW2
  have hf_73 : FillI V_64 V_72 214 tx0 4 := by rw [eV_72]; exact hf_71.step (by decide +kernel)
  clear hW eV_72 hf_71 V_70
  have hW := hW2
  clear hW2
  refine lv_dup hx hb dX11_init_147 rfl ?_
  refine lv_iconst (v := nI 4) hx hb dX11_init_148 (by decide) ?_
  refine lv_bipush (v := nI 32) hx hb dX11_init_149 (by decide) ?_
  refine m_iast S hW qsh_63 4 rfl (by decide) (by decide) dX11_init_151 (fun H2 locs2 hW2 => ?_)
  obtain ⟨V_74, eV_74⟩ : ∃ vv_ : mV, vv_ = mU V_72 214 4 (nI 32) := ⟨_, rfl⟩
  rw [← eV_74] at hW2
  have hf_75 : FillI V_64 V_74 214 tx0 5 := by rw [eV_74]; exact hf_73.step (by decide +kernel)
  clear hW eV_74 hf_73 V_72
  have hW := hW2
  clear hW2
  refine lv_dup hx hb dX11_init_152 rfl ?_
  refine lv_iconst (v := nI 5) hx hb dX11_init_153 (by decide) ?_
  refine lv_bipush (v := nI 99) hx hb dX11_init_154 (by decide) ?_
  refine m_iast S hW qsh_63 5 rfl (by decide) (by decide) dX11_init_156 (fun H2 locs2 hW2 => ?_)
  obtain ⟨V_76, eV_76⟩ : ∃ vv_ : mV, vv_ = mU V_74 214 5 (nI 99) := ⟨_, rfl⟩
  rw [← eV_76] at hW2
  have hf_77 : FillI V_64 V_76 214 tx0 6 := by rw [eV_76]; exact hf_75.step (by decide +kernel)
  clear hW eV_76 hf_75 V_74
  have hW := hW2
  clear hW2
  refine lv_dup hx hb dX11_init_157 rfl ?_
  refine lv_bipush (v := nI 6) hx hb dX11_init_158 (by decide) ?_
  refine lv_bipush (v := nI 101) hx hb dX11_init_160 (by decide) ?_
  refine m_iast S hW qsh_63 6 rfl (by decide) (by decide) dX11_init_162 (fun H2 locs2 hW2 => ?_)
  obtain ⟨V_78, eV_78⟩ : ∃ vv_ : mV, vv_ = mU V_76 214 6 (nI 101) := ⟨_, rfl⟩
  rw [← eV_78] at hW2
  have hf_79 : FillI V_64 V_78 214 tx0 7 := by rw [eV_78]; exact hf_77.step (by decide +kernel)
  clear hW eV_78 hf_77 V_76
  have hW := hW2
  clear hW2
  refine lv_dup hx hb dX11_init_163 rfl ?_
  refine lv_bipush (v := nI 7) hx hb dX11_init_164 (by decide) ?_
  refine lv_bipush (v := nI 108) hx hb dX11_init_166 (by decide) ?_
  refine m_iast S hW qsh_63 7 rfl (by decide) (by decide) dX11_init_168 (fun H2 locs2 hW2 => ?_)
  obtain ⟨V_80, eV_80⟩ : ∃ vv_ : mV, vv_ = mU V_78 214 7 (nI 108) := ⟨_, rfl⟩
  rw [← eV_80] at hW2
  have hf_81 : FillI V_64 V_80 214 tx0 8 := by rw [eV_80]; exact hf_79.step (by decide +kernel)
  clear hW eV_80 hf_79 V_78
  have hW := hW2
  clear hW2
  refine lv_dup hx hb dX11_init_169 rfl ?_
  refine lv_bipush (v := nI 8) hx hb dX11_init_170 (by decide) ?_
  refine lv_bipush (v := nI 108) hx hb dX11_init_172 (by decide) ?_
  refine m_iast S hW qsh_63 8 rfl (by decide) (by decide) dX11_init_174 (fun H2 locs2 hW2 => ?_)
  obtain ⟨V_82, eV_82⟩ : ∃ vv_ : mV, vv_ = mU V_80 214 8 (nI 108) := ⟨_, rfl⟩
  rw [← eV_82] at hW2
  have hf_83 : FillI V_64 V_82 214 tx0 9 := by rw [eV_82]; exact hf_81.step (by decide +kernel)
  clear hW eV_82 hf_81 V_80
  have hW := hW2
  clear hW2
  refine lv_dup hx hb dX11_init_175 rfl ?_
  refine lv_bipush (v := nI 9) hx hb dX11_init_176 (by decide) ?_
  refine lv_bipush (v := nI 115) hx hb dX11_init_178 (by decide) ?_
  refine m_iast S hW qsh_63 9 rfl (by decide) (by decide) dX11_init_180 (fun H2 locs2 hW2 => ?_)
  obtain ⟨V_84, eV_84⟩ : ∃ vv_ : mV, vv_ = mU V_82 214 9 (nI 115) := ⟨_, rfl⟩
  rw [← eV_84] at hW2
  have hf_85 : FillI V_64 V_84 214 tx0 10 := by rw [eV_84]; exact hf_83.step (by decide +kernel)
  clear hW eV_84 hf_83 V_82
  have hW := hW2
  clear hW2
  refine lv_dup hx hb dX11_init_181 rfl ?_
  refine lv_bipush (v := nI 10) hx hb dX11_init_182 (by decide) ?_
  refine lv_bipush (v := nI 32) hx hb dX11_init_184 (by decide) ?_
  refine m_iast S hW qsh_63 10 rfl (by decide) (by decide) dX11_init_186 (fun H2 locs2 hW2 => ?_)
  obtain ⟨V_86, eV_86⟩ : ∃ vv_ : mV, vv_ = mU V_84 214 10 (nI 32) := ⟨_, rfl⟩
  rw [← eV_86] at hW2
  have hf_87 : FillI V_64 V_86 214 tx0 11 := by rw [eV_86]; exact hf_85.step (by decide +kernel)
  clear hW eV_86 hf_85 V_84
  have hW := hW2
  clear hW2
  refine lv_dup hx hb dX11_init_187 rfl ?_
  refine lv_bipush (v := nI 11) hx hb dX11_init_188 (by decide) ?_
  refine lv_bipush (v := nI 42) hx hb dX11_init_190 (by decide) ?_
  refine m_iast S hW qsh_63 11 rfl (by decide) (by decide) dX11_init_192 (fun H2 locs2 hW2 => ?_)
  obtain ⟨V_88, eV_88⟩ : ∃ vv_ : mV, vv_ = mU V_86 214 11 (nI 42) := ⟨_, rfl⟩
  rw [← eV_88] at hW2
  have hf_89 : FillI V_64 V_88 214 tx0 12 := by rw [eV_88]; exact hf_87.step (by decide +kernel)
  clear hW eV_88 hf_87 V_86
  have hW := hW2
  clear hW2
  refine lv_dup hx hb dX11_init_193 rfl ?_
  refine lv_bipush (v := nI 12) hx hb dX11_init_194 (by decide) ?_
  refine lv_bipush (v := nI 32) hx hb dX11_init_196 (by decide) ?_
  refine m_iast S hW qsh_63 12 rfl (by decide) (by decide) dX11_init_198 (fun H2 locs2 hW2 => ?_)
  obtain ⟨V_90, eV_90⟩ : ∃ vv_ : mV, vv_ = mU V_88 214 12 (nI 32) := ⟨_, rfl⟩
  rw [← eV_90] at hW2
  have hf_91 : FillI V_64 V_90 214 tx0 13 := by rw [eV_90]; exact hf_89.step (by decide +kernel)
  clear hW eV_90 hf_89 V_88
  have hW := hW2
  clear hW2
  refine lv_dup hx hb dX11_init_199 rfl ?_
  refine lv_bipush (v := nI 13) hx hb dX11_init_200 (by decide) ?_
  refine lv_bipush (v := nI 50) hx hb dX11_init_202 (by decide) ?_
  refine m_iast S hW qsh_63 13 rfl (by decide) (by decide) dX11_init_204 (fun H2 locs2 hW2 => ?_)
  obtain ⟨V_92, eV_92⟩ : ∃ vv_ : mV, vv_ = mU V_90 214 13 (nI 50) := ⟨_, rfl⟩
  rw [← eV_92] at hW2
  have hf_93 : FillI V_64 V_92 214 tx0 14 := by rw [eV_92]; exact hf_91.step (by decide +kernel)
  clear hW eV_92 hf_91 V_90
  have hW := hW2
  clear hW2
  refine lv_dup hx hb dX11_init_205 rfl ?_
  refine lv_bipush (v := nI 14) hx hb dX11_init_206 (by decide) ?_
  refine lv_bipush (v := nI 32) hx hb dX11_init_208 (by decide) ?_
  refine m_iast S hW qsh_63 14 rfl (by decide) (by decide) dX11_init_210 (fun H2 locs2 hW2 => ?_)
  obtain ⟨V_94, eV_94⟩ : ∃ vv_ : mV, vv_ = mU V_92 214 14 (nI 32) := ⟨_, rfl⟩
  rw [← eV_94] at hW2
  have hf_95 : FillI V_64 V_94 214 tx0 15 := by rw [eV_94]; exact hf_93.step (by decide +kernel)
  clear hW eV_94 hf_93 V_92
  have hW := hW2
  clear hW2
  refine lv_dup hx hb dX11_init_211 rfl ?_
  refine lv_bipush (v := nI 15) hx hb dX11_init_212 (by decide) ?_
  refine lv_bipush (v := nI 59) hx hb dX11_init_214 (by decide) ?_
  refine m_iast S hW qsh_63 15 rfl (by decide) (by decide) dX11_init_216 (fun H2 locs2 hW2 => ?_)
  obtain ⟨V_96, eV_96⟩ : ∃ vv_ : mV, vv_ = mU V_94 214 15 (nI 59) := ⟨_, rfl⟩
  rw [← eV_96] at hW2
  have hf_97 : FillI V_64 V_96 214 tx0 16 := by rw [eV_96]; exact hf_95.step (by decide +kernel)
  clear hW eV_96 hf_95 V_94
  have hW := hW2
  clear hW2
  refine lv_dup hx hb dX11_init_217 rfl ?_
  refine lv_bipush (v := nI 16) hx hb dX11_init_218 (by decide) ?_
  refine lv_bipush (v := nI 32) hx hb dX11_init_220 (by decide) ?_
  refine m_iast S hW qsh_63 16 rfl (by decide) (by decide) dX11_init_222 (fun H2 locs2 hW2 => ?_)
  obtain ⟨V_98, eV_98⟩ : ∃ vv_ : mV, vv_ = mU V_96 214 16 (nI 32) := ⟨_, rfl⟩
  rw [← eV_98] at hW2
  have hf_99 : FillI V_64 V_98 214 tx0 17 := by rw [eV_98]; exact hf_97.step (by decide +kernel)
  clear hW eV_98 hf_97 V_96
  have hW := hW2
  clear hW2
  refine lv_dup hx hb dX11_init_223 rfl ?_
  refine lv_bipush (v := nI 17) hx hb dX11_init_224 (by decide) ?_
  refine lv_bipush (v := nI 108) hx hb dX11_init_226 (by decide) ?_
  refine m_iast S hW qsh_63 17 rfl (by decide) (by decide) dX11_init_228 (fun H2 locs2 hW2 => ?_)
  obtain ⟨V_100, eV_100⟩ : ∃ vv_ : mV, vv_ = mU V_98 214 17 (nI 108) := ⟨_, rfl⟩
  rw [← eV_100] at hW2
  have hf_101 : FillI V_64 V_100 214 tx0 18 := by rw [eV_100]; exact hf_99.step (by decide +kernel)
  clear hW eV_100 hf_99 V_98
  have hW := hW2
  clear hW2
  refine lv_dup hx hb dX11_init_229 rfl ?_
  refine lv_bipush (v := nI 18) hx hb dX11_init_230 (by decide) ?_
  refine lv_bipush (v := nI 105) hx hb dX11_init_232 (by decide) ?_
  refine m_iast S hW qsh_63 18 rfl (by decide) (by decide) dX11_init_234 (fun H2 locs2 hW2 => ?_)
  obtain ⟨V_102, eV_102⟩ : ∃ vv_ : mV, vv_ = mU V_100 214 18 (nI 105) := ⟨_, rfl⟩
  rw [← eV_102] at hW2
  have hf_103 : FillI V_64 V_102 214 tx0 19 := by rw [eV_102]; exact hf_101.step (by decide +kernel)
  clear hW eV_102 hf_101 V_100
  have hW := hW2
  clear hW2
  refine lv_dup hx hb dX11_init_235 rfl ?_
  refine lv_bipush (v := nI 19) hx hb dX11_init_236 (by decide) ?_
  refine lv_bipush (v := nI 107) hx hb dX11_init_238 (by decide) ?_
  refine m_iast S hW qsh_63 19 rfl (by decide) (by decide) dX11_init_240 (fun H2 locs2 hW2 => ?_)
  obtain ⟨V_104, eV_104⟩ : ∃ vv_ : mV, vv_ = mU V_102 214 19 (nI 107) := ⟨_, rfl⟩
  rw [← eV_104] at hW2
  have hf_105 : FillI V_64 V_104 214 tx0 20 := by rw [eV_104]; exact hf_103.step (by decide +kernel)
  clear hW eV_104 hf_103 V_102
  have hW := hW2
  clear hW2
  refine lv_dup hx hb dX11_init_241 rfl ?_
  refine lv_bipush (v := nI 20) hx hb dX11_init_242 (by decide) ?_
  refine lv_bipush (v := nI 101) hx hb dX11_init_244 (by decide) ?_
  refine m_iast S hW qsh_63 20 rfl (by decide) (by decide) dX11_init_246 (fun H2 locs2 hW2 => ?_)
  obtain ⟨V_106, eV_106⟩ : ∃ vv_ : mV, vv_ = mU V_104 214 20 (nI 101) := ⟨_, rfl⟩
  rw [← eV_106] at hW2
  have hf_107 : FillI V_64 V_106 214 tx0 21 := by rw [eV_106]; exact hf_105.step (by decide +kernel)
  clear hW eV_106 hf_105 V_104
  have hW := hW2
  clear hW2
  refine lv_dup hx hb dX11_init_247 rfl ?_
  refine lv_bipush (v := nI 21) hx hb dX11_init_248 (by decide) ?_
  refine lv_bipush (v := nI 115) hx hb dX11_init_250 (by decide) ?_
  refine m_iast S hW qsh_63 21 rfl (by decide) (by decide) dX11_init_252 (fun H2 locs2 hW2 => ?_)
  obtain ⟨V_108, eV_108⟩ : ∃ vv_ : mV, vv_ = mU V_106 214 21 (nI 115) := ⟨_, rfl⟩
  rw [← eV_108] at hW2
  have hf_109 : FillI V_64 V_108 214 tx0 22 := by rw [eV_108]; exact hf_107.step (by decide +kernel)
  clear hW eV_108 hf_107 V_106
  have hW := hW2
  clear hW2
  refine lv_dup hx hb dX11_init_253 rfl ?_
  refine lv_bipush (v := nI 22) hx hb dX11_init_254 (by decide) ?_
  refine lv_bipush (v := nI 32) hx hb dX11_init_256 (by decide) ?_
  refine m_iast S hW qsh_63 22 rfl (by decide) (by decide) dX11_init_258 (fun H2 locs2 hW2 => ?_)
  obtain ⟨V_110, eV_110⟩ : ∃ vv_ : mV, vv_ = mU V_108 214 22 (nI 32) := ⟨_, rfl⟩
  rw [← eV_110] at hW2
  have hf_111 : FillI V_64 V_110 214 tx0 23 := by rw [eV_110]; exact hf_109.step (by decide +kernel)
  clear hW eV_110 hf_109 V_108
  have hW := hW2
  clear hW2
  refine lv_dup hx hb dX11_init_259 rfl ?_
  refine lv_bipush (v := nI 23) hx hb dX11_init_260 (by decide) ?_
  refine lv_bipush (v := nI 119) hx hb dX11_init_262 (by decide) ?_
  refine m_iast S hW qsh_63 23 rfl (by decide) (by decide) dX11_init_264 (fun H2 locs2 hW2 => ?_)
  obtain ⟨V_112, eV_112⟩ : ∃ vv_ : mV, vv_ = mU V_110 214 23 (nI 119) := ⟨_, rfl⟩
  rw [← eV_112] at hW2
  have hf_113 : FillI V_64 V_112 214 tx0 24 := by rw [eV_112]; exact hf_111.step (by decide +kernel)
  clear hW eV_112 hf_111 V_110
  have hW := hW2
  clear hW2
  refine lv_dup hx hb dX11_init_265 rfl ?_
  refine lv_bipush (v := nI 24) hx hb dX11_init_266 (by decide) ?_
  refine lv_bipush (v := nI 111) hx hb dX11_init_268 (by decide) ?_
  refine m_iast S hW qsh_63 24 rfl (by decide) (by decide) dX11_init_270 (fun H2 locs2 hW2 => ?_)
  obtain ⟨V_114, eV_114⟩ : ∃ vv_ : mV, vv_ = mU V_112 214 24 (nI 111) := ⟨_, rfl⟩
  rw [← eV_114] at hW2
  have hf_115 : FillI V_64 V_114 214 tx0 25 := by rw [eV_114]; exact hf_113.step (by decide +kernel)
  clear hW eV_114 hf_113 V_112
  have hW := hW2
  clear hW2
  refine lv_dup hx hb dX11_init_271 rfl ?_
  refine lv_bipush (v := nI 25) hx hb dX11_init_272 (by decide) ?_
  refine lv_bipush (v := nI 114) hx hb dX11_init_274 (by decide) ?_
  refine m_iast S hW qsh_63 25 rfl (by decide) (by decide) dX11_init_276 (fun H2 locs2 hW2 => ?_)
  obtain ⟨V_116, eV_116⟩ : ∃ vv_ : mV, vv_ = mU V_114 214 25 (nI 114) := ⟨_, rfl⟩
  rw [← eV_116] at hW2
  have hf_117 : FillI V_64 V_116 214 tx0 26 := by rw [eV_116]; exact hf_115.step (by decide +kernel)
  clear hW eV_116 hf_115 V_114
  have hW := hW2
  clear hW2
  refine lv_dup hx hb dX11_init_277 rfl ?_
  refine lv_bipush (v := nI 26) hx hb dX11_init_278 (by decide) ?_
  refine lv_bipush (v := nI 116) hx hb dX11_init_280 (by decide) ?_
  refine m_iast S hW qsh_63 26 rfl (by decide) (by decide) dX11_init_282 (fun H2 locs2 hW2 => ?_)
  obtain ⟨V_118, eV_118⟩ : ∃ vv_ : mV, vv_ = mU V_116 214 26 (nI 116) := ⟨_, rfl⟩
  rw [← eV_118] at hW2
  have hf_119 : FillI V_64 V_118 214 tx0 27 := by rw [eV_118]; exact hf_117.step (by decide +kernel)
  clear hW eV_118 hf_117 V_116
  have hW := hW2
  clear hW2
  refine lv_dup hx hb dX11_init_283 rfl ?_
  refine lv_bipush (v := nI 27) hx hb dX11_init_284 (by decide) ?_
  refine lv_bipush (v := nI 104) hx hb dX11_init_286 (by decide) ?_
  refine m_iast S hW qsh_63 27 rfl (by decide) (by decide) dX11_init_288 (fun H2 locs2 hW2 => ?_)
  obtain ⟨V_120, eV_120⟩ : ∃ vv_ : mV, vv_ = mU V_118 214 27 (nI 104) := ⟨_, rfl⟩
  rw [← eV_120] at hW2
  have hf_121 : FillI V_64 V_120 214 tx0 28 := by rw [eV_120]; exact hf_119.step (by decide +kernel)
  clear hW eV_120 hf_119 V_118
  have hW := hW2
  clear hW2
  refine lv_dup hx hb dX11_init_289 rfl ?_
  refine lv_bipush (v := nI 28) hx hb dX11_init_290 (by decide) ?_
  refine lv_bipush (v := nI 32) hx hb dX11_init_292 (by decide) ?_
  refine m_iast S hW qsh_63 28 rfl (by decide) (by decide) dX11_init_294 (fun H2 locs2 hW2 => ?_)
  obtain ⟨V_122, eV_122⟩ : ∃ vv_ : mV, vv_ = mU V_120 214 28 (nI 32) := ⟨_, rfl⟩
  rw [← eV_122] at hW2
  have hf_123 : FillI V_64 V_122 214 tx0 29 := by rw [eV_122]; exact hf_121.step (by decide +kernel)
  clear hW eV_122 hf_121 V_120
  have hW := hW2
  clear hW2
  refine lv_dup hx hb dX11_init_295 rfl ?_
  refine lv_bipush (v := nI 29) hx hb dX11_init_296 (by decide) ?_
  refine lv_bipush (v := nI 59) hx hb dX11_init_298 (by decide) ?_
  refine m_iast S hW qsh_63 29 rfl (by decide) (by decide) dX11_init_300 (fun H2 locs2 hW2 => ?_)
  obtain ⟨V_124, eV_124⟩ : ∃ vv_ : mV, vv_ = mU V_122 214 29 (nI 59) := ⟨_, rfl⟩
  rw [← eV_124] at hW2
  have hf_125 : FillI V_64 V_124 214 tx0 30 := by rw [eV_124]; exact hf_123.step (by decide +kernel)
  clear hW eV_124 hf_123 V_122
  have hW := hW2
  clear hW2
  refine lv_dup hx hb dX11_init_301 rfl ?_
  refine lv_bipush (v := nI 30) hx hb dX11_init_302 (by decide) ?_
  refine lv_bipush (v := nI 32) hx hb dX11_init_304 (by decide) ?_
  refine m_iast S hW qsh_63 30 rfl (by decide) (by decide) dX11_init_306 (fun H2 locs2 hW2 => ?_)
  obtain ⟨V_126, eV_126⟩ : ∃ vv_ : mV, vv_ = mU V_124 214 30 (nI 32) := ⟨_, rfl⟩
  rw [← eV_126] at hW2
  have hf_127 : FillI V_64 V_126 214 tx0 31 := by rw [eV_126]; exact hf_125.step (by decide +kernel)
  clear hW eV_126 hf_125 V_124
  have hW := hW2
  clear hW2
  refine lv_dup hx hb dX11_init_307 rfl ?_
  refine lv_bipush (v := nI 31) hx hb dX11_init_308 (by decide) ?_
  refine lv_bipush (v := nI 119) hx hb dX11_init_310 (by decide) ?_
  refine m_iast S hW qsh_63 31 rfl (by decide) (by decide) dX11_init_312 (fun H2 locs2 hW2 => ?_)
  obtain ⟨V_128, eV_128⟩ : ∃ vv_ : mV, vv_ = mU V_126 214 31 (nI 119) := ⟨_, rfl⟩
  rw [← eV_128] at hW2
  have hf_129 : FillI V_64 V_128 214 tx0 32 := by rw [eV_128]; exact hf_127.step (by decide +kernel)
  clear hW eV_128 hf_127 V_126
  have hW := hW2
  clear hW2
  refine lv_dup hx hb dX11_init_313 rfl ?_
  refine lv_bipush (v := nI 32) hx hb dX11_init_314 (by decide) ?_
  refine lv_bipush (v := nI 97) hx hb dX11_init_316 (by decide) ?_
  refine m_iast S hW qsh_63 32 rfl (by decide) (by decide) dX11_init_318 (fun H2 locs2 hW2 => ?_)
  obtain ⟨V_130, eV_130⟩ : ∃ vv_ : mV, vv_ = mU V_128 214 32 (nI 97) := ⟨_, rfl⟩
  rw [← eV_130] at hW2
  have hf_131 : FillI V_64 V_130 214 tx0 33 := by rw [eV_130]; exact hf_129.step (by decide +kernel)
  clear hW eV_130 hf_129 V_128
  have hW := hW2
  clear hW2
  refine lv_dup hx hb dX11_init_319 rfl ?_
  refine lv_bipush (v := nI 33) hx hb dX11_init_320 (by decide) ?_
  refine lv_bipush (v := nI 105) hx hb dX11_init_322 (by decide) ?_
  refine m_iast S hW qsh_63 33 rfl (by decide) (by decide) dX11_init_324 (fun H2 locs2 hW2 => ?_)
  obtain ⟨V_132, eV_132⟩ : ∃ vv_ : mV, vv_ = mU V_130 214 33 (nI 105) := ⟨_, rfl⟩
  rw [← eV_132] at hW2
  have hf_133 : FillI V_64 V_132 214 tx0 34 := by rw [eV_132]; exact hf_131.step (by decide +kernel)
  clear hW eV_132 hf_131 V_130
  have hW := hW2
  clear hW2
  refine lv_dup hx hb dX11_init_325 rfl ?_
  refine lv_bipush (v := nI 34) hx hb dX11_init_326 (by decide) ?_
  refine lv_bipush (v := nI 116) hx hb dX11_init_328 (by decide) ?_
  refine m_iast S hW qsh_63 34 rfl (by decide) (by decide) dX11_init_330 (fun H2 locs2 hW2 => ?_)
  obtain ⟨V_134, eV_134⟩ : ∃ vv_ : mV, vv_ = mU V_132 214 34 (nI 116) := ⟨_, rfl⟩
  rw [← eV_134] at hW2
  have hf_135 : FillI V_64 V_134 214 tx0 35 := by rw [eV_134]; exact hf_133.step (by decide +kernel)
  clear hW eV_134 hf_133 V_132
  have hW := hW2
  clear hW2
  refine lv_dup hx hb dX11_init_331 rfl ?_
  refine lv_bipush (v := nI 35) hx hb dX11_init_332 (by decide) ?_
  refine lv_bipush (v := nI 115) hx hb dX11_init_334 (by decide) ?_
  refine m_iast S hW qsh_63 35 rfl (by decide) (by decide) dX11_init_336 (fun H2 locs2 hW2 => ?_)
  obtain ⟨V_136, eV_136⟩ : ∃ vv_ : mV, vv_ = mU V_134 214 35 (nI 115) := ⟨_, rfl⟩
  rw [← eV_136] at hW2
  have hf_137 : FillI V_64 V_136 214 tx0 36 := by rw [eV_136]; exact hf_135.step (by decide +kernel)
  clear hW eV_136 hf_135 V_134
  have hW := hW2
  clear hW2
  refine lv_dup hx hb dX11_init_337 rfl ?_
  refine lv_bipush (v := nI 36) hx hb dX11_init_338 (by decide) ?_
  refine lv_bipush (v := nI 32) hx hb dX11_init_340 (by decide) ?_
  refine m_iast S hW qsh_63 36 rfl (by decide) (by decide) dX11_init_342 (fun H2 locs2 hW2 => ?_)
  obtain ⟨V_138, eV_138⟩ : ∃ vv_ : mV, vv_ = mU V_136 214 36 (nI 32) := ⟨_, rfl⟩
  rw [← eV_138] at hW2
  have hf_139 : FillI V_64 V_138 214 tx0 37 := by rw [eV_138]; exact hf_137.step (by decide +kernel)
  clear hW eV_138 hf_137 V_136
  have hW := hW2
  clear hW2
  refine lv_dup hx hb dX11_init_343 rfl ?_
  refine lv_bipush (v := nI 37) hx hb dX11_init_344 (by decide) ?_
  refine lv_bipush (v := nI 48) hx hb dX11_init_346 (by decide) ?_
  refine m_iast S hW qsh_63 37 rfl (by decide) (by decide) dX11_init_348 (fun H2 locs2 hW2 => ?_)
  obtain ⟨V_140, eV_140⟩ : ∃ vv_ : mV, vv_ = mU V_138 214 37 (nI 48) := ⟨_, rfl⟩
  rw [← eV_140] at hW2
  have hf_141 : FillI V_64 V_140 214 tx0 38 := by rw [eV_140]; exact hf_139.step (by decide +kernel)
  clear hW eV_140 hf_139 V_138
  have hW := hW2
  clear hW2
  refine lv_dup hx hb dX11_init_349 rfl ?_
  refine lv_bipush (v := nI 38) hx hb dX11_init_350 (by decide) ?_
  refine lv_bipush (v := nI 32) hx hb dX11_init_352 (by decide) ?_
  refine m_iast S hW qsh_63 38 rfl (by decide) (by decide) dX11_init_354 (fun H2 locs2 hW2 => ?_)
  obtain ⟨V_142, eV_142⟩ : ∃ vv_ : mV, vv_ = mU V_140 214 38 (nI 32) := ⟨_, rfl⟩
  rw [← eV_142] at hW2
  have hf_143 : FillI V_64 V_142 214 tx0 39 := by rw [eV_142]; exact hf_141.step (by decide +kernel)
  clear hW eV_142 hf_141 V_140
  have hW := hW2
  clear hW2
  refine lv_dup hx hb dX11_init_355 rfl ?_
  refine lv_bipush (v := nI 39) hx hb dX11_init_356 (by decide) ?_
  refine lv_bipush (v := nI 59) hx hb dX11_init_358 (by decide) ?_
  refine m_iast S hW qsh_63 39 rfl (by decide) (by decide) dX11_init_360 (fun H2 locs2 hW2 => ?_)
  obtain ⟨V_144, eV_144⟩ : ∃ vv_ : mV, vv_ = mU V_142 214 39 (nI 59) := ⟨_, rfl⟩
  rw [← eV_144] at hW2
  have hf_145 : FillI V_64 V_144 214 tx0 40 := by rw [eV_144]; exact hf_143.step (by decide +kernel)
  clear hW eV_144 hf_143 V_142
  have hW := hW2
  clear hW2
  have fV_144 := hf_145.2
  refine m_putc S hW (fun _ => some 214) ((fsh_63 200 (by omega)).trans qsh_61) 20 (Nat.lt_of_lt_of_eq (by decide : 20 < 38) rfl) (j := 214) rfl (by rw [qsh_63]; exact fun z => by cases z) kX11 (iW11 _) tyX11 tyX11_ok nmX11 (by decide) (List.mem_cons_of_mem _ (wa_11 _ (List.mem_of_getElem? (i := 15) (by decide +kernel)))) (Or.inr ⟨rfl, hnm, rfl⟩) (fun _ => rfl) (fun _ => rfl) dX11_init_361 (fun H locs hW => ?_)
  obtain ⟨sh_146, esh_146⟩ : ∃ vv_ : Nat → Option mSh, vv_ = va_up sh_63 200 (some (mO 10 (((((((((((((((nKs [false, true, false, true, true, true, false, true, false, true, true, false, false, false, true, true, true, true, true, true, true, false, false, false, false, true, true, false, false, false, true, true, false, true, true, true, false, false]).set 1 (some (fun _ => some 201))).set 3 (some (fun _ => some 202))).set 4 (some (fun _ => some 203))).set 5 (some (fun _ => some 204))).set 7 (some (fun _ => some 205))).set 9 (some (fun _ => some 206))).set 10 (some (fun _ => some 207))).set 14 (some (fun _ => some 208))).set 15 (some (fun _ => some 209))).set 16 (some (fun _ => some 210))).set 17 (some (fun _ => some 211))).set 18 (some (fun _ => some 212))).set 19 (some (fun _ => some 213))).set 20 (some (fun _ => some 214))))) := ⟨_, rfl⟩
  rw [← esh_146] at hW
  have qsh_146 : sh_146 200 = some (mO 10 (((((((((((((((nKs [false, true, false, true, true, true, false, true, false, true, true, false, false, false, true, true, true, true, true, true, true, false, false, false, false, true, true, false, false, false, true, true, false, true, true, true, false, false]).set 1 (some (fun _ => some 201))).set 3 (some (fun _ => some 202))).set 4 (some (fun _ => some 203))).set 5 (some (fun _ => some 204))).set 7 (some (fun _ => some 205))).set 9 (some (fun _ => some 206))).set 10 (some (fun _ => some 207))).set 14 (some (fun _ => some 208))).set 15 (some (fun _ => some 209))).set 16 (some (fun _ => some 210))).set 17 (some (fun _ => some 211))).set 18 (some (fun _ => some 212))).set 19 (some (fun _ => some 213))).set 20 (some (fun _ => some 214)))) := by rw [esh_146]; exact va_up_self _ _ _
  have fsh_146 : ∀ a, a ≠ 200 → sh_146 a = sh_63 a := fun a ha => by rw [esh_146]; exact va_up_ne _ _ ha
  clear esh_146
  refine lv_aload_n hx hb dX11_init_364 rfl (lv_at hl 0 rfl) ?_
  refine lv_bipush (v := nI 96) hx hb dX11_init_365 (by decide) ?_
  refine m_newI S hW 215 96 true ((fsh_146 215 (by omega)).trans ((fsh_63 215 (by omega)).trans ((fsh_61 215 (by omega)).trans ((fsh_59 215 (by omega)).trans ((fsh_57 215 (by omega)).trans ((fsh_55 215 (by omega)).trans ((fsh_53 215 (by omega)).trans ((fsh_42 215 (by omega)).trans ((fsh_40 215 (by omega)).trans ((fsh_38 215 (by omega)).trans ((fsh_36 215 (by omega)).trans ((fsh_34 215 (by omega)).trans ((fsh_32 215 (by omega)).trans ((fsh_30 215 (by omega)).trans ((fsh_28 215 (by omega)).trans ((fsh_26 215 (by omega)).trans ((fsh_24 215 (by omega)).trans ((fsh_22 215 (by omega)).trans ((fsh_20 215 (by omega)).trans ((fsh_18 215 (by omega)).trans ((fsh_16 215 (by omega)).trans ((fsh_14 215 (by omega)).trans ((fsh_12 215 (by omega)).trans ((fsh_10 215 (by omega)).trans ((fsh_8 215 (by omega)).trans ((fsh_6 215 (by omega)).trans ((fsh_4 215 (by omega)).trans ((fsh_2 215 (by omega)).trans (hno 215 (by omega)))))))))))))))))))))))))))))) (List.mem_cons_of_mem _ (wa_2 _ (List.mem_of_getElem? (i := 19) (by decide +kernel)))) (by decide) (Nat.le_of_ble_eq_true rfl) (Nat.le_of_ble_eq_true rfl) dX11_init_367 (fun ad_147 H fad_147 hW => ?_)
  refine W.eq (g2 := F0 m 369 ls [.ref (ad_147 215), .ref (ad_147 200)]) (by rw [fad_147 200 (by omega)]) ?_
  have hl : lv_has ls 2 [(0, .ref (ad_147 200))] := by rw [fad_147 200 (by omega)]; exact hl
  obtain ⟨sh_148, esh_148⟩ : ∃ vv_ : Nat → Option mSh, vv_ = va_up sh_146 215 (some (mI 96)) := ⟨_, rfl⟩
  rw [← esh_148] at hW
  have qsh_148 : sh_148 215 = some (mI 96) := by rw [esh_148]; exact va_up_self _ _ _
  have fsh_148 : ∀ a, a ≠ 215 → sh_148 a = sh_146 a := fun a ha => by rw [esh_148]; exact va_up_ne _ _ ha
  clear esh_148
  obtain ⟨V_149, eV_149⟩ : ∃ vv_ : mV, vv_ = va_up V_144 215 (fun _ => 0) := ⟨_, rfl⟩
  rw [← eV_149] at hW
  have qV_149 : V_149 215 = fun _ => 0 := by rw [eV_149]; exact va_up_self _ _ _
  have fV_149 : ∀ a, a ≠ 215 → V_149 a = V_144 a := fun a ha => by rw [eV_149]; exact va_up_ne _ _ ha
  clear eV_149
  refine lv_dup hx hb dX11_init_369 rfl ?_
  refine lv_iconst (v := nI 0) hx hb dX11_init_370 (by decide) ?_
  refine lv_bipush (v := nI 112) hx hb dX11_init_371 (by decide) ?_
  have hf_151 : FillI V_149 V_149 215 wdT 0 := FillI.zero _ _ _
  refine m_iast S hW qsh_148 0 rfl (by decide) (by decide) dX11_init_373 (fun H2 locs2 hW2 => ?_)
  obtain ⟨V_150, eV_150⟩ : ∃ vv_ : mV, vv_ = mU V_149 215 0 (nI 112) := ⟨_, rfl⟩
  rw [← eV_150] at hW2
  have hf_152 : FillI V_149 V_150 215 wdT 1 := by rw [eV_150]; exact hf_151.step (by decide +kernel)
  clear hW eV_150 hf_151
  have hW := hW2
  clear hW2
  refine lv_dup hx hb dX11_init_374 rfl ?_
  refine lv_iconst (v := nI 1) hx hb dX11_init_375 (by decide) ?_
  refine lv_bipush (v := nI 97) hx hb dX11_init_376 (by decide) ?_
  refine m_iast S hW qsh_148 1 rfl (by decide) (by decide) dX11_init_378 (fun H2 locs2 hW2 => ?_)
  obtain ⟨V_153, eV_153⟩ : ∃ vv_ : mV, vv_ = mU V_150 215 1 (nI 97) := ⟨_, rfl⟩
  rw [← eV_153] at hW2
  have hf_154 : FillI V_149 V_153 215 wdT 2 := by rw [eV_153]; exact hf_152.step (by decide +kernel)
  clear hW eV_153 hf_152 V_150
  have hW := hW2
  clear hW2
  refine lv_dup hx hb dX11_init_379 rfl ?_
  refine lv_iconst (v := nI 2) hx hb dX11_init_380 (by decide) ?_
  refine lv_bipush (v := nI 121) hx hb dX11_init_381 (by decide) ?_
  refine m_iast S hW qsh_148 2 rfl (by decide) (by decide) dX11_init_383 (fun H2 locs2 hW2 => ?_)
  obtain ⟨V_155, eV_155⟩ : ∃ vv_ : mV, vv_ = mU V_153 215 2 (nI 121) := ⟨_, rfl⟩
  rw [← eV_155] at hW2
  have hf_156 : FillI V_149 V_155 215 wdT 3 := by rw [eV_155]; exact hf_154.step (by decide +kernel)
  clear hW eV_155 hf_154 V_153
  have hW := hW2
  clear hW2
  refine lv_dup hx hb dX11_init_384 rfl ?_
  refine lv_iconst (v := nI 3) hx hb dX11_init_385 (by decide) ?_
  refine lv_bipush (v := nI 115) hx hb dX11_init_386 (by decide) ?_
  refine m_iast S hW qsh_148 3 rfl (by decide) (by decide) dX11_init_388 (fun H2 locs2 hW2 => ?_)
  obtain ⟨V_157, eV_157⟩ : ∃ vv_ : mV, vv_ = mU V_155 215 3 (nI 115) := ⟨_, rfl⟩
  rw [← eV_157] at hW2
  have hf_158 : FillI V_149 V_157 215 wdT 4 := by rw [eV_157]; exact hf_156.step (by decide +kernel)
  clear hW eV_157 hf_156 V_155
  have hW := hW2
  clear hW2
  refine lv_dup hx hb dX11_init_389 rfl ?_
  refine lv_iconst (v := nI 4) hx hb dX11_init_390 (by decide) ?_
  refine lv_bipush (v := nI 32) hx hb dX11_init_391 (by decide) ?_
  refine m_iast S hW qsh_148 4 rfl (by decide) (by decide) dX11_init_393 (fun H2 locs2 hW2 => ?_)
  obtain ⟨V_159, eV_159⟩ : ∃ vv_ : mV, vv_ = mU V_157 215 4 (nI 32) := ⟨_, rfl⟩
  rw [← eV_159] at hW2
  have hf_160 : FillI V_149 V_159 215 wdT 5 := by rw [eV_159]; exact hf_158.step (by decide +kernel)
  clear hW eV_159 hf_158 V_157
  have hW := hW2
  clear hW2
  refine lv_dup hx hb dX11_init_394 rfl ?_
  refine lv_iconst (v := nI 5) hx hb dX11_init_395 (by decide) ?_
  refine lv_bipush (v := nI 32) hx hb dX11_init_396 (by decide) ?_
  refine m_iast S hW qsh_148 5 rfl (by decide) (by decide) dX11_init_398 (fun H2 locs2 hW2 => ?_)
  obtain ⟨V_161, eV_161⟩ : ∃ vv_ : mV, vv_ = mU V_159 215 5 (nI 32) := ⟨_, rfl⟩
  rw [← eV_161] at hW2
  have hf_162 : FillI V_149 V_161 215 wdT 6 := by rw [eV_161]; exact hf_160.step (by decide +kernel)
  clear hW eV_161 hf_160 V_159
  have hW := hW2
  clear hW2
  refine lv_dup hx hb dX11_init_399 rfl ?_
  refine lv_bipush (v := nI 6) hx hb dX11_init_400 (by decide) ?_
  refine lv_bipush (v := nI 32) hx hb dX11_init_402 (by decide) ?_
  refine m_iast S hW qsh_148 6 rfl (by decide) (by decide) dX11_init_404 (fun H2 locs2 hW2 => ?_)
  obtain ⟨V_163, eV_163⟩ : ∃ vv_ : mV, vv_ = mU V_161 215 6 (nI 32) := ⟨_, rfl⟩
  rw [← eV_163] at hW2
  have hf_164 : FillI V_149 V_163 215 wdT 7 := by rw [eV_163]; exact hf_162.step (by decide +kernel)
  clear hW eV_163 hf_162 V_161
  have hW := hW2
  clear hW2
  refine lv_dup hx hb dX11_init_405 rfl ?_
  refine lv_bipush (v := nI 7) hx hb dX11_init_406 (by decide) ?_
  refine lv_bipush (v := nI 32) hx hb dX11_init_408 (by decide) ?_
  refine m_iast S hW qsh_148 7 rfl (by decide) (by decide) dX11_init_410 (fun H2 locs2 hW2 => ?_)
  obtain ⟨V_165, eV_165⟩ : ∃ vv_ : mV, vv_ = mU V_163 215 7 (nI 32) := ⟨_, rfl⟩
  rw [← eV_165] at hW2
  have hf_166 : FillI V_149 V_165 215 wdT 8 := by rw [eV_165]; exact hf_164.step (by decide +kernel)
  clear hW eV_165 hf_164 V_163
  have hW := hW2
  clear hW2
  refine lv_dup hx hb dX11_init_411 rfl ?_
  refine lv_bipush (v := nI 8) hx hb dX11_init_412 (by decide) ?_
  refine lv_bipush (v := nI 108) hx hb dX11_init_414 (by decide) ?_
  refine m_iast S hW qsh_148 8 rfl (by decide) (by decide) dX11_init_416 (fun H2 locs2 hW2 => ?_)
  obtain ⟨V_167, eV_167⟩ : ∃ vv_ : mV, vv_ = mU V_165 215 8 (nI 108) := ⟨_, rfl⟩
  rw [← eV_167] at hW2
  have hf_168 : FillI V_149 V_167 215 wdT 9 := by rw [eV_167]; exact hf_166.step (by decide +kernel)
  clear hW eV_167 hf_166 V_165
  have hW := hW2
  clear hW2
  refine lv_dup hx hb dX11_init_417 rfl ?_
  refine lv_bipush (v := nI 9) hx hb dX11_init_418 (by decide) ?_
  refine lv_bipush (v := nI 105) hx hb dX11_init_420 (by decide) ?_
  refine m_iast S hW qsh_148 9 rfl (by decide) (by decide) dX11_init_422 (fun H2 locs2 hW2 => ?_)
  obtain ⟨V_169, eV_169⟩ : ∃ vv_ : mV, vv_ = mU V_167 215 9 (nI 105) := ⟨_, rfl⟩
  rw [← eV_169] at hW2
  have hf_170 : FillI V_149 V_169 215 wdT 10 := by rw [eV_169]; exact hf_168.step (by decide +kernel)
  clear hW eV_169 hf_168 V_167
  have hW := hW2
  clear hW2
  refine lv_dup hx hb dX11_init_423 rfl ?_
  refine lv_bipush (v := nI 10) hx hb dX11_init_424 (by decide) ?_
  refine lv_bipush (v := nI 107) hx hb dX11_init_426 (by decide) ?_
  refine m_iast S hW qsh_148 10 rfl (by decide) (by decide) dX11_init_428 (fun H2 locs2 hW2 => ?_)
  obtain ⟨V_171, eV_171⟩ : ∃ vv_ : mV, vv_ = mU V_169 215 10 (nI 107) := ⟨_, rfl⟩
  rw [← eV_171] at hW2
  have hf_172 : FillI V_149 V_171 215 wdT 11 := by rw [eV_171]; exact hf_170.step (by decide +kernel)
  clear hW eV_171 hf_170 V_169
  have hW := hW2
  clear hW2
  refine lv_dup hx hb dX11_init_429 rfl ?_
  refine lv_bipush (v := nI 11) hx hb dX11_init_430 (by decide) ?_
  refine lv_bipush (v := nI 101) hx hb dX11_init_432 (by decide) ?_
  refine m_iast S hW qsh_148 11 rfl (by decide) (by decide) dX11_init_434 (fun H2 locs2 hW2 => ?_)
  obtain ⟨V_173, eV_173⟩ : ∃ vv_ : mV, vv_ = mU V_171 215 11 (nI 101) := ⟨_, rfl⟩
  rw [← eV_173] at hW2
  have hf_174 : FillI V_149 V_173 215 wdT 12 := by rw [eV_173]; exact hf_172.step (by decide +kernel)
  clear hW eV_173 hf_172 V_171
  have hW := hW2
  clear hW2
  refine lv_dup hx hb dX11_init_435 rfl ?_
  refine lv_bipush (v := nI 12) hx hb dX11_init_436 (by decide) ?_
  refine lv_bipush (v := nI 115) hx hb dX11_init_438 (by decide) ?_
  refine m_iast S hW qsh_148 12 rfl (by decide) (by decide) dX11_init_440 (fun H2 locs2 hW2 => ?_)
  obtain ⟨V_175, eV_175⟩ : ∃ vv_ : mV, vv_ = mU V_173 215 12 (nI 115) := ⟨_, rfl⟩
  rw [← eV_175] at hW2
  have hf_176 : FillI V_149 V_175 215 wdT 13 := by rw [eV_175]; exact hf_174.step (by decide +kernel)
  clear hW eV_175 hf_174 V_173
  have hW := hW2
  clear hW2
  refine lv_dup hx hb dX11_init_441 rfl ?_
  refine lv_bipush (v := nI 13) hx hb dX11_init_442 (by decide) ?_
  refine lv_bipush (v := nI 32) hx hb dX11_init_444 (by decide) ?_
  refine m_iast S hW qsh_148 13 rfl (by decide) (by decide) dX11_init_446 (fun H2 locs2 hW2 => ?_)
  obtain ⟨V_177, eV_177⟩ : ∃ vv_ : mV, vv_ = mU V_175 215 13 (nI 32) := ⟨_, rfl⟩
  rw [← eV_177] at hW2
  have hf_178 : FillI V_149 V_177 215 wdT 14 := by rw [eV_177]; exact hf_176.step (by decide +kernel)
  clear hW eV_177 hf_176 V_175
  have hW := hW2
  clear hW2
  refine lv_dup hx hb dX11_init_447 rfl ?_
  refine lv_bipush (v := nI 14) hx hb dX11_init_448 (by decide) ?_
  refine lv_bipush (v := nI 32) hx hb dX11_init_450 (by decide) ?_
  refine m_iast S hW qsh_148 14 rfl (by decide) (by decide) dX11_init_452 (fun H2 locs2 hW2 => ?_)
  obtain ⟨V_179, eV_179⟩ : ∃ vv_ : mV, vv_ = mU V_177 215 14 (nI 32) := ⟨_, rfl⟩
  rw [← eV_179] at hW2
  have hf_180 : FillI V_149 V_179 215 wdT 15 := by rw [eV_179]; exact hf_178.step (by decide +kernel)
  clear hW eV_179 hf_178 V_177
  have hW := hW2
  clear hW2
  refine lv_dup hx hb dX11_init_453 rfl ?_
  refine lv_bipush (v := nI 15) hx hb dX11_init_454 (by decide) ?_
  refine lv_bipush (v := nI 32) hx hb dX11_init_456 (by decide) ?_
  refine m_iast S hW qsh_148 15 rfl (by decide) (by decide) dX11_init_458 (fun H2 locs2 hW2 => ?_)
  obtain ⟨V_181, eV_181⟩ : ∃ vv_ : mV, vv_ = mU V_179 215 15 (nI 32) := ⟨_, rfl⟩
  rw [← eV_181] at hW2
  have hf_182 : FillI V_149 V_181 215 wdT 16 := by rw [eV_181]; exact hf_180.step (by decide +kernel)
  clear hW eV_181 hf_180 V_179
  have hW := hW2
  clear hW2
  refine lv_dup hx hb dX11_init_459 rfl ?_
  refine lv_bipush (v := nI 16) hx hb dX11_init_460 (by decide) ?_
  refine lv_bipush (v := nI 119) hx hb dX11_init_462 (by decide) ?_
  refine m_iast S hW qsh_148 16 rfl (by decide) (by decide) dX11_init_464 (fun H2 locs2 hW2 => ?_)
  obtain ⟨V_183, eV_183⟩ : ∃ vv_ : mV, vv_ = mU V_181 215 16 (nI 119) := ⟨_, rfl⟩
  rw [← eV_183] at hW2
  have hf_184 : FillI V_149 V_183 215 wdT 17 := by rw [eV_183]; exact hf_182.step (by decide +kernel)
  clear hW eV_183 hf_182 V_181
  have hW := hW2
  clear hW2
  refine lv_dup hx hb dX11_init_465 rfl ?_
  refine lv_bipush (v := nI 17) hx hb dX11_init_466 (by decide) ?_
  refine lv_bipush (v := nI 97) hx hb dX11_init_468 (by decide) ?_
  refine m_iast S hW qsh_148 17 rfl (by decide) (by decide) dX11_init_470 (fun H2 locs2 hW2 => ?_)
  obtain ⟨V_185, eV_185⟩ : ∃ vv_ : mV, vv_ = mU V_183 215 17 (nI 97) := ⟨_, rfl⟩
  rw [← eV_185] at hW2
  have hf_186 : FillI V_149 V_185 215 wdT 18 := by rw [eV_185]; exact hf_184.step (by decide +kernel)
  clear hW eV_185 hf_184 V_183
  have hW := hW2
  clear hW2
  refine lv_dup hx hb dX11_init_471 rfl ?_
  refine lv_bipush (v := nI 18) hx hb dX11_init_472 (by decide) ?_
  refine lv_bipush (v := nI 105) hx hb dX11_init_474 (by decide) ?_
  refine m_iast S hW qsh_148 18 rfl (by decide) (by decide) dX11_init_476 (fun H2 locs2 hW2 => ?_)
  obtain ⟨V_187, eV_187⟩ : ∃ vv_ : mV, vv_ = mU V_185 215 18 (nI 105) := ⟨_, rfl⟩
  rw [← eV_187] at hW2
  have hf_188 : FillI V_149 V_187 215 wdT 19 := by rw [eV_187]; exact hf_186.step (by decide +kernel)
  clear hW eV_187 hf_186 V_185
  have hW := hW2
  clear hW2
  refine lv_dup hx hb dX11_init_477 rfl ?_
  refine lv_bipush (v := nI 19) hx hb dX11_init_478 (by decide) ?_
  refine lv_bipush (v := nI 116) hx hb dX11_init_480 (by decide) ?_
  refine m_iast S hW qsh_148 19 rfl (by decide) (by decide) dX11_init_482 (fun H2 locs2 hW2 => ?_)
  obtain ⟨V_189, eV_189⟩ : ∃ vv_ : mV, vv_ = mU V_187 215 19 (nI 116) := ⟨_, rfl⟩
  rw [← eV_189] at hW2
  have hf_190 : FillI V_149 V_189 215 wdT 20 := by rw [eV_189]; exact hf_188.step (by decide +kernel)
  clear hW eV_189 hf_188 V_187
  have hW := hW2
  clear hW2
  refine lv_dup hx hb dX11_init_483 rfl ?_
  refine lv_bipush (v := nI 20) hx hb dX11_init_484 (by decide) ?_
  refine lv_bipush (v := nI 115) hx hb dX11_init_486 (by decide) ?_
  refine m_iast S hW qsh_148 20 rfl (by decide) (by decide) dX11_init_488 (fun H2 locs2 hW2 => ?_)
  obtain ⟨V_191, eV_191⟩ : ∃ vv_ : mV, vv_ = mU V_189 215 20 (nI 115) := ⟨_, rfl⟩
  rw [← eV_191] at hW2
  have hf_192 : FillI V_149 V_191 215 wdT 21 := by rw [eV_191]; exact hf_190.step (by decide +kernel)
  clear hW eV_191 hf_190 V_189
  have hW := hW2
  clear hW2
  refine lv_dup hx hb dX11_init_489 rfl ?_
  refine lv_bipush (v := nI 21) hx hb dX11_init_490 (by decide) ?_
  refine lv_bipush (v := nI 32) hx hb dX11_init_492 (by decide) ?_
  refine m_iast S hW qsh_148 21 rfl (by decide) (by decide) dX11_init_494 (fun H2 locs2 hW2 => ?_)
  obtain ⟨V_193, eV_193⟩ : ∃ vv_ : mV, vv_ = mU V_191 215 21 (nI 32) := ⟨_, rfl⟩
  rw [← eV_193] at hW2
  have hf_194 : FillI V_149 V_193 215 wdT 22 := by rw [eV_193]; exact hf_192.step (by decide +kernel)
  clear hW eV_193 hf_192 V_191
  have hW := hW2
  clear hW2
  refine lv_dup hx hb dX11_init_495 rfl ?_
  refine lv_bipush (v := nI 22) hx hb dX11_init_496 (by decide) ?_
  refine lv_bipush (v := nI 32) hx hb dX11_init_498 (by decide) ?_
  refine m_iast S hW qsh_148 22 rfl (by decide) (by decide) dX11_init_500 (fun H2 locs2 hW2 => ?_)
  obtain ⟨V_195, eV_195⟩ : ∃ vv_ : mV, vv_ = mU V_193 215 22 (nI 32) := ⟨_, rfl⟩
  rw [← eV_195] at hW2
  have hf_196 : FillI V_149 V_195 215 wdT 23 := by rw [eV_195]; exact hf_194.step (by decide +kernel)
  clear hW eV_195 hf_194 V_193
  have hW := hW2
  clear hW2
  refine lv_dup hx hb dX11_init_501 rfl ?_
  refine lv_bipush (v := nI 23) hx hb dX11_init_502 (by decide) ?_
  refine lv_bipush (v := nI 32) hx hb dX11_init_504 (by decide) ?_
  refine m_iast S hW qsh_148 23 rfl (by decide) (by decide) dX11_init_506 (fun H2 locs2 hW2 => ?_)
  obtain ⟨V_197, eV_197⟩ : ∃ vv_ : mV, vv_ = mU V_195 215 23 (nI 32) := ⟨_, rfl⟩
  rw [← eV_197] at hW2
  have hf_198 : FillI V_149 V_197 215 wdT 24 := by rw [eV_197]; exact hf_196.step (by decide +kernel)
  clear hW eV_197 hf_196 V_195
  have hW := hW2
  clear hW2
  refine lv_dup hx hb dX11_init_507 rfl ?_
  refine lv_bipush (v := nI 24) hx hb dX11_init_508 (by decide) ?_
  refine lv_bipush (v := nI 99) hx hb dX11_init_510 (by decide) ?_
  refine m_iast S hW qsh_148 24 rfl (by decide) (by decide) dX11_init_512 (fun H2 locs2 hW2 => ?_)
  obtain ⟨V_199, eV_199⟩ : ∃ vv_ : mV, vv_ = mU V_197 215 24 (nI 99) := ⟨_, rfl⟩
  rw [← eV_199] at hW2
  have hf_200 : FillI V_149 V_199 215 wdT 25 := by rw [eV_199]; exact hf_198.step (by decide +kernel)
  clear hW eV_199 hf_198 V_197
  have hW := hW2
  clear hW2
  refine lv_dup hx hb dX11_init_513 rfl ?_
  refine lv_bipush (v := nI 25) hx hb dX11_init_514 (by decide) ?_
  refine lv_bipush (v := nI 101) hx hb dX11_init_516 (by decide) ?_
  refine m_iast S hW qsh_148 25 rfl (by decide) (by decide) dX11_init_518 (fun H2 locs2 hW2 => ?_)
  obtain ⟨V_201, eV_201⟩ : ∃ vv_ : mV, vv_ = mU V_199 215 25 (nI 101) := ⟨_, rfl⟩
  rw [← eV_201] at hW2
  have hf_202 : FillI V_149 V_201 215 wdT 26 := by rw [eV_201]; exact hf_200.step (by decide +kernel)
  clear hW eV_201 hf_200 V_199
  have hW := hW2
  clear hW2
  refine lv_dup hx hb dX11_init_519 rfl ?_
  refine lv_bipush (v := nI 26) hx hb dX11_init_520 (by decide) ?_
  refine lv_bipush (v := nI 108) hx hb dX11_init_522 (by decide) ?_
  refine m_iast S hW qsh_148 26 rfl (by decide) (by decide) dX11_init_524 (fun H2 locs2 hW2 => ?_)
  obtain ⟨V_203, eV_203⟩ : ∃ vv_ : mV, vv_ = mU V_201 215 26 (nI 108) := ⟨_, rfl⟩
  rw [← eV_203] at hW2
  have hf_204 : FillI V_149 V_203 215 wdT 27 := by rw [eV_203]; exact hf_202.step (by decide +kernel)
  clear hW eV_203 hf_202 V_201
  have hW := hW2
  clear hW2
  refine lv_dup hx hb dX11_init_525 rfl ?_
  refine lv_bipush (v := nI 27) hx hb dX11_init_526 (by decide) ?_
  refine lv_bipush (v := nI 108) hx hb dX11_init_528 (by decide) ?_
  refine m_iast S hW qsh_148 27 rfl (by decide) (by decide) dX11_init_530 (fun H2 locs2 hW2 => ?_)
  obtain ⟨V_205, eV_205⟩ : ∃ vv_ : mV, vv_ = mU V_203 215 27 (nI 108) := ⟨_, rfl⟩
  rw [← eV_205] at hW2
  have hf_206 : FillI V_149 V_205 215 wdT 28 := by rw [eV_205]; exact hf_204.step (by decide +kernel)
  clear hW eV_205 hf_204 V_203
  have hW := hW2
  clear hW2
  refine lv_dup hx hb dX11_init_531 rfl ?_
  refine lv_bipush (v := nI 28) hx hb dX11_init_532 (by decide) ?_
  refine lv_bipush (v := nI 115) hx hb dX11_init_534 (by decide) ?_
  refine m_iast S hW qsh_148 28 rfl (by decide) (by decide) dX11_init_536 (fun H2 locs2 hW2 => ?_)
  obtain ⟨V_207, eV_207⟩ : ∃ vv_ : mV, vv_ = mU V_205 215 28 (nI 115) := ⟨_, rfl⟩
  rw [← eV_207] at hW2
  have hf_208 : FillI V_149 V_207 215 wdT 29 := by rw [eV_207]; exact hf_206.step (by decide +kernel)
  clear hW eV_207 hf_206 V_205
  have hW := hW2
  clear hW2
  refine lv_dup hx hb dX11_init_537 rfl ?_
  refine lv_bipush (v := nI 29) hx hb dX11_init_538 (by decide) ?_
  refine lv_bipush (v := nI 32) hx hb dX11_init_540 (by decide) ?_
  refine m_iast S hW qsh_148 29 rfl (by decide) (by decide) dX11_init_542 (fun H2 locs2 hW2 => ?_)
  obtain ⟨V_209, eV_209⟩ : ∃ vv_ : mV, vv_ = mU V_207 215 29 (nI 32) := ⟨_, rfl⟩
  rw [← eV_209] at hW2
  have hf_210 : FillI V_149 V_209 215 wdT 30 := by rw [eV_209]; exact hf_208.step (by decide +kernel)
  clear hW eV_209 hf_208 V_207
  have hW := hW2
  clear hW2
  refine lv_dup hx hb dX11_init_543 rfl ?_
  refine lv_bipush (v := nI 30) hx hb dX11_init_544 (by decide) ?_
  refine lv_bipush (v := nI 32) hx hb dX11_init_546 (by decide) ?_
  refine m_iast S hW qsh_148 30 rfl (by decide) (by decide) dX11_init_548 (fun H2 locs2 hW2 => ?_)
  obtain ⟨V_211, eV_211⟩ : ∃ vv_ : mV, vv_ = mU V_209 215 30 (nI 32) := ⟨_, rfl⟩
  rw [← eV_211] at hW2
  have hf_212 : FillI V_149 V_211 215 wdT 31 := by rw [eV_211]; exact hf_210.step (by decide +kernel)
  clear hW eV_211 hf_210 V_209
  have hW := hW2
  clear hW2
  refine lv_dup hx hb dX11_init_549 rfl ?_
  refine lv_bipush (v := nI 31) hx hb dX11_init_550 (by decide) ?_
  refine lv_bipush (v := nI 32) hx hb dX11_init_552 (by decide) ?_
  refine m_iast S hW qsh_148 31 rfl (by decide) (by decide) dX11_init_554 (fun H2 locs2 hW2 => ?_)
  obtain ⟨V_213, eV_213⟩ : ∃ vv_ : mV, vv_ = mU V_211 215 31 (nI 32) := ⟨_, rfl⟩
  rw [← eV_213] at hW2
  have hf_214 : FillI V_149 V_213 215 wdT 32 := by rw [eV_213]; exact hf_212.step (by decide +kernel)
  clear hW eV_213 hf_212 V_211
  have hW := hW2
  clear hW2
  refine lv_dup hx hb dX11_init_555 rfl ?_
  refine lv_bipush (v := nI 32) hx hb dX11_init_556 (by decide) ?_
  refine lv_bipush (v := nI 119) hx hb dX11_init_558 (by decide) ?_
  refine m_iast S hW qsh_148 32 rfl (by decide) (by decide) dX11_init_560 (fun H2 locs2 hW2 => ?_)
  obtain ⟨V_215, eV_215⟩ : ∃ vv_ : mV, vv_ = mU V_213 215 32 (nI 119) := ⟨_, rfl⟩
  rw [← eV_215] at hW2
  have hf_216 : FillI V_149 V_215 215 wdT 33 := by rw [eV_215]; exact hf_214.step (by decide +kernel)
  clear hW eV_215 hf_214 V_213
  have hW := hW2
  clear hW2
  refine lv_dup hx hb dX11_init_561 rfl ?_
  refine lv_bipush (v := nI 33) hx hb dX11_init_562 (by decide) ?_
  refine lv_bipush (v := nI 111) hx hb dX11_init_564 (by decide) ?_
  refine m_iast S hW qsh_148 33 rfl (by decide) (by decide) dX11_init_566 (fun H2 locs2 hW2 => ?_)
  obtain ⟨V_217, eV_217⟩ : ∃ vv_ : mV, vv_ = mU V_215 215 33 (nI 111) := ⟨_, rfl⟩
  rw [← eV_217] at hW2
  have hf_218 : FillI V_149 V_217 215 wdT 34 := by rw [eV_217]; exact hf_216.step (by decide +kernel)
  clear hW eV_217 hf_216 V_215
  have hW := hW2
  clear hW2
  refine lv_dup hx hb dX11_init_567 rfl ?_
  refine lv_bipush (v := nI 34) hx hb dX11_init_568 (by decide) ?_
  refine lv_bipush (v := nI 114) hx hb dX11_init_570 (by decide) ?_
  refine m_iast S hW qsh_148 34 rfl (by decide) (by decide) dX11_init_572 (fun H2 locs2 hW2 => ?_)
  obtain ⟨V_219, eV_219⟩ : ∃ vv_ : mV, vv_ = mU V_217 215 34 (nI 114) := ⟨_, rfl⟩
  rw [← eV_219] at hW2
  have hf_220 : FillI V_149 V_219 215 wdT 35 := by rw [eV_219]; exact hf_218.step (by decide +kernel)
  clear hW eV_219 hf_218 V_217
  have hW := hW2
  clear hW2
  refine lv_dup hx hb dX11_init_573 rfl ?_
  refine lv_bipush (v := nI 35) hx hb dX11_init_574 (by decide) ?_
  refine lv_bipush (v := nI 116) hx hb dX11_init_576 (by decide) ?_
  refine m_iast S hW qsh_148 35 rfl (by decide) (by decide) dX11_init_578 (fun H2 locs2 hW2 => ?_)
  obtain ⟨V_221, eV_221⟩ : ∃ vv_ : mV, vv_ = mU V_219 215 35 (nI 116) := ⟨_, rfl⟩
  rw [← eV_221] at hW2
  have hf_222 : FillI V_149 V_221 215 wdT 36 := by rw [eV_221]; exact hf_220.step (by decide +kernel)
  clear hW eV_221 hf_220 V_219
  have hW := hW2
  clear hW2
  refine lv_dup hx hb dX11_init_579 rfl ?_
  refine lv_bipush (v := nI 36) hx hb dX11_init_580 (by decide) ?_
  refine lv_bipush (v := nI 104) hx hb dX11_init_582 (by decide) ?_
  refine m_iast S hW qsh_148 36 rfl (by decide) (by decide) dX11_init_584 (fun H2 locs2 hW2 => ?_)
  obtain ⟨V_223, eV_223⟩ : ∃ vv_ : mV, vv_ = mU V_221 215 36 (nI 104) := ⟨_, rfl⟩
  rw [← eV_223] at hW2
  have hf_224 : FillI V_149 V_223 215 wdT 37 := by rw [eV_223]; exact hf_222.step (by decide +kernel)
  clear hW eV_223 hf_222 V_221
  have hW := hW2
  clear hW2
  refine lv_dup hx hb dX11_init_585 rfl ?_
  refine lv_bipush (v := nI 37) hx hb dX11_init_586 (by decide) ?_
  refine lv_bipush (v := nI 32) hx hb dX11_init_588 (by decide) ?_
  refine m_iast S hW qsh_148 37 rfl (by decide) (by decide) dX11_init_590 (fun H2 locs2 hW2 => ?_)
  obtain ⟨V_225, eV_225⟩ : ∃ vv_ : mV, vv_ = mU V_223 215 37 (nI 32) := ⟨_, rfl⟩
  rw [← eV_225] at hW2
  have hf_226 : FillI V_149 V_225 215 wdT 38 := by rw [eV_225]; exact hf_224.step (by decide +kernel)
  clear hW eV_225 hf_224 V_223
  have hW := hW2
  clear hW2
  refine lv_dup hx hb dX11_init_591 rfl ?_
  refine lv_bipush (v := nI 38) hx hb dX11_init_592 (by decide) ?_
  refine lv_bipush (v := nI 32) hx hb dX11_init_594 (by decide) ?_
  refine m_iast S hW qsh_148 38 rfl (by decide) (by decide) dX11_init_596 (fun H2 locs2 hW2 => ?_)
  obtain ⟨V_227, eV_227⟩ : ∃ vv_ : mV, vv_ = mU V_225 215 38 (nI 32) := ⟨_, rfl⟩
  rw [← eV_227] at hW2
  have hf_228 : FillI V_149 V_227 215 wdT 39 := by rw [eV_227]; exact hf_226.step (by decide +kernel)
  clear hW eV_227 hf_226 V_225
  have hW := hW2
  clear hW2
  refine lv_dup hx hb dX11_init_597 rfl ?_
  refine lv_bipush (v := nI 39) hx hb dX11_init_598 (by decide) ?_
  refine lv_bipush (v := nI 32) hx hb dX11_init_600 (by decide) ?_
  refine m_iast S hW qsh_148 39 rfl (by decide) (by decide) dX11_init_602 (fun H2 locs2 hW2 => ?_)
  obtain ⟨V_229, eV_229⟩ : ∃ vv_ : mV, vv_ = mU V_227 215 39 (nI 32) := ⟨_, rfl⟩
  rw [← eV_229] at hW2
  have hf_230 : FillI V_149 V_229 215 wdT 40 := by rw [eV_229]; exact hf_228.step (by decide +kernel)
  clear hW eV_229 hf_228 V_227
  have hW := hW2
  clear hW2
  refine lv_dup hx hb dX11_init_603 rfl ?_
  refine lv_bipush (v := nI 40) hx hb dX11_init_604 (by decide) ?_
  refine lv_bipush (v := nI 115) hx hb dX11_init_606 (by decide) ?_
  refine m_iast S hW qsh_148 40 rfl (by decide) (by decide) dX11_init_608 (fun H2 locs2 hW2 => ?_)
  obtain ⟨V_231, eV_231⟩ : ∃ vv_ : mV, vv_ = mU V_229 215 40 (nI 115) := ⟨_, rfl⟩
  rw [← eV_231] at hW2
  have hf_232 : FillI V_149 V_231 215 wdT 41 := by rw [eV_231]; exact hf_230.step (by decide +kernel)
  clear hW eV_231 hf_230 V_229
  have hW := hW2
  clear hW2
  refine lv_dup hx hb dX11_init_609 rfl ?_
  refine lv_bipush (v := nI 41) hx hb dX11_init_610 (by decide) ?_
  refine lv_bipush (v := nI 111) hx hb dX11_init_612 (by decide) ?_
  refine m_iast S hW qsh_148 41 rfl (by decide) (by decide) dX11_init_614 (fun H2 locs2 hW2 => ?_)
  obtain ⟨V_233, eV_233⟩ : ∃ vv_ : mV, vv_ = mU V_231 215 41 (nI 111) := ⟨_, rfl⟩
  rw [← eV_233] at hW2
  have hf_234 : FillI V_149 V_233 215 wdT 42 := by rw [eV_233]; exact hf_232.step (by decide +kernel)
  clear hW eV_233 hf_232 V_231
  have hW := hW2
  clear hW2
  refine lv_dup hx hb dX11_init_615 rfl ?_
  refine lv_bipush (v := nI 42) hx hb dX11_init_616 (by decide) ?_
  refine lv_bipush (v := nI 102) hx hb dX11_init_618 (by decide) ?_
  refine m_iast S hW qsh_148 42 rfl (by decide) (by decide) dX11_init_620 (fun H2 locs2 hW2 => ?_)
  obtain ⟨V_235, eV_235⟩ : ∃ vv_ : mV, vv_ = mU V_233 215 42 (nI 102) := ⟨_, rfl⟩
  rw [← eV_235] at hW2
  have hf_236 : FillI V_149 V_235 215 wdT 43 := by rw [eV_235]; exact hf_234.step (by decide +kernel)
  clear hW eV_235 hf_234 V_233
  have hW := hW2
  clear hW2
  refine lv_dup hx hb dX11_init_621 rfl ?_
  refine lv_bipush (v := nI 43) hx hb dX11_init_622 (by decide) ?_
  refine lv_bipush (v := nI 116) hx hb dX11_init_624 (by decide) ?_
  refine m_iast S hW qsh_148 43 rfl (by decide) (by decide) dX11_init_626 (fun H2 locs2 hW2 => ?_)
  obtain ⟨V_237, eV_237⟩ : ∃ vv_ : mV, vv_ = mU V_235 215 43 (nI 116) := ⟨_, rfl⟩
  rw [← eV_237] at hW2
  have hf_238 : FillI V_149 V_237 215 wdT 44 := by rw [eV_237]; exact hf_236.step (by decide +kernel)
  clear hW eV_237 hf_236 V_235
  have hW := hW2
  clear hW2
  refine lv_dup hx hb dX11_init_627 rfl ?_
  refine lv_bipush (v := nI 44) hx hb dX11_init_628 (by decide) ?_
  refine lv_bipush (v := nI 32) hx hb dX11_init_630 (by decide) ?_
  refine m_iast S hW qsh_148 44 rfl (by decide) (by decide) dX11_init_632 (fun H2 locs2 hW2 => ?_)
  obtain ⟨V_239, eV_239⟩ : ∃ vv_ : mV, vv_ = mU V_237 215 44 (nI 32) := ⟨_, rfl⟩
  rw [← eV_239] at hW2
  have hf_240 : FillI V_149 V_239 215 wdT 45 := by rw [eV_239]; exact hf_238.step (by decide +kernel)
  clear hW eV_239 hf_238 V_237
  have hW := hW2
  clear hW2
  refine lv_dup hx hb dX11_init_633 rfl ?_
  refine lv_bipush (v := nI 45) hx hb dX11_init_634 (by decide) ?_
  refine lv_bipush (v := nI 32) hx hb dX11_init_636 (by decide) ?_
  refine m_iast S hW qsh_148 45 rfl (by decide) (by decide) dX11_init_638 (fun H2 locs2 hW2 => ?_)
  obtain ⟨V_241, eV_241⟩ : ∃ vv_ : mV, vv_ = mU V_239 215 45 (nI 32) := ⟨_, rfl⟩
  rw [← eV_241] at hW2
  have hf_242 : FillI V_149 V_241 215 wdT 46 := by rw [eV_241]; exact hf_240.step (by decide +kernel)
  clear hW eV_241 hf_240 V_239
  have hW := hW2
  clear hW2
  refine lv_dup hx hb dX11_init_639 rfl ?_
  refine lv_bipush (v := nI 46) hx hb dX11_init_640 (by decide) ?_
  refine lv_bipush (v := nI 32) hx hb dX11_init_642 (by decide) ?_
  refine m_iast S hW qsh_148 46 rfl (by decide) (by decide) dX11_init_644 (fun H2 locs2 hW2 => ?_)
  obtain ⟨V_243, eV_243⟩ : ∃ vv_ : mV, vv_ = mU V_241 215 46 (nI 32) := ⟨_, rfl⟩
  rw [← eV_243] at hW2
  have hf_244 : FillI V_149 V_243 215 wdT 47 := by rw [eV_243]; exact hf_242.step (by decide +kernel)
  clear hW eV_243 hf_242 V_241
  have hW := hW2
  clear hW2
  refine lv_dup hx hb dX11_init_645 rfl ?_
  refine lv_bipush (v := nI 47) hx hb dX11_init_646 (by decide) ?_
  refine lv_bipush (v := nI 32) hx hb dX11_init_648 (by decide) ?_
  refine m_iast S hW qsh_148 47 rfl (by decide) (by decide) dX11_init_650 (fun H2 locs2 hW2 => ?_)
  obtain ⟨V_245, eV_245⟩ : ∃ vv_ : mV, vv_ = mU V_243 215 47 (nI 32) := ⟨_, rfl⟩
  rw [← eV_245] at hW2
  have hf_246 : FillI V_149 V_245 215 wdT 48 := by rw [eV_245]; exact hf_244.step (by decide +kernel)
  clear hW eV_245 hf_244 V_243
  have hW := hW2
  clear hW2
  refine lv_dup hx hb dX11_init_651 rfl ?_
  refine lv_bipush (v := nI 48) hx hb dX11_init_652 (by decide) ?_
  refine lv_bipush (v := nI 109) hx hb dX11_init_654 (by decide) ?_
  refine m_iast S hW qsh_148 48 rfl (by decide) (by decide) dX11_init_656 (fun H2 locs2 hW2 => ?_)
  obtain ⟨V_247, eV_247⟩ : ∃ vv_ : mV, vv_ = mU V_245 215 48 (nI 109) := ⟨_, rfl⟩
  rw [← eV_247] at hW2
  have hf_248 : FillI V_149 V_247 215 wdT 49 := by rw [eV_247]; exact hf_246.step (by decide +kernel)
  clear hW eV_247 hf_246 V_245
  have hW := hW2
  clear hW2
  refine lv_dup hx hb dX11_init_657 rfl ?_
  refine lv_bipush (v := nI 49) hx hb dX11_init_658 (by decide) ?_
  refine lv_bipush (v := nI 111) hx hb dX11_init_660 (by decide) ?_
  refine m_iast S hW qsh_148 49 rfl (by decide) (by decide) dX11_init_662 (fun H2 locs2 hW2 => ?_)
  obtain ⟨V_249, eV_249⟩ : ∃ vv_ : mV, vv_ = mU V_247 215 49 (nI 111) := ⟨_, rfl⟩
  rw [← eV_249] at hW2
  have hf_250 : FillI V_149 V_249 215 wdT 50 := by rw [eV_249]; exact hf_248.step (by decide +kernel)
  clear hW eV_249 hf_248 V_247
  have hW := hW2
  clear hW2
  refine lv_dup hx hb dX11_init_663 rfl ?_
  refine lv_bipush (v := nI 50) hx hb dX11_init_664 (by decide) ?_
  refine lv_bipush (v := nI 114) hx hb dX11_init_666 (by decide) ?_
  refine m_iast S hW qsh_148 50 rfl (by decide) (by decide) dX11_init_668 (fun H2 locs2 hW2 => ?_)
  obtain ⟨V_251, eV_251⟩ : ∃ vv_ : mV, vv_ = mU V_249 215 50 (nI 114) := ⟨_, rfl⟩
  rw [← eV_251] at hW2
  have hf_252 : FillI V_149 V_251 215 wdT 51 := by rw [eV_251]; exact hf_250.step (by decide +kernel)
  clear hW eV_251 hf_250 V_249
  have hW := hW2
  clear hW2
  refine lv_dup hx hb dX11_init_669 rfl ?_
  refine lv_bipush (v := nI 51) hx hb dX11_init_670 (by decide) ?_
  refine lv_bipush (v := nI 101) hx hb dX11_init_672 (by decide) ?_
  refine m_iast S hW qsh_148 51 rfl (by decide) (by decide) dX11_init_674 (fun H2 locs2 hW2 => ?_)
  obtain ⟨V_253, eV_253⟩ : ∃ vv_ : mV, vv_ = mU V_251 215 51 (nI 101) := ⟨_, rfl⟩
  rw [← eV_253] at hW2
  have hf_254 : FillI V_149 V_253 215 wdT 52 := by rw [eV_253]; exact hf_252.step (by decide +kernel)
  clear hW eV_253 hf_252 V_251
  have hW := hW2
  clear hW2
  refine lv_dup hx hb dX11_init_675 rfl ?_
  refine lv_bipush (v := nI 52) hx hb dX11_init_676 (by decide) ?_
  refine lv_bipush (v := nI 32) hx hb dX11_init_678 (by decide) ?_
  refine m_iast S hW qsh_148 52 rfl (by decide) (by decide) dX11_init_680 (fun H2 locs2 hW2 => ?_)
  obtain ⟨V_255, eV_255⟩ : ∃ vv_ : mV, vv_ = mU V_253 215 52 (nI 32) := ⟨_, rfl⟩
  rw [← eV_255] at hW2
  have hf_256 : FillI V_149 V_255 215 wdT 53 := by rw [eV_255]; exact hf_254.step (by decide +kernel)
  clear hW eV_255 hf_254 V_253
  have hW := hW2
  clear hW2
  refine lv_dup hx hb dX11_init_681 rfl ?_
  refine lv_bipush (v := nI 53) hx hb dX11_init_682 (by decide) ?_
  refine lv_bipush (v := nI 32) hx hb dX11_init_684 (by decide) ?_
  refine m_iast S hW qsh_148 53 rfl (by decide) (by decide) dX11_init_686 (fun H2 locs2 hW2 => ?_)
  obtain ⟨V_257, eV_257⟩ : ∃ vv_ : mV, vv_ = mU V_255 215 53 (nI 32) := ⟨_, rfl⟩
  rw [← eV_257] at hW2
  have hf_258 : FillI V_149 V_257 215 wdT 54 := by rw [eV_257]; exact hf_256.step (by decide +kernel)
  clear hW eV_257 hf_256 V_255
  have hW := hW2
  clear hW2
  refine lv_dup hx hb dX11_init_687 rfl ?_
  refine lv_bipush (v := nI 54) hx hb dX11_init_688 (by decide) ?_
  refine lv_bipush (v := nI 32) hx hb dX11_init_690 (by decide) ?_
  refine m_iast S hW qsh_148 54 rfl (by decide) (by decide) dX11_init_692 (fun H2 locs2 hW2 => ?_)
  obtain ⟨V_259, eV_259⟩ : ∃ vv_ : mV, vv_ = mU V_257 215 54 (nI 32) := ⟨_, rfl⟩
  rw [← eV_259] at hW2
  have hf_260 : FillI V_149 V_259 215 wdT 55 := by rw [eV_259]; exact hf_258.step (by decide +kernel)
  clear hW eV_259 hf_258 V_257
  have hW := hW2
  clear hW2
  refine lv_dup hx hb dX11_init_693 rfl ?_
  refine lv_bipush (v := nI 55) hx hb dX11_init_694 (by decide) ?_
  refine lv_bipush (v := nI 32) hx hb dX11_init_696 (by decide) ?_
  refine m_iast S hW qsh_148 55 rfl (by decide) (by decide) dX11_init_698 (fun H2 locs2 hW2 => ?_)
  obtain ⟨V_261, eV_261⟩ : ∃ vv_ : mV, vv_ = mU V_259 215 55 (nI 32) := ⟨_, rfl⟩
  rw [← eV_261] at hW2
  have hf_262 : FillI V_149 V_261 215 wdT 56 := by rw [eV_261]; exact hf_260.step (by decide +kernel)
  clear hW eV_261 hf_260 V_259
  have hW := hW2
  clear hW2
  refine lv_dup hx hb dX11_init_699 rfl ?_
  refine lv_bipush (v := nI 56) hx hb dX11_init_700 (by decide) ?_
  refine lv_bipush (v := nI 108) hx hb dX11_init_702 (by decide) ?_
  refine m_iast S hW qsh_148 56 rfl (by decide) (by decide) dX11_init_704 (fun H2 locs2 hW2 => ?_)
  obtain ⟨V_263, eV_263⟩ : ∃ vv_ : mV, vv_ = mU V_261 215 56 (nI 108) := ⟨_, rfl⟩
  rw [← eV_263] at hW2
  have hf_264 : FillI V_149 V_263 215 wdT 57 := by rw [eV_263]; exact hf_262.step (by decide +kernel)
  clear hW eV_263 hf_262 V_261
  have hW := hW2
  clear hW2
  refine lv_dup hx hb dX11_init_705 rfl ?_
  refine lv_bipush (v := nI 57) hx hb dX11_init_706 (by decide) ?_
  refine lv_bipush (v := nI 101) hx hb dX11_init_708 (by decide) ?_
  refine m_iast S hW qsh_148 57 rfl (by decide) (by decide) dX11_init_710 (fun H2 locs2 hW2 => ?_)
  obtain ⟨V_265, eV_265⟩ : ∃ vv_ : mV, vv_ = mU V_263 215 57 (nI 101) := ⟨_, rfl⟩
  rw [← eV_265] at hW2
  have hf_266 : FillI V_149 V_265 215 wdT 58 := by rw [eV_265]; exact hf_264.step (by decide +kernel)
  clear hW eV_265 hf_264 V_263
  have hW := hW2
  clear hW2
  refine lv_dup hx hb dX11_init_711 rfl ?_
  refine lv_bipush (v := nI 58) hx hb dX11_init_712 (by decide) ?_
  refine lv_bipush (v := nI 102) hx hb dX11_init_714 (by decide) ?_
  refine m_iast S hW qsh_148 58 rfl (by decide) (by decide) dX11_init_716 (fun H2 locs2 hW2 => ?_)
  obtain ⟨V_267, eV_267⟩ : ∃ vv_ : mV, vv_ = mU V_265 215 58 (nI 102) := ⟨_, rfl⟩
  rw [← eV_267] at hW2
  have hf_268 : FillI V_149 V_267 215 wdT 59 := by rw [eV_267]; exact hf_266.step (by decide +kernel)
  clear hW eV_267 hf_266 V_265
  have hW := hW2
  clear hW2
  refine lv_dup hx hb dX11_init_717 rfl ?_
  refine lv_bipush (v := nI 59) hx hb dX11_init_718 (by decide) ?_
  refine lv_bipush (v := nI 116) hx hb dX11_init_720 (by decide) ?_
  refine m_iast S hW qsh_148 59 rfl (by decide) (by decide) dX11_init_722 (fun H2 locs2 hW2 => ?_)
  obtain ⟨V_269, eV_269⟩ : ∃ vv_ : mV, vv_ = mU V_267 215 59 (nI 116) := ⟨_, rfl⟩
  rw [← eV_269] at hW2
  have hf_270 : FillI V_149 V_269 215 wdT 60 := by rw [eV_269]; exact hf_268.step (by decide +kernel)
  clear hW eV_269 hf_268 V_267
  have hW := hW2
  clear hW2
  refine lv_dup hx hb dX11_init_723 rfl ?_
  refine lv_bipush (v := nI 60) hx hb dX11_init_724 (by decide) ?_
  refine lv_bipush (v := nI 32) hx hb dX11_init_726 (by decide) ?_
  refine m_iast S hW qsh_148 60 rfl (by decide) (by decide) dX11_init_728 (fun H2 locs2 hW2 => ?_)
  obtain ⟨V_271, eV_271⟩ : ∃ vv_ : mV, vv_ = mU V_269 215 60 (nI 32) := ⟨_, rfl⟩
  rw [← eV_271] at hW2
  have hf_272 : FillI V_149 V_271 215 wdT 61 := by rw [eV_271]; exact hf_270.step (by decide +kernel)
  clear hW eV_271 hf_270 V_269
  have hW := hW2
  clear hW2
  refine lv_dup hx hb dX11_init_729 rfl ?_
  refine lv_bipush (v := nI 61) hx hb dX11_init_730 (by decide) ?_
  refine lv_bipush (v := nI 32) hx hb dX11_init_732 (by decide) ?_
  refine m_iast S hW qsh_148 61 rfl (by decide) (by decide) dX11_init_734 (fun H2 locs2 hW2 => ?_)
  obtain ⟨V_273, eV_273⟩ : ∃ vv_ : mV, vv_ = mU V_271 215 61 (nI 32) := ⟨_, rfl⟩
  rw [← eV_273] at hW2
  have hf_274 : FillI V_149 V_273 215 wdT 62 := by rw [eV_273]; exact hf_272.step (by decide +kernel)
  clear hW eV_273 hf_272 V_271
  have hW := hW2
  clear hW2
  refine lv_dup hx hb dX11_init_735 rfl ?_
  refine lv_bipush (v := nI 62) hx hb dX11_init_736 (by decide) ?_
  refine lv_bipush (v := nI 32) hx hb dX11_init_738 (by decide) ?_
  refine m_iast S hW qsh_148 62 rfl (by decide) (by decide) dX11_init_740 (fun H2 locs2 hW2 => ?_)
  obtain ⟨V_275, eV_275⟩ : ∃ vv_ : mV, vv_ = mU V_273 215 62 (nI 32) := ⟨_, rfl⟩
  rw [← eV_275] at hW2
  have hf_276 : FillI V_149 V_275 215 wdT 63 := by rw [eV_275]; exact hf_274.step (by decide +kernel)
  clear hW eV_275 hf_274 V_273
  have hW := hW2
  clear hW2
  refine lv_dup hx hb dX11_init_741 rfl ?_
  refine lv_bipush (v := nI 63) hx hb dX11_init_742 (by decide) ?_
  refine lv_bipush (v := nI 32) hx hb dX11_init_744 (by decide) ?_
  refine m_iast S hW qsh_148 63 rfl (by decide) (by decide) dX11_init_746 (fun H2 locs2 hW2 => ?_)
  obtain ⟨V_277, eV_277⟩ : ∃ vv_ : mV, vv_ = mU V_275 215 63 (nI 32) := ⟨_, rfl⟩
  rw [← eV_277] at hW2
  have hf_278 : FillI V_149 V_277 215 wdT 64 := by rw [eV_277]; exact hf_276.step (by decide +kernel)
  clear hW eV_277 hf_276 V_275
  have hW := hW2
  clear hW2
  refine lv_dup hx hb dX11_init_747 rfl ?_
  refine lv_bipush (v := nI 64) hx hb dX11_init_748 (by decide) ?_
  refine lv_bipush (v := nI 100) hx hb dX11_init_750 (by decide) ?_
  refine m_iast S hW qsh_148 64 rfl (by decide) (by decide) dX11_init_752 (fun H2 locs2 hW2 => ?_)
  obtain ⟨V_279, eV_279⟩ : ∃ vv_ : mV, vv_ = mU V_277 215 64 (nI 100) := ⟨_, rfl⟩
  rw [← eV_279] at hW2
  have hf_280 : FillI V_149 V_279 215 wdT 65 := by rw [eV_279]; exact hf_278.step (by decide +kernel)
  clear hW eV_279 hf_278 V_277
  have hW := hW2
  clear hW2
  refine lv_dup hx hb dX11_init_753 rfl ?_
  refine lv_bipush (v := nI 65) hx hb dX11_init_754 (by decide) ?_
  refine lv_bipush (v := nI 97) hx hb dX11_init_756 (by decide) ?_
  refine m_iast S hW qsh_148 65 rfl (by decide) (by decide) dX11_init_758 (fun H2 locs2 hW2 => ?_)
  obtain ⟨V_281, eV_281⟩ : ∃ vv_ : mV, vv_ = mU V_279 215 65 (nI 97) := ⟨_, rfl⟩
  rw [← eV_281] at hW2
  have hf_282 : FillI V_149 V_281 215 wdT 66 := by rw [eV_281]; exact hf_280.step (by decide +kernel)
  clear hW eV_281 hf_280 V_279
  have hW := hW2
  clear hW2
  refine lv_dup hx hb dX11_init_759 rfl ?_
  refine lv_bipush (v := nI 66) hx hb dX11_init_760 (by decide) ?_
  refine lv_bipush (v := nI 121) hx hb dX11_init_762 (by decide) ?_
  refine m_iast S hW qsh_148 66 rfl (by decide) (by decide) dX11_init_764 (fun H2 locs2 hW2 => ?_)
  obtain ⟨V_283, eV_283⟩ : ∃ vv_ : mV, vv_ = mU V_281 215 66 (nI 121) := ⟨_, rfl⟩
  rw [← eV_283] at hW2
  have hf_284 : FillI V_149 V_283 215 wdT 67 := by rw [eV_283]; exact hf_282.step (by decide +kernel)
  clear hW eV_283 hf_282 V_281
  have hW := hW2
  clear hW2
  refine lv_dup hx hb dX11_init_765 rfl ?_
  refine lv_bipush (v := nI 67) hx hb dX11_init_766 (by decide) ?_
  refine lv_bipush (v := nI 32) hx hb dX11_init_768 (by decide) ?_
  refine m_iast S hW qsh_148 67 rfl (by decide) (by decide) dX11_init_770 (fun H2 locs2 hW2 => ?_)
  obtain ⟨V_285, eV_285⟩ : ∃ vv_ : mV, vv_ = mU V_283 215 67 (nI 32) := ⟨_, rfl⟩
  rw [← eV_285] at hW2
  have hf_286 : FillI V_149 V_285 215 wdT 68 := by rw [eV_285]; exact hf_284.step (by decide +kernel)
  clear hW eV_285 hf_284 V_283
  have hW := hW2
  clear hW2
  refine lv_dup hx hb dX11_init_771 rfl ?_
  refine lv_bipush (v := nI 68) hx hb dX11_init_772 (by decide) ?_
  refine lv_bipush (v := nI 32) hx hb dX11_init_774 (by decide) ?_
  refine m_iast S hW qsh_148 68 rfl (by decide) (by decide) dX11_init_776 (fun H2 locs2 hW2 => ?_)
  obtain ⟨V_287, eV_287⟩ : ∃ vv_ : mV, vv_ = mU V_285 215 68 (nI 32) := ⟨_, rfl⟩
  rw [← eV_287] at hW2
  have hf_288 : FillI V_149 V_287 215 wdT 69 := by rw [eV_287]; exact hf_286.step (by decide +kernel)
  clear hW eV_287 hf_286 V_285
  have hW := hW2
  clear hW2
  refine lv_dup hx hb dX11_init_777 rfl ?_
  refine lv_bipush (v := nI 69) hx hb dX11_init_778 (by decide) ?_
  refine lv_bipush (v := nI 32) hx hb dX11_init_780 (by decide) ?_
  refine m_iast S hW qsh_148 69 rfl (by decide) (by decide) dX11_init_782 (fun H2 locs2 hW2 => ?_)
  obtain ⟨V_289, eV_289⟩ : ∃ vv_ : mV, vv_ = mU V_287 215 69 (nI 32) := ⟨_, rfl⟩
  rw [← eV_289] at hW2
  have hf_290 : FillI V_149 V_289 215 wdT 70 := by rw [eV_289]; exact hf_288.step (by decide +kernel)
  clear hW eV_289 hf_288 V_287
  have hW := hW2
  clear hW2
  refine lv_dup hx hb dX11_init_783 rfl ?_
  refine lv_bipush (v := nI 70) hx hb dX11_init_784 (by decide) ?_
  refine lv_bipush (v := nI 32) hx hb dX11_init_786 (by decide) ?_
  refine m_iast S hW qsh_148 70 rfl (by decide) (by decide) dX11_init_788 (fun H2 locs2 hW2 => ?_)
  obtain ⟨V_291, eV_291⟩ : ∃ vv_ : mV, vv_ = mU V_289 215 70 (nI 32) := ⟨_, rfl⟩
  rw [← eV_291] at hW2
  have hf_292 : FillI V_149 V_291 215 wdT 71 := by rw [eV_291]; exact hf_290.step (by decide +kernel)
  clear hW eV_291 hf_290 V_289
  have hW := hW2
  clear hW2
  refine lv_dup hx hb dX11_init_789 rfl ?_
  refine lv_bipush (v := nI 71) hx hb dX11_init_790 (by decide) ?_
  refine lv_bipush (v := nI 32) hx hb dX11_init_792 (by decide) ?_
  refine m_iast S hW qsh_148 71 rfl (by decide) (by decide) dX11_init_794 (fun H2 locs2 hW2 => ?_)
  obtain ⟨V_293, eV_293⟩ : ∃ vv_ : mV, vv_ = mU V_291 215 71 (nI 32) := ⟨_, rfl⟩
  rw [← eV_293] at hW2
  have hf_294 : FillI V_149 V_293 215 wdT 72 := by rw [eV_293]; exact hf_292.step (by decide +kernel)
  clear hW eV_293 hf_292 V_291
  have hW := hW2
  clear hW2
  refine lv_dup hx hb dX11_init_795 rfl ?_
  refine lv_bipush (v := nI 72) hx hb dX11_init_796 (by decide) ?_
  refine lv_bipush (v := nI 111) hx hb dX11_init_798 (by decide) ?_
  refine m_iast S hW qsh_148 72 rfl (by decide) (by decide) dX11_init_800 (fun H2 locs2 hW2 => ?_)
  obtain ⟨V_295, eV_295⟩ : ∃ vv_ : mV, vv_ = mU V_293 215 72 (nI 111) := ⟨_, rfl⟩
  rw [← eV_295] at hW2
  have hf_296 : FillI V_149 V_295 215 wdT 73 := by rw [eV_295]; exact hf_294.step (by decide +kernel)
  clear hW eV_295 hf_294 V_293
  have hW := hW2
  clear hW2
  refine lv_dup hx hb dX11_init_801 rfl ?_
  refine lv_bipush (v := nI 73) hx hb dX11_init_802 (by decide) ?_
  refine lv_bipush (v := nI 114) hx hb dX11_init_804 (by decide) ?_
  refine m_iast S hW qsh_148 73 rfl (by decide) (by decide) dX11_init_806 (fun H2 locs2 hW2 => ?_)
  obtain ⟨V_297, eV_297⟩ : ∃ vv_ : mV, vv_ = mU V_295 215 73 (nI 114) := ⟨_, rfl⟩
  rw [← eV_297] at hW2
  have hf_298 : FillI V_149 V_297 215 wdT 74 := by rw [eV_297]; exact hf_296.step (by decide +kernel)
  clear hW eV_297 hf_296 V_295
  have hW := hW2
  clear hW2
  refine lv_dup hx hb dX11_init_807 rfl ?_
  refine lv_bipush (v := nI 74) hx hb dX11_init_808 (by decide) ?_
  refine lv_bipush (v := nI 32) hx hb dX11_init_810 (by decide) ?_
  refine m_iast S hW qsh_148 74 rfl (by decide) (by decide) dX11_init_812 (fun H2 locs2 hW2 => ?_)
  obtain ⟨V_299, eV_299⟩ : ∃ vv_ : mV, vv_ = mU V_297 215 74 (nI 32) := ⟨_, rfl⟩
  rw [← eV_299] at hW2
  have hf_300 : FillI V_149 V_299 215 wdT 75 := by rw [eV_299]; exact hf_298.step (by decide +kernel)
  clear hW eV_299 hf_298 V_297
  have hW := hW2
  clear hW2
  refine lv_dup hx hb dX11_init_813 rfl ?_
  refine lv_bipush (v := nI 75) hx hb dX11_init_814 (by decide) ?_
  refine lv_bipush (v := nI 32) hx hb dX11_init_816 (by decide) ?_
  refine m_iast S hW qsh_148 75 rfl (by decide) (by decide) dX11_init_818 (fun H2 locs2 hW2 => ?_)
  obtain ⟨V_301, eV_301⟩ : ∃ vv_ : mV, vv_ = mU V_299 215 75 (nI 32) := ⟨_, rfl⟩
  rw [← eV_301] at hW2
  have hf_302 : FillI V_149 V_301 215 wdT 76 := by rw [eV_301]; exact hf_300.step (by decide +kernel)
  clear hW eV_301 hf_300 V_299
  have hW := hW2
  clear hW2
  refine lv_dup hx hb dX11_init_819 rfl ?_
  refine lv_bipush (v := nI 76) hx hb dX11_init_820 (by decide) ?_
  refine lv_bipush (v := nI 32) hx hb dX11_init_822 (by decide) ?_
  refine m_iast S hW qsh_148 76 rfl (by decide) (by decide) dX11_init_824 (fun H2 locs2 hW2 => ?_)
  obtain ⟨V_303, eV_303⟩ : ∃ vv_ : mV, vv_ = mU V_301 215 76 (nI 32) := ⟨_, rfl⟩
  rw [← eV_303] at hW2
  have hf_304 : FillI V_149 V_303 215 wdT 77 := by rw [eV_303]; exact hf_302.step (by decide +kernel)
  clear hW eV_303 hf_302 V_301
  have hW := hW2
  clear hW2
  refine lv_dup hx hb dX11_init_825 rfl ?_
  refine lv_bipush (v := nI 77) hx hb dX11_init_826 (by decide) ?_
  refine lv_bipush (v := nI 32) hx hb dX11_init_828 (by decide) ?_
  refine m_iast S hW qsh_148 77 rfl (by decide) (by decide) dX11_init_830 (fun H2 locs2 hW2 => ?_)
  obtain ⟨V_305, eV_305⟩ : ∃ vv_ : mV, vv_ = mU V_303 215 77 (nI 32) := ⟨_, rfl⟩
  rw [← eV_305] at hW2
  have hf_306 : FillI V_149 V_305 215 wdT 78 := by rw [eV_305]; exact hf_304.step (by decide +kernel)
  clear hW eV_305 hf_304 V_303
  have hW := hW2
  clear hW2
  refine lv_dup hx hb dX11_init_831 rfl ?_
  refine lv_bipush (v := nI 78) hx hb dX11_init_832 (by decide) ?_
  refine lv_bipush (v := nI 32) hx hb dX11_init_834 (by decide) ?_
  refine m_iast S hW qsh_148 78 rfl (by decide) (by decide) dX11_init_836 (fun H2 locs2 hW2 => ?_)
  obtain ⟨V_307, eV_307⟩ : ∃ vv_ : mV, vv_ = mU V_305 215 78 (nI 32) := ⟨_, rfl⟩
  rw [← eV_307] at hW2
  have hf_308 : FillI V_149 V_307 215 wdT 79 := by rw [eV_307]; exact hf_306.step (by decide +kernel)
  clear hW eV_307 hf_306 V_305
  have hW := hW2
  clear hW2
  refine lv_dup hx hb dX11_init_837 rfl ?_
  refine lv_bipush (v := nI 79) hx hb dX11_init_838 (by decide) ?_
  refine lv_bipush (v := nI 32) hx hb dX11_init_840 (by decide) ?_
  refine m_iast S hW qsh_148 79 rfl (by decide) (by decide) dX11_init_842 (fun H2 locs2 hW2 => ?_)
  obtain ⟨V_309, eV_309⟩ : ∃ vv_ : mV, vv_ = mU V_307 215 79 (nI 32) := ⟨_, rfl⟩
  rw [← eV_309] at hW2
  have hf_310 : FillI V_149 V_309 215 wdT 80 := by rw [eV_309]; exact hf_308.step (by decide +kernel)
  clear hW eV_309 hf_308 V_307
  have hW := hW2
  clear hW2
  refine lv_dup hx hb dX11_init_843 rfl ?_
  refine lv_bipush (v := nI 80) hx hb dX11_init_844 (by decide) ?_
  refine lv_bipush (v := nI 97) hx hb dX11_init_846 (by decide) ?_
  refine m_iast S hW qsh_148 80 rfl (by decide) (by decide) dX11_init_848 (fun H2 locs2 hW2 => ?_)
  obtain ⟨V_311, eV_311⟩ : ∃ vv_ : mV, vv_ = mU V_309 215 80 (nI 97) := ⟨_, rfl⟩
  rw [← eV_311] at hW2
  have hf_312 : FillI V_149 V_311 215 wdT 81 := by rw [eV_311]; exact hf_310.step (by decide +kernel)
  clear hW eV_311 hf_310 V_309
  have hW := hW2
  clear hW2
  refine lv_dup hx hb dX11_init_849 rfl ?_
  refine lv_bipush (v := nI 81) hx hb dX11_init_850 (by decide) ?_
  refine lv_bipush (v := nI 110) hx hb dX11_init_852 (by decide) ?_
  refine m_iast S hW qsh_148 81 rfl (by decide) (by decide) dX11_init_854 (fun H2 locs2 hW2 => ?_)
  obtain ⟨V_313, eV_313⟩ : ∃ vv_ : mV, vv_ = mU V_311 215 81 (nI 110) := ⟨_, rfl⟩
  rw [← eV_313] at hW2
  have hf_314 : FillI V_149 V_313 215 wdT 82 := by rw [eV_313]; exact hf_312.step (by decide +kernel)
  clear hW eV_313 hf_312 V_311
  have hW := hW2
  clear hW2
  refine lv_dup hx hb dX11_init_855 rfl ?_
  refine lv_bipush (v := nI 82) hx hb dX11_init_856 (by decide) ?_
  refine lv_bipush (v := nI 100) hx hb dX11_init_858 (by decide) ?_
  refine m_iast S hW qsh_148 82 rfl (by decide) (by decide) dX11_init_860 (fun H2 locs2 hW2 => ?_)
  obtain ⟨V_315, eV_315⟩ : ∃ vv_ : mV, vv_ = mU V_313 215 82 (nI 100) := ⟨_, rfl⟩
  rw [← eV_315] at hW2
  have hf_316 : FillI V_149 V_315 215 wdT 83 := by rw [eV_315]; exact hf_314.step (by decide +kernel)
  clear hW eV_315 hf_314 V_313
  have hW := hW2
  clear hW2
  refine lv_dup hx hb dX11_init_861 rfl ?_
  refine lv_bipush (v := nI 83) hx hb dX11_init_862 (by decide) ?_
  refine lv_bipush (v := nI 32) hx hb dX11_init_864 (by decide) ?_
  refine m_iast S hW qsh_148 83 rfl (by decide) (by decide) dX11_init_866 (fun H2 locs2 hW2 => ?_)
  obtain ⟨V_317, eV_317⟩ : ∃ vv_ : mV, vv_ = mU V_315 215 83 (nI 32) := ⟨_, rfl⟩
  rw [← eV_317] at hW2
  have hf_318 : FillI V_149 V_317 215 wdT 84 := by rw [eV_317]; exact hf_316.step (by decide +kernel)
  clear hW eV_317 hf_316 V_315
  have hW := hW2
  clear hW2
  refine lv_dup hx hb dX11_init_867 rfl ?_
  refine lv_bipush (v := nI 84) hx hb dX11_init_868 (by decide) ?_
  refine lv_bipush (v := nI 32) hx hb dX11_init_870 (by decide) ?_
  refine m_iast S hW qsh_148 84 rfl (by decide) (by decide) dX11_init_872 (fun H2 locs2 hW2 => ?_)
  obtain ⟨V_319, eV_319⟩ : ∃ vv_ : mV, vv_ = mU V_317 215 84 (nI 32) := ⟨_, rfl⟩
  rw [← eV_319] at hW2
  have hf_320 : FillI V_149 V_319 215 wdT 85 := by rw [eV_319]; exact hf_318.step (by decide +kernel)
  clear hW eV_319 hf_318 V_317
  have hW := hW2
  clear hW2
  refine lv_dup hx hb dX11_init_873 rfl ?_
  refine lv_bipush (v := nI 85) hx hb dX11_init_874 (by decide) ?_
  refine lv_bipush (v := nI 32) hx hb dX11_init_876 (by decide) ?_
  refine m_iast S hW qsh_148 85 rfl (by decide) (by decide) dX11_init_878 (fun H2 locs2 hW2 => ?_)
  obtain ⟨V_321, eV_321⟩ : ∃ vv_ : mV, vv_ = mU V_319 215 85 (nI 32) := ⟨_, rfl⟩
  rw [← eV_321] at hW2
  have hf_322 : FillI V_149 V_321 215 wdT 86 := by rw [eV_321]; exact hf_320.step (by decide +kernel)
  clear hW eV_321 hf_320 V_319
  have hW := hW2
  clear hW2
  refine lv_dup hx hb dX11_init_879 rfl ?_
  refine lv_bipush (v := nI 86) hx hb dX11_init_880 (by decide) ?_
  refine lv_bipush (v := nI 32) hx hb dX11_init_882 (by decide) ?_
  refine m_iast S hW qsh_148 86 rfl (by decide) (by decide) dX11_init_884 (fun H2 locs2 hW2 => ?_)
  obtain ⟨V_323, eV_323⟩ : ∃ vv_ : mV, vv_ = mU V_321 215 86 (nI 32) := ⟨_, rfl⟩
  rw [← eV_323] at hW2
  have hf_324 : FillI V_149 V_323 215 wdT 87 := by rw [eV_323]; exact hf_322.step (by decide +kernel)
  clear hW eV_323 hf_322 V_321
  have hW := hW2
  clear hW2
  refine lv_dup hx hb dX11_init_885 rfl ?_
  refine lv_bipush (v := nI 87) hx hb dX11_init_886 (by decide) ?_
  refine lv_bipush (v := nI 32) hx hb dX11_init_888 (by decide) ?_
  refine m_iast S hW qsh_148 87 rfl (by decide) (by decide) dX11_init_890 (fun H2 locs2 hW2 => ?_)
  obtain ⟨V_325, eV_325⟩ : ∃ vv_ : mV, vv_ = mU V_323 215 87 (nI 32) := ⟨_, rfl⟩
  rw [← eV_325] at hW2
  have hf_326 : FillI V_149 V_325 215 wdT 88 := by rw [eV_325]; exact hf_324.step (by decide +kernel)
  clear hW eV_325 hf_324 V_323
  have hW := hW2
  clear hW2
  refine lv_dup hx hb dX11_init_891 rfl ?_
  refine lv_bipush (v := nI 88) hx hb dX11_init_892 (by decide) ?_
  refine lv_bipush (v := nI 110) hx hb dX11_init_894 (by decide) ?_
  refine m_iast S hW qsh_148 88 rfl (by decide) (by decide) dX11_init_896 (fun H2 locs2 hW2 => ?_)
  obtain ⟨V_327, eV_327⟩ : ∃ vv_ : mV, vv_ = mU V_325 215 88 (nI 110) := ⟨_, rfl⟩
  rw [← eV_327] at hW2
  have hf_328 : FillI V_149 V_327 215 wdT 89 := by rw [eV_327]; exact hf_326.step (by decide +kernel)
  clear hW eV_327 hf_326 V_325
  have hW := hW2
  clear hW2
  refine lv_dup hx hb dX11_init_897 rfl ?_
  refine lv_bipush (v := nI 89) hx hb dX11_init_898 (by decide) ?_
  refine lv_bipush (v := nI 111) hx hb dX11_init_900 (by decide) ?_
  refine m_iast S hW qsh_148 89 rfl (by decide) (by decide) dX11_init_902 (fun H2 locs2 hW2 => ?_)
  obtain ⟨V_329, eV_329⟩ : ∃ vv_ : mV, vv_ = mU V_327 215 89 (nI 111) := ⟨_, rfl⟩
  rw [← eV_329] at hW2
  have hf_330 : FillI V_149 V_329 215 wdT 90 := by rw [eV_329]; exact hf_328.step (by decide +kernel)
  clear hW eV_329 hf_328 V_327
  have hW := hW2
  clear hW2
  refine lv_dup hx hb dX11_init_903 rfl ?_
  refine lv_bipush (v := nI 90) hx hb dX11_init_904 (by decide) ?_
  refine lv_bipush (v := nI 116) hx hb dX11_init_906 (by decide) ?_
  refine m_iast S hW qsh_148 90 rfl (by decide) (by decide) dX11_init_908 (fun H2 locs2 hW2 => ?_)
  obtain ⟨V_331, eV_331⟩ : ∃ vv_ : mV, vv_ = mU V_329 215 90 (nI 116) := ⟨_, rfl⟩
  rw [← eV_331] at hW2
  have hf_332 : FillI V_149 V_331 215 wdT 91 := by rw [eV_331]; exact hf_330.step (by decide +kernel)
  clear hW eV_331 hf_330 V_329
  have hW := hW2
  clear hW2
  refine lv_dup hx hb dX11_init_909 rfl ?_
  refine lv_bipush (v := nI 91) hx hb dX11_init_910 (by decide) ?_
  refine lv_bipush (v := nI 32) hx hb dX11_init_912 (by decide) ?_
  refine m_iast S hW qsh_148 91 rfl (by decide) (by decide) dX11_init_914 (fun H2 locs2 hW2 => ?_)
  obtain ⟨V_333, eV_333⟩ : ∃ vv_ : mV, vv_ = mU V_331 215 91 (nI 32) := ⟨_, rfl⟩
  rw [← eV_333] at hW2
  have hf_334 : FillI V_149 V_333 215 wdT 92 := by rw [eV_333]; exact hf_332.step (by decide +kernel)
  clear hW eV_333 hf_332 V_331
  have hW := hW2
  clear hW2
  refine lv_dup hx hb dX11_init_915 rfl ?_
  refine lv_bipush (v := nI 92) hx hb dX11_init_916 (by decide) ?_
  refine lv_bipush (v := nI 32) hx hb dX11_init_918 (by decide) ?_
  refine m_iast S hW qsh_148 92 rfl (by decide) (by decide) dX11_init_920 (fun H2 locs2 hW2 => ?_)
  obtain ⟨V_335, eV_335⟩ : ∃ vv_ : mV, vv_ = mU V_333 215 92 (nI 32) := ⟨_, rfl⟩
  rw [← eV_335] at hW2
  have hf_336 : FillI V_149 V_335 215 wdT 93 := by rw [eV_335]; exact hf_334.step (by decide +kernel)
  clear hW eV_335 hf_334 V_333
  have hW := hW2
  clear hW2
  refine lv_dup hx hb dX11_init_921 rfl ?_
  refine lv_bipush (v := nI 93) hx hb dX11_init_922 (by decide) ?_
  refine lv_bipush (v := nI 32) hx hb dX11_init_924 (by decide) ?_
  refine m_iast S hW qsh_148 93 rfl (by decide) (by decide) dX11_init_926 (fun H2 locs2 hW2 => ?_)
  obtain ⟨V_337, eV_337⟩ : ∃ vv_ : mV, vv_ = mU V_335 215 93 (nI 32) := ⟨_, rfl⟩
  rw [← eV_337] at hW2
  have hf_338 : FillI V_149 V_337 215 wdT 94 := by rw [eV_337]; exact hf_336.step (by decide +kernel)
  clear hW eV_337 hf_336 V_335
  have hW := hW2
  clear hW2
  refine lv_dup hx hb dX11_init_927 rfl ?_
  refine lv_bipush (v := nI 94) hx hb dX11_init_928 (by decide) ?_
  refine lv_bipush (v := nI 32) hx hb dX11_init_930 (by decide) ?_
  refine m_iast S hW qsh_148 94 rfl (by decide) (by decide) dX11_init_932 (fun H2 locs2 hW2 => ?_)
  obtain ⟨V_339, eV_339⟩ : ∃ vv_ : mV, vv_ = mU V_337 215 94 (nI 32) := ⟨_, rfl⟩
  rw [← eV_339] at hW2
  have hf_340 : FillI V_149 V_339 215 wdT 95 := by rw [eV_339]; exact hf_338.step (by decide +kernel)
  clear hW eV_339 hf_338 V_337
  have hW := hW2
  clear hW2
  refine lv_dup hx hb dX11_init_933 rfl ?_
  refine lv_bipush (v := nI 95) hx hb dX11_init_934 (by decide) ?_
  refine lv_bipush (v := nI 32) hx hb dX11_init_936 (by decide) ?_
  refine m_iast S hW qsh_148 95 rfl (by decide) (by decide) dX11_init_938 (fun H2 locs2 hW2 => ?_)
  obtain ⟨V_341, eV_341⟩ : ∃ vv_ : mV, vv_ = mU V_339 215 95 (nI 32) := ⟨_, rfl⟩
  rw [← eV_341] at hW2
  have hf_342 : FillI V_149 V_341 215 wdT 96 := by rw [eV_341]; exact hf_340.step (by decide +kernel)
  clear hW eV_341 hf_340 V_339
  have hW := hW2
  clear hW2
  have fV_341 := hf_342.2
  refine m_putc S hW (fun _ => some 215) ((fsh_148 200 (by omega)).trans qsh_146) 25 (Nat.lt_of_lt_of_eq (by decide : 25 < 38) rfl) (j := 215) rfl (by rw [qsh_148]; exact fun z => by cases z) kX11 (iW11 _) tyX11 tyX11_ok nmX11 (by decide) (List.mem_cons_of_mem _ (wa_11 _ (List.mem_of_getElem? (i := 16) (by decide +kernel)))) (Or.inr ⟨rfl, hnm, rfl⟩) (fun _ => rfl) (fun _ => rfl) dX11_init_939 (fun H locs hW => ?_)
  obtain ⟨sh_343, esh_343⟩ : ∃ vv_ : Nat → Option mSh, vv_ = va_up sh_148 200 (some (mO 10 ((((((((((((((((nKs [false, true, false, true, true, true, false, true, false, true, true, false, false, false, true, true, true, true, true, true, true, false, false, false, false, true, true, false, false, false, true, true, false, true, true, true, false, false]).set 1 (some (fun _ => some 201))).set 3 (some (fun _ => some 202))).set 4 (some (fun _ => some 203))).set 5 (some (fun _ => some 204))).set 7 (some (fun _ => some 205))).set 9 (some (fun _ => some 206))).set 10 (some (fun _ => some 207))).set 14 (some (fun _ => some 208))).set 15 (some (fun _ => some 209))).set 16 (some (fun _ => some 210))).set 17 (some (fun _ => some 211))).set 18 (some (fun _ => some 212))).set 19 (some (fun _ => some 213))).set 20 (some (fun _ => some 214))).set 25 (some (fun _ => some 215))))) := ⟨_, rfl⟩
  rw [← esh_343] at hW
  have qsh_343 : sh_343 200 = some (mO 10 ((((((((((((((((nKs [false, true, false, true, true, true, false, true, false, true, true, false, false, false, true, true, true, true, true, true, true, false, false, false, false, true, true, false, false, false, true, true, false, true, true, true, false, false]).set 1 (some (fun _ => some 201))).set 3 (some (fun _ => some 202))).set 4 (some (fun _ => some 203))).set 5 (some (fun _ => some 204))).set 7 (some (fun _ => some 205))).set 9 (some (fun _ => some 206))).set 10 (some (fun _ => some 207))).set 14 (some (fun _ => some 208))).set 15 (some (fun _ => some 209))).set 16 (some (fun _ => some 210))).set 17 (some (fun _ => some 211))).set 18 (some (fun _ => some 212))).set 19 (some (fun _ => some 213))).set 20 (some (fun _ => some 214))).set 25 (some (fun _ => some 215)))) := by rw [esh_343]; exact va_up_self _ _ _
  have fsh_343 : ∀ a, a ≠ 200 → sh_343 a = sh_148 a := fun a ha => by rw [esh_343]; exact va_up_ne _ _ ha
  clear esh_343
  refine lv_aload_n hx hb dX11_init_942 rfl (lv_at hl 0 rfl) ?_
  refine lv_sipush (v := nI 200) hx hb dX11_init_943 (by decide) ?_
  refine m_newI S hW 216 200 true ((fsh_343 216 (by omega)).trans ((fsh_148 216 (by omega)).trans ((fsh_146 216 (by omega)).trans ((fsh_63 216 (by omega)).trans ((fsh_61 216 (by omega)).trans ((fsh_59 216 (by omega)).trans ((fsh_57 216 (by omega)).trans ((fsh_55 216 (by omega)).trans ((fsh_53 216 (by omega)).trans ((fsh_42 216 (by omega)).trans ((fsh_40 216 (by omega)).trans ((fsh_38 216 (by omega)).trans ((fsh_36 216 (by omega)).trans ((fsh_34 216 (by omega)).trans ((fsh_32 216 (by omega)).trans ((fsh_30 216 (by omega)).trans ((fsh_28 216 (by omega)).trans ((fsh_26 216 (by omega)).trans ((fsh_24 216 (by omega)).trans ((fsh_22 216 (by omega)).trans ((fsh_20 216 (by omega)).trans ((fsh_18 216 (by omega)).trans ((fsh_16 216 (by omega)).trans ((fsh_14 216 (by omega)).trans ((fsh_12 216 (by omega)).trans ((fsh_10 216 (by omega)).trans ((fsh_8 216 (by omega)).trans ((fsh_6 216 (by omega)).trans ((fsh_4 216 (by omega)).trans ((fsh_2 216 (by omega)).trans (hno 216 (by omega)))))))))))))))))))))))))))))))) (List.mem_cons_of_mem _ (wa_2 _ (List.mem_of_getElem? (i := 19) (by decide +kernel)))) (by decide) (Nat.le_of_ble_eq_true rfl) (Nat.le_of_ble_eq_true rfl) dX11_init_946 (fun ad_344 H fad_344 hW => ?_)
  refine W.eq (g2 := F0 m 948 ls [.ref (ad_344 216), .ref (ad_344 200)]) (by rw [fad_344 200 (by omega)]) ?_
  have hl : lv_has ls 2 [(0, .ref (ad_344 200))] := by rw [fad_344 200 (by omega)]; exact hl
  obtain ⟨sh_345, esh_345⟩ : ∃ vv_ : Nat → Option mSh, vv_ = va_up sh_343 216 (some (mI 200)) := ⟨_, rfl⟩
  rw [← esh_345] at hW
  have qsh_345 : sh_345 216 = some (mI 200) := by rw [esh_345]; exact va_up_self _ _ _
  have fsh_345 : ∀ a, a ≠ 216 → sh_345 a = sh_343 a := fun a ha => by rw [esh_345]; exact va_up_ne _ _ ha
  clear esh_345
  obtain ⟨V_346, eV_346⟩ : ∃ vv_ : mV, vv_ = va_up V_341 216 (fun _ => 0) := ⟨_, rfl⟩
  rw [← eV_346] at hW
  have qV_346 : V_346 216 = fun _ => 0 := by rw [eV_346]; exact va_up_self _ _ _
  have fV_346 : ∀ a, a ≠ 216 → V_346 a = V_341 a := fun a ha => by rw [eV_346]; exact va_up_ne _ _ ha
  clear eV_346
  refine m_putc S hW (fun _ => some 216) ((fsh_345 200 (by omega)).trans qsh_343) 26 (Nat.lt_of_lt_of_eq (by decide : 26 < 38) rfl) (j := 216) rfl (by rw [qsh_345]; exact fun z => by cases z) kX11 (iW11 _) tyX11 tyX11_ok nmX11 (by decide) (List.mem_cons_of_mem _ (wa_11 _ (List.mem_of_getElem? (i := 17) (by decide +kernel)))) (Or.inr ⟨rfl, hnm, rfl⟩) (fun _ => rfl) (fun _ => rfl) dX11_init_948 (fun H locs hW => ?_)
  obtain ⟨sh_347, esh_347⟩ : ∃ vv_ : Nat → Option mSh, vv_ = va_up sh_345 200 (some (mO 10 (((((((((((((((((nKs [false, true, false, true, true, true, false, true, false, true, true, false, false, false, true, true, true, true, true, true, true, false, false, false, false, true, true, false, false, false, true, true, false, true, true, true, false, false]).set 1 (some (fun _ => some 201))).set 3 (some (fun _ => some 202))).set 4 (some (fun _ => some 203))).set 5 (some (fun _ => some 204))).set 7 (some (fun _ => some 205))).set 9 (some (fun _ => some 206))).set 10 (some (fun _ => some 207))).set 14 (some (fun _ => some 208))).set 15 (some (fun _ => some 209))).set 16 (some (fun _ => some 210))).set 17 (some (fun _ => some 211))).set 18 (some (fun _ => some 212))).set 19 (some (fun _ => some 213))).set 20 (some (fun _ => some 214))).set 25 (some (fun _ => some 215))).set 26 (some (fun _ => some 216))))) := ⟨_, rfl⟩
  rw [← esh_347] at hW
  have qsh_347 : sh_347 200 = some (mO 10 (((((((((((((((((nKs [false, true, false, true, true, true, false, true, false, true, true, false, false, false, true, true, true, true, true, true, true, false, false, false, false, true, true, false, false, false, true, true, false, true, true, true, false, false]).set 1 (some (fun _ => some 201))).set 3 (some (fun _ => some 202))).set 4 (some (fun _ => some 203))).set 5 (some (fun _ => some 204))).set 7 (some (fun _ => some 205))).set 9 (some (fun _ => some 206))).set 10 (some (fun _ => some 207))).set 14 (some (fun _ => some 208))).set 15 (some (fun _ => some 209))).set 16 (some (fun _ => some 210))).set 17 (some (fun _ => some 211))).set 18 (some (fun _ => some 212))).set 19 (some (fun _ => some 213))).set 20 (some (fun _ => some 214))).set 25 (some (fun _ => some 215))).set 26 (some (fun _ => some 216)))) := by rw [esh_347]; exact va_up_self _ _ _
  have fsh_347 : ∀ a, a ≠ 200 → sh_347 a = sh_345 a := fun a ha => by rw [esh_347]; exact va_up_ne _ _ ha
  clear esh_347
  refine lv_aload_n hx hb dX11_init_951 rfl (lv_at hl 0 rfl) ?_
  refine lv_sipush (v := nI 200) hx hb dX11_init_952 (by decide) ?_
  refine m_newI S hW 217 200 false ((fsh_347 217 (by omega)).trans ((fsh_345 217 (by omega)).trans ((fsh_343 217 (by omega)).trans ((fsh_148 217 (by omega)).trans ((fsh_146 217 (by omega)).trans ((fsh_63 217 (by omega)).trans ((fsh_61 217 (by omega)).trans ((fsh_59 217 (by omega)).trans ((fsh_57 217 (by omega)).trans ((fsh_55 217 (by omega)).trans ((fsh_53 217 (by omega)).trans ((fsh_42 217 (by omega)).trans ((fsh_40 217 (by omega)).trans ((fsh_38 217 (by omega)).trans ((fsh_36 217 (by omega)).trans ((fsh_34 217 (by omega)).trans ((fsh_32 217 (by omega)).trans ((fsh_30 217 (by omega)).trans ((fsh_28 217 (by omega)).trans ((fsh_26 217 (by omega)).trans ((fsh_24 217 (by omega)).trans ((fsh_22 217 (by omega)).trans ((fsh_20 217 (by omega)).trans ((fsh_18 217 (by omega)).trans ((fsh_16 217 (by omega)).trans ((fsh_14 217 (by omega)).trans ((fsh_12 217 (by omega)).trans ((fsh_10 217 (by omega)).trans ((fsh_8 217 (by omega)).trans ((fsh_6 217 (by omega)).trans ((fsh_4 217 (by omega)).trans ((fsh_2 217 (by omega)).trans (hno 217 (by omega)))))))))))))))))))))))))))))))))) (List.mem_cons_of_mem _ (wa_2 _ (List.mem_of_getElem? (i := 19) (by decide +kernel)))) (by decide) (Nat.le_of_ble_eq_true rfl) (Nat.le_of_ble_eq_true rfl) dX11_init_955 (fun ad_348 H fad_348 hW => ?_)
  refine W.eq (g2 := F0 m 957 ls [.ref (ad_348 217), .ref (ad_348 200)]) (by rw [fad_348 200 (by omega)]) ?_
  have hl : lv_has ls 2 [(0, .ref (ad_348 200))] := by rw [fad_348 200 (by omega)]; exact hl
  obtain ⟨sh_349, esh_349⟩ : ∃ vv_ : Nat → Option mSh, vv_ = va_up sh_347 217 (some (mS 200)) := ⟨_, rfl⟩
  rw [← esh_349] at hW
  have qsh_349 : sh_349 217 = some (mS 200) := by rw [esh_349]; exact va_up_self _ _ _
  have fsh_349 : ∀ a, a ≠ 217 → sh_349 a = sh_347 a := fun a ha => by rw [esh_349]; exact va_up_ne _ _ ha
  clear esh_349
  obtain ⟨V_350, eV_350⟩ : ∃ vv_ : mV, vv_ = va_up V_346 217 (fun _ => 0) := ⟨_, rfl⟩
  rw [← eV_350] at hW
  have qV_350 : V_350 217 = fun _ => 0 := by rw [eV_350]; exact va_up_self _ _ _
  have fV_350 : ∀ a, a ≠ 217 → V_350 a = V_346 a := fun a ha => by rw [eV_350]; exact va_up_ne _ _ ha
  clear eV_350
  refine m_putc S hW (fun _ => some 217) ((fsh_349 200 (by omega)).trans qsh_347) 30 (Nat.lt_of_lt_of_eq (by decide : 30 < 38) rfl) (j := 217) rfl (by rw [qsh_349]; exact fun z => by cases z) kX11 (iW11 _) tyX11 tyX11_ok nmX11 (by decide) (List.mem_cons_of_mem _ (wa_11 _ (List.mem_of_getElem? (i := 18) (by decide +kernel)))) (Or.inr ⟨rfl, hnm, rfl⟩) (fun _ => rfl) (fun _ => rfl) dX11_init_957 (fun H locs hW => ?_)
  obtain ⟨sh_351, esh_351⟩ : ∃ vv_ : Nat → Option mSh, vv_ = va_up sh_349 200 (some (mO 10 ((((((((((((((((((nKs [false, true, false, true, true, true, false, true, false, true, true, false, false, false, true, true, true, true, true, true, true, false, false, false, false, true, true, false, false, false, true, true, false, true, true, true, false, false]).set 1 (some (fun _ => some 201))).set 3 (some (fun _ => some 202))).set 4 (some (fun _ => some 203))).set 5 (some (fun _ => some 204))).set 7 (some (fun _ => some 205))).set 9 (some (fun _ => some 206))).set 10 (some (fun _ => some 207))).set 14 (some (fun _ => some 208))).set 15 (some (fun _ => some 209))).set 16 (some (fun _ => some 210))).set 17 (some (fun _ => some 211))).set 18 (some (fun _ => some 212))).set 19 (some (fun _ => some 213))).set 20 (some (fun _ => some 214))).set 25 (some (fun _ => some 215))).set 26 (some (fun _ => some 216))).set 30 (some (fun _ => some 217))))) := ⟨_, rfl⟩
  rw [← esh_351] at hW
  have qsh_351 : sh_351 200 = some (mO 10 ((((((((((((((((((nKs [false, true, false, true, true, true, false, true, false, true, true, false, false, false, true, true, true, true, true, true, true, false, false, false, false, true, true, false, false, false, true, true, false, true, true, true, false, false]).set 1 (some (fun _ => some 201))).set 3 (some (fun _ => some 202))).set 4 (some (fun _ => some 203))).set 5 (some (fun _ => some 204))).set 7 (some (fun _ => some 205))).set 9 (some (fun _ => some 206))).set 10 (some (fun _ => some 207))).set 14 (some (fun _ => some 208))).set 15 (some (fun _ => some 209))).set 16 (some (fun _ => some 210))).set 17 (some (fun _ => some 211))).set 18 (some (fun _ => some 212))).set 19 (some (fun _ => some 213))).set 20 (some (fun _ => some 214))).set 25 (some (fun _ => some 215))).set 26 (some (fun _ => some 216))).set 30 (some (fun _ => some 217)))) := by rw [esh_351]; exact va_up_self _ _ _
  have fsh_351 : ∀ a, a ≠ 200 → sh_351 a = sh_349 a := fun a ha => by rw [esh_351]; exact va_up_ne _ _ ha
  clear esh_351
  refine lv_aload_n hx hb dX11_init_960 rfl (lv_at hl 0 rfl) ?_
  refine lv_bipush (v := nI 6) hx hb dX11_init_961 (by decide) ?_
  refine m_newI S hW 218 6 false ((fsh_351 218 (by omega)).trans ((fsh_349 218 (by omega)).trans ((fsh_347 218 (by omega)).trans ((fsh_345 218 (by omega)).trans ((fsh_343 218 (by omega)).trans ((fsh_148 218 (by omega)).trans ((fsh_146 218 (by omega)).trans ((fsh_63 218 (by omega)).trans ((fsh_61 218 (by omega)).trans ((fsh_59 218 (by omega)).trans ((fsh_57 218 (by omega)).trans ((fsh_55 218 (by omega)).trans ((fsh_53 218 (by omega)).trans ((fsh_42 218 (by omega)).trans ((fsh_40 218 (by omega)).trans ((fsh_38 218 (by omega)).trans ((fsh_36 218 (by omega)).trans ((fsh_34 218 (by omega)).trans ((fsh_32 218 (by omega)).trans ((fsh_30 218 (by omega)).trans ((fsh_28 218 (by omega)).trans ((fsh_26 218 (by omega)).trans ((fsh_24 218 (by omega)).trans ((fsh_22 218 (by omega)).trans ((fsh_20 218 (by omega)).trans ((fsh_18 218 (by omega)).trans ((fsh_16 218 (by omega)).trans ((fsh_14 218 (by omega)).trans ((fsh_12 218 (by omega)).trans ((fsh_10 218 (by omega)).trans ((fsh_8 218 (by omega)).trans ((fsh_6 218 (by omega)).trans ((fsh_4 218 (by omega)).trans ((fsh_2 218 (by omega)).trans (hno 218 (by omega)))))))))))))))))))))))))))))))))))) (List.mem_cons_of_mem _ (wa_2 _ (List.mem_of_getElem? (i := 19) (by decide +kernel)))) (by decide) (Nat.le_of_ble_eq_true rfl) (Nat.le_of_ble_eq_true rfl) dX11_init_963 (fun ad_352 H fad_352 hW => ?_)
  refine W.eq (g2 := F0 m 965 ls [.ref (ad_352 218), .ref (ad_352 200)]) (by rw [fad_352 200 (by omega)]) ?_
  have hl : lv_has ls 2 [(0, .ref (ad_352 200))] := by rw [fad_352 200 (by omega)]; exact hl
  obtain ⟨sh_353, esh_353⟩ : ∃ vv_ : Nat → Option mSh, vv_ = va_up sh_351 218 (some (mS 6)) := ⟨_, rfl⟩
  rw [← esh_353] at hW
  have qsh_353 : sh_353 218 = some (mS 6) := by rw [esh_353]; exact va_up_self _ _ _
  have fsh_353 : ∀ a, a ≠ 218 → sh_353 a = sh_351 a := fun a ha => by rw [esh_353]; exact va_up_ne _ _ ha
  clear esh_353
  obtain ⟨V_354, eV_354⟩ : ∃ vv_ : mV, vv_ = va_up V_350 218 (fun _ => 0) := ⟨_, rfl⟩
  rw [← eV_354] at hW
  have qV_354 : V_354 218 = fun _ => 0 := by rw [eV_354]; exact va_up_self _ _ _
  have fV_354 : ∀ a, a ≠ 218 → V_354 a = V_350 a := fun a ha => by rw [eV_354]; exact va_up_ne _ _ ha
  clear eV_354
  refine m_putc S hW (fun _ => some 218) ((fsh_353 200 (by omega)).trans qsh_351) 31 (Nat.lt_of_lt_of_eq (by decide : 31 < 38) rfl) (j := 218) rfl (by rw [qsh_353]; exact fun z => by cases z) kX11 (iW11 _) tyX11 tyX11_ok nmX11 (by decide) (List.mem_cons_of_mem _ (wa_11 _ (List.mem_of_getElem? (i := 19) (by decide +kernel)))) (Or.inr ⟨rfl, hnm, rfl⟩) (fun _ => rfl) (fun _ => rfl) dX11_init_965 (fun H locs hW => ?_)
  obtain ⟨sh_355, esh_355⟩ : ∃ vv_ : Nat → Option mSh, vv_ = va_up sh_353 200 (some (mO 10 (((((((((((((((((((nKs [false, true, false, true, true, true, false, true, false, true, true, false, false, false, true, true, true, true, true, true, true, false, false, false, false, true, true, false, false, false, true, true, false, true, true, true, false, false]).set 1 (some (fun _ => some 201))).set 3 (some (fun _ => some 202))).set 4 (some (fun _ => some 203))).set 5 (some (fun _ => some 204))).set 7 (some (fun _ => some 205))).set 9 (some (fun _ => some 206))).set 10 (some (fun _ => some 207))).set 14 (some (fun _ => some 208))).set 15 (some (fun _ => some 209))).set 16 (some (fun _ => some 210))).set 17 (some (fun _ => some 211))).set 18 (some (fun _ => some 212))).set 19 (some (fun _ => some 213))).set 20 (some (fun _ => some 214))).set 25 (some (fun _ => some 215))).set 26 (some (fun _ => some 216))).set 30 (some (fun _ => some 217))).set 31 (some (fun _ => some 218))))) := ⟨_, rfl⟩
  rw [← esh_355] at hW
  have qsh_355 : sh_355 200 = some (mO 10 (((((((((((((((((((nKs [false, true, false, true, true, true, false, true, false, true, true, false, false, false, true, true, true, true, true, true, true, false, false, false, false, true, true, false, false, false, true, true, false, true, true, true, false, false]).set 1 (some (fun _ => some 201))).set 3 (some (fun _ => some 202))).set 4 (some (fun _ => some 203))).set 5 (some (fun _ => some 204))).set 7 (some (fun _ => some 205))).set 9 (some (fun _ => some 206))).set 10 (some (fun _ => some 207))).set 14 (some (fun _ => some 208))).set 15 (some (fun _ => some 209))).set 16 (some (fun _ => some 210))).set 17 (some (fun _ => some 211))).set 18 (some (fun _ => some 212))).set 19 (some (fun _ => some 213))).set 20 (some (fun _ => some 214))).set 25 (some (fun _ => some 215))).set 26 (some (fun _ => some 216))).set 30 (some (fun _ => some 217))).set 31 (some (fun _ => some 218)))) := by rw [esh_355]; exact va_up_self _ _ _
  have fsh_355 : ∀ a, a ≠ 200 → sh_355 a = sh_353 a := fun a ha => by rw [esh_355]; exact va_up_ne _ _ ha
  clear esh_355
  refine lv_aload_n hx hb dX11_init_968 rfl (lv_at hl 0 rfl) ?_
  refine lv_bipush (v := nI 21) hx hb dX11_init_969 (by decide) ?_
  refine m_newI S hW 219 21 true ((fsh_355 219 (by omega)).trans ((fsh_353 219 (by omega)).trans ((fsh_351 219 (by omega)).trans ((fsh_349 219 (by omega)).trans ((fsh_347 219 (by omega)).trans ((fsh_345 219 (by omega)).trans ((fsh_343 219 (by omega)).trans ((fsh_148 219 (by omega)).trans ((fsh_146 219 (by omega)).trans ((fsh_63 219 (by omega)).trans ((fsh_61 219 (by omega)).trans ((fsh_59 219 (by omega)).trans ((fsh_57 219 (by omega)).trans ((fsh_55 219 (by omega)).trans ((fsh_53 219 (by omega)).trans ((fsh_42 219 (by omega)).trans ((fsh_40 219 (by omega)).trans ((fsh_38 219 (by omega)).trans ((fsh_36 219 (by omega)).trans ((fsh_34 219 (by omega)).trans ((fsh_32 219 (by omega)).trans ((fsh_30 219 (by omega)).trans ((fsh_28 219 (by omega)).trans ((fsh_26 219 (by omega)).trans ((fsh_24 219 (by omega)).trans ((fsh_22 219 (by omega)).trans ((fsh_20 219 (by omega)).trans ((fsh_18 219 (by omega)).trans ((fsh_16 219 (by omega)).trans ((fsh_14 219 (by omega)).trans ((fsh_12 219 (by omega)).trans ((fsh_10 219 (by omega)).trans ((fsh_8 219 (by omega)).trans ((fsh_6 219 (by omega)).trans ((fsh_4 219 (by omega)).trans ((fsh_2 219 (by omega)).trans (hno 219 (by omega)))))))))))))))))))))))))))))))))))))) (List.mem_cons_of_mem _ (wa_2 _ (List.mem_of_getElem? (i := 19) (by decide +kernel)))) (by decide) (Nat.le_of_ble_eq_true rfl) (Nat.le_of_ble_eq_true rfl) dX11_init_971 (fun ad_356 H fad_356 hW => ?_)
  refine W.eq (g2 := F0 m 973 ls [.ref (ad_356 219), .ref (ad_356 200)]) (by rw [fad_356 200 (by omega)]) ?_
  have hl : lv_has ls 2 [(0, .ref (ad_356 200))] := by rw [fad_356 200 (by omega)]; exact hl
  obtain ⟨sh_357, esh_357⟩ : ∃ vv_ : Nat → Option mSh, vv_ = va_up sh_355 219 (some (mI 21)) := ⟨_, rfl⟩
  rw [← esh_357] at hW
  have qsh_357 : sh_357 219 = some (mI 21) := by rw [esh_357]; exact va_up_self _ _ _
  have fsh_357 : ∀ a, a ≠ 219 → sh_357 a = sh_355 a := fun a ha => by rw [esh_357]; exact va_up_ne _ _ ha
  clear esh_357
  obtain ⟨V_358, eV_358⟩ : ∃ vv_ : mV, vv_ = va_up V_354 219 (fun _ => 0) := ⟨_, rfl⟩
  rw [← eV_358] at hW
  have qV_358 : V_358 219 = fun _ => 0 := by rw [eV_358]; exact va_up_self _ _ _
  have fV_358 : ∀ a, a ≠ 219 → V_358 a = V_354 a := fun a ha => by rw [eV_358]; exact va_up_ne _ _ ha
  clear eV_358
  refine m_putc S hW (fun _ => some 219) ((fsh_357 200 (by omega)).trans qsh_355) 33 (Nat.lt_of_lt_of_eq (by decide : 33 < 38) rfl) (j := 219) rfl (by rw [qsh_357]; exact fun z => by cases z) kX11 (iW11 _) tyX11 tyX11_ok nmX11 (by decide) (List.mem_cons_of_mem _ (wa_11 _ (List.mem_of_getElem? (i := 20) (by decide +kernel)))) (Or.inr ⟨rfl, hnm, rfl⟩) (fun _ => rfl) (fun _ => rfl) dX11_init_973 (fun H locs hW => ?_)
  obtain ⟨sh_359, esh_359⟩ : ∃ vv_ : Nat → Option mSh, vv_ = va_up sh_357 200 (some (mO 10 ((((((((((((((((((((nKs [false, true, false, true, true, true, false, true, false, true, true, false, false, false, true, true, true, true, true, true, true, false, false, false, false, true, true, false, false, false, true, true, false, true, true, true, false, false]).set 1 (some (fun _ => some 201))).set 3 (some (fun _ => some 202))).set 4 (some (fun _ => some 203))).set 5 (some (fun _ => some 204))).set 7 (some (fun _ => some 205))).set 9 (some (fun _ => some 206))).set 10 (some (fun _ => some 207))).set 14 (some (fun _ => some 208))).set 15 (some (fun _ => some 209))).set 16 (some (fun _ => some 210))).set 17 (some (fun _ => some 211))).set 18 (some (fun _ => some 212))).set 19 (some (fun _ => some 213))).set 20 (some (fun _ => some 214))).set 25 (some (fun _ => some 215))).set 26 (some (fun _ => some 216))).set 30 (some (fun _ => some 217))).set 31 (some (fun _ => some 218))).set 33 (some (fun _ => some 219))))) := ⟨_, rfl⟩
  rw [← esh_359] at hW
  have qsh_359 : sh_359 200 = some (mO 10 ((((((((((((((((((((nKs [false, true, false, true, true, true, false, true, false, true, true, false, false, false, true, true, true, true, true, true, true, false, false, false, false, true, true, false, false, false, true, true, false, true, true, true, false, false]).set 1 (some (fun _ => some 201))).set 3 (some (fun _ => some 202))).set 4 (some (fun _ => some 203))).set 5 (some (fun _ => some 204))).set 7 (some (fun _ => some 205))).set 9 (some (fun _ => some 206))).set 10 (some (fun _ => some 207))).set 14 (some (fun _ => some 208))).set 15 (some (fun _ => some 209))).set 16 (some (fun _ => some 210))).set 17 (some (fun _ => some 211))).set 18 (some (fun _ => some 212))).set 19 (some (fun _ => some 213))).set 20 (some (fun _ => some 214))).set 25 (some (fun _ => some 215))).set 26 (some (fun _ => some 216))).set 30 (some (fun _ => some 217))).set 31 (some (fun _ => some 218))).set 33 (some (fun _ => some 219)))) := by rw [esh_359]; exact va_up_self _ _ _
  have fsh_359 : ∀ a, a ≠ 200 → sh_359 a = sh_357 a := fun a ha => by rw [esh_359]; exact va_up_ne _ _ ha
  clear esh_359
  refine lv_aload_n hx hb dX11_init_976 rfl (lv_at hl 0 rfl) ?_
  refine lv_iconst (v := nI 5) hx hb dX11_init_977 (by decide) ?_
  refine m_newI S hW 220 5 true ((fsh_359 220 (by omega)).trans ((fsh_357 220 (by omega)).trans ((fsh_355 220 (by omega)).trans ((fsh_353 220 (by omega)).trans ((fsh_351 220 (by omega)).trans ((fsh_349 220 (by omega)).trans ((fsh_347 220 (by omega)).trans ((fsh_345 220 (by omega)).trans ((fsh_343 220 (by omega)).trans ((fsh_148 220 (by omega)).trans ((fsh_146 220 (by omega)).trans ((fsh_63 220 (by omega)).trans ((fsh_61 220 (by omega)).trans ((fsh_59 220 (by omega)).trans ((fsh_57 220 (by omega)).trans ((fsh_55 220 (by omega)).trans ((fsh_53 220 (by omega)).trans ((fsh_42 220 (by omega)).trans ((fsh_40 220 (by omega)).trans ((fsh_38 220 (by omega)).trans ((fsh_36 220 (by omega)).trans ((fsh_34 220 (by omega)).trans ((fsh_32 220 (by omega)).trans ((fsh_30 220 (by omega)).trans ((fsh_28 220 (by omega)).trans ((fsh_26 220 (by omega)).trans ((fsh_24 220 (by omega)).trans ((fsh_22 220 (by omega)).trans ((fsh_20 220 (by omega)).trans ((fsh_18 220 (by omega)).trans ((fsh_16 220 (by omega)).trans ((fsh_14 220 (by omega)).trans ((fsh_12 220 (by omega)).trans ((fsh_10 220 (by omega)).trans ((fsh_8 220 (by omega)).trans ((fsh_6 220 (by omega)).trans ((fsh_4 220 (by omega)).trans ((fsh_2 220 (by omega)).trans (hno 220 (by omega)))))))))))))))))))))))))))))))))))))))) (List.mem_cons_of_mem _ (wa_2 _ (List.mem_of_getElem? (i := 19) (by decide +kernel)))) (by decide) (Nat.le_of_ble_eq_true rfl) (Nat.le_of_ble_eq_true rfl) dX11_init_978 (fun ad_360 H fad_360 hW => ?_)
  refine W.eq (g2 := F0 m 980 ls [.ref (ad_360 220), .ref (ad_360 200)]) (by rw [fad_360 200 (by omega)]) ?_
  have hl : lv_has ls 2 [(0, .ref (ad_360 200))] := by rw [fad_360 200 (by omega)]; exact hl
  obtain ⟨sh_361, esh_361⟩ : ∃ vv_ : Nat → Option mSh, vv_ = va_up sh_359 220 (some (mI 5)) := ⟨_, rfl⟩
  rw [← esh_361] at hW
  have qsh_361 : sh_361 220 = some (mI 5) := by rw [esh_361]; exact va_up_self _ _ _
  have fsh_361 : ∀ a, a ≠ 220 → sh_361 a = sh_359 a := fun a ha => by rw [esh_361]; exact va_up_ne _ _ ha
  clear esh_361
  obtain ⟨V_362, eV_362⟩ : ∃ vv_ : mV, vv_ = va_up V_358 220 (fun _ => 0) := ⟨_, rfl⟩
  rw [← eV_362] at hW
  have qV_362 : V_362 220 = fun _ => 0 := by rw [eV_362]; exact va_up_self _ _ _
  have fV_362 : ∀ a, a ≠ 220 → V_362 a = V_358 a := fun a ha => by rw [eV_362]; exact va_up_ne _ _ ha
  clear eV_362
  refine m_putc S hW (fun _ => some 220) ((fsh_361 200 (by omega)).trans qsh_359) 34 (Nat.lt_of_lt_of_eq (by decide : 34 < 38) rfl) (j := 220) rfl (by rw [qsh_361]; exact fun z => by cases z) kX11 (iW11 _) tyX11 tyX11_ok nmX11 (by decide) (List.mem_cons_of_mem _ (wa_11 _ (List.mem_of_getElem? (i := 21) (by decide +kernel)))) (Or.inr ⟨rfl, hnm, rfl⟩) (fun _ => rfl) (fun _ => rfl) dX11_init_980 (fun H locs hW => ?_)
  obtain ⟨sh_363, esh_363⟩ : ∃ vv_ : Nat → Option mSh, vv_ = va_up sh_361 200 (some (mO 10 (((((((((((((((((((((nKs [false, true, false, true, true, true, false, true, false, true, true, false, false, false, true, true, true, true, true, true, true, false, false, false, false, true, true, false, false, false, true, true, false, true, true, true, false, false]).set 1 (some (fun _ => some 201))).set 3 (some (fun _ => some 202))).set 4 (some (fun _ => some 203))).set 5 (some (fun _ => some 204))).set 7 (some (fun _ => some 205))).set 9 (some (fun _ => some 206))).set 10 (some (fun _ => some 207))).set 14 (some (fun _ => some 208))).set 15 (some (fun _ => some 209))).set 16 (some (fun _ => some 210))).set 17 (some (fun _ => some 211))).set 18 (some (fun _ => some 212))).set 19 (some (fun _ => some 213))).set 20 (some (fun _ => some 214))).set 25 (some (fun _ => some 215))).set 26 (some (fun _ => some 216))).set 30 (some (fun _ => some 217))).set 31 (some (fun _ => some 218))).set 33 (some (fun _ => some 219))).set 34 (some (fun _ => some 220))))) := ⟨_, rfl⟩
  rw [← esh_363] at hW
  have qsh_363 : sh_363 200 = some (mO 10 (((((((((((((((((((((nKs [false, true, false, true, true, true, false, true, false, true, true, false, false, false, true, true, true, true, true, true, true, false, false, false, false, true, true, false, false, false, true, true, false, true, true, true, false, false]).set 1 (some (fun _ => some 201))).set 3 (some (fun _ => some 202))).set 4 (some (fun _ => some 203))).set 5 (some (fun _ => some 204))).set 7 (some (fun _ => some 205))).set 9 (some (fun _ => some 206))).set 10 (some (fun _ => some 207))).set 14 (some (fun _ => some 208))).set 15 (some (fun _ => some 209))).set 16 (some (fun _ => some 210))).set 17 (some (fun _ => some 211))).set 18 (some (fun _ => some 212))).set 19 (some (fun _ => some 213))).set 20 (some (fun _ => some 214))).set 25 (some (fun _ => some 215))).set 26 (some (fun _ => some 216))).set 30 (some (fun _ => some 217))).set 31 (some (fun _ => some 218))).set 33 (some (fun _ => some 219))).set 34 (some (fun _ => some 220)))) := by rw [esh_363]; exact va_up_self _ _ _
  have fsh_363 : ∀ a, a ≠ 200 → sh_363 a = sh_361 a := fun a ha => by rw [esh_363]; exact va_up_ne _ _ ha
  clear esh_363
  refine lv_aload_n hx hb dX11_init_983 rfl (lv_at hl 0 rfl) ?_
  refine lv_sipush (v := nI 1024) hx hb dX11_init_984 (by decide) ?_
  refine m_newI S hW 221 1024 false ((fsh_363 221 (by omega)).trans ((fsh_361 221 (by omega)).trans ((fsh_359 221 (by omega)).trans ((fsh_357 221 (by omega)).trans ((fsh_355 221 (by omega)).trans ((fsh_353 221 (by omega)).trans ((fsh_351 221 (by omega)).trans ((fsh_349 221 (by omega)).trans ((fsh_347 221 (by omega)).trans ((fsh_345 221 (by omega)).trans ((fsh_343 221 (by omega)).trans ((fsh_148 221 (by omega)).trans ((fsh_146 221 (by omega)).trans ((fsh_63 221 (by omega)).trans ((fsh_61 221 (by omega)).trans ((fsh_59 221 (by omega)).trans ((fsh_57 221 (by omega)).trans ((fsh_55 221 (by omega)).trans ((fsh_53 221 (by omega)).trans ((fsh_42 221 (by omega)).trans ((fsh_40 221 (by omega)).trans ((fsh_38 221 (by omega)).trans ((fsh_36 221 (by omega)).trans ((fsh_34 221 (by omega)).trans ((fsh_32 221 (by omega)).trans ((fsh_30 221 (by omega)).trans ((fsh_28 221 (by omega)).trans ((fsh_26 221 (by omega)).trans ((fsh_24 221 (by omega)).trans ((fsh_22 221 (by omega)).trans ((fsh_20 221 (by omega)).trans ((fsh_18 221 (by omega)).trans ((fsh_16 221 (by omega)).trans ((fsh_14 221 (by omega)).trans ((fsh_12 221 (by omega)).trans ((fsh_10 221 (by omega)).trans ((fsh_8 221 (by omega)).trans ((fsh_6 221 (by omega)).trans ((fsh_4 221 (by omega)).trans ((fsh_2 221 (by omega)).trans (hno 221 (by omega)))))))))))))))))))))))))))))))))))))))))) (List.mem_cons_of_mem _ (wa_2 _ (List.mem_of_getElem? (i := 19) (by decide +kernel)))) (by decide) (Nat.le_of_ble_eq_true rfl) (Nat.le_of_ble_eq_true rfl) dX11_init_987 (fun ad_364 H fad_364 hW => ?_)
  refine W.eq (g2 := F0 m 989 ls [.ref (ad_364 221), .ref (ad_364 200)]) (by rw [fad_364 200 (by omega)]) ?_
  have hl : lv_has ls 2 [(0, .ref (ad_364 200))] := by rw [fad_364 200 (by omega)]; exact hl
  obtain ⟨sh_365, esh_365⟩ : ∃ vv_ : Nat → Option mSh, vv_ = va_up sh_363 221 (some (mS 1024)) := ⟨_, rfl⟩
  rw [← esh_365] at hW
  have qsh_365 : sh_365 221 = some (mS 1024) := by rw [esh_365]; exact va_up_self _ _ _
  have fsh_365 : ∀ a, a ≠ 221 → sh_365 a = sh_363 a := fun a ha => by rw [esh_365]; exact va_up_ne _ _ ha
  clear esh_365
  obtain ⟨V_366, eV_366⟩ : ∃ vv_ : mV, vv_ = va_up V_362 221 (fun _ => 0) := ⟨_, rfl⟩
  rw [← eV_366] at hW
  have qV_366 : V_366 221 = fun _ => 0 := by rw [eV_366]; exact va_up_self _ _ _
  have fV_366 : ∀ a, a ≠ 221 → V_366 a = V_362 a := fun a ha => by rw [eV_366]; exact va_up_ne _ _ ha
  clear eV_366
  refine m_putc S hW (fun _ => some 221) ((fsh_365 200 (by omega)).trans qsh_363) 35 (Nat.lt_of_lt_of_eq (by decide : 35 < 38) rfl) (j := 221) rfl (by rw [qsh_365]; exact fun z => by cases z) kX11 (iW11 _) tyX11 tyX11_ok nmX11 (by decide) (List.mem_cons_of_mem _ (wa_11 _ (List.mem_of_getElem? (i := 22) (by decide +kernel)))) (Or.inr ⟨rfl, hnm, rfl⟩) (fun _ => rfl) (fun _ => rfl) dX11_init_989 (fun H locs hW => ?_)
  obtain ⟨sh_367, esh_367⟩ : ∃ vv_ : Nat → Option mSh, vv_ = va_up sh_365 200 (some (mO 10 ((((((((((((((((((((((nKs [false, true, false, true, true, true, false, true, false, true, true, false, false, false, true, true, true, true, true, true, true, false, false, false, false, true, true, false, false, false, true, true, false, true, true, true, false, false]).set 1 (some (fun _ => some 201))).set 3 (some (fun _ => some 202))).set 4 (some (fun _ => some 203))).set 5 (some (fun _ => some 204))).set 7 (some (fun _ => some 205))).set 9 (some (fun _ => some 206))).set 10 (some (fun _ => some 207))).set 14 (some (fun _ => some 208))).set 15 (some (fun _ => some 209))).set 16 (some (fun _ => some 210))).set 17 (some (fun _ => some 211))).set 18 (some (fun _ => some 212))).set 19 (some (fun _ => some 213))).set 20 (some (fun _ => some 214))).set 25 (some (fun _ => some 215))).set 26 (some (fun _ => some 216))).set 30 (some (fun _ => some 217))).set 31 (some (fun _ => some 218))).set 33 (some (fun _ => some 219))).set 34 (some (fun _ => some 220))).set 35 (some (fun _ => some 221))))) := ⟨_, rfl⟩
  rw [← esh_367] at hW
  have qsh_367 : sh_367 200 = some (mO 10 ((((((((((((((((((((((nKs [false, true, false, true, true, true, false, true, false, true, true, false, false, false, true, true, true, true, true, true, true, false, false, false, false, true, true, false, false, false, true, true, false, true, true, true, false, false]).set 1 (some (fun _ => some 201))).set 3 (some (fun _ => some 202))).set 4 (some (fun _ => some 203))).set 5 (some (fun _ => some 204))).set 7 (some (fun _ => some 205))).set 9 (some (fun _ => some 206))).set 10 (some (fun _ => some 207))).set 14 (some (fun _ => some 208))).set 15 (some (fun _ => some 209))).set 16 (some (fun _ => some 210))).set 17 (some (fun _ => some 211))).set 18 (some (fun _ => some 212))).set 19 (some (fun _ => some 213))).set 20 (some (fun _ => some 214))).set 25 (some (fun _ => some 215))).set 26 (some (fun _ => some 216))).set 30 (some (fun _ => some 217))).set 31 (some (fun _ => some 218))).set 33 (some (fun _ => some 219))).set 34 (some (fun _ => some 220))).set 35 (some (fun _ => some 221)))) := by rw [esh_367]; exact va_up_self _ _ _
  have fsh_367 : ∀ a, a ≠ 200 → sh_367 a = sh_365 a := fun a ha => by rw [esh_367]; exact va_up_ne _ _ ha
  clear esh_367
  refine lv_iconst (v := nI 0) hx hb dX11_init_992 (by decide) ?_
  refine lv_istore_n (lv' := [(1, .int (nI 0)), (0, .ref (ad_364 200))]) hx hb dX11_init_993 rfl hl (by decide) rfl (fun ls hl => ?_)
  have s205 : sh_367 205 = some (mI 160) := ((fsh_367 205 (by omega)).trans ((fsh_365 205 (by omega)).trans ((fsh_363 205 (by omega)).trans ((fsh_361 205 (by omega)).trans ((fsh_359 205 (by omega)).trans ((fsh_357 205 (by omega)).trans ((fsh_355 205 (by omega)).trans ((fsh_353 205 (by omega)).trans ((fsh_351 205 (by omega)).trans ((fsh_349 205 (by omega)).trans ((fsh_347 205 (by omega)).trans ((fsh_345 205 (by omega)).trans ((fsh_343 205 (by omega)).trans ((fsh_148 205 (by omega)).trans ((fsh_146 205 (by omega)).trans ((fsh_63 205 (by omega)).trans ((fsh_61 205 (by omega)).trans ((fsh_59 205 (by omega)).trans ((fsh_57 205 (by omega)).trans ((fsh_55 205 (by omega)).trans ((fsh_53 205 (by omega)).trans ((fsh_42 205 (by omega)).trans ((fsh_40 205 (by omega)).trans ((fsh_38 205 (by omega)).trans ((fsh_36 205 (by omega)).trans ((fsh_34 205 (by omega)).trans ((fsh_32 205 (by omega)).trans ((fsh_30 205 (by omega)).trans ((fsh_28 205 (by omega)).trans ((fsh_26 205 (by omega)).trans ((fsh_24 205 (by omega)).trans ((fsh_22 205 (by omega)).trans ((fsh_20 205 (by omega)).trans qsh_18)))))))))))))))))))))))))))))))))
  have s214 : sh_367 214 = some (mI 40) := ((fsh_367 214 (by omega)).trans ((fsh_365 214 (by omega)).trans ((fsh_363 214 (by omega)).trans ((fsh_361 214 (by omega)).trans ((fsh_359 214 (by omega)).trans ((fsh_357 214 (by omega)).trans ((fsh_355 214 (by omega)).trans ((fsh_353 214 (by omega)).trans ((fsh_351 214 (by omega)).trans ((fsh_349 214 (by omega)).trans ((fsh_347 214 (by omega)).trans ((fsh_345 214 (by omega)).trans ((fsh_343 214 (by omega)).trans ((fsh_148 214 (by omega)).trans ((fsh_146 214 (by omega)).trans qsh_63)))))))))))))))
  have s200 : sh_367 200 = some (mO 10 ((((((((((((((((((((((nKs [false, true, false, true, true, true, false, true, false, true, true, false, false, false, true, true, true, true, true, true, true, false, false, false, false, true, true, false, false, false, true, true, false, true, true, true, false, false]).set 1 (some (fun _ => some 201))).set 3 (some (fun _ => some 202))).set 4 (some (fun _ => some 203))).set 5 (some (fun _ => some 204))).set 7 (some (fun _ => some 205))).set 9 (some (fun _ => some 206))).set 10 (some (fun _ => some 207))).set 14 (some (fun _ => some 208))).set 15 (some (fun _ => some 209))).set 16 (some (fun _ => some 210))).set 17 (some (fun _ => some 211))).set 18 (some (fun _ => some 212))).set 19 (some (fun _ => some 213))).set 20 (some (fun _ => some 214))).set 25 (some (fun _ => some 215))).set 26 (some (fun _ => some 216))).set 30 (some (fun _ => some 217))).set 31 (some (fun _ => some 218))).set 33 (some (fun _ => some 219))).set 34 (some (fun _ => some 220))).set 35 (some (fun _ => some 221)))) := qsh_367
  have v214 : ∀ k, k < 40 → V_366 214 k = tx0.getD k 0 := fun k hk => by rw [fV_366 214 (by omega), fV_362 214 (by omega), fV_358 214 (by omega), fV_354 214 (by omega), fV_350 214 (by omega), fV_346 214 (by omega), fV_341 214 (by omega), fV_149 214 (by omega)]; exact hf_145.1 k hk
  refine lv_iload_n hx hb dX11_init_994 rfl (lv_at hl 0 rfl) ?_
  refine lv_bipush (v := nI 40) hx hb dX11_init_995 (by decide) ?_
  refine lv_icmp_ge (tgt := 1018) hx hb dX11_init_997 (by decide) (fun c_368 => ?_) (fun c_368 => ?_)
  · exact absurd c_368 (by decide)
  · skip
    refine lv_aload_n hx hb dX11_init_1000 rfl (lv_at hl 1 rfl) ?_
    refine m_getr S hW s200 7 rfl (j := 205) rfl kX11 (iW11 _) (by decide) (List.mem_cons_of_mem _ (wa_11 _ (List.mem_of_getElem? (i := 6) (by decide +kernel)))) dX11_init_1001 ?_
    refine lv_iload_n hx hb dX11_init_1004 rfl (lv_at hl 0 rfl) ?_
    refine lv_aload_n hx hb dX11_init_1005 rfl (lv_at hl 1 rfl) ?_
    refine m_getr S hW s200 20 rfl (j := 214) rfl kX11 (iW11 _) (by decide) (List.mem_cons_of_mem _ (wa_11 _ (List.mem_of_getElem? (i := 15) (by decide +kernel)))) dX11_init_1006 ?_
    refine lv_iload_n hx hb dX11_init_1009 rfl (lv_at hl 0 rfl) ?_
    refine m_iald S hW s214 0 rfl (by omega) (by decide) dX11_init_1010 ?_
    have hf_370 : FillI V_366 V_366 205 tx0 0 := FillI.zero _ _ _
    refine m_iast S hW s205 0 rfl (by decide) (by decide) dX11_init_1011 (fun H2 locs2 hW2 => ?_)
    obtain ⟨V_369, eV_369⟩ : ∃ vv_ : mV, vv_ = mU V_366 205 0 (V_366 214 0) := ⟨_, rfl⟩
    rw [← eV_369] at hW2
    have hf_371 : FillI V_366 V_369 205 tx0 1 := by rw [eV_369]; exact hf_370.step (by rw [hf_370.2 214 (by decide)]; exact (v214 0 (by decide)).symm)
    clear hW eV_369 hf_370
    have hW := hW2
    clear hW2
    refine lv_iinc (v := nI 1) (lv' := [(1, .int (nI 1)), (0, .ref (ad_364 200))]) hx hb dX11_init_1012 hl (k := 0) rfl (m_inc 0 1) (by decide) rfl (fun ls hl => ?_)
    refine lv_goto (tgt := 994) hx hb dX11_init_1015 (by decide) ?_
    refine lv_iload_n hx hb dX11_init_994 rfl (lv_at hl 0 rfl) ?_
    refine lv_bipush (v := nI 40) hx hb dX11_init_995 (by decide) ?_
    refine lv_icmp_ge (tgt := 1018) hx hb dX11_init_997 (by decide) (fun c_372 => ?_) (fun c_372 => ?_)
    · exact absurd c_372 (by decide)
    · skip
      refine lv_aload_n hx hb dX11_init_1000 rfl (lv_at hl 1 rfl) ?_
      refine m_getr S hW s200 7 rfl (j := 205) rfl kX11 (iW11 _) (by decide) (List.mem_cons_of_mem _ (wa_11 _ (List.mem_of_getElem? (i := 6) (by decide +kernel)))) dX11_init_1001 ?_
      refine lv_iload_n hx hb dX11_init_1004 rfl (lv_at hl 0 rfl) ?_
      refine lv_aload_n hx hb dX11_init_1005 rfl (lv_at hl 1 rfl) ?_
      refine m_getr S hW s200 20 rfl (j := 214) rfl kX11 (iW11 _) (by decide) (List.mem_cons_of_mem _ (wa_11 _ (List.mem_of_getElem? (i := 15) (by decide +kernel)))) dX11_init_1006 ?_
      refine lv_iload_n hx hb dX11_init_1009 rfl (lv_at hl 0 rfl) ?_
      refine m_iald S hW s214 1 rfl (by omega) (by decide) dX11_init_1010 ?_
      refine m_iast S hW s205 1 rfl (by decide) (by decide) dX11_init_1011 (fun H2 locs2 hW2 => ?_)
      obtain ⟨V_373, eV_373⟩ : ∃ vv_ : mV, vv_ = mU V_369 205 1 (V_369 214 1) := ⟨_, rfl⟩
      rw [← eV_373] at hW2
      have hf_374 : FillI V_366 V_373 205 tx0 2 := by rw [eV_373]; exact hf_371.step (by rw [hf_371.2 214 (by decide)]; exact (v214 1 (by decide)).symm)
      clear hW eV_373 hf_371 V_369
      have hW := hW2
      clear hW2
      refine lv_iinc (v := nI 2) (lv' := [(1, .int (nI 2)), (0, .ref (ad_364 200))]) hx hb dX11_init_1012 hl (k := 0) rfl (m_inc 1 1) (by decide) rfl (fun ls hl => ?_)
      refine lv_goto (tgt := 994) hx hb dX11_init_1015 (by decide) ?_
      refine lv_iload_n hx hb dX11_init_994 rfl (lv_at hl 0 rfl) ?_
      refine lv_bipush (v := nI 40) hx hb dX11_init_995 (by decide) ?_
      refine lv_icmp_ge (tgt := 1018) hx hb dX11_init_997 (by decide) (fun c_375 => ?_) (fun c_375 => ?_)
      · exact absurd c_375 (by decide)
      · skip
        refine lv_aload_n hx hb dX11_init_1000 rfl (lv_at hl 1 rfl) ?_
        refine m_getr S hW s200 7 rfl (j := 205) rfl kX11 (iW11 _) (by decide) (List.mem_cons_of_mem _ (wa_11 _ (List.mem_of_getElem? (i := 6) (by decide +kernel)))) dX11_init_1001 ?_
        refine lv_iload_n hx hb dX11_init_1004 rfl (lv_at hl 0 rfl) ?_
        refine lv_aload_n hx hb dX11_init_1005 rfl (lv_at hl 1 rfl) ?_
        refine m_getr S hW s200 20 rfl (j := 214) rfl kX11 (iW11 _) (by decide) (List.mem_cons_of_mem _ (wa_11 _ (List.mem_of_getElem? (i := 15) (by decide +kernel)))) dX11_init_1006 ?_
        refine lv_iload_n hx hb dX11_init_1009 rfl (lv_at hl 0 rfl) ?_
        refine m_iald S hW s214 2 rfl (by omega) (by decide) dX11_init_1010 ?_
        refine m_iast S hW s205 2 rfl (by decide) (by decide) dX11_init_1011 (fun H2 locs2 hW2 => ?_)
        obtain ⟨V_376, eV_376⟩ : ∃ vv_ : mV, vv_ = mU V_373 205 2 (V_373 214 2) := ⟨_, rfl⟩
        rw [← eV_376] at hW2
        have hf_377 : FillI V_366 V_376 205 tx0 3 := by rw [eV_376]; exact hf_374.step (by rw [hf_374.2 214 (by decide)]; exact (v214 2 (by decide)).symm)
        clear hW eV_376 hf_374 V_373
        have hW := hW2
        clear hW2
        refine lv_iinc (v := nI 3) (lv' := [(1, .int (nI 3)), (0, .ref (ad_364 200))]) hx hb dX11_init_1012 hl (k := 0) rfl (m_inc 2 1) (by decide) rfl (fun ls hl => ?_)
        refine lv_goto (tgt := 994) hx hb dX11_init_1015 (by decide) ?_
        refine lv_iload_n hx hb dX11_init_994 rfl (lv_at hl 0 rfl) ?_
        refine lv_bipush (v := nI 40) hx hb dX11_init_995 (by decide) ?_
        refine lv_icmp_ge (tgt := 1018) hx hb dX11_init_997 (by decide) (fun c_378 => ?_) (fun c_378 => ?_)
        · exact absurd c_378 (by decide)
        · skip
          refine lv_aload_n hx hb dX11_init_1000 rfl (lv_at hl 1 rfl) ?_
          refine m_getr S hW s200 7 rfl (j := 205) rfl kX11 (iW11 _) (by decide) (List.mem_cons_of_mem _ (wa_11 _ (List.mem_of_getElem? (i := 6) (by decide +kernel)))) dX11_init_1001 ?_
          refine lv_iload_n hx hb dX11_init_1004 rfl (lv_at hl 0 rfl) ?_
          refine lv_aload_n hx hb dX11_init_1005 rfl (lv_at hl 1 rfl) ?_
          refine m_getr S hW s200 20 rfl (j := 214) rfl kX11 (iW11 _) (by decide) (List.mem_cons_of_mem _ (wa_11 _ (List.mem_of_getElem? (i := 15) (by decide +kernel)))) dX11_init_1006 ?_
          refine lv_iload_n hx hb dX11_init_1009 rfl (lv_at hl 0 rfl) ?_
          refine m_iald S hW s214 3 rfl (by omega) (by decide) dX11_init_1010 ?_
          refine m_iast S hW s205 3 rfl (by decide) (by decide) dX11_init_1011 (fun H2 locs2 hW2 => ?_)
          obtain ⟨V_379, eV_379⟩ : ∃ vv_ : mV, vv_ = mU V_376 205 3 (V_376 214 3) := ⟨_, rfl⟩
          rw [← eV_379] at hW2
          have hf_380 : FillI V_366 V_379 205 tx0 4 := by rw [eV_379]; exact hf_377.step (by rw [hf_377.2 214 (by decide)]; exact (v214 3 (by decide)).symm)
          clear hW eV_379 hf_377 V_376
          have hW := hW2
          clear hW2
          refine lv_iinc (v := nI 4) (lv' := [(1, .int (nI 4)), (0, .ref (ad_364 200))]) hx hb dX11_init_1012 hl (k := 0) rfl (m_inc 3 1) (by decide) rfl (fun ls hl => ?_)
          refine lv_goto (tgt := 994) hx hb dX11_init_1015 (by decide) ?_
          refine lv_iload_n hx hb dX11_init_994 rfl (lv_at hl 0 rfl) ?_
          refine lv_bipush (v := nI 40) hx hb dX11_init_995 (by decide) ?_
          refine lv_icmp_ge (tgt := 1018) hx hb dX11_init_997 (by decide) (fun c_381 => ?_) (fun c_381 => ?_)
          · exact absurd c_381 (by decide)
          · skip
            refine lv_aload_n hx hb dX11_init_1000 rfl (lv_at hl 1 rfl) ?_
            refine m_getr S hW s200 7 rfl (j := 205) rfl kX11 (iW11 _) (by decide) (List.mem_cons_of_mem _ (wa_11 _ (List.mem_of_getElem? (i := 6) (by decide +kernel)))) dX11_init_1001 ?_
            refine lv_iload_n hx hb dX11_init_1004 rfl (lv_at hl 0 rfl) ?_
            refine lv_aload_n hx hb dX11_init_1005 rfl (lv_at hl 1 rfl) ?_
            refine m_getr S hW s200 20 rfl (j := 214) rfl kX11 (iW11 _) (by decide) (List.mem_cons_of_mem _ (wa_11 _ (List.mem_of_getElem? (i := 15) (by decide +kernel)))) dX11_init_1006 ?_
            refine lv_iload_n hx hb dX11_init_1009 rfl (lv_at hl 0 rfl) ?_
            refine m_iald S hW s214 4 rfl (by omega) (by decide) dX11_init_1010 ?_
            refine m_iast S hW s205 4 rfl (by decide) (by decide) dX11_init_1011 (fun H2 locs2 hW2 => ?_)
            obtain ⟨V_382, eV_382⟩ : ∃ vv_ : mV, vv_ = mU V_379 205 4 (V_379 214 4) := ⟨_, rfl⟩
            rw [← eV_382] at hW2
            have hf_383 : FillI V_366 V_382 205 tx0 5 := by rw [eV_382]; exact hf_380.step (by rw [hf_380.2 214 (by decide)]; exact (v214 4 (by decide)).symm)
            clear hW eV_382 hf_380 V_379
            have hW := hW2
            clear hW2
            refine lv_iinc (v := nI 5) (lv' := [(1, .int (nI 5)), (0, .ref (ad_364 200))]) hx hb dX11_init_1012 hl (k := 0) rfl (m_inc 4 1) (by decide) rfl (fun ls hl => ?_)
            refine lv_goto (tgt := 994) hx hb dX11_init_1015 (by decide) ?_
            refine lv_iload_n hx hb dX11_init_994 rfl (lv_at hl 0 rfl) ?_
            refine lv_bipush (v := nI 40) hx hb dX11_init_995 (by decide) ?_
            refine lv_icmp_ge (tgt := 1018) hx hb dX11_init_997 (by decide) (fun c_384 => ?_) (fun c_384 => ?_)
            · exact absurd c_384 (by decide)
            · skip
              refine lv_aload_n hx hb dX11_init_1000 rfl (lv_at hl 1 rfl) ?_
              refine m_getr S hW s200 7 rfl (j := 205) rfl kX11 (iW11 _) (by decide) (List.mem_cons_of_mem _ (wa_11 _ (List.mem_of_getElem? (i := 6) (by decide +kernel)))) dX11_init_1001 ?_
              refine lv_iload_n hx hb dX11_init_1004 rfl (lv_at hl 0 rfl) ?_
              refine lv_aload_n hx hb dX11_init_1005 rfl (lv_at hl 1 rfl) ?_
              refine m_getr S hW s200 20 rfl (j := 214) rfl kX11 (iW11 _) (by decide) (List.mem_cons_of_mem _ (wa_11 _ (List.mem_of_getElem? (i := 15) (by decide +kernel)))) dX11_init_1006 ?_
              refine lv_iload_n hx hb dX11_init_1009 rfl (lv_at hl 0 rfl) ?_
              refine m_iald S hW s214 5 rfl (by omega) (by decide) dX11_init_1010 ?_
              refine m_iast S hW s205 5 rfl (by decide) (by decide) dX11_init_1011 (fun H2 locs2 hW2 => ?_)
              obtain ⟨V_385, eV_385⟩ : ∃ vv_ : mV, vv_ = mU V_382 205 5 (V_382 214 5) := ⟨_, rfl⟩
              rw [← eV_385] at hW2
              have hf_386 : FillI V_366 V_385 205 tx0 6 := by rw [eV_385]; exact hf_383.step (by rw [hf_383.2 214 (by decide)]; exact (v214 5 (by decide)).symm)
              clear hW eV_385 hf_383 V_382
              have hW := hW2
              clear hW2
              refine lv_iinc (v := nI 6) (lv' := [(1, .int (nI 6)), (0, .ref (ad_364 200))]) hx hb dX11_init_1012 hl (k := 0) rfl (m_inc 5 1) (by decide) rfl (fun ls hl => ?_)
              refine lv_goto (tgt := 994) hx hb dX11_init_1015 (by decide) ?_
              refine lv_iload_n hx hb dX11_init_994 rfl (lv_at hl 0 rfl) ?_
              refine lv_bipush (v := nI 40) hx hb dX11_init_995 (by decide) ?_
              refine lv_icmp_ge (tgt := 1018) hx hb dX11_init_997 (by decide) (fun c_387 => ?_) (fun c_387 => ?_)
              · exact absurd c_387 (by decide)
              · skip
                refine lv_aload_n hx hb dX11_init_1000 rfl (lv_at hl 1 rfl) ?_
                refine m_getr S hW s200 7 rfl (j := 205) rfl kX11 (iW11 _) (by decide) (List.mem_cons_of_mem _ (wa_11 _ (List.mem_of_getElem? (i := 6) (by decide +kernel)))) dX11_init_1001 ?_
                refine lv_iload_n hx hb dX11_init_1004 rfl (lv_at hl 0 rfl) ?_
                refine lv_aload_n hx hb dX11_init_1005 rfl (lv_at hl 1 rfl) ?_
                refine m_getr S hW s200 20 rfl (j := 214) rfl kX11 (iW11 _) (by decide) (List.mem_cons_of_mem _ (wa_11 _ (List.mem_of_getElem? (i := 15) (by decide +kernel)))) dX11_init_1006 ?_
                refine lv_iload_n hx hb dX11_init_1009 rfl (lv_at hl 0 rfl) ?_
                refine m_iald S hW s214 6 rfl (by omega) (by decide) dX11_init_1010 ?_
                refine m_iast S hW s205 6 rfl (by decide) (by decide) dX11_init_1011 (fun H2 locs2 hW2 => ?_)
                obtain ⟨V_388, eV_388⟩ : ∃ vv_ : mV, vv_ = mU V_385 205 6 (V_385 214 6) := ⟨_, rfl⟩
                rw [← eV_388] at hW2
                have hf_389 : FillI V_366 V_388 205 tx0 7 := by rw [eV_388]; exact hf_386.step (by rw [hf_386.2 214 (by decide)]; exact (v214 6 (by decide)).symm)
                clear hW eV_388 hf_386 V_385
                have hW := hW2
                clear hW2
                refine lv_iinc (v := nI 7) (lv' := [(1, .int (nI 7)), (0, .ref (ad_364 200))]) hx hb dX11_init_1012 hl (k := 0) rfl (m_inc 6 1) (by decide) rfl (fun ls hl => ?_)
                refine lv_goto (tgt := 994) hx hb dX11_init_1015 (by decide) ?_
                refine lv_iload_n hx hb dX11_init_994 rfl (lv_at hl 0 rfl) ?_
                refine lv_bipush (v := nI 40) hx hb dX11_init_995 (by decide) ?_
                refine lv_icmp_ge (tgt := 1018) hx hb dX11_init_997 (by decide) (fun c_390 => ?_) (fun c_390 => ?_)
                · exact absurd c_390 (by decide)
                · skip
                  refine lv_aload_n hx hb dX11_init_1000 rfl (lv_at hl 1 rfl) ?_
                  refine m_getr S hW s200 7 rfl (j := 205) rfl kX11 (iW11 _) (by decide) (List.mem_cons_of_mem _ (wa_11 _ (List.mem_of_getElem? (i := 6) (by decide +kernel)))) dX11_init_1001 ?_
                  refine lv_iload_n hx hb dX11_init_1004 rfl (lv_at hl 0 rfl) ?_
                  refine lv_aload_n hx hb dX11_init_1005 rfl (lv_at hl 1 rfl) ?_
                  refine m_getr S hW s200 20 rfl (j := 214) rfl kX11 (iW11 _) (by decide) (List.mem_cons_of_mem _ (wa_11 _ (List.mem_of_getElem? (i := 15) (by decide +kernel)))) dX11_init_1006 ?_
                  refine lv_iload_n hx hb dX11_init_1009 rfl (lv_at hl 0 rfl) ?_
                  refine m_iald S hW s214 7 rfl (by omega) (by decide) dX11_init_1010 ?_
                  refine m_iast S hW s205 7 rfl (by decide) (by decide) dX11_init_1011 (fun H2 locs2 hW2 => ?_)
                  obtain ⟨V_391, eV_391⟩ : ∃ vv_ : mV, vv_ = mU V_388 205 7 (V_388 214 7) := ⟨_, rfl⟩
                  rw [← eV_391] at hW2
                  have hf_392 : FillI V_366 V_391 205 tx0 8 := by rw [eV_391]; exact hf_389.step (by rw [hf_389.2 214 (by decide)]; exact (v214 7 (by decide)).symm)
                  clear hW eV_391 hf_389 V_388
                  have hW := hW2
                  clear hW2
                  refine lv_iinc (v := nI 8) (lv' := [(1, .int (nI 8)), (0, .ref (ad_364 200))]) hx hb dX11_init_1012 hl (k := 0) rfl (m_inc 7 1) (by decide) rfl (fun ls hl => ?_)
                  refine lv_goto (tgt := 994) hx hb dX11_init_1015 (by decide) ?_
                  refine lv_iload_n hx hb dX11_init_994 rfl (lv_at hl 0 rfl) ?_
                  refine lv_bipush (v := nI 40) hx hb dX11_init_995 (by decide) ?_
                  refine lv_icmp_ge (tgt := 1018) hx hb dX11_init_997 (by decide) (fun c_393 => ?_) (fun c_393 => ?_)
                  · exact absurd c_393 (by decide)
                  · skip
                    refine lv_aload_n hx hb dX11_init_1000 rfl (lv_at hl 1 rfl) ?_
                    refine m_getr S hW s200 7 rfl (j := 205) rfl kX11 (iW11 _) (by decide) (List.mem_cons_of_mem _ (wa_11 _ (List.mem_of_getElem? (i := 6) (by decide +kernel)))) dX11_init_1001 ?_
                    refine lv_iload_n hx hb dX11_init_1004 rfl (lv_at hl 0 rfl) ?_
                    refine lv_aload_n hx hb dX11_init_1005 rfl (lv_at hl 1 rfl) ?_
                    refine m_getr S hW s200 20 rfl (j := 214) rfl kX11 (iW11 _) (by decide) (List.mem_cons_of_mem _ (wa_11 _ (List.mem_of_getElem? (i := 15) (by decide +kernel)))) dX11_init_1006 ?_
                    refine lv_iload_n hx hb dX11_init_1009 rfl (lv_at hl 0 rfl) ?_
                    refine m_iald S hW s214 8 rfl (by omega) (by decide) dX11_init_1010 ?_
                    refine m_iast S hW s205 8 rfl (by decide) (by decide) dX11_init_1011 (fun H2 locs2 hW2 => ?_)
                    obtain ⟨V_394, eV_394⟩ : ∃ vv_ : mV, vv_ = mU V_391 205 8 (V_391 214 8) := ⟨_, rfl⟩
                    rw [← eV_394] at hW2
                    have hf_395 : FillI V_366 V_394 205 tx0 9 := by rw [eV_394]; exact hf_392.step (by rw [hf_392.2 214 (by decide)]; exact (v214 8 (by decide)).symm)
                    clear hW eV_394 hf_392 V_391
                    have hW := hW2
                    clear hW2
                    refine lv_iinc (v := nI 9) (lv' := [(1, .int (nI 9)), (0, .ref (ad_364 200))]) hx hb dX11_init_1012 hl (k := 0) rfl (m_inc 8 1) (by decide) rfl (fun ls hl => ?_)
                    refine lv_goto (tgt := 994) hx hb dX11_init_1015 (by decide) ?_
                    refine lv_iload_n hx hb dX11_init_994 rfl (lv_at hl 0 rfl) ?_
                    refine lv_bipush (v := nI 40) hx hb dX11_init_995 (by decide) ?_
                    refine lv_icmp_ge (tgt := 1018) hx hb dX11_init_997 (by decide) (fun c_396 => ?_) (fun c_396 => ?_)
                    · exact absurd c_396 (by decide)
                    · skip
                      refine lv_aload_n hx hb dX11_init_1000 rfl (lv_at hl 1 rfl) ?_
                      refine m_getr S hW s200 7 rfl (j := 205) rfl kX11 (iW11 _) (by decide) (List.mem_cons_of_mem _ (wa_11 _ (List.mem_of_getElem? (i := 6) (by decide +kernel)))) dX11_init_1001 ?_
                      refine lv_iload_n hx hb dX11_init_1004 rfl (lv_at hl 0 rfl) ?_
                      refine lv_aload_n hx hb dX11_init_1005 rfl (lv_at hl 1 rfl) ?_
                      refine m_getr S hW s200 20 rfl (j := 214) rfl kX11 (iW11 _) (by decide) (List.mem_cons_of_mem _ (wa_11 _ (List.mem_of_getElem? (i := 15) (by decide +kernel)))) dX11_init_1006 ?_
                      refine lv_iload_n hx hb dX11_init_1009 rfl (lv_at hl 0 rfl) ?_
                      refine m_iald S hW s214 9 rfl (by omega) (by decide) dX11_init_1010 ?_
                      refine m_iast S hW s205 9 rfl (by decide) (by decide) dX11_init_1011 (fun H2 locs2 hW2 => ?_)
                      obtain ⟨V_397, eV_397⟩ : ∃ vv_ : mV, vv_ = mU V_394 205 9 (V_394 214 9) := ⟨_, rfl⟩
                      rw [← eV_397] at hW2
                      have hf_398 : FillI V_366 V_397 205 tx0 10 := by rw [eV_397]; exact hf_395.step (by rw [hf_395.2 214 (by decide)]; exact (v214 9 (by decide)).symm)
                      clear hW eV_397 hf_395 V_394
                      have hW := hW2
                      clear hW2
                      refine lv_iinc (v := nI 10) (lv' := [(1, .int (nI 10)), (0, .ref (ad_364 200))]) hx hb dX11_init_1012 hl (k := 0) rfl (m_inc 9 1) (by decide) rfl (fun ls hl => ?_)
                      refine lv_goto (tgt := 994) hx hb dX11_init_1015 (by decide) ?_
                      refine lv_iload_n hx hb dX11_init_994 rfl (lv_at hl 0 rfl) ?_
                      refine lv_bipush (v := nI 40) hx hb dX11_init_995 (by decide) ?_
                      refine lv_icmp_ge (tgt := 1018) hx hb dX11_init_997 (by decide) (fun c_399 => ?_) (fun c_399 => ?_)
                      · exact absurd c_399 (by decide)
                      · skip
                        refine lv_aload_n hx hb dX11_init_1000 rfl (lv_at hl 1 rfl) ?_
                        refine m_getr S hW s200 7 rfl (j := 205) rfl kX11 (iW11 _) (by decide) (List.mem_cons_of_mem _ (wa_11 _ (List.mem_of_getElem? (i := 6) (by decide +kernel)))) dX11_init_1001 ?_
                        refine lv_iload_n hx hb dX11_init_1004 rfl (lv_at hl 0 rfl) ?_
                        refine lv_aload_n hx hb dX11_init_1005 rfl (lv_at hl 1 rfl) ?_
                        refine m_getr S hW s200 20 rfl (j := 214) rfl kX11 (iW11 _) (by decide) (List.mem_cons_of_mem _ (wa_11 _ (List.mem_of_getElem? (i := 15) (by decide +kernel)))) dX11_init_1006 ?_
                        refine lv_iload_n hx hb dX11_init_1009 rfl (lv_at hl 0 rfl) ?_
                        refine m_iald S hW s214 10 rfl (by omega) (by decide) dX11_init_1010 ?_
                        refine m_iast S hW s205 10 rfl (by decide) (by decide) dX11_init_1011 (fun H2 locs2 hW2 => ?_)
                        obtain ⟨V_400, eV_400⟩ : ∃ vv_ : mV, vv_ = mU V_397 205 10 (V_397 214 10) := ⟨_, rfl⟩
                        rw [← eV_400] at hW2
                        have hf_401 : FillI V_366 V_400 205 tx0 11 := by rw [eV_400]; exact hf_398.step (by rw [hf_398.2 214 (by decide)]; exact (v214 10 (by decide)).symm)
                        clear hW eV_400 hf_398 V_397
                        have hW := hW2
                        clear hW2
                        refine lv_iinc (v := nI 11) (lv' := [(1, .int (nI 11)), (0, .ref (ad_364 200))]) hx hb dX11_init_1012 hl (k := 0) rfl (m_inc 10 1) (by decide) rfl (fun ls hl => ?_)
                        refine lv_goto (tgt := 994) hx hb dX11_init_1015 (by decide) ?_
                        refine lv_iload_n hx hb dX11_init_994 rfl (lv_at hl 0 rfl) ?_
                        refine lv_bipush (v := nI 40) hx hb dX11_init_995 (by decide) ?_
                        refine lv_icmp_ge (tgt := 1018) hx hb dX11_init_997 (by decide) (fun c_402 => ?_) (fun c_402 => ?_)
                        · exact absurd c_402 (by decide)
                        · skip
                          refine lv_aload_n hx hb dX11_init_1000 rfl (lv_at hl 1 rfl) ?_
                          refine m_getr S hW s200 7 rfl (j := 205) rfl kX11 (iW11 _) (by decide) (List.mem_cons_of_mem _ (wa_11 _ (List.mem_of_getElem? (i := 6) (by decide +kernel)))) dX11_init_1001 ?_
                          refine lv_iload_n hx hb dX11_init_1004 rfl (lv_at hl 0 rfl) ?_
                          refine lv_aload_n hx hb dX11_init_1005 rfl (lv_at hl 1 rfl) ?_
                          refine m_getr S hW s200 20 rfl (j := 214) rfl kX11 (iW11 _) (by decide) (List.mem_cons_of_mem _ (wa_11 _ (List.mem_of_getElem? (i := 15) (by decide +kernel)))) dX11_init_1006 ?_
                          refine lv_iload_n hx hb dX11_init_1009 rfl (lv_at hl 0 rfl) ?_
                          refine m_iald S hW s214 11 rfl (by omega) (by decide) dX11_init_1010 ?_
                          refine m_iast S hW s205 11 rfl (by decide) (by decide) dX11_init_1011 (fun H2 locs2 hW2 => ?_)
                          obtain ⟨V_403, eV_403⟩ : ∃ vv_ : mV, vv_ = mU V_400 205 11 (V_400 214 11) := ⟨_, rfl⟩
                          rw [← eV_403] at hW2
                          have hf_404 : FillI V_366 V_403 205 tx0 12 := by rw [eV_403]; exact hf_401.step (by rw [hf_401.2 214 (by decide)]; exact (v214 11 (by decide)).symm)
                          clear hW eV_403 hf_401 V_400
                          have hW := hW2
                          clear hW2
                          refine lv_iinc (v := nI 12) (lv' := [(1, .int (nI 12)), (0, .ref (ad_364 200))]) hx hb dX11_init_1012 hl (k := 0) rfl (m_inc 11 1) (by decide) rfl (fun ls hl => ?_)
                          refine lv_goto (tgt := 994) hx hb dX11_init_1015 (by decide) ?_
                          refine lv_iload_n hx hb dX11_init_994 rfl (lv_at hl 0 rfl) ?_
                          refine lv_bipush (v := nI 40) hx hb dX11_init_995 (by decide) ?_
                          refine lv_icmp_ge (tgt := 1018) hx hb dX11_init_997 (by decide) (fun c_405 => ?_) (fun c_405 => ?_)
                          · exact absurd c_405 (by decide)
                          · skip
                            refine lv_aload_n hx hb dX11_init_1000 rfl (lv_at hl 1 rfl) ?_
                            refine m_getr S hW s200 7 rfl (j := 205) rfl kX11 (iW11 _) (by decide) (List.mem_cons_of_mem _ (wa_11 _ (List.mem_of_getElem? (i := 6) (by decide +kernel)))) dX11_init_1001 ?_
                            refine lv_iload_n hx hb dX11_init_1004 rfl (lv_at hl 0 rfl) ?_
                            refine lv_aload_n hx hb dX11_init_1005 rfl (lv_at hl 1 rfl) ?_
                            refine m_getr S hW s200 20 rfl (j := 214) rfl kX11 (iW11 _) (by decide) (List.mem_cons_of_mem _ (wa_11 _ (List.mem_of_getElem? (i := 15) (by decide +kernel)))) dX11_init_1006 ?_
                            refine lv_iload_n hx hb dX11_init_1009 rfl (lv_at hl 0 rfl) ?_
                            refine m_iald S hW s214 12 rfl (by omega) (by decide) dX11_init_1010 ?_
                            refine m_iast S hW s205 12 rfl (by decide) (by decide) dX11_init_1011 (fun H2 locs2 hW2 => ?_)
                            obtain ⟨V_406, eV_406⟩ : ∃ vv_ : mV, vv_ = mU V_403 205 12 (V_403 214 12) := ⟨_, rfl⟩
                            rw [← eV_406] at hW2
                            have hf_407 : FillI V_366 V_406 205 tx0 13 := by rw [eV_406]; exact hf_404.step (by rw [hf_404.2 214 (by decide)]; exact (v214 12 (by decide)).symm)
                            clear hW eV_406 hf_404 V_403
                            have hW := hW2
                            clear hW2
                            refine lv_iinc (v := nI 13) (lv' := [(1, .int (nI 13)), (0, .ref (ad_364 200))]) hx hb dX11_init_1012 hl (k := 0) rfl (m_inc 12 1) (by decide) rfl (fun ls hl => ?_)
                            refine lv_goto (tgt := 994) hx hb dX11_init_1015 (by decide) ?_
                            refine lv_iload_n hx hb dX11_init_994 rfl (lv_at hl 0 rfl) ?_
                            refine lv_bipush (v := nI 40) hx hb dX11_init_995 (by decide) ?_
                            refine lv_icmp_ge (tgt := 1018) hx hb dX11_init_997 (by decide) (fun c_408 => ?_) (fun c_408 => ?_)
                            · exact absurd c_408 (by decide)
                            · skip
                              refine lv_aload_n hx hb dX11_init_1000 rfl (lv_at hl 1 rfl) ?_
                              refine m_getr S hW s200 7 rfl (j := 205) rfl kX11 (iW11 _) (by decide) (List.mem_cons_of_mem _ (wa_11 _ (List.mem_of_getElem? (i := 6) (by decide +kernel)))) dX11_init_1001 ?_
                              refine lv_iload_n hx hb dX11_init_1004 rfl (lv_at hl 0 rfl) ?_
                              refine lv_aload_n hx hb dX11_init_1005 rfl (lv_at hl 1 rfl) ?_
                              refine m_getr S hW s200 20 rfl (j := 214) rfl kX11 (iW11 _) (by decide) (List.mem_cons_of_mem _ (wa_11 _ (List.mem_of_getElem? (i := 15) (by decide +kernel)))) dX11_init_1006 ?_
                              refine lv_iload_n hx hb dX11_init_1009 rfl (lv_at hl 0 rfl) ?_
                              refine m_iald S hW s214 13 rfl (by omega) (by decide) dX11_init_1010 ?_
                              refine m_iast S hW s205 13 rfl (by decide) (by decide) dX11_init_1011 (fun H2 locs2 hW2 => ?_)
                              obtain ⟨V_409, eV_409⟩ : ∃ vv_ : mV, vv_ = mU V_406 205 13 (V_406 214 13) := ⟨_, rfl⟩
                              rw [← eV_409] at hW2
                              have hf_410 : FillI V_366 V_409 205 tx0 14 := by rw [eV_409]; exact hf_407.step (by rw [hf_407.2 214 (by decide)]; exact (v214 13 (by decide)).symm)
                              clear hW eV_409 hf_407 V_406
                              have hW := hW2
                              clear hW2
                              refine lv_iinc (v := nI 14) (lv' := [(1, .int (nI 14)), (0, .ref (ad_364 200))]) hx hb dX11_init_1012 hl (k := 0) rfl (m_inc 13 1) (by decide) rfl (fun ls hl => ?_)
                              refine lv_goto (tgt := 994) hx hb dX11_init_1015 (by decide) ?_
                              refine lv_iload_n hx hb dX11_init_994 rfl (lv_at hl 0 rfl) ?_
                              refine lv_bipush (v := nI 40) hx hb dX11_init_995 (by decide) ?_
                              refine lv_icmp_ge (tgt := 1018) hx hb dX11_init_997 (by decide) (fun c_411 => ?_) (fun c_411 => ?_)
                              · exact absurd c_411 (by decide)
                              · skip
                                refine lv_aload_n hx hb dX11_init_1000 rfl (lv_at hl 1 rfl) ?_
                                refine m_getr S hW s200 7 rfl (j := 205) rfl kX11 (iW11 _) (by decide) (List.mem_cons_of_mem _ (wa_11 _ (List.mem_of_getElem? (i := 6) (by decide +kernel)))) dX11_init_1001 ?_
                                refine lv_iload_n hx hb dX11_init_1004 rfl (lv_at hl 0 rfl) ?_
                                refine lv_aload_n hx hb dX11_init_1005 rfl (lv_at hl 1 rfl) ?_
                                refine m_getr S hW s200 20 rfl (j := 214) rfl kX11 (iW11 _) (by decide) (List.mem_cons_of_mem _ (wa_11 _ (List.mem_of_getElem? (i := 15) (by decide +kernel)))) dX11_init_1006 ?_
                                refine lv_iload_n hx hb dX11_init_1009 rfl (lv_at hl 0 rfl) ?_
                                refine m_iald S hW s214 14 rfl (by omega) (by decide) dX11_init_1010 ?_
                                refine m_iast S hW s205 14 rfl (by decide) (by decide) dX11_init_1011 (fun H2 locs2 hW2 => ?_)
                                obtain ⟨V_412, eV_412⟩ : ∃ vv_ : mV, vv_ = mU V_409 205 14 (V_409 214 14) := ⟨_, rfl⟩
                                rw [← eV_412] at hW2
                                have hf_413 : FillI V_366 V_412 205 tx0 15 := by rw [eV_412]; exact hf_410.step (by rw [hf_410.2 214 (by decide)]; exact (v214 14 (by decide)).symm)
                                clear hW eV_412 hf_410 V_409
                                have hW := hW2
                                clear hW2
                                refine lv_iinc (v := nI 15) (lv' := [(1, .int (nI 15)), (0, .ref (ad_364 200))]) hx hb dX11_init_1012 hl (k := 0) rfl (m_inc 14 1) (by decide) rfl (fun ls hl => ?_)
                                refine lv_goto (tgt := 994) hx hb dX11_init_1015 (by decide) ?_
                                refine lv_iload_n hx hb dX11_init_994 rfl (lv_at hl 0 rfl) ?_
                                refine lv_bipush (v := nI 40) hx hb dX11_init_995 (by decide) ?_
                                refine lv_icmp_ge (tgt := 1018) hx hb dX11_init_997 (by decide) (fun c_414 => ?_) (fun c_414 => ?_)
                                · exact absurd c_414 (by decide)
                                · skip
                                  refine lv_aload_n hx hb dX11_init_1000 rfl (lv_at hl 1 rfl) ?_
                                  refine m_getr S hW s200 7 rfl (j := 205) rfl kX11 (iW11 _) (by decide) (List.mem_cons_of_mem _ (wa_11 _ (List.mem_of_getElem? (i := 6) (by decide +kernel)))) dX11_init_1001 ?_
                                  refine lv_iload_n hx hb dX11_init_1004 rfl (lv_at hl 0 rfl) ?_
                                  refine lv_aload_n hx hb dX11_init_1005 rfl (lv_at hl 1 rfl) ?_
                                  refine m_getr S hW s200 20 rfl (j := 214) rfl kX11 (iW11 _) (by decide) (List.mem_cons_of_mem _ (wa_11 _ (List.mem_of_getElem? (i := 15) (by decide +kernel)))) dX11_init_1006 ?_
                                  refine lv_iload_n hx hb dX11_init_1009 rfl (lv_at hl 0 rfl) ?_
                                  refine m_iald S hW s214 15 rfl (by omega) (by decide) dX11_init_1010 ?_
                                  refine m_iast S hW s205 15 rfl (by decide) (by decide) dX11_init_1011 (fun H2 locs2 hW2 => ?_)
                                  obtain ⟨V_415, eV_415⟩ : ∃ vv_ : mV, vv_ = mU V_412 205 15 (V_412 214 15) := ⟨_, rfl⟩
                                  rw [← eV_415] at hW2
                                  have hf_416 : FillI V_366 V_415 205 tx0 16 := by rw [eV_415]; exact hf_413.step (by rw [hf_413.2 214 (by decide)]; exact (v214 15 (by decide)).symm)
                                  clear hW eV_415 hf_413 V_412
                                  have hW := hW2
                                  clear hW2
                                  refine lv_iinc (v := nI 16) (lv' := [(1, .int (nI 16)), (0, .ref (ad_364 200))]) hx hb dX11_init_1012 hl (k := 0) rfl (m_inc 15 1) (by decide) rfl (fun ls hl => ?_)
                                  refine lv_goto (tgt := 994) hx hb dX11_init_1015 (by decide) ?_
                                  refine lv_iload_n hx hb dX11_init_994 rfl (lv_at hl 0 rfl) ?_
                                  refine lv_bipush (v := nI 40) hx hb dX11_init_995 (by decide) ?_
                                  refine lv_icmp_ge (tgt := 1018) hx hb dX11_init_997 (by decide) (fun c_417 => ?_) (fun c_417 => ?_)
                                  · exact absurd c_417 (by decide)
                                  · skip
                                    refine lv_aload_n hx hb dX11_init_1000 rfl (lv_at hl 1 rfl) ?_
                                    refine m_getr S hW s200 7 rfl (j := 205) rfl kX11 (iW11 _) (by decide) (List.mem_cons_of_mem _ (wa_11 _ (List.mem_of_getElem? (i := 6) (by decide +kernel)))) dX11_init_1001 ?_
                                    refine lv_iload_n hx hb dX11_init_1004 rfl (lv_at hl 0 rfl) ?_
                                    refine lv_aload_n hx hb dX11_init_1005 rfl (lv_at hl 1 rfl) ?_
                                    refine m_getr S hW s200 20 rfl (j := 214) rfl kX11 (iW11 _) (by decide) (List.mem_cons_of_mem _ (wa_11 _ (List.mem_of_getElem? (i := 15) (by decide +kernel)))) dX11_init_1006 ?_
                                    refine lv_iload_n hx hb dX11_init_1009 rfl (lv_at hl 0 rfl) ?_
                                    refine m_iald S hW s214 16 rfl (by omega) (by decide) dX11_init_1010 ?_
                                    refine m_iast S hW s205 16 rfl (by decide) (by decide) dX11_init_1011 (fun H2 locs2 hW2 => ?_)
                                    obtain ⟨V_418, eV_418⟩ : ∃ vv_ : mV, vv_ = mU V_415 205 16 (V_415 214 16) := ⟨_, rfl⟩
                                    rw [← eV_418] at hW2
                                    have hf_419 : FillI V_366 V_418 205 tx0 17 := by rw [eV_418]; exact hf_416.step (by rw [hf_416.2 214 (by decide)]; exact (v214 16 (by decide)).symm)
                                    clear hW eV_418 hf_416 V_415
                                    have hW := hW2
                                    clear hW2
                                    refine lv_iinc (v := nI 17) (lv' := [(1, .int (nI 17)), (0, .ref (ad_364 200))]) hx hb dX11_init_1012 hl (k := 0) rfl (m_inc 16 1) (by decide) rfl (fun ls hl => ?_)
                                    refine lv_goto (tgt := 994) hx hb dX11_init_1015 (by decide) ?_
                                    refine lv_iload_n hx hb dX11_init_994 rfl (lv_at hl 0 rfl) ?_
                                    refine lv_bipush (v := nI 40) hx hb dX11_init_995 (by decide) ?_
                                    refine lv_icmp_ge (tgt := 1018) hx hb dX11_init_997 (by decide) (fun c_420 => ?_) (fun c_420 => ?_)
                                    · exact absurd c_420 (by decide)
                                    · skip
                                      refine lv_aload_n hx hb dX11_init_1000 rfl (lv_at hl 1 rfl) ?_
                                      refine m_getr S hW s200 7 rfl (j := 205) rfl kX11 (iW11 _) (by decide) (List.mem_cons_of_mem _ (wa_11 _ (List.mem_of_getElem? (i := 6) (by decide +kernel)))) dX11_init_1001 ?_
                                      refine lv_iload_n hx hb dX11_init_1004 rfl (lv_at hl 0 rfl) ?_
                                      refine lv_aload_n hx hb dX11_init_1005 rfl (lv_at hl 1 rfl) ?_
                                      refine m_getr S hW s200 20 rfl (j := 214) rfl kX11 (iW11 _) (by decide) (List.mem_cons_of_mem _ (wa_11 _ (List.mem_of_getElem? (i := 15) (by decide +kernel)))) dX11_init_1006 ?_
                                      refine lv_iload_n hx hb dX11_init_1009 rfl (lv_at hl 0 rfl) ?_
                                      refine m_iald S hW s214 17 rfl (by omega) (by decide) dX11_init_1010 ?_
                                      refine m_iast S hW s205 17 rfl (by decide) (by decide) dX11_init_1011 (fun H2 locs2 hW2 => ?_)
                                      obtain ⟨V_421, eV_421⟩ : ∃ vv_ : mV, vv_ = mU V_418 205 17 (V_418 214 17) := ⟨_, rfl⟩
                                      rw [← eV_421] at hW2
                                      have hf_422 : FillI V_366 V_421 205 tx0 18 := by rw [eV_421]; exact hf_419.step (by rw [hf_419.2 214 (by decide)]; exact (v214 17 (by decide)).symm)
                                      clear hW eV_421 hf_419 V_418
                                      have hW := hW2
                                      clear hW2
                                      refine lv_iinc (v := nI 18) (lv' := [(1, .int (nI 18)), (0, .ref (ad_364 200))]) hx hb dX11_init_1012 hl (k := 0) rfl (m_inc 17 1) (by decide) rfl (fun ls hl => ?_)
                                      refine lv_goto (tgt := 994) hx hb dX11_init_1015 (by decide) ?_
                                      refine lv_iload_n hx hb dX11_init_994 rfl (lv_at hl 0 rfl) ?_
                                      refine lv_bipush (v := nI 40) hx hb dX11_init_995 (by decide) ?_
                                      refine lv_icmp_ge (tgt := 1018) hx hb dX11_init_997 (by decide) (fun c_423 => ?_) (fun c_423 => ?_)
                                      · exact absurd c_423 (by decide)
                                      · skip
                                        refine lv_aload_n hx hb dX11_init_1000 rfl (lv_at hl 1 rfl) ?_
                                        refine m_getr S hW s200 7 rfl (j := 205) rfl kX11 (iW11 _) (by decide) (List.mem_cons_of_mem _ (wa_11 _ (List.mem_of_getElem? (i := 6) (by decide +kernel)))) dX11_init_1001 ?_
                                        refine lv_iload_n hx hb dX11_init_1004 rfl (lv_at hl 0 rfl) ?_
                                        refine lv_aload_n hx hb dX11_init_1005 rfl (lv_at hl 1 rfl) ?_
                                        refine m_getr S hW s200 20 rfl (j := 214) rfl kX11 (iW11 _) (by decide) (List.mem_cons_of_mem _ (wa_11 _ (List.mem_of_getElem? (i := 15) (by decide +kernel)))) dX11_init_1006 ?_
                                        refine lv_iload_n hx hb dX11_init_1009 rfl (lv_at hl 0 rfl) ?_
                                        refine m_iald S hW s214 18 rfl (by omega) (by decide) dX11_init_1010 ?_
                                        refine m_iast S hW s205 18 rfl (by decide) (by decide) dX11_init_1011 (fun H2 locs2 hW2 => ?_)
                                        obtain ⟨V_424, eV_424⟩ : ∃ vv_ : mV, vv_ = mU V_421 205 18 (V_421 214 18) := ⟨_, rfl⟩
                                        rw [← eV_424] at hW2
                                        have hf_425 : FillI V_366 V_424 205 tx0 19 := by rw [eV_424]; exact hf_422.step (by rw [hf_422.2 214 (by decide)]; exact (v214 18 (by decide)).symm)
                                        clear hW eV_424 hf_422 V_421
                                        have hW := hW2
                                        clear hW2
                                        refine lv_iinc (v := nI 19) (lv' := [(1, .int (nI 19)), (0, .ref (ad_364 200))]) hx hb dX11_init_1012 hl (k := 0) rfl (m_inc 18 1) (by decide) rfl (fun ls hl => ?_)
                                        refine lv_goto (tgt := 994) hx hb dX11_init_1015 (by decide) ?_
                                        refine lv_iload_n hx hb dX11_init_994 rfl (lv_at hl 0 rfl) ?_
                                        refine lv_bipush (v := nI 40) hx hb dX11_init_995 (by decide) ?_
                                        refine lv_icmp_ge (tgt := 1018) hx hb dX11_init_997 (by decide) (fun c_426 => ?_) (fun c_426 => ?_)
                                        · exact absurd c_426 (by decide)
                                        · skip
                                          refine lv_aload_n hx hb dX11_init_1000 rfl (lv_at hl 1 rfl) ?_
                                          refine m_getr S hW s200 7 rfl (j := 205) rfl kX11 (iW11 _) (by decide) (List.mem_cons_of_mem _ (wa_11 _ (List.mem_of_getElem? (i := 6) (by decide +kernel)))) dX11_init_1001 ?_
                                          refine lv_iload_n hx hb dX11_init_1004 rfl (lv_at hl 0 rfl) ?_
                                          refine lv_aload_n hx hb dX11_init_1005 rfl (lv_at hl 1 rfl) ?_
                                          refine m_getr S hW s200 20 rfl (j := 214) rfl kX11 (iW11 _) (by decide) (List.mem_cons_of_mem _ (wa_11 _ (List.mem_of_getElem? (i := 15) (by decide +kernel)))) dX11_init_1006 ?_
                                          refine lv_iload_n hx hb dX11_init_1009 rfl (lv_at hl 0 rfl) ?_
                                          refine m_iald S hW s214 19 rfl (by omega) (by decide) dX11_init_1010 ?_
                                          refine m_iast S hW s205 19 rfl (by decide) (by decide) dX11_init_1011 (fun H2 locs2 hW2 => ?_)
                                          obtain ⟨V_427, eV_427⟩ : ∃ vv_ : mV, vv_ = mU V_424 205 19 (V_424 214 19) := ⟨_, rfl⟩
                                          rw [← eV_427] at hW2
                                          have hf_428 : FillI V_366 V_427 205 tx0 20 := by rw [eV_427]; exact hf_425.step (by rw [hf_425.2 214 (by decide)]; exact (v214 19 (by decide)).symm)
                                          clear hW eV_427 hf_425 V_424
                                          have hW := hW2
                                          clear hW2
                                          refine lv_iinc (v := nI 20) (lv' := [(1, .int (nI 20)), (0, .ref (ad_364 200))]) hx hb dX11_init_1012 hl (k := 0) rfl (m_inc 19 1) (by decide) rfl (fun ls hl => ?_)
                                          refine lv_goto (tgt := 994) hx hb dX11_init_1015 (by decide) ?_
                                          refine lv_iload_n hx hb dX11_init_994 rfl (lv_at hl 0 rfl) ?_
                                          refine lv_bipush (v := nI 40) hx hb dX11_init_995 (by decide) ?_
                                          refine lv_icmp_ge (tgt := 1018) hx hb dX11_init_997 (by decide) (fun c_429 => ?_) (fun c_429 => ?_)
                                          · exact absurd c_429 (by decide)
                                          · skip
                                            refine lv_aload_n hx hb dX11_init_1000 rfl (lv_at hl 1 rfl) ?_
                                            refine m_getr S hW s200 7 rfl (j := 205) rfl kX11 (iW11 _) (by decide) (List.mem_cons_of_mem _ (wa_11 _ (List.mem_of_getElem? (i := 6) (by decide +kernel)))) dX11_init_1001 ?_
                                            refine lv_iload_n hx hb dX11_init_1004 rfl (lv_at hl 0 rfl) ?_
                                            refine lv_aload_n hx hb dX11_init_1005 rfl (lv_at hl 1 rfl) ?_
                                            refine m_getr S hW s200 20 rfl (j := 214) rfl kX11 (iW11 _) (by decide) (List.mem_cons_of_mem _ (wa_11 _ (List.mem_of_getElem? (i := 15) (by decide +kernel)))) dX11_init_1006 ?_
                                            refine lv_iload_n hx hb dX11_init_1009 rfl (lv_at hl 0 rfl) ?_
                                            refine m_iald S hW s214 20 rfl (by omega) (by decide) dX11_init_1010 ?_
                                            refine m_iast S hW s205 20 rfl (by decide) (by decide) dX11_init_1011 (fun H2 locs2 hW2 => ?_)
                                            obtain ⟨V_430, eV_430⟩ : ∃ vv_ : mV, vv_ = mU V_427 205 20 (V_427 214 20) := ⟨_, rfl⟩
                                            rw [← eV_430] at hW2
                                            have hf_431 : FillI V_366 V_430 205 tx0 21 := by rw [eV_430]; exact hf_428.step (by rw [hf_428.2 214 (by decide)]; exact (v214 20 (by decide)).symm)
                                            clear hW eV_430 hf_428 V_427
                                            have hW := hW2
                                            clear hW2
                                            refine lv_iinc (v := nI 21) (lv' := [(1, .int (nI 21)), (0, .ref (ad_364 200))]) hx hb dX11_init_1012 hl (k := 0) rfl (m_inc 20 1) (by decide) rfl (fun ls hl => ?_)
                                            refine lv_goto (tgt := 994) hx hb dX11_init_1015 (by decide) ?_
                                            refine lv_iload_n hx hb dX11_init_994 rfl (lv_at hl 0 rfl) ?_
                                            refine lv_bipush (v := nI 40) hx hb dX11_init_995 (by decide) ?_
                                            refine lv_icmp_ge (tgt := 1018) hx hb dX11_init_997 (by decide) (fun c_432 => ?_) (fun c_432 => ?_)
                                            · exact absurd c_432 (by decide)
                                            · skip
                                              refine lv_aload_n hx hb dX11_init_1000 rfl (lv_at hl 1 rfl) ?_
                                              refine m_getr S hW s200 7 rfl (j := 205) rfl kX11 (iW11 _) (by decide) (List.mem_cons_of_mem _ (wa_11 _ (List.mem_of_getElem? (i := 6) (by decide +kernel)))) dX11_init_1001 ?_
                                              refine lv_iload_n hx hb dX11_init_1004 rfl (lv_at hl 0 rfl) ?_
                                              refine lv_aload_n hx hb dX11_init_1005 rfl (lv_at hl 1 rfl) ?_
                                              refine m_getr S hW s200 20 rfl (j := 214) rfl kX11 (iW11 _) (by decide) (List.mem_cons_of_mem _ (wa_11 _ (List.mem_of_getElem? (i := 15) (by decide +kernel)))) dX11_init_1006 ?_
                                              refine lv_iload_n hx hb dX11_init_1009 rfl (lv_at hl 0 rfl) ?_
                                              refine m_iald S hW s214 21 rfl (by omega) (by decide) dX11_init_1010 ?_
                                              refine m_iast S hW s205 21 rfl (by decide) (by decide) dX11_init_1011 (fun H2 locs2 hW2 => ?_)
                                              obtain ⟨V_433, eV_433⟩ : ∃ vv_ : mV, vv_ = mU V_430 205 21 (V_430 214 21) := ⟨_, rfl⟩
                                              rw [← eV_433] at hW2
                                              have hf_434 : FillI V_366 V_433 205 tx0 22 := by rw [eV_433]; exact hf_431.step (by rw [hf_431.2 214 (by decide)]; exact (v214 21 (by decide)).symm)
                                              clear hW eV_433 hf_431 V_430
                                              have hW := hW2
                                              clear hW2
                                              refine lv_iinc (v := nI 22) (lv' := [(1, .int (nI 22)), (0, .ref (ad_364 200))]) hx hb dX11_init_1012 hl (k := 0) rfl (m_inc 21 1) (by decide) rfl (fun ls hl => ?_)
                                              refine lv_goto (tgt := 994) hx hb dX11_init_1015 (by decide) ?_
                                              refine lv_iload_n hx hb dX11_init_994 rfl (lv_at hl 0 rfl) ?_
                                              refine lv_bipush (v := nI 40) hx hb dX11_init_995 (by decide) ?_
                                              refine lv_icmp_ge (tgt := 1018) hx hb dX11_init_997 (by decide) (fun c_435 => ?_) (fun c_435 => ?_)
                                              · exact absurd c_435 (by decide)
                                              · skip
                                                refine lv_aload_n hx hb dX11_init_1000 rfl (lv_at hl 1 rfl) ?_
                                                refine m_getr S hW s200 7 rfl (j := 205) rfl kX11 (iW11 _) (by decide) (List.mem_cons_of_mem _ (wa_11 _ (List.mem_of_getElem? (i := 6) (by decide +kernel)))) dX11_init_1001 ?_
                                                refine lv_iload_n hx hb dX11_init_1004 rfl (lv_at hl 0 rfl) ?_
                                                refine lv_aload_n hx hb dX11_init_1005 rfl (lv_at hl 1 rfl) ?_
                                                refine m_getr S hW s200 20 rfl (j := 214) rfl kX11 (iW11 _) (by decide) (List.mem_cons_of_mem _ (wa_11 _ (List.mem_of_getElem? (i := 15) (by decide +kernel)))) dX11_init_1006 ?_
                                                refine lv_iload_n hx hb dX11_init_1009 rfl (lv_at hl 0 rfl) ?_
                                                refine m_iald S hW s214 22 rfl (by omega) (by decide) dX11_init_1010 ?_
                                                refine m_iast S hW s205 22 rfl (by decide) (by decide) dX11_init_1011 (fun H2 locs2 hW2 => ?_)
                                                obtain ⟨V_436, eV_436⟩ : ∃ vv_ : mV, vv_ = mU V_433 205 22 (V_433 214 22) := ⟨_, rfl⟩
                                                rw [← eV_436] at hW2
                                                have hf_437 : FillI V_366 V_436 205 tx0 23 := by rw [eV_436]; exact hf_434.step (by rw [hf_434.2 214 (by decide)]; exact (v214 22 (by decide)).symm)
                                                clear hW eV_436 hf_434 V_433
                                                have hW := hW2
                                                clear hW2
                                                refine lv_iinc (v := nI 23) (lv' := [(1, .int (nI 23)), (0, .ref (ad_364 200))]) hx hb dX11_init_1012 hl (k := 0) rfl (m_inc 22 1) (by decide) rfl (fun ls hl => ?_)
                                                refine lv_goto (tgt := 994) hx hb dX11_init_1015 (by decide) ?_
                                                refine lv_iload_n hx hb dX11_init_994 rfl (lv_at hl 0 rfl) ?_
                                                refine lv_bipush (v := nI 40) hx hb dX11_init_995 (by decide) ?_
                                                refine lv_icmp_ge (tgt := 1018) hx hb dX11_init_997 (by decide) (fun c_438 => ?_) (fun c_438 => ?_)
                                                · exact absurd c_438 (by decide)
                                                · skip
                                                  refine lv_aload_n hx hb dX11_init_1000 rfl (lv_at hl 1 rfl) ?_
                                                  refine m_getr S hW s200 7 rfl (j := 205) rfl kX11 (iW11 _) (by decide) (List.mem_cons_of_mem _ (wa_11 _ (List.mem_of_getElem? (i := 6) (by decide +kernel)))) dX11_init_1001 ?_
                                                  refine lv_iload_n hx hb dX11_init_1004 rfl (lv_at hl 0 rfl) ?_
                                                  refine lv_aload_n hx hb dX11_init_1005 rfl (lv_at hl 1 rfl) ?_
                                                  refine m_getr S hW s200 20 rfl (j := 214) rfl kX11 (iW11 _) (by decide) (List.mem_cons_of_mem _ (wa_11 _ (List.mem_of_getElem? (i := 15) (by decide +kernel)))) dX11_init_1006 ?_
                                                  refine lv_iload_n hx hb dX11_init_1009 rfl (lv_at hl 0 rfl) ?_
                                                  refine m_iald S hW s214 23 rfl (by omega) (by decide) dX11_init_1010 ?_
                                                  refine m_iast S hW s205 23 rfl (by decide) (by decide) dX11_init_1011 (fun H2 locs2 hW2 => ?_)
                                                  obtain ⟨V_439, eV_439⟩ : ∃ vv_ : mV, vv_ = mU V_436 205 23 (V_436 214 23) := ⟨_, rfl⟩
                                                  rw [← eV_439] at hW2
                                                  have hf_440 : FillI V_366 V_439 205 tx0 24 := by rw [eV_439]; exact hf_437.step (by rw [hf_437.2 214 (by decide)]; exact (v214 23 (by decide)).symm)
                                                  clear hW eV_439 hf_437 V_436
                                                  have hW := hW2
                                                  clear hW2
                                                  refine lv_iinc (v := nI 24) (lv' := [(1, .int (nI 24)), (0, .ref (ad_364 200))]) hx hb dX11_init_1012 hl (k := 0) rfl (m_inc 23 1) (by decide) rfl (fun ls hl => ?_)
                                                  refine lv_goto (tgt := 994) hx hb dX11_init_1015 (by decide) ?_
                                                  refine lv_iload_n hx hb dX11_init_994 rfl (lv_at hl 0 rfl) ?_
                                                  refine lv_bipush (v := nI 40) hx hb dX11_init_995 (by decide) ?_
                                                  refine lv_icmp_ge (tgt := 1018) hx hb dX11_init_997 (by decide) (fun c_441 => ?_) (fun c_441 => ?_)
                                                  · exact absurd c_441 (by decide)
                                                  · skip
                                                    refine lv_aload_n hx hb dX11_init_1000 rfl (lv_at hl 1 rfl) ?_
                                                    refine m_getr S hW s200 7 rfl (j := 205) rfl kX11 (iW11 _) (by decide) (List.mem_cons_of_mem _ (wa_11 _ (List.mem_of_getElem? (i := 6) (by decide +kernel)))) dX11_init_1001 ?_
                                                    refine lv_iload_n hx hb dX11_init_1004 rfl (lv_at hl 0 rfl) ?_
                                                    refine lv_aload_n hx hb dX11_init_1005 rfl (lv_at hl 1 rfl) ?_
                                                    refine m_getr S hW s200 20 rfl (j := 214) rfl kX11 (iW11 _) (by decide) (List.mem_cons_of_mem _ (wa_11 _ (List.mem_of_getElem? (i := 15) (by decide +kernel)))) dX11_init_1006 ?_
                                                    refine lv_iload_n hx hb dX11_init_1009 rfl (lv_at hl 0 rfl) ?_
                                                    refine m_iald S hW s214 24 rfl (by omega) (by decide) dX11_init_1010 ?_
                                                    refine m_iast S hW s205 24 rfl (by decide) (by decide) dX11_init_1011 (fun H2 locs2 hW2 => ?_)
                                                    obtain ⟨V_442, eV_442⟩ : ∃ vv_ : mV, vv_ = mU V_439 205 24 (V_439 214 24) := ⟨_, rfl⟩
                                                    rw [← eV_442] at hW2
                                                    have hf_443 : FillI V_366 V_442 205 tx0 25 := by rw [eV_442]; exact hf_440.step (by rw [hf_440.2 214 (by decide)]; exact (v214 24 (by decide)).symm)
                                                    clear hW eV_442 hf_440 V_439
                                                    have hW := hW2
                                                    clear hW2
                                                    refine lv_iinc (v := nI 25) (lv' := [(1, .int (nI 25)), (0, .ref (ad_364 200))]) hx hb dX11_init_1012 hl (k := 0) rfl (m_inc 24 1) (by decide) rfl (fun ls hl => ?_)
                                                    refine lv_goto (tgt := 994) hx hb dX11_init_1015 (by decide) ?_
                                                    refine lv_iload_n hx hb dX11_init_994 rfl (lv_at hl 0 rfl) ?_
                                                    refine lv_bipush (v := nI 40) hx hb dX11_init_995 (by decide) ?_
                                                    refine lv_icmp_ge (tgt := 1018) hx hb dX11_init_997 (by decide) (fun c_444 => ?_) (fun c_444 => ?_)
                                                    · exact absurd c_444 (by decide)
                                                    · skip
                                                      refine lv_aload_n hx hb dX11_init_1000 rfl (lv_at hl 1 rfl) ?_
                                                      refine m_getr S hW s200 7 rfl (j := 205) rfl kX11 (iW11 _) (by decide) (List.mem_cons_of_mem _ (wa_11 _ (List.mem_of_getElem? (i := 6) (by decide +kernel)))) dX11_init_1001 ?_
                                                      refine lv_iload_n hx hb dX11_init_1004 rfl (lv_at hl 0 rfl) ?_
                                                      refine lv_aload_n hx hb dX11_init_1005 rfl (lv_at hl 1 rfl) ?_
                                                      refine m_getr S hW s200 20 rfl (j := 214) rfl kX11 (iW11 _) (by decide) (List.mem_cons_of_mem _ (wa_11 _ (List.mem_of_getElem? (i := 15) (by decide +kernel)))) dX11_init_1006 ?_
                                                      refine lv_iload_n hx hb dX11_init_1009 rfl (lv_at hl 0 rfl) ?_
                                                      refine m_iald S hW s214 25 rfl (by omega) (by decide) dX11_init_1010 ?_
                                                      refine m_iast S hW s205 25 rfl (by decide) (by decide) dX11_init_1011 (fun H2 locs2 hW2 => ?_)
                                                      obtain ⟨V_445, eV_445⟩ : ∃ vv_ : mV, vv_ = mU V_442 205 25 (V_442 214 25) := ⟨_, rfl⟩
                                                      rw [← eV_445] at hW2
                                                      have hf_446 : FillI V_366 V_445 205 tx0 26 := by rw [eV_445]; exact hf_443.step (by rw [hf_443.2 214 (by decide)]; exact (v214 25 (by decide)).symm)
                                                      clear hW eV_445 hf_443 V_442
                                                      have hW := hW2
                                                      clear hW2
                                                      refine lv_iinc (v := nI 26) (lv' := [(1, .int (nI 26)), (0, .ref (ad_364 200))]) hx hb dX11_init_1012 hl (k := 0) rfl (m_inc 25 1) (by decide) rfl (fun ls hl => ?_)
                                                      refine lv_goto (tgt := 994) hx hb dX11_init_1015 (by decide) ?_
                                                      refine lv_iload_n hx hb dX11_init_994 rfl (lv_at hl 0 rfl) ?_
                                                      refine lv_bipush (v := nI 40) hx hb dX11_init_995 (by decide) ?_
                                                      refine lv_icmp_ge (tgt := 1018) hx hb dX11_init_997 (by decide) (fun c_447 => ?_) (fun c_447 => ?_)
                                                      · exact absurd c_447 (by decide)
                                                      · skip
                                                        refine lv_aload_n hx hb dX11_init_1000 rfl (lv_at hl 1 rfl) ?_
                                                        refine m_getr S hW s200 7 rfl (j := 205) rfl kX11 (iW11 _) (by decide) (List.mem_cons_of_mem _ (wa_11 _ (List.mem_of_getElem? (i := 6) (by decide +kernel)))) dX11_init_1001 ?_
                                                        refine lv_iload_n hx hb dX11_init_1004 rfl (lv_at hl 0 rfl) ?_
                                                        refine lv_aload_n hx hb dX11_init_1005 rfl (lv_at hl 1 rfl) ?_
                                                        refine m_getr S hW s200 20 rfl (j := 214) rfl kX11 (iW11 _) (by decide) (List.mem_cons_of_mem _ (wa_11 _ (List.mem_of_getElem? (i := 15) (by decide +kernel)))) dX11_init_1006 ?_
                                                        refine lv_iload_n hx hb dX11_init_1009 rfl (lv_at hl 0 rfl) ?_
                                                        refine m_iald S hW s214 26 rfl (by omega) (by decide) dX11_init_1010 ?_
                                                        refine m_iast S hW s205 26 rfl (by decide) (by decide) dX11_init_1011 (fun H2 locs2 hW2 => ?_)
                                                        obtain ⟨V_448, eV_448⟩ : ∃ vv_ : mV, vv_ = mU V_445 205 26 (V_445 214 26) := ⟨_, rfl⟩
                                                        rw [← eV_448] at hW2
                                                        have hf_449 : FillI V_366 V_448 205 tx0 27 := by rw [eV_448]; exact hf_446.step (by rw [hf_446.2 214 (by decide)]; exact (v214 26 (by decide)).symm)
                                                        clear hW eV_448 hf_446 V_445
                                                        have hW := hW2
                                                        clear hW2
                                                        refine lv_iinc (v := nI 27) (lv' := [(1, .int (nI 27)), (0, .ref (ad_364 200))]) hx hb dX11_init_1012 hl (k := 0) rfl (m_inc 26 1) (by decide) rfl (fun ls hl => ?_)
                                                        refine lv_goto (tgt := 994) hx hb dX11_init_1015 (by decide) ?_
                                                        refine lv_iload_n hx hb dX11_init_994 rfl (lv_at hl 0 rfl) ?_
                                                        refine lv_bipush (v := nI 40) hx hb dX11_init_995 (by decide) ?_
                                                        refine lv_icmp_ge (tgt := 1018) hx hb dX11_init_997 (by decide) (fun c_450 => ?_) (fun c_450 => ?_)
                                                        · exact absurd c_450 (by decide)
                                                        · skip
                                                          refine lv_aload_n hx hb dX11_init_1000 rfl (lv_at hl 1 rfl) ?_
                                                          refine m_getr S hW s200 7 rfl (j := 205) rfl kX11 (iW11 _) (by decide) (List.mem_cons_of_mem _ (wa_11 _ (List.mem_of_getElem? (i := 6) (by decide +kernel)))) dX11_init_1001 ?_
                                                          refine lv_iload_n hx hb dX11_init_1004 rfl (lv_at hl 0 rfl) ?_
                                                          refine lv_aload_n hx hb dX11_init_1005 rfl (lv_at hl 1 rfl) ?_
                                                          refine m_getr S hW s200 20 rfl (j := 214) rfl kX11 (iW11 _) (by decide) (List.mem_cons_of_mem _ (wa_11 _ (List.mem_of_getElem? (i := 15) (by decide +kernel)))) dX11_init_1006 ?_
                                                          refine lv_iload_n hx hb dX11_init_1009 rfl (lv_at hl 0 rfl) ?_
                                                          refine m_iald S hW s214 27 rfl (by omega) (by decide) dX11_init_1010 ?_
                                                          refine m_iast S hW s205 27 rfl (by decide) (by decide) dX11_init_1011 (fun H2 locs2 hW2 => ?_)
                                                          obtain ⟨V_451, eV_451⟩ : ∃ vv_ : mV, vv_ = mU V_448 205 27 (V_448 214 27) := ⟨_, rfl⟩
                                                          rw [← eV_451] at hW2
                                                          have hf_452 : FillI V_366 V_451 205 tx0 28 := by rw [eV_451]; exact hf_449.step (by rw [hf_449.2 214 (by decide)]; exact (v214 27 (by decide)).symm)
                                                          clear hW eV_451 hf_449 V_448
                                                          have hW := hW2
                                                          clear hW2
                                                          refine lv_iinc (v := nI 28) (lv' := [(1, .int (nI 28)), (0, .ref (ad_364 200))]) hx hb dX11_init_1012 hl (k := 0) rfl (m_inc 27 1) (by decide) rfl (fun ls hl => ?_)
                                                          refine lv_goto (tgt := 994) hx hb dX11_init_1015 (by decide) ?_
                                                          refine lv_iload_n hx hb dX11_init_994 rfl (lv_at hl 0 rfl) ?_
                                                          refine lv_bipush (v := nI 40) hx hb dX11_init_995 (by decide) ?_
                                                          refine lv_icmp_ge (tgt := 1018) hx hb dX11_init_997 (by decide) (fun c_453 => ?_) (fun c_453 => ?_)
                                                          · exact absurd c_453 (by decide)
                                                          · skip
                                                            refine lv_aload_n hx hb dX11_init_1000 rfl (lv_at hl 1 rfl) ?_
                                                            refine m_getr S hW s200 7 rfl (j := 205) rfl kX11 (iW11 _) (by decide) (List.mem_cons_of_mem _ (wa_11 _ (List.mem_of_getElem? (i := 6) (by decide +kernel)))) dX11_init_1001 ?_
                                                            refine lv_iload_n hx hb dX11_init_1004 rfl (lv_at hl 0 rfl) ?_
                                                            refine lv_aload_n hx hb dX11_init_1005 rfl (lv_at hl 1 rfl) ?_
                                                            refine m_getr S hW s200 20 rfl (j := 214) rfl kX11 (iW11 _) (by decide) (List.mem_cons_of_mem _ (wa_11 _ (List.mem_of_getElem? (i := 15) (by decide +kernel)))) dX11_init_1006 ?_
                                                            refine lv_iload_n hx hb dX11_init_1009 rfl (lv_at hl 0 rfl) ?_
                                                            refine m_iald S hW s214 28 rfl (by omega) (by decide) dX11_init_1010 ?_
                                                            refine m_iast S hW s205 28 rfl (by decide) (by decide) dX11_init_1011 (fun H2 locs2 hW2 => ?_)
                                                            obtain ⟨V_454, eV_454⟩ : ∃ vv_ : mV, vv_ = mU V_451 205 28 (V_451 214 28) := ⟨_, rfl⟩
                                                            rw [← eV_454] at hW2
                                                            have hf_455 : FillI V_366 V_454 205 tx0 29 := by rw [eV_454]; exact hf_452.step (by rw [hf_452.2 214 (by decide)]; exact (v214 28 (by decide)).symm)
                                                            clear hW eV_454 hf_452 V_451
                                                            have hW := hW2
                                                            clear hW2
                                                            refine lv_iinc (v := nI 29) (lv' := [(1, .int (nI 29)), (0, .ref (ad_364 200))]) hx hb dX11_init_1012 hl (k := 0) rfl (m_inc 28 1) (by decide) rfl (fun ls hl => ?_)
                                                            refine lv_goto (tgt := 994) hx hb dX11_init_1015 (by decide) ?_
                                                            refine lv_iload_n hx hb dX11_init_994 rfl (lv_at hl 0 rfl) ?_
                                                            refine lv_bipush (v := nI 40) hx hb dX11_init_995 (by decide) ?_
                                                            refine lv_icmp_ge (tgt := 1018) hx hb dX11_init_997 (by decide) (fun c_456 => ?_) (fun c_456 => ?_)
                                                            · exact absurd c_456 (by decide)
                                                            · skip
                                                              refine lv_aload_n hx hb dX11_init_1000 rfl (lv_at hl 1 rfl) ?_
                                                              refine m_getr S hW s200 7 rfl (j := 205) rfl kX11 (iW11 _) (by decide) (List.mem_cons_of_mem _ (wa_11 _ (List.mem_of_getElem? (i := 6) (by decide +kernel)))) dX11_init_1001 ?_
                                                              refine lv_iload_n hx hb dX11_init_1004 rfl (lv_at hl 0 rfl) ?_
                                                              refine lv_aload_n hx hb dX11_init_1005 rfl (lv_at hl 1 rfl) ?_
                                                              refine m_getr S hW s200 20 rfl (j := 214) rfl kX11 (iW11 _) (by decide) (List.mem_cons_of_mem _ (wa_11 _ (List.mem_of_getElem? (i := 15) (by decide +kernel)))) dX11_init_1006 ?_
                                                              refine lv_iload_n hx hb dX11_init_1009 rfl (lv_at hl 0 rfl) ?_
                                                              refine m_iald S hW s214 29 rfl (by omega) (by decide) dX11_init_1010 ?_
                                                              refine m_iast S hW s205 29 rfl (by decide) (by decide) dX11_init_1011 (fun H2 locs2 hW2 => ?_)
                                                              obtain ⟨V_457, eV_457⟩ : ∃ vv_ : mV, vv_ = mU V_454 205 29 (V_454 214 29) := ⟨_, rfl⟩
                                                              rw [← eV_457] at hW2
                                                              have hf_458 : FillI V_366 V_457 205 tx0 30 := by rw [eV_457]; exact hf_455.step (by rw [hf_455.2 214 (by decide)]; exact (v214 29 (by decide)).symm)
                                                              clear hW eV_457 hf_455 V_454
                                                              have hW := hW2
                                                              clear hW2
                                                              refine lv_iinc (v := nI 30) (lv' := [(1, .int (nI 30)), (0, .ref (ad_364 200))]) hx hb dX11_init_1012 hl (k := 0) rfl (m_inc 29 1) (by decide) rfl (fun ls hl => ?_)
                                                              refine lv_goto (tgt := 994) hx hb dX11_init_1015 (by decide) ?_
                                                              refine lv_iload_n hx hb dX11_init_994 rfl (lv_at hl 0 rfl) ?_
                                                              refine lv_bipush (v := nI 40) hx hb dX11_init_995 (by decide) ?_
                                                              refine lv_icmp_ge (tgt := 1018) hx hb dX11_init_997 (by decide) (fun c_459 => ?_) (fun c_459 => ?_)
                                                              · exact absurd c_459 (by decide)
                                                              · skip
                                                                refine lv_aload_n hx hb dX11_init_1000 rfl (lv_at hl 1 rfl) ?_
                                                                refine m_getr S hW s200 7 rfl (j := 205) rfl kX11 (iW11 _) (by decide) (List.mem_cons_of_mem _ (wa_11 _ (List.mem_of_getElem? (i := 6) (by decide +kernel)))) dX11_init_1001 ?_
                                                                refine lv_iload_n hx hb dX11_init_1004 rfl (lv_at hl 0 rfl) ?_
                                                                refine lv_aload_n hx hb dX11_init_1005 rfl (lv_at hl 1 rfl) ?_
                                                                refine m_getr S hW s200 20 rfl (j := 214) rfl kX11 (iW11 _) (by decide) (List.mem_cons_of_mem _ (wa_11 _ (List.mem_of_getElem? (i := 15) (by decide +kernel)))) dX11_init_1006 ?_
                                                                refine lv_iload_n hx hb dX11_init_1009 rfl (lv_at hl 0 rfl) ?_
                                                                refine m_iald S hW s214 30 rfl (by omega) (by decide) dX11_init_1010 ?_
                                                                refine m_iast S hW s205 30 rfl (by decide) (by decide) dX11_init_1011 (fun H2 locs2 hW2 => ?_)
                                                                obtain ⟨V_460, eV_460⟩ : ∃ vv_ : mV, vv_ = mU V_457 205 30 (V_457 214 30) := ⟨_, rfl⟩
                                                                rw [← eV_460] at hW2
                                                                have hf_461 : FillI V_366 V_460 205 tx0 31 := by rw [eV_460]; exact hf_458.step (by rw [hf_458.2 214 (by decide)]; exact (v214 30 (by decide)).symm)
                                                                clear hW eV_460 hf_458 V_457
                                                                have hW := hW2
                                                                clear hW2
                                                                refine lv_iinc (v := nI 31) (lv' := [(1, .int (nI 31)), (0, .ref (ad_364 200))]) hx hb dX11_init_1012 hl (k := 0) rfl (m_inc 30 1) (by decide) rfl (fun ls hl => ?_)
                                                                refine lv_goto (tgt := 994) hx hb dX11_init_1015 (by decide) ?_
                                                                refine lv_iload_n hx hb dX11_init_994 rfl (lv_at hl 0 rfl) ?_
                                                                refine lv_bipush (v := nI 40) hx hb dX11_init_995 (by decide) ?_
                                                                refine lv_icmp_ge (tgt := 1018) hx hb dX11_init_997 (by decide) (fun c_462 => ?_) (fun c_462 => ?_)
                                                                · exact absurd c_462 (by decide)
                                                                · skip
                                                                  refine lv_aload_n hx hb dX11_init_1000 rfl (lv_at hl 1 rfl) ?_
                                                                  refine m_getr S hW s200 7 rfl (j := 205) rfl kX11 (iW11 _) (by decide) (List.mem_cons_of_mem _ (wa_11 _ (List.mem_of_getElem? (i := 6) (by decide +kernel)))) dX11_init_1001 ?_
                                                                  refine lv_iload_n hx hb dX11_init_1004 rfl (lv_at hl 0 rfl) ?_
                                                                  refine lv_aload_n hx hb dX11_init_1005 rfl (lv_at hl 1 rfl) ?_
                                                                  refine m_getr S hW s200 20 rfl (j := 214) rfl kX11 (iW11 _) (by decide) (List.mem_cons_of_mem _ (wa_11 _ (List.mem_of_getElem? (i := 15) (by decide +kernel)))) dX11_init_1006 ?_
                                                                  refine lv_iload_n hx hb dX11_init_1009 rfl (lv_at hl 0 rfl) ?_
                                                                  refine m_iald S hW s214 31 rfl (by omega) (by decide) dX11_init_1010 ?_
                                                                  refine m_iast S hW s205 31 rfl (by decide) (by decide) dX11_init_1011 (fun H2 locs2 hW2 => ?_)
                                                                  obtain ⟨V_463, eV_463⟩ : ∃ vv_ : mV, vv_ = mU V_460 205 31 (V_460 214 31) := ⟨_, rfl⟩
                                                                  rw [← eV_463] at hW2
                                                                  have hf_464 : FillI V_366 V_463 205 tx0 32 := by rw [eV_463]; exact hf_461.step (by rw [hf_461.2 214 (by decide)]; exact (v214 31 (by decide)).symm)
                                                                  clear hW eV_463 hf_461 V_460
                                                                  have hW := hW2
                                                                  clear hW2
                                                                  refine lv_iinc (v := nI 32) (lv' := [(1, .int (nI 32)), (0, .ref (ad_364 200))]) hx hb dX11_init_1012 hl (k := 0) rfl (m_inc 31 1) (by decide) rfl (fun ls hl => ?_)
                                                                  refine lv_goto (tgt := 994) hx hb dX11_init_1015 (by decide) ?_
                                                                  refine lv_iload_n hx hb dX11_init_994 rfl (lv_at hl 0 rfl) ?_
                                                                  refine lv_bipush (v := nI 40) hx hb dX11_init_995 (by decide) ?_
                                                                  refine lv_icmp_ge (tgt := 1018) hx hb dX11_init_997 (by decide) (fun c_465 => ?_) (fun c_465 => ?_)
                                                                  · exact absurd c_465 (by decide)
                                                                  · skip
                                                                    refine lv_aload_n hx hb dX11_init_1000 rfl (lv_at hl 1 rfl) ?_
                                                                    refine m_getr S hW s200 7 rfl (j := 205) rfl kX11 (iW11 _) (by decide) (List.mem_cons_of_mem _ (wa_11 _ (List.mem_of_getElem? (i := 6) (by decide +kernel)))) dX11_init_1001 ?_
                                                                    refine lv_iload_n hx hb dX11_init_1004 rfl (lv_at hl 0 rfl) ?_
                                                                    refine lv_aload_n hx hb dX11_init_1005 rfl (lv_at hl 1 rfl) ?_
                                                                    refine m_getr S hW s200 20 rfl (j := 214) rfl kX11 (iW11 _) (by decide) (List.mem_cons_of_mem _ (wa_11 _ (List.mem_of_getElem? (i := 15) (by decide +kernel)))) dX11_init_1006 ?_
                                                                    refine lv_iload_n hx hb dX11_init_1009 rfl (lv_at hl 0 rfl) ?_
                                                                    refine m_iald S hW s214 32 rfl (by omega) (by decide) dX11_init_1010 ?_
                                                                    refine m_iast S hW s205 32 rfl (by decide) (by decide) dX11_init_1011 (fun H2 locs2 hW2 => ?_)
                                                                    obtain ⟨V_466, eV_466⟩ : ∃ vv_ : mV, vv_ = mU V_463 205 32 (V_463 214 32) := ⟨_, rfl⟩
                                                                    rw [← eV_466] at hW2
                                                                    have hf_467 : FillI V_366 V_466 205 tx0 33 := by rw [eV_466]; exact hf_464.step (by rw [hf_464.2 214 (by decide)]; exact (v214 32 (by decide)).symm)
                                                                    clear hW eV_466 hf_464 V_463
                                                                    have hW := hW2
                                                                    clear hW2
                                                                    refine lv_iinc (v := nI 33) (lv' := [(1, .int (nI 33)), (0, .ref (ad_364 200))]) hx hb dX11_init_1012 hl (k := 0) rfl (m_inc 32 1) (by decide) rfl (fun ls hl => ?_)
                                                                    refine lv_goto (tgt := 994) hx hb dX11_init_1015 (by decide) ?_
                                                                    refine lv_iload_n hx hb dX11_init_994 rfl (lv_at hl 0 rfl) ?_
                                                                    refine lv_bipush (v := nI 40) hx hb dX11_init_995 (by decide) ?_
                                                                    refine lv_icmp_ge (tgt := 1018) hx hb dX11_init_997 (by decide) (fun c_468 => ?_) (fun c_468 => ?_)
                                                                    · exact absurd c_468 (by decide)
                                                                    · skip
                                                                      refine lv_aload_n hx hb dX11_init_1000 rfl (lv_at hl 1 rfl) ?_
                                                                      refine m_getr S hW s200 7 rfl (j := 205) rfl kX11 (iW11 _) (by decide) (List.mem_cons_of_mem _ (wa_11 _ (List.mem_of_getElem? (i := 6) (by decide +kernel)))) dX11_init_1001 ?_
                                                                      refine lv_iload_n hx hb dX11_init_1004 rfl (lv_at hl 0 rfl) ?_
                                                                      refine lv_aload_n hx hb dX11_init_1005 rfl (lv_at hl 1 rfl) ?_
                                                                      refine m_getr S hW s200 20 rfl (j := 214) rfl kX11 (iW11 _) (by decide) (List.mem_cons_of_mem _ (wa_11 _ (List.mem_of_getElem? (i := 15) (by decide +kernel)))) dX11_init_1006 ?_
                                                                      refine lv_iload_n hx hb dX11_init_1009 rfl (lv_at hl 0 rfl) ?_
                                                                      refine m_iald S hW s214 33 rfl (by omega) (by decide) dX11_init_1010 ?_
                                                                      refine m_iast S hW s205 33 rfl (by decide) (by decide) dX11_init_1011 (fun H2 locs2 hW2 => ?_)
                                                                      obtain ⟨V_469, eV_469⟩ : ∃ vv_ : mV, vv_ = mU V_466 205 33 (V_466 214 33) := ⟨_, rfl⟩
                                                                      rw [← eV_469] at hW2
                                                                      have hf_470 : FillI V_366 V_469 205 tx0 34 := by rw [eV_469]; exact hf_467.step (by rw [hf_467.2 214 (by decide)]; exact (v214 33 (by decide)).symm)
                                                                      clear hW eV_469 hf_467 V_466
                                                                      have hW := hW2
                                                                      clear hW2
                                                                      refine lv_iinc (v := nI 34) (lv' := [(1, .int (nI 34)), (0, .ref (ad_364 200))]) hx hb dX11_init_1012 hl (k := 0) rfl (m_inc 33 1) (by decide) rfl (fun ls hl => ?_)
                                                                      refine lv_goto (tgt := 994) hx hb dX11_init_1015 (by decide) ?_
                                                                      refine lv_iload_n hx hb dX11_init_994 rfl (lv_at hl 0 rfl) ?_
                                                                      refine lv_bipush (v := nI 40) hx hb dX11_init_995 (by decide) ?_
                                                                      refine lv_icmp_ge (tgt := 1018) hx hb dX11_init_997 (by decide) (fun c_471 => ?_) (fun c_471 => ?_)
                                                                      · exact absurd c_471 (by decide)
                                                                      · skip
                                                                        refine lv_aload_n hx hb dX11_init_1000 rfl (lv_at hl 1 rfl) ?_
                                                                        refine m_getr S hW s200 7 rfl (j := 205) rfl kX11 (iW11 _) (by decide) (List.mem_cons_of_mem _ (wa_11 _ (List.mem_of_getElem? (i := 6) (by decide +kernel)))) dX11_init_1001 ?_
                                                                        refine lv_iload_n hx hb dX11_init_1004 rfl (lv_at hl 0 rfl) ?_
                                                                        refine lv_aload_n hx hb dX11_init_1005 rfl (lv_at hl 1 rfl) ?_
                                                                        refine m_getr S hW s200 20 rfl (j := 214) rfl kX11 (iW11 _) (by decide) (List.mem_cons_of_mem _ (wa_11 _ (List.mem_of_getElem? (i := 15) (by decide +kernel)))) dX11_init_1006 ?_
                                                                        refine lv_iload_n hx hb dX11_init_1009 rfl (lv_at hl 0 rfl) ?_
                                                                        refine m_iald S hW s214 34 rfl (by omega) (by decide) dX11_init_1010 ?_
                                                                        refine m_iast S hW s205 34 rfl (by decide) (by decide) dX11_init_1011 (fun H2 locs2 hW2 => ?_)
                                                                        obtain ⟨V_472, eV_472⟩ : ∃ vv_ : mV, vv_ = mU V_469 205 34 (V_469 214 34) := ⟨_, rfl⟩
                                                                        rw [← eV_472] at hW2
                                                                        have hf_473 : FillI V_366 V_472 205 tx0 35 := by rw [eV_472]; exact hf_470.step (by rw [hf_470.2 214 (by decide)]; exact (v214 34 (by decide)).symm)
                                                                        clear hW eV_472 hf_470 V_469
                                                                        have hW := hW2
                                                                        clear hW2
                                                                        refine lv_iinc (v := nI 35) (lv' := [(1, .int (nI 35)), (0, .ref (ad_364 200))]) hx hb dX11_init_1012 hl (k := 0) rfl (m_inc 34 1) (by decide) rfl (fun ls hl => ?_)
                                                                        refine lv_goto (tgt := 994) hx hb dX11_init_1015 (by decide) ?_
                                                                        refine lv_iload_n hx hb dX11_init_994 rfl (lv_at hl 0 rfl) ?_
                                                                        refine lv_bipush (v := nI 40) hx hb dX11_init_995 (by decide) ?_
                                                                        refine lv_icmp_ge (tgt := 1018) hx hb dX11_init_997 (by decide) (fun c_474 => ?_) (fun c_474 => ?_)
                                                                        · exact absurd c_474 (by decide)
                                                                        · skip
                                                                          refine lv_aload_n hx hb dX11_init_1000 rfl (lv_at hl 1 rfl) ?_
                                                                          refine m_getr S hW s200 7 rfl (j := 205) rfl kX11 (iW11 _) (by decide) (List.mem_cons_of_mem _ (wa_11 _ (List.mem_of_getElem? (i := 6) (by decide +kernel)))) dX11_init_1001 ?_
                                                                          refine lv_iload_n hx hb dX11_init_1004 rfl (lv_at hl 0 rfl) ?_
                                                                          refine lv_aload_n hx hb dX11_init_1005 rfl (lv_at hl 1 rfl) ?_
                                                                          refine m_getr S hW s200 20 rfl (j := 214) rfl kX11 (iW11 _) (by decide) (List.mem_cons_of_mem _ (wa_11 _ (List.mem_of_getElem? (i := 15) (by decide +kernel)))) dX11_init_1006 ?_
                                                                          refine lv_iload_n hx hb dX11_init_1009 rfl (lv_at hl 0 rfl) ?_
                                                                          refine m_iald S hW s214 35 rfl (by omega) (by decide) dX11_init_1010 ?_
                                                                          refine m_iast S hW s205 35 rfl (by decide) (by decide) dX11_init_1011 (fun H2 locs2 hW2 => ?_)
                                                                          obtain ⟨V_475, eV_475⟩ : ∃ vv_ : mV, vv_ = mU V_472 205 35 (V_472 214 35) := ⟨_, rfl⟩
                                                                          rw [← eV_475] at hW2
                                                                          have hf_476 : FillI V_366 V_475 205 tx0 36 := by rw [eV_475]; exact hf_473.step (by rw [hf_473.2 214 (by decide)]; exact (v214 35 (by decide)).symm)
                                                                          clear hW eV_475 hf_473 V_472
                                                                          have hW := hW2
                                                                          clear hW2
                                                                          refine lv_iinc (v := nI 36) (lv' := [(1, .int (nI 36)), (0, .ref (ad_364 200))]) hx hb dX11_init_1012 hl (k := 0) rfl (m_inc 35 1) (by decide) rfl (fun ls hl => ?_)
                                                                          refine lv_goto (tgt := 994) hx hb dX11_init_1015 (by decide) ?_
                                                                          refine lv_iload_n hx hb dX11_init_994 rfl (lv_at hl 0 rfl) ?_
                                                                          refine lv_bipush (v := nI 40) hx hb dX11_init_995 (by decide) ?_
                                                                          refine lv_icmp_ge (tgt := 1018) hx hb dX11_init_997 (by decide) (fun c_477 => ?_) (fun c_477 => ?_)
                                                                          · exact absurd c_477 (by decide)
                                                                          · skip
                                                                            refine lv_aload_n hx hb dX11_init_1000 rfl (lv_at hl 1 rfl) ?_
                                                                            refine m_getr S hW s200 7 rfl (j := 205) rfl kX11 (iW11 _) (by decide) (List.mem_cons_of_mem _ (wa_11 _ (List.mem_of_getElem? (i := 6) (by decide +kernel)))) dX11_init_1001 ?_
                                                                            refine lv_iload_n hx hb dX11_init_1004 rfl (lv_at hl 0 rfl) ?_
                                                                            refine lv_aload_n hx hb dX11_init_1005 rfl (lv_at hl 1 rfl) ?_
                                                                            refine m_getr S hW s200 20 rfl (j := 214) rfl kX11 (iW11 _) (by decide) (List.mem_cons_of_mem _ (wa_11 _ (List.mem_of_getElem? (i := 15) (by decide +kernel)))) dX11_init_1006 ?_
                                                                            refine lv_iload_n hx hb dX11_init_1009 rfl (lv_at hl 0 rfl) ?_
                                                                            refine m_iald S hW s214 36 rfl (by omega) (by decide) dX11_init_1010 ?_
                                                                            refine m_iast S hW s205 36 rfl (by decide) (by decide) dX11_init_1011 (fun H2 locs2 hW2 => ?_)
                                                                            obtain ⟨V_478, eV_478⟩ : ∃ vv_ : mV, vv_ = mU V_475 205 36 (V_475 214 36) := ⟨_, rfl⟩
                                                                            rw [← eV_478] at hW2
                                                                            have hf_479 : FillI V_366 V_478 205 tx0 37 := by rw [eV_478]; exact hf_476.step (by rw [hf_476.2 214 (by decide)]; exact (v214 36 (by decide)).symm)
                                                                            clear hW eV_478 hf_476 V_475
                                                                            have hW := hW2
                                                                            clear hW2
                                                                            refine lv_iinc (v := nI 37) (lv' := [(1, .int (nI 37)), (0, .ref (ad_364 200))]) hx hb dX11_init_1012 hl (k := 0) rfl (m_inc 36 1) (by decide) rfl (fun ls hl => ?_)
                                                                            refine lv_goto (tgt := 994) hx hb dX11_init_1015 (by decide) ?_
                                                                            refine lv_iload_n hx hb dX11_init_994 rfl (lv_at hl 0 rfl) ?_
                                                                            refine lv_bipush (v := nI 40) hx hb dX11_init_995 (by decide) ?_
                                                                            refine lv_icmp_ge (tgt := 1018) hx hb dX11_init_997 (by decide) (fun c_480 => ?_) (fun c_480 => ?_)
                                                                            · exact absurd c_480 (by decide)
                                                                            · skip
                                                                              refine lv_aload_n hx hb dX11_init_1000 rfl (lv_at hl 1 rfl) ?_
                                                                              refine m_getr S hW s200 7 rfl (j := 205) rfl kX11 (iW11 _) (by decide) (List.mem_cons_of_mem _ (wa_11 _ (List.mem_of_getElem? (i := 6) (by decide +kernel)))) dX11_init_1001 ?_
                                                                              refine lv_iload_n hx hb dX11_init_1004 rfl (lv_at hl 0 rfl) ?_
                                                                              refine lv_aload_n hx hb dX11_init_1005 rfl (lv_at hl 1 rfl) ?_
                                                                              refine m_getr S hW s200 20 rfl (j := 214) rfl kX11 (iW11 _) (by decide) (List.mem_cons_of_mem _ (wa_11 _ (List.mem_of_getElem? (i := 15) (by decide +kernel)))) dX11_init_1006 ?_
                                                                              refine lv_iload_n hx hb dX11_init_1009 rfl (lv_at hl 0 rfl) ?_
                                                                              refine m_iald S hW s214 37 rfl (by omega) (by decide) dX11_init_1010 ?_
                                                                              refine m_iast S hW s205 37 rfl (by decide) (by decide) dX11_init_1011 (fun H2 locs2 hW2 => ?_)
                                                                              obtain ⟨V_481, eV_481⟩ : ∃ vv_ : mV, vv_ = mU V_478 205 37 (V_478 214 37) := ⟨_, rfl⟩
                                                                              rw [← eV_481] at hW2
                                                                              have hf_482 : FillI V_366 V_481 205 tx0 38 := by rw [eV_481]; exact hf_479.step (by rw [hf_479.2 214 (by decide)]; exact (v214 37 (by decide)).symm)
                                                                              clear hW eV_481 hf_479 V_478
                                                                              have hW := hW2
                                                                              clear hW2
                                                                              refine lv_iinc (v := nI 38) (lv' := [(1, .int (nI 38)), (0, .ref (ad_364 200))]) hx hb dX11_init_1012 hl (k := 0) rfl (m_inc 37 1) (by decide) rfl (fun ls hl => ?_)
                                                                              refine lv_goto (tgt := 994) hx hb dX11_init_1015 (by decide) ?_
                                                                              refine lv_iload_n hx hb dX11_init_994 rfl (lv_at hl 0 rfl) ?_
                                                                              refine lv_bipush (v := nI 40) hx hb dX11_init_995 (by decide) ?_
                                                                              refine lv_icmp_ge (tgt := 1018) hx hb dX11_init_997 (by decide) (fun c_483 => ?_) (fun c_483 => ?_)
                                                                              · exact absurd c_483 (by decide)
                                                                              · skip
                                                                                refine lv_aload_n hx hb dX11_init_1000 rfl (lv_at hl 1 rfl) ?_
                                                                                refine m_getr S hW s200 7 rfl (j := 205) rfl kX11 (iW11 _) (by decide) (List.mem_cons_of_mem _ (wa_11 _ (List.mem_of_getElem? (i := 6) (by decide +kernel)))) dX11_init_1001 ?_
                                                                                refine lv_iload_n hx hb dX11_init_1004 rfl (lv_at hl 0 rfl) ?_
                                                                                refine lv_aload_n hx hb dX11_init_1005 rfl (lv_at hl 1 rfl) ?_
                                                                                refine m_getr S hW s200 20 rfl (j := 214) rfl kX11 (iW11 _) (by decide) (List.mem_cons_of_mem _ (wa_11 _ (List.mem_of_getElem? (i := 15) (by decide +kernel)))) dX11_init_1006 ?_
                                                                                refine lv_iload_n hx hb dX11_init_1009 rfl (lv_at hl 0 rfl) ?_
                                                                                refine m_iald S hW s214 38 rfl (by omega) (by decide) dX11_init_1010 ?_
                                                                                refine m_iast S hW s205 38 rfl (by decide) (by decide) dX11_init_1011 (fun H2 locs2 hW2 => ?_)
                                                                                obtain ⟨V_484, eV_484⟩ : ∃ vv_ : mV, vv_ = mU V_481 205 38 (V_481 214 38) := ⟨_, rfl⟩
                                                                                rw [← eV_484] at hW2
                                                                                have hf_485 : FillI V_366 V_484 205 tx0 39 := by rw [eV_484]; exact hf_482.step (by rw [hf_482.2 214 (by decide)]; exact (v214 38 (by decide)).symm)
                                                                                clear hW eV_484 hf_482 V_481
                                                                                have hW := hW2
                                                                                clear hW2
                                                                                refine lv_iinc (v := nI 39) (lv' := [(1, .int (nI 39)), (0, .ref (ad_364 200))]) hx hb dX11_init_1012 hl (k := 0) rfl (m_inc 38 1) (by decide) rfl (fun ls hl => ?_)
                                                                                refine lv_goto (tgt := 994) hx hb dX11_init_1015 (by decide) ?_
                                                                                refine lv_iload_n hx hb dX11_init_994 rfl (lv_at hl 0 rfl) ?_
                                                                                refine lv_bipush (v := nI 40) hx hb dX11_init_995 (by decide) ?_
                                                                                refine lv_icmp_ge (tgt := 1018) hx hb dX11_init_997 (by decide) (fun c_486 => ?_) (fun c_486 => ?_)
                                                                                · exact absurd c_486 (by decide)
                                                                                · skip
                                                                                  refine lv_aload_n hx hb dX11_init_1000 rfl (lv_at hl 1 rfl) ?_
                                                                                  refine m_getr S hW s200 7 rfl (j := 205) rfl kX11 (iW11 _) (by decide) (List.mem_cons_of_mem _ (wa_11 _ (List.mem_of_getElem? (i := 6) (by decide +kernel)))) dX11_init_1001 ?_
                                                                                  refine lv_iload_n hx hb dX11_init_1004 rfl (lv_at hl 0 rfl) ?_
                                                                                  refine lv_aload_n hx hb dX11_init_1005 rfl (lv_at hl 1 rfl) ?_
                                                                                  refine m_getr S hW s200 20 rfl (j := 214) rfl kX11 (iW11 _) (by decide) (List.mem_cons_of_mem _ (wa_11 _ (List.mem_of_getElem? (i := 15) (by decide +kernel)))) dX11_init_1006 ?_
                                                                                  refine lv_iload_n hx hb dX11_init_1009 rfl (lv_at hl 0 rfl) ?_
                                                                                  refine m_iald S hW s214 39 rfl (by omega) (by decide) dX11_init_1010 ?_
                                                                                  refine m_iast S hW s205 39 rfl (by decide) (by decide) dX11_init_1011 (fun H2 locs2 hW2 => ?_)
                                                                                  obtain ⟨V_487, eV_487⟩ : ∃ vv_ : mV, vv_ = mU V_484 205 39 (V_484 214 39) := ⟨_, rfl⟩
                                                                                  rw [← eV_487] at hW2
                                                                                  have hf_488 : FillI V_366 V_487 205 tx0 40 := by rw [eV_487]; exact hf_485.step (by rw [hf_485.2 214 (by decide)]; exact (v214 39 (by decide)).symm)
                                                                                  clear hW eV_487 hf_485 V_484
                                                                                  have hW := hW2
                                                                                  clear hW2
                                                                                  have fV_487 := hf_488.2
                                                                                  refine lv_iinc (v := nI 40) (lv' := [(1, .int (nI 40)), (0, .ref (ad_364 200))]) hx hb dX11_init_1012 hl (k := 0) rfl (m_inc 39 1) (by decide) rfl (fun ls hl => ?_)
                                                                                  refine lv_goto (tgt := 994) hx hb dX11_init_1015 (by decide) ?_
                                                                                  refine lv_iload_n hx hb dX11_init_994 rfl (lv_at hl 0 rfl) ?_
                                                                                  refine lv_bipush (v := nI 40) hx hb dX11_init_995 (by decide) ?_
                                                                                  refine lv_icmp_ge (tgt := 1018) hx hb dX11_init_997 (by decide) (fun c_489 => ?_) (fun c_489 => ?_)
                                                                                  · skip
                                                                                    refine lv_aload_n hx hb dX11_init_1018 rfl (lv_at hl 1 rfl) ?_
                                                                                    refine lv_bipush (v := nI 40) hx hb dX11_init_1019 (by decide) ?_
                                                                                    refine m_puti S hW s200 8 rfl kX11 (iW11 _) tyX11 tyX11_ok nmX11 (by decide) (List.mem_cons_of_mem _ (wa_11 _ (List.mem_of_getElem? (i := 23) (by decide +kernel)))) (Or.inl rfl) rfl rfl dX11_init_1021 (fun H locs hW => ?_)
                                                                                    obtain ⟨V_490, eV_490⟩ : ∃ vv_ : mV, vv_ = mU V_487 200 8 (nI 40) := ⟨_, rfl⟩
                                                                                    rw [← eV_490] at hW
                                                                                    have fV_490 : ∀ a, a ≠ 200 → V_490 a = V_487 a := fun a ha => by rw [eV_490]; exact mU_no _ _ ha
                                                                                    refine lv_aload_n hx hb dX11_init_1024 rfl (lv_at hl 1 rfl) ?_
                                                                                    have m200 : sh_367 200 = some (sM) := s200
                                                                                    have m201 : sh_367 201 = some (mI 72) := ((fsh_367 201 (by omega)).trans ((fsh_365 201 (by omega)).trans ((fsh_363 201 (by omega)).trans ((fsh_361 201 (by omega)).trans ((fsh_359 201 (by omega)).trans ((fsh_357 201 (by omega)).trans ((fsh_355 201 (by omega)).trans ((fsh_353 201 (by omega)).trans ((fsh_351 201 (by omega)).trans ((fsh_349 201 (by omega)).trans ((fsh_347 201 (by omega)).trans ((fsh_345 201 (by omega)).trans ((fsh_343 201 (by omega)).trans ((fsh_148 201 (by omega)).trans ((fsh_146 201 (by omega)).trans ((fsh_63 201 (by omega)).trans ((fsh_61 201 (by omega)).trans ((fsh_59 201 (by omega)).trans ((fsh_57 201 (by omega)).trans ((fsh_55 201 (by omega)).trans ((fsh_53 201 (by omega)).trans ((fsh_42 201 (by omega)).trans ((fsh_40 201 (by omega)).trans ((fsh_38 201 (by omega)).trans ((fsh_36 201 (by omega)).trans ((fsh_34 201 (by omega)).trans ((fsh_32 201 (by omega)).trans ((fsh_30 201 (by omega)).trans ((fsh_28 201 (by omega)).trans ((fsh_26 201 (by omega)).trans ((fsh_24 201 (by omega)).trans ((fsh_22 201 (by omega)).trans ((fsh_20 201 (by omega)).trans ((fsh_18 201 (by omega)).trans ((fsh_16 201 (by omega)).trans ((fsh_14 201 (by omega)).trans ((fsh_12 201 (by omega)).trans ((fsh_10 201 (by omega)).trans ((fsh_8 201 (by omega)).trans ((fsh_6 201 (by omega)).trans ((fsh_4 201 (by omega)).trans qsh_2)))))))))))))))))))))))))))))))))))))))))
                                                                                    have m202 : sh_367 202 = some (mI 5) := ((fsh_367 202 (by omega)).trans ((fsh_365 202 (by omega)).trans ((fsh_363 202 (by omega)).trans ((fsh_361 202 (by omega)).trans ((fsh_359 202 (by omega)).trans ((fsh_357 202 (by omega)).trans ((fsh_355 202 (by omega)).trans ((fsh_353 202 (by omega)).trans ((fsh_351 202 (by omega)).trans ((fsh_349 202 (by omega)).trans ((fsh_347 202 (by omega)).trans ((fsh_345 202 (by omega)).trans ((fsh_343 202 (by omega)).trans ((fsh_148 202 (by omega)).trans ((fsh_146 202 (by omega)).trans ((fsh_63 202 (by omega)).trans ((fsh_61 202 (by omega)).trans ((fsh_59 202 (by omega)).trans ((fsh_57 202 (by omega)).trans ((fsh_55 202 (by omega)).trans ((fsh_53 202 (by omega)).trans ((fsh_42 202 (by omega)).trans ((fsh_40 202 (by omega)).trans ((fsh_38 202 (by omega)).trans ((fsh_36 202 (by omega)).trans ((fsh_34 202 (by omega)).trans ((fsh_32 202 (by omega)).trans ((fsh_30 202 (by omega)).trans ((fsh_28 202 (by omega)).trans ((fsh_26 202 (by omega)).trans ((fsh_24 202 (by omega)).trans ((fsh_22 202 (by omega)).trans ((fsh_20 202 (by omega)).trans ((fsh_18 202 (by omega)).trans ((fsh_16 202 (by omega)).trans ((fsh_14 202 (by omega)).trans ((fsh_12 202 (by omega)).trans ((fsh_10 202 (by omega)).trans ((fsh_8 202 (by omega)).trans qsh_6)))))))))))))))))))))))))))))))))))))))
                                                                                    have m203 : sh_367 203 = some (mI 5) := ((fsh_367 203 (by omega)).trans ((fsh_365 203 (by omega)).trans ((fsh_363 203 (by omega)).trans ((fsh_361 203 (by omega)).trans ((fsh_359 203 (by omega)).trans ((fsh_357 203 (by omega)).trans ((fsh_355 203 (by omega)).trans ((fsh_353 203 (by omega)).trans ((fsh_351 203 (by omega)).trans ((fsh_349 203 (by omega)).trans ((fsh_347 203 (by omega)).trans ((fsh_345 203 (by omega)).trans ((fsh_343 203 (by omega)).trans ((fsh_148 203 (by omega)).trans ((fsh_146 203 (by omega)).trans ((fsh_63 203 (by omega)).trans ((fsh_61 203 (by omega)).trans ((fsh_59 203 (by omega)).trans ((fsh_57 203 (by omega)).trans ((fsh_55 203 (by omega)).trans ((fsh_53 203 (by omega)).trans ((fsh_42 203 (by omega)).trans ((fsh_40 203 (by omega)).trans ((fsh_38 203 (by omega)).trans ((fsh_36 203 (by omega)).trans ((fsh_34 203 (by omega)).trans ((fsh_32 203 (by omega)).trans ((fsh_30 203 (by omega)).trans ((fsh_28 203 (by omega)).trans ((fsh_26 203 (by omega)).trans ((fsh_24 203 (by omega)).trans ((fsh_22 203 (by omega)).trans ((fsh_20 203 (by omega)).trans ((fsh_18 203 (by omega)).trans ((fsh_16 203 (by omega)).trans ((fsh_14 203 (by omega)).trans ((fsh_12 203 (by omega)).trans qsh_10)))))))))))))))))))))))))))))))))))))
                                                                                    have m204 : sh_367 204 = some (mI 15) := ((fsh_367 204 (by omega)).trans ((fsh_365 204 (by omega)).trans ((fsh_363 204 (by omega)).trans ((fsh_361 204 (by omega)).trans ((fsh_359 204 (by omega)).trans ((fsh_357 204 (by omega)).trans ((fsh_355 204 (by omega)).trans ((fsh_353 204 (by omega)).trans ((fsh_351 204 (by omega)).trans ((fsh_349 204 (by omega)).trans ((fsh_347 204 (by omega)).trans ((fsh_345 204 (by omega)).trans ((fsh_343 204 (by omega)).trans ((fsh_148 204 (by omega)).trans ((fsh_146 204 (by omega)).trans ((fsh_63 204 (by omega)).trans ((fsh_61 204 (by omega)).trans ((fsh_59 204 (by omega)).trans ((fsh_57 204 (by omega)).trans ((fsh_55 204 (by omega)).trans ((fsh_53 204 (by omega)).trans ((fsh_42 204 (by omega)).trans ((fsh_40 204 (by omega)).trans ((fsh_38 204 (by omega)).trans ((fsh_36 204 (by omega)).trans ((fsh_34 204 (by omega)).trans ((fsh_32 204 (by omega)).trans ((fsh_30 204 (by omega)).trans ((fsh_28 204 (by omega)).trans ((fsh_26 204 (by omega)).trans ((fsh_24 204 (by omega)).trans ((fsh_22 204 (by omega)).trans ((fsh_20 204 (by omega)).trans ((fsh_18 204 (by omega)).trans ((fsh_16 204 (by omega)).trans qsh_14)))))))))))))))))))))))))))))))))))
                                                                                    have m205 : sh_367 205 = some (mI 160) := s205
                                                                                    have m206 : sh_367 206 = some (mI 1200) := ((fsh_367 206 (by omega)).trans ((fsh_365 206 (by omega)).trans ((fsh_363 206 (by omega)).trans ((fsh_361 206 (by omega)).trans ((fsh_359 206 (by omega)).trans ((fsh_357 206 (by omega)).trans ((fsh_355 206 (by omega)).trans ((fsh_353 206 (by omega)).trans ((fsh_351 206 (by omega)).trans ((fsh_349 206 (by omega)).trans ((fsh_347 206 (by omega)).trans ((fsh_345 206 (by omega)).trans ((fsh_343 206 (by omega)).trans ((fsh_148 206 (by omega)).trans ((fsh_146 206 (by omega)).trans ((fsh_63 206 (by omega)).trans ((fsh_61 206 (by omega)).trans ((fsh_59 206 (by omega)).trans ((fsh_57 206 (by omega)).trans ((fsh_55 206 (by omega)).trans ((fsh_53 206 (by omega)).trans ((fsh_42 206 (by omega)).trans ((fsh_40 206 (by omega)).trans ((fsh_38 206 (by omega)).trans ((fsh_36 206 (by omega)).trans ((fsh_34 206 (by omega)).trans ((fsh_32 206 (by omega)).trans ((fsh_30 206 (by omega)).trans ((fsh_28 206 (by omega)).trans ((fsh_26 206 (by omega)).trans ((fsh_24 206 (by omega)).trans qsh_22)))))))))))))))))))))))))))))))
                                                                                    have m207 : sh_367 207 = some (mI 24) := ((fsh_367 207 (by omega)).trans ((fsh_365 207 (by omega)).trans ((fsh_363 207 (by omega)).trans ((fsh_361 207 (by omega)).trans ((fsh_359 207 (by omega)).trans ((fsh_357 207 (by omega)).trans ((fsh_355 207 (by omega)).trans ((fsh_353 207 (by omega)).trans ((fsh_351 207 (by omega)).trans ((fsh_349 207 (by omega)).trans ((fsh_347 207 (by omega)).trans ((fsh_345 207 (by omega)).trans ((fsh_343 207 (by omega)).trans ((fsh_148 207 (by omega)).trans ((fsh_146 207 (by omega)).trans ((fsh_63 207 (by omega)).trans ((fsh_61 207 (by omega)).trans ((fsh_59 207 (by omega)).trans ((fsh_57 207 (by omega)).trans ((fsh_55 207 (by omega)).trans ((fsh_53 207 (by omega)).trans ((fsh_42 207 (by omega)).trans ((fsh_40 207 (by omega)).trans ((fsh_38 207 (by omega)).trans ((fsh_36 207 (by omega)).trans ((fsh_34 207 (by omega)).trans ((fsh_32 207 (by omega)).trans ((fsh_30 207 (by omega)).trans ((fsh_28 207 (by omega)).trans qsh_26)))))))))))))))))))))))))))))
                                                                                    have m208 : sh_367 208 = some (mI 72) := ((fsh_367 208 (by omega)).trans ((fsh_365 208 (by omega)).trans ((fsh_363 208 (by omega)).trans ((fsh_361 208 (by omega)).trans ((fsh_359 208 (by omega)).trans ((fsh_357 208 (by omega)).trans ((fsh_355 208 (by omega)).trans ((fsh_353 208 (by omega)).trans ((fsh_351 208 (by omega)).trans ((fsh_349 208 (by omega)).trans ((fsh_347 208 (by omega)).trans ((fsh_345 208 (by omega)).trans ((fsh_343 208 (by omega)).trans ((fsh_148 208 (by omega)).trans ((fsh_146 208 (by omega)).trans ((fsh_63 208 (by omega)).trans ((fsh_61 208 (by omega)).trans ((fsh_59 208 (by omega)).trans ((fsh_57 208 (by omega)).trans ((fsh_55 208 (by omega)).trans ((fsh_53 208 (by omega)).trans ((fsh_42 208 (by omega)).trans ((fsh_40 208 (by omega)).trans ((fsh_38 208 (by omega)).trans ((fsh_36 208 (by omega)).trans ((fsh_34 208 (by omega)).trans ((fsh_32 208 (by omega)).trans qsh_30)))))))))))))))))))))))))))
                                                                                    have m209 : sh_367 209 = some (mI 15) := ((fsh_367 209 (by omega)).trans ((fsh_365 209 (by omega)).trans ((fsh_363 209 (by omega)).trans ((fsh_361 209 (by omega)).trans ((fsh_359 209 (by omega)).trans ((fsh_357 209 (by omega)).trans ((fsh_355 209 (by omega)).trans ((fsh_353 209 (by omega)).trans ((fsh_351 209 (by omega)).trans ((fsh_349 209 (by omega)).trans ((fsh_347 209 (by omega)).trans ((fsh_345 209 (by omega)).trans ((fsh_343 209 (by omega)).trans ((fsh_148 209 (by omega)).trans ((fsh_146 209 (by omega)).trans ((fsh_63 209 (by omega)).trans ((fsh_61 209 (by omega)).trans ((fsh_59 209 (by omega)).trans ((fsh_57 209 (by omega)).trans ((fsh_55 209 (by omega)).trans ((fsh_53 209 (by omega)).trans ((fsh_42 209 (by omega)).trans ((fsh_40 209 (by omega)).trans ((fsh_38 209 (by omega)).trans ((fsh_36 209 (by omega)).trans qsh_34)))))))))))))))))))))))))
                                                                                    have m210 : sh_367 210 = some (mI 4) := ((fsh_367 210 (by omega)).trans ((fsh_365 210 (by omega)).trans ((fsh_363 210 (by omega)).trans ((fsh_361 210 (by omega)).trans ((fsh_359 210 (by omega)).trans ((fsh_357 210 (by omega)).trans ((fsh_355 210 (by omega)).trans ((fsh_353 210 (by omega)).trans ((fsh_351 210 (by omega)).trans ((fsh_349 210 (by omega)).trans ((fsh_347 210 (by omega)).trans ((fsh_345 210 (by omega)).trans ((fsh_343 210 (by omega)).trans ((fsh_148 210 (by omega)).trans ((fsh_146 210 (by omega)).trans ((fsh_63 210 (by omega)).trans ((fsh_61 210 (by omega)).trans ((fsh_59 210 (by omega)).trans ((fsh_57 210 (by omega)).trans ((fsh_55 210 (by omega)).trans ((fsh_53 210 (by omega)).trans ((fsh_42 210 (by omega)).trans ((fsh_40 210 (by omega)).trans qsh_38)))))))))))))))))))))))
                                                                                    have m211 : sh_367 211 = some (mI 4) := ((fsh_367 211 (by omega)).trans ((fsh_365 211 (by omega)).trans ((fsh_363 211 (by omega)).trans ((fsh_361 211 (by omega)).trans ((fsh_359 211 (by omega)).trans ((fsh_357 211 (by omega)).trans ((fsh_355 211 (by omega)).trans ((fsh_353 211 (by omega)).trans ((fsh_351 211 (by omega)).trans ((fsh_349 211 (by omega)).trans ((fsh_347 211 (by omega)).trans ((fsh_345 211 (by omega)).trans ((fsh_343 211 (by omega)).trans ((fsh_148 211 (by omega)).trans ((fsh_146 211 (by omega)).trans ((fsh_63 211 (by omega)).trans ((fsh_61 211 (by omega)).trans ((fsh_59 211 (by omega)).trans ((fsh_57 211 (by omega)).trans ((fsh_55 211 (by omega)).trans ((fsh_53 211 (by omega)).trans qsh_42)))))))))))))))))))))
                                                                                    have m212 : sh_367 212 = some (mI 4) := ((fsh_367 212 (by omega)).trans ((fsh_365 212 (by omega)).trans ((fsh_363 212 (by omega)).trans ((fsh_361 212 (by omega)).trans ((fsh_359 212 (by omega)).trans ((fsh_357 212 (by omega)).trans ((fsh_355 212 (by omega)).trans ((fsh_353 212 (by omega)).trans ((fsh_351 212 (by omega)).trans ((fsh_349 212 (by omega)).trans ((fsh_347 212 (by omega)).trans ((fsh_345 212 (by omega)).trans ((fsh_343 212 (by omega)).trans ((fsh_148 212 (by omega)).trans ((fsh_146 212 (by omega)).trans ((fsh_63 212 (by omega)).trans ((fsh_61 212 (by omega)).trans ((fsh_59 212 (by omega)).trans ((fsh_57 212 (by omega)).trans qsh_55)))))))))))))))))))
                                                                                    have m213 : sh_367 213 = some (mI 160) := ((fsh_367 213 (by omega)).trans ((fsh_365 213 (by omega)).trans ((fsh_363 213 (by omega)).trans ((fsh_361 213 (by omega)).trans ((fsh_359 213 (by omega)).trans ((fsh_357 213 (by omega)).trans ((fsh_355 213 (by omega)).trans ((fsh_353 213 (by omega)).trans ((fsh_351 213 (by omega)).trans ((fsh_349 213 (by omega)).trans ((fsh_347 213 (by omega)).trans ((fsh_345 213 (by omega)).trans ((fsh_343 213 (by omega)).trans ((fsh_148 213 (by omega)).trans ((fsh_146 213 (by omega)).trans ((fsh_63 213 (by omega)).trans ((fsh_61 213 (by omega)).trans qsh_59)))))))))))))))))
                                                                                    have m214 : sh_367 214 = some (mI 40) := s214
                                                                                    have m215 : sh_367 215 = some (mI 96) := ((fsh_367 215 (by omega)).trans ((fsh_365 215 (by omega)).trans ((fsh_363 215 (by omega)).trans ((fsh_361 215 (by omega)).trans ((fsh_359 215 (by omega)).trans ((fsh_357 215 (by omega)).trans ((fsh_355 215 (by omega)).trans ((fsh_353 215 (by omega)).trans ((fsh_351 215 (by omega)).trans ((fsh_349 215 (by omega)).trans ((fsh_347 215 (by omega)).trans ((fsh_345 215 (by omega)).trans ((fsh_343 215 (by omega)).trans qsh_148)))))))))))))
                                                                                    have m216 : sh_367 216 = some (mI 200) := ((fsh_367 216 (by omega)).trans ((fsh_365 216 (by omega)).trans ((fsh_363 216 (by omega)).trans ((fsh_361 216 (by omega)).trans ((fsh_359 216 (by omega)).trans ((fsh_357 216 (by omega)).trans ((fsh_355 216 (by omega)).trans ((fsh_353 216 (by omega)).trans ((fsh_351 216 (by omega)).trans ((fsh_349 216 (by omega)).trans ((fsh_347 216 (by omega)).trans qsh_345)))))))))))
                                                                                    have m217 : sh_367 217 = some (mS 200) := ((fsh_367 217 (by omega)).trans ((fsh_365 217 (by omega)).trans ((fsh_363 217 (by omega)).trans ((fsh_361 217 (by omega)).trans ((fsh_359 217 (by omega)).trans ((fsh_357 217 (by omega)).trans ((fsh_355 217 (by omega)).trans ((fsh_353 217 (by omega)).trans ((fsh_351 217 (by omega)).trans qsh_349)))))))))
                                                                                    have m218 : sh_367 218 = some (mS 6) := ((fsh_367 218 (by omega)).trans ((fsh_365 218 (by omega)).trans ((fsh_363 218 (by omega)).trans ((fsh_361 218 (by omega)).trans ((fsh_359 218 (by omega)).trans ((fsh_357 218 (by omega)).trans ((fsh_355 218 (by omega)).trans qsh_353)))))))
                                                                                    have m219 : sh_367 219 = some (mI 21) := ((fsh_367 219 (by omega)).trans ((fsh_365 219 (by omega)).trans ((fsh_363 219 (by omega)).trans ((fsh_361 219 (by omega)).trans ((fsh_359 219 (by omega)).trans qsh_357)))))
                                                                                    have m220 : sh_367 220 = some (mI 5) := ((fsh_367 220 (by omega)).trans ((fsh_365 220 (by omega)).trans ((fsh_363 220 (by omega)).trans qsh_361)))
                                                                                    have m221 : sh_367 221 = some (mS 1024) := ((fsh_367 221 (by omega)).trans qsh_365)
                                                                                    have hM : MSh sh_367 := ⟨m200, m201, m202, m203, m204, m205, m206, m207, m208, m209, m210, m211, m212, m213, m214, m215, m216, m217, m218, m219, m220, m221⟩
                                                                                    have z200 : ∀ k, k ≠ 8 → V_490 200 k = 0 := fun k hk => by rw [eV_490, mU_ne _ _ (by omega), fV_487 200 (by omega), fV_366 200 (by omega), fV_362 200 (by omega), fV_358 200 (by omega), fV_354 200 (by omega), fV_350 200 (by omega), fV_346 200 (by omega), fV_341 200 (by omega), fV_149 200 (by omega), fV_144 200 (by omega), fV_64 200 (by omega), fV_60 200 (by omega), fV_56 200 (by omega), fV_51 200 (by omega), fV_43 200 (by omega), fV_39 200 (by omega), fV_35 200 (by omega), fV_31 200 (by omega), fV_27 200 (by omega), fV_23 200 (by omega), fV_19 200 (by omega), fV_15 200 (by omega), fV_11 200 (by omega), fV_7 200 (by omega), fV_3 200 (by omega), hz]
                                                                                    have z8 : V_490 200 8 = nI 40 := by rw [eV_490, mU_eq]
                                                                                    have z211a : ∀ k, k < 4 → V_490 211 k = so0.getD k 0 := fun k hk => by rw [fV_490 211 (by omega), fV_487 211 (by omega), fV_366 211 (by omega), fV_362 211 (by omega), fV_358 211 (by omega), fV_354 211 (by omega), fV_350 211 (by omega), fV_346 211 (by omega), fV_341 211 (by omega), fV_149 211 (by omega), fV_144 211 (by omega), fV_64 211 (by omega), fV_60 211 (by omega), fV_56 211 (by omega)]; exact hf_52.1 k hk
                                                                                    have z211 : ∀ k, k < 4 → V_490 211 k = -1 := fun k hk => (z211a k hk).trans ((by decide +kernel : ∀ k, k < 4 → so0.getD k 0 = -1) k hk)
                                                                                    have z212 : ∀ k, V_490 212 k = 0 := fun k => by rw [fV_490 212 (by omega), fV_487 212 (by omega), fV_366 212 (by omega), fV_362 212 (by omega), fV_358 212 (by omega), fV_354 212 (by omega), fV_350 212 (by omega), fV_346 212 (by omega), fV_341 212 (by omega), fV_149 212 (by omega), fV_144 212 (by omega), fV_64 212 (by omega), fV_60 212 (by omega), qV_56]
                                                                                    have z213 : ∀ k, V_490 213 k = 0 := fun k => by rw [fV_490 213 (by omega), fV_487 213 (by omega), fV_366 213 (by omega), fV_362 213 (by omega), fV_358 213 (by omega), fV_354 213 (by omega), fV_350 213 (by omega), fV_346 213 (by omega), fV_341 213 (by omega), fV_149 213 (by omega), fV_144 213 (by omega), fV_64 213 (by omega), qV_60]
                                                                                    have z215 : ∀ k, k < 96 → V_490 215 k = wdT.getD k 0 := fun k hk => by rw [fV_490 215 (by omega), fV_487 215 (by omega), fV_366 215 (by omega), fV_362 215 (by omega), fV_358 215 (by omega), fV_354 215 (by omega), fV_350 215 (by omega), fV_346 215 (by omega)]; exact hf_342.1 k hk
                                                                                    have z205 : ∀ k, k < 40 → V_490 205 k = tx0.getD k 0 := fun k hk => by rw [fV_490 205 (by omega)]; exact hf_488.1 k hk
                                                                                    refine m_ci (m_rV S hW (c_X11_text l G ad_364 sh_367 V_490 40 (V_490 205) qs0 0 hM rfl z8 (by decide) z215 (by rw [z200 11 (by decide)]; exact nI_0.symm) (by decide) rfl) (cwV 0 hts (gCall [.methodLink RX11 77 yX11_text, .instanceMethod yX11_text, .selects RX11 yX11_text yX11_text, .initialized RX11] (List.forall_mem_cons.mpr ⟨(wa_12 _ (List.mem_of_getElem? (i := 3) (by decide +kernel))), (List.forall_mem_cons.mpr ⟨(wa_12 _ (List.mem_of_getElem? (i := 0) (by decide +kernel))), (List.forall_mem_cons.mpr ⟨(wa_12 _ (List.mem_of_getElem? (i := 1) (by decide +kernel))), (List.forall_mem_cons.mpr ⟨(wa_12 _ (List.mem_of_getElem? (i := 2) (by decide +kernel))), (List.forall_mem_cons.mpr ⟨(wa_1 _ (List.mem_of_getElem? (i := 5) (by decide +kernel))), (fun _ h => absurd h List.not_mem_nil)⟩)⟩)⟩)⟩)⟩)) rfl rfl rfl (by decide +kernel) ⟨(Nat.le_of_ble_eq_true rfl), (Nat.le_of_ble_eq_true rfl)⟩) s200 kX11 rfl hl.1 rfl (Nat.le_of_ble_eq_true rfl) dX11_init_1025 ⟨(Nat.le_of_ble_eq_true rfl), (Nat.le_of_ble_eq_true rfl)⟩) hW (fun r0 V9 H locs hp hW => ?_)
                                                                                    obtain ⟨hMI, fV9⟩ := mi_q00 hM z200 z211 z212 z213 z215 z205 hp
                                                                                    clear hp
                                                                                    refine lv_pop hx hb dX11_init_1028 rfl ?_
                                                                                    refine W.widen (k := 21) (n := 3332) (Nat.le_of_ble_eq_true rfl) (Nat.le_of_ble_eq_true rfl) ?_
                                                                                    refine W.vret S.1 S.2.1 hr (m_post hW ?_) hW.2.2.1.2.2 dX11_init_1029 hlk
                                                                                    exact ⟨rfl, fun a ha => (fad_364 a (by omega)).trans ((fad_360 a (by omega)).trans ((fad_356 a (by omega)).trans ((fad_352 a (by omega)).trans ((fad_348 a (by omega)).trans ((fad_344 a (by omega)).trans ((fad_147 a (by omega)).trans ((fad_62 a (by omega)).trans ((fad_58 a (by omega)).trans ((fad_54 a (by omega)).trans ((fad_41 a (by omega)).trans ((fad_37 a (by omega)).trans ((fad_33 a (by omega)).trans ((fad_29 a (by omega)).trans ((fad_25 a (by omega)).trans ((fad_21 a (by omega)).trans ((fad_17 a (by omega)).trans ((fad_13 a (by omega)).trans ((fad_9 a (by omega)).trans ((fad_5 a (by omega)).trans (fad_1 a (by omega))))))))))))))))))))), fun a ha => (fsh_367 a (by omega)).trans ((fsh_365 a (by omega)).trans ((fsh_363 a (by omega)).trans ((fsh_361 a (by omega)).trans ((fsh_359 a (by omega)).trans ((fsh_357 a (by omega)).trans ((fsh_355 a (by omega)).trans ((fsh_353 a (by omega)).trans ((fsh_351 a (by omega)).trans ((fsh_349 a (by omega)).trans ((fsh_347 a (by omega)).trans ((fsh_345 a (by omega)).trans ((fsh_343 a (by omega)).trans ((fsh_148 a (by omega)).trans ((fsh_146 a (by omega)).trans ((fsh_63 a (by omega)).trans ((fsh_61 a (by omega)).trans ((fsh_59 a (by omega)).trans ((fsh_57 a (by omega)).trans ((fsh_55 a (by omega)).trans ((fsh_53 a (by omega)).trans ((fsh_42 a (by omega)).trans ((fsh_40 a (by omega)).trans ((fsh_38 a (by omega)).trans ((fsh_36 a (by omega)).trans ((fsh_34 a (by omega)).trans ((fsh_32 a (by omega)).trans ((fsh_30 a (by omega)).trans ((fsh_28 a (by omega)).trans ((fsh_26 a (by omega)).trans ((fsh_24 a (by omega)).trans ((fsh_22 a (by omega)).trans ((fsh_20 a (by omega)).trans ((fsh_18 a (by omega)).trans ((fsh_16 a (by omega)).trans ((fsh_14 a (by omega)).trans ((fsh_12 a (by omega)).trans ((fsh_10 a (by omega)).trans ((fsh_8 a (by omega)).trans ((fsh_6 a (by omega)).trans ((fsh_4 a (by omega)).trans (fsh_2 a (by omega)))))))))))))))))))))))))))))))))))))))))), fun a ha => (fV9 a (by omega)).trans ((fV_490 a (by omega)).trans ((fV_487 a (by omega)).trans ((fV_366 a (by omega)).trans ((fV_362 a (by omega)).trans ((fV_358 a (by omega)).trans ((fV_354 a (by omega)).trans ((fV_350 a (by omega)).trans ((fV_346 a (by omega)).trans ((fV_341 a (by omega)).trans ((fV_149 a (by omega)).trans ((fV_144 a (by omega)).trans ((fV_64 a (by omega)).trans ((fV_60 a (by omega)).trans ((fV_56 a (by omega)).trans ((fV_51 a (by omega)).trans ((fV_43 a (by omega)).trans ((fV_39 a (by omega)).trans ((fV_35 a (by omega)).trans ((fV_31 a (by omega)).trans ((fV_27 a (by omega)).trans ((fV_23 a (by omega)).trans ((fV_19 a (by omega)).trans ((fV_15 a (by omega)).trans ((fV_11 a (by omega)).trans ((fV_7 a (by omega)).trans (fV_3 a (by omega))))))))))))))))))))))))))), hMI⟩
                                                                                  · exact absurd c_489 (by decide)
