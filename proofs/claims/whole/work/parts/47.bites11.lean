/-! the reference: bites -/
section SAYS11
variable (l : Launch) (G : mG) (ad : Nat → Nat) (sh : Nat → Option mSh) (V : mV) (rl : Nat) (tx : sT) (pt : Nat)
theorem c_X11_says (k200 : sh 200 = some sM) (k206 : sh 206 = some (mI 1200)) (k207 : sh 207 = some (mI 24)) (k217 : sh 217 = some (mS 200)) (k218 : sh 218 = some (mI 6)) (hrl : V 200 12 = nI rl) (hrl6 : rl < 6) (htx : MTx V rl tx) (hwf : WfT tx) (hpt : pt < 3) : mM l yX11_says wsX11_says ({ frames := 1, cells := 0, slots := 0, locals := 22 } : Room) G ad sh V [.ref (ad 200), .int (nI pt)] 0 0 (mPe ad sh V (saysT tx pt (V 218))) := by
  obtain ⟨a1, a2, a3, a4, a5, a6, a7, a8⟩ := htx
  match pt, hpt with
  | 0, _ => exact c_X11_says_0 l G ad sh V (fun k => tx.1.getD k 0) rl tx.2.1 tx.2.2 tx.1.length k200 k206 k207 k217 k218 hrl hrl6 a1 a2 a3 a4 a5 ⟨a6, a7, a8⟩ hwf.1
  | 1, _ => exact c_X11_says_1 l G ad sh V (fun k => tx.1.getD k 0) rl tx.2.1 tx.2.2 tx.1.length k200 k206 k207 k217 k218 hrl hrl6 a1 a2 a3 a4 a5 ⟨a6, a7, a8⟩ hwf.2.1
  | 2, _ => exact c_X11_says_2 l G ad sh V (fun k => tx.1.getD k 0) rl tx.2.1 tx.2.2 tx.1.length k200 k206 k207 k217 k218 hrl hrl6 a1 a2 a3 a4 a5 ⟨a6, a7, a8⟩ hwf.2.2
end SAYS11
set_option maxHeartbeats 4000000 in
set_option maxRecDepth 100000 in
theorem c_X11_leftOf (l : Launch) (G : mG) (ad : Nat → Nat) (sh : Nat → Option mSh) (V : mV) (g lf : Nat) (k200 : sh 200 = some sM) (k201 : sh 201 = some (mI 72)) (hrd : V 201 (12 * g + 11) = nI lf) (hg6 : g < 6) : mM l yX11_leftOf wsX11_leftOf ({ frames := 0, cells := 0, slots := 0, locals := 0 } : Room) G ad sh V [.ref (ad 200), .int (nI g)] 0 0 (mPe ad sh V (nI lf)) := by
  refine mM.of (cc := cX11_leftOf) (maxL := 2) (ret := (some .int)) (by decide) rfl (Nat.le_of_ble_eq_true rfl) ?_
  intro p e s m below meth c S hr hlk hnm hW ls hl
  obtain ⟨hx, hb, hml, hown, hts⟩ := id S
  have hl : lv_has ls 2 [(0, .ref (ad 200)), (1, .int (nI g))] := hl
  have hS0 : True := trivial
  refine lv_aload_n hx hb dX11_leftOf_0 rfl (lv_at hl 0 rfl) ?_
  refine m_getr S hW k200 1 rfl (j := 201) rfl kX11 (iW11 _) (by decide) (List.mem_cons_of_mem _ (wa_11 _ (List.mem_of_getElem? (i := 2) (by decide +kernel)))) dX11_leftOf_1 ?_
  refine lv_bipush (v := nI 12) hx hb dX11_leftOf_4 (by decide) ?_
  refine lv_iload_n hx hb dX11_leftOf_6 rfl (lv_at hl 1 rfl) ?_
  refine lv_imul hx hb dX11_leftOf_7 ?_
  refine m_top (y := nI (12 * g)) (pk_mul 12 g) ?_
  refine lv_bipush (v := nI 11) hx hb dX11_leftOf_8 (by decide) ?_
  refine lv_iadd hx hb dX11_leftOf_10 ?_
  refine m_top (y := nI ((12 * g) + 11)) (nI_add (12 * g) 11) ?_
  refine m_iald S hW k201 ((12 * g) + 11) rfl (by omega) (by decide) dX11_leftOf_11 ?_
  refine m_top (y := nI lf) hrd ?_
  exact m_iret S hr hlk hW dX11_leftOf_12 ⟨rfl, (by rfl)⟩
set_option maxHeartbeats 4000000 in
set_option maxRecDepth 100000 in
theorem c_X11_softOf (l : Launch) (G : mG) (ad : Nat → Nat) (sh : Nat → Option mSh) (V : mV) (g lf : Nat) (k200 : sh 200 = some sM) (k201 : sh 201 = some (mI 72)) (hrd : V 201 (12 * g + 10) = nI lf) (hg6 : g < 6) : mM l yX11_softOf wsX11_softOf ({ frames := 0, cells := 0, slots := 0, locals := 0 } : Room) G ad sh V [.ref (ad 200), .int (nI g)] 0 0 (mPe ad sh V (nI lf)) := by
  refine mM.of (cc := cX11_softOf) (maxL := 2) (ret := (some .int)) (by decide) rfl (Nat.le_of_ble_eq_true rfl) ?_
  intro p e s m below meth c S hr hlk hnm hW ls hl
  obtain ⟨hx, hb, hml, hown, hts⟩ := id S
  have hl : lv_has ls 2 [(0, .ref (ad 200)), (1, .int (nI g))] := hl
  have hS0 : True := trivial
  refine lv_aload_n hx hb dX11_softOf_0 rfl (lv_at hl 0 rfl) ?_
  refine m_getr S hW k200 1 rfl (j := 201) rfl kX11 (iW11 _) (by decide) (List.mem_cons_of_mem _ (wa_11 _ (List.mem_of_getElem? (i := 2) (by decide +kernel)))) dX11_softOf_1 ?_
  refine lv_bipush (v := nI 12) hx hb dX11_softOf_4 (by decide) ?_
  refine lv_iload_n hx hb dX11_softOf_6 rfl (lv_at hl 1 rfl) ?_
  refine lv_imul hx hb dX11_softOf_7 ?_
  refine m_top (y := nI (12 * g)) (pk_mul 12 g) ?_
  refine lv_bipush (v := nI 10) hx hb dX11_softOf_8 (by decide) ?_
  refine lv_iadd hx hb dX11_softOf_10 ?_
  refine m_top (y := nI ((12 * g) + 10)) (nI_add (12 * g) 10) ?_
  refine m_iald S hW k201 ((12 * g) + 10) rfl (by omega) (by decide) dX11_softOf_11 ?_
  refine m_top (y := nI lf) hrd ?_
  exact m_iret S hr hlk hW dX11_softOf_12 ⟨rfl, (by rfl)⟩
set_option maxHeartbeats 4000000 in
set_option maxRecDepth 100000 in
theorem c_X11_isEater (l : Launch) (G : mG) (ad : Nat → Nat) (sh : Nat → Option mSh) (V : mV) (z : fZ) (ne ng rl : Nat) (tx : sT) (y : Int32) (hZ : MZ sh V z ne ng rl tx) : mM l yX11_isEater wsX11_isEater ({ frames := 1, cells := 0, slots := 0, locals := 22 } : Room) G ad sh V [.ref (ad 200), .int y] 0 0 (mPip ad sh V (fun r => (nI 1 = r ∧ (mIn y 0 ne)) ∨ (nI 0 = r ∧ (¬ mIn y 0 ne)))) := by
  refine mM.of (cc := cX11_isEater) (maxL := 2) (ret := (some .boolean)) (by decide) rfl (Nat.le_of_ble_eq_true rfl) ?_
  intro p e s m below meth c S hr hlk hnm hW ls hl
  obtain ⟨hx, hb, hml, hown, hts⟩ := id S
  have hl : lv_has ls 2 [(0, .ref (ad 200)), (1, .int y)] := hl
  have hS0 : True := trivial
  have hne5 := hZ.ne5
  have hng6 := hZ.ng6
  refine lv_iload_n hx hb dX11_isEater_0 rfl (lv_at hl 1 rfl) ?_
  refine lv_iconst (v := nI 0) hx hb dX11_isEater_1 (by decide) ?_
  refine lv_aload_n hx hb dX11_isEater_2 rfl (lv_at hl 0 rfl) ?_
  refine m_geti S hW hZ.sp.1 2 rfl kX11 (iW11 _) (by decide) (List.mem_cons_of_mem _ (wa_15 _ (List.mem_of_getElem? (i := 0) (by decide +kernel)))) dX11_isEater_3 ?_
  refine m_top (y := nI ne) hZ.ne_ ?_
  refine lv_iconst (v := nI 1) hx hb dX11_isEater_6 (by decide) ?_
  refine lv_isub hx hb dX11_isEater_7 ?_
  refine m_cip (m_rS S hW (c_X11_in_c l G ad sh V y ((nI ne) - (nI 1)) ne (by exact pk_sub_toInt (by omega) (by decide))) (va_cwS 3 hts (gCall [.methodLink RX11 84 yX11_in, .static yX11_in, .initialized RX11] (List.forall_mem_cons.mpr ⟨(wa_12 _ (List.mem_of_getElem? (i := 16) (by decide +kernel))), (List.forall_mem_cons.mpr ⟨(wa_12 _ (List.mem_of_getElem? (i := 14) (by decide +kernel))), (List.forall_mem_cons.mpr ⟨(wa_12 _ (List.mem_of_getElem? (i := 15) (by decide +kernel))), (List.forall_mem_cons.mpr ⟨(wa_1 _ (List.mem_of_getElem? (i := 5) (by decide +kernel))), (fun _ h => absurd h List.not_mem_nil)⟩)⟩)⟩)⟩)) rfl rfl rfl (by decide +kernel) ⟨Nat.le_of_ble_eq_true rfl, Nat.le_of_ble_eq_true rfl⟩) rfl hl.1 rfl (Nat.le_of_ble_eq_true rfl) dX11_isEater_8 ⟨Nat.le_of_ble_eq_true rfl, Nat.le_of_ble_eq_true rfl⟩) hW (fun r_2 H locs hp_1 hW => ?_)
  rcases hp_1 with ⟨rfl, w_3⟩ | ⟨rfl, w_4⟩
  · skip
    exact m_zret S hr hlk hW rfl dX11_isEater_11 ⟨rfl, (by first | exact Or.inl ⟨rfl, w_3⟩ | exact Or.inr ⟨rfl, w_3⟩)⟩
  · skip
    exact m_zret S hr hlk hW rfl dX11_isEater_11 ⟨rfl, (by first | exact Or.inl ⟨rfl, w_4⟩ | exact Or.inr ⟨rfl, w_4⟩)⟩
set_option maxHeartbeats 4000000 in
set_option maxRecDepth 100000 in
theorem c_X11_isGood (l : Launch) (G : mG) (ad : Nat → Nat) (sh : Nat → Option mSh) (V : mV) (z : fZ) (ne ng rl : Nat) (tx : sT) (y : Int32) (hZ : MZ sh V z ne ng rl tx) : mM l yX11_isGood wsX11_isGood ({ frames := 1, cells := 0, slots := 0, locals := 22 } : Room) G ad sh V [.ref (ad 200), .int y] 0 0 (mPip ad sh V (fun r => (nI 1 = r ∧ (mIn y 0 ng)) ∨ (nI 0 = r ∧ (¬ mIn y 0 ng)))) := by
  refine mM.of (cc := cX11_isGood) (maxL := 2) (ret := (some .boolean)) (by decide) rfl (Nat.le_of_ble_eq_true rfl) ?_
  intro p e s m below meth c S hr hlk hnm hW ls hl
  obtain ⟨hx, hb, hml, hown, hts⟩ := id S
  have hl : lv_has ls 2 [(0, .ref (ad 200)), (1, .int y)] := hl
  have hS0 : True := trivial
  have hne5 := hZ.ne5
  have hng6 := hZ.ng6
  refine lv_iload_n hx hb dX11_isGood_0 rfl (lv_at hl 1 rfl) ?_
  refine lv_iconst (v := nI 0) hx hb dX11_isGood_1 (by decide) ?_
  refine lv_aload_n hx hb dX11_isGood_2 rfl (lv_at hl 0 rfl) ?_
  refine m_geti S hW hZ.sp.1 0 rfl kX11 (iW11 _) (by decide) (List.mem_cons_of_mem _ (wa_15 _ (List.mem_of_getElem? (i := 1) (by decide +kernel)))) dX11_isGood_3 ?_
  refine m_top (y := nI ng) hZ.ng_ ?_
  refine lv_iconst (v := nI 1) hx hb dX11_isGood_6 (by decide) ?_
  refine lv_isub hx hb dX11_isGood_7 ?_
  refine m_cip (m_rS S hW (c_X11_in_c l G ad sh V y ((nI ng) - (nI 1)) ng (by exact pk_sub_toInt (by omega) (by decide))) (va_cwS 3 hts (gCall [.methodLink RX11 84 yX11_in, .static yX11_in, .initialized RX11] (List.forall_mem_cons.mpr ⟨(wa_12 _ (List.mem_of_getElem? (i := 16) (by decide +kernel))), (List.forall_mem_cons.mpr ⟨(wa_12 _ (List.mem_of_getElem? (i := 14) (by decide +kernel))), (List.forall_mem_cons.mpr ⟨(wa_12 _ (List.mem_of_getElem? (i := 15) (by decide +kernel))), (List.forall_mem_cons.mpr ⟨(wa_1 _ (List.mem_of_getElem? (i := 5) (by decide +kernel))), (fun _ h => absurd h List.not_mem_nil)⟩)⟩)⟩)⟩)) rfl rfl rfl (by decide +kernel) ⟨Nat.le_of_ble_eq_true rfl, Nat.le_of_ble_eq_true rfl⟩) rfl hl.1 rfl (Nat.le_of_ble_eq_true rfl) dX11_isGood_8 ⟨Nat.le_of_ble_eq_true rfl, Nat.le_of_ble_eq_true rfl⟩) hW (fun r_2 H locs hp_1 hW => ?_)
  rcases hp_1 with ⟨rfl, w_3⟩ | ⟨rfl, w_4⟩
  · skip
    exact m_zret S hr hlk hW rfl dX11_isGood_11 ⟨rfl, (by first | exact Or.inl ⟨rfl, w_3⟩ | exact Or.inr ⟨rfl, w_3⟩)⟩
  · skip
    exact m_zret S hr hlk hW rfl dX11_isGood_11 ⟨rfl, (by first | exact Or.inl ⟨rfl, w_4⟩ | exact Or.inr ⟨rfl, w_4⟩)⟩
set_option maxHeartbeats 4000000 in
set_option maxRecDepth 100000 in
theorem c_X11_asksOf (l : Launch) (G : mG) (ad : Nat → Nat) (sh : Nat → Option mSh) (V : mV) (z : fZ) (ne ng rl : Nat) (tx : sT) (u g pt : Nat) (y w : Int32) (hZ : MZ sh V z ne ng rl tx) (he : u < ne) (hg : g < ng) (hpt : pt < 3) : mM l yX11_asksOf wsX11_asksOf ({ frames := 2, cells := 0, slots := 0, locals := 46 } : Room) G ad sh V [.ref (ad 200), .int (nI pt), .int (nI u), .int (nI g), .int y, .int w] 0 0 (mPe ad sh V (askT tx pt (fNm y w (z (10 + 2 * g) 1) (z (4 + u) 1) (z (10 + 2 * g) 2) (z 0 4)))) := by
  refine mM.of (cc := cX11_asksOf) (maxL := 6) (ret := (some .int)) (by decide) rfl (Nat.le_of_ble_eq_true rfl) ?_
  intro p e s m below meth c S hr hlk hnm hW ls hl
  obtain ⟨hx, hb, hml, hown, hts⟩ := id S
  have hl : lv_has ls 6 [(0, .ref (ad 200)), (1, .int (nI pt)), (2, .int (nI u)), (3, .int (nI g)), (4, .int y), (5, .int w)] := hl
  have hS0 : True := trivial
  have hne5 := hZ.ne5
  have hng6 := hZ.ng6
  have hM := hZ.sp
  have k218 := hM.2.2.2.2.2.2.2.2.2.2.2.2.2.2.2.2.2.2.1
  have k200 := hM.1
  have k201 := hM.2.1
  have k203 := hM.2.2.2.1
  have k206 := hM.2.2.2.2.2.2.1
  have k207 := hM.2.2.2.2.2.2.2.1
  have k217 := hM.2.2.2.2.2.2.2.2.2.2.2.2.2.2.2.2.2.1
  obtain ⟨lu0, hW⟩ := hW.learn k218
  have g200 : va_up sh 218 (some (mI 6)) 200 = _ := (show va_up sh 218 (some (mI 6)) 200 = sh 200 by simp only [va_up, if_neg (show ¬ 200 = 218 by decide)]).trans k200
  have g201 : va_up sh 218 (some (mI 6)) 201 = _ := (show va_up sh 218 (some (mI 6)) 201 = sh 201 by simp only [va_up, if_neg (show ¬ 201 = 218 by decide)]).trans k201
  have g203 : va_up sh 218 (some (mI 6)) 203 = _ := (show va_up sh 218 (some (mI 6)) 203 = sh 203 by simp only [va_up, if_neg (show ¬ 203 = 218 by decide)]).trans k203
  have g206 : va_up sh 218 (some (mI 6)) 206 = _ := (show va_up sh 218 (some (mI 6)) 206 = sh 206 by simp only [va_up, if_neg (show ¬ 206 = 218 by decide)]).trans k206
  have g207 : va_up sh 218 (some (mI 6)) 207 = _ := (show va_up sh 218 (some (mI 6)) 207 = sh 207 by simp only [va_up, if_neg (show ¬ 207 = 218 by decide)]).trans k207
  have g217 : va_up sh 218 (some (mI 6)) 217 = _ := (show va_up sh 218 (some (mI 6)) 217 = sh 217 by simp only [va_up, if_neg (show ¬ 217 = 218 by decide)]).trans k217
  have g218 : va_up sh 218 (some (mI 6)) 218 = some (mI 6) := by simp [va_up]
  generalize hsh : va_up sh 218 (some (mI 6)) = sh1 at hW g200 g201 g203 g206 g207 g217 g218
  generalize hV0 : va_up V 218 lu0 = V0 at hW
  have hfr : ∀ a, a ≠ 218 → V0 a = V a := fun a ha => by rw [← hV0]; simp [va_up, ha]
  refine lv_aload_n hx hb dX11_asksOf_0 rfl (lv_at hl 0 rfl) ?_
  refine m_getr S hW g200 31 rfl (j := 218) rfl kX11 (iW11 _) (by decide) (List.mem_cons_of_mem _ (wa_11 _ (List.mem_of_getElem? (i := 19) (by decide +kernel)))) dX11_asksOf_1 ?_
  refine lv_iconst (v := nI 0) hx hb dX11_asksOf_4 (by decide) ?_
  refine lv_iload hx hb dX11_asksOf_5 (lv_at hl 4 rfl) ?_
  refine m_iast S hW g218 0 rfl (by decide) (by decide) dX11_asksOf_7 (fun H locs hW => ?_)
  obtain ⟨V_1, eV_1⟩ : ∃ vv_ : mV, vv_ = mU V0 218 0 (y) := ⟨_, rfl⟩
  rw [← eV_1] at hW
  refine lv_aload_n hx hb dX11_asksOf_8 rfl (lv_at hl 0 rfl) ?_
  refine m_getr S hW g200 31 rfl (j := 218) rfl kX11 (iW11 _) (by decide) (List.mem_cons_of_mem _ (wa_11 _ (List.mem_of_getElem? (i := 19) (by decide +kernel)))) dX11_asksOf_9 ?_
  refine lv_iconst (v := nI 1) hx hb dX11_asksOf_12 (by decide) ?_
  refine lv_iload hx hb dX11_asksOf_13 (lv_at hl 5 rfl) ?_
  refine m_iast S hW g218 1 rfl (by decide) (by decide) dX11_asksOf_15 (fun H locs hW => ?_)
  obtain ⟨V_2, eV_2⟩ : ∃ vv_ : mV, vv_ = mU V_1 218 1 (w) := ⟨_, rfl⟩
  rw [← eV_2] at hW
  refine lv_aload_n hx hb dX11_asksOf_16 rfl (lv_at hl 0 rfl) ?_
  refine m_getr S hW g200 31 rfl (j := 218) rfl kX11 (iW11 _) (by decide) (List.mem_cons_of_mem _ (wa_11 _ (List.mem_of_getElem? (i := 19) (by decide +kernel)))) dX11_asksOf_17 ?_
  refine lv_iconst (v := nI 2) hx hb dX11_asksOf_20 (by decide) ?_
  refine lv_aload_n hx hb dX11_asksOf_21 rfl (lv_at hl 0 rfl) ?_
  refine lv_iload_n hx hb dX11_asksOf_22 rfl (lv_at hl 3 rfl) ?_
  refine m_cie (m_rV S hW (c_X11_softOf l G ad sh1 V_2 g (zn z (10 + 2 * g) 1) g200 g201 ((congrFun (show V_2 201 = V 201 by rw [eV_2, mU_no _ _ (by decide), eV_1, mU_no _ _ (by decide)]; exact hfr _ (by decide)) _).trans (hZ.rSo hg)) (by omega)) (cwV 1 hts (gCall [.methodLink RX11 164 yX11_softOf, .instanceMethod yX11_softOf, .selects RX11 yX11_softOf yX11_softOf, .initialized RX11] (List.forall_mem_cons.mpr ⟨(wa_19 _ (List.mem_of_getElem? (i := 15) (by decide +kernel))), (List.forall_mem_cons.mpr ⟨(wa_19 _ (List.mem_of_getElem? (i := 12) (by decide +kernel))), (List.forall_mem_cons.mpr ⟨(wa_19 _ (List.mem_of_getElem? (i := 13) (by decide +kernel))), (List.forall_mem_cons.mpr ⟨(wa_19 _ (List.mem_of_getElem? (i := 14) (by decide +kernel))), (List.forall_mem_cons.mpr ⟨(wa_1 _ (List.mem_of_getElem? (i := 5) (by decide +kernel))), (fun _ h => absurd h List.not_mem_nil)⟩)⟩)⟩)⟩)⟩)) rfl rfl rfl (by decide +kernel) ⟨Nat.le_of_ble_eq_true rfl, Nat.le_of_ble_eq_true rfl⟩) g200 kX11 rfl hl.1 rfl (Nat.le_of_ble_eq_true rfl) dX11_asksOf_23 ⟨Nat.le_of_ble_eq_true rfl, Nat.le_of_ble_eq_true rfl⟩) hW (fun H locs hW => ?_)
  refine m_iast S hW g218 2 rfl (by decide) (by decide) dX11_asksOf_26 (fun H locs hW => ?_)
  obtain ⟨V_3, eV_3⟩ : ∃ vv_ : mV, vv_ = mU V_2 218 2 (nI (zn z (10 + 2 * g) 1)) := ⟨_, rfl⟩
  rw [← eV_3] at hW
  refine lv_aload_n hx hb dX11_asksOf_27 rfl (lv_at hl 0 rfl) ?_
  refine m_getr S hW g200 31 rfl (j := 218) rfl kX11 (iW11 _) (by decide) (List.mem_cons_of_mem _ (wa_11 _ (List.mem_of_getElem? (i := 19) (by decide +kernel)))) dX11_asksOf_28 ?_
  refine lv_iconst (v := nI 3) hx hb dX11_asksOf_31 (by decide) ?_
  refine lv_aload_n hx hb dX11_asksOf_32 rfl (lv_at hl 0 rfl) ?_
  refine m_getr S hW g200 4 rfl (j := 203) rfl kX11 (iW11 _) (by decide) (List.mem_cons_of_mem _ (wa_11 _ (List.mem_of_getElem? (i := 4) (by decide +kernel)))) dX11_asksOf_33 ?_
  refine lv_iload_n hx hb dX11_asksOf_36 rfl (lv_at hl 2 rfl) ?_
  refine m_iald S hW g203 u rfl (by omega) (by decide) dX11_asksOf_37 ?_
  refine m_top (y := (z (4 + u) 1)) ((congrFun (show V_3 203 = V 203 by rw [eV_3, mU_no _ _ (by decide), eV_2, mU_no _ _ (by decide), eV_1, mU_no _ _ (by decide)]; exact hfr _ (by decide)) _).trans (hZ.iMo he)) ?_
  refine m_iast S hW g218 3 rfl (by decide) (by decide) dX11_asksOf_38 (fun H locs hW => ?_)
  obtain ⟨V_4, eV_4⟩ : ∃ vv_ : mV, vv_ = mU V_3 218 3 ((z (4 + u) 1)) := ⟨_, rfl⟩
  rw [← eV_4] at hW
  refine lv_aload_n hx hb dX11_asksOf_39 rfl (lv_at hl 0 rfl) ?_
  refine m_getr S hW g200 31 rfl (j := 218) rfl kX11 (iW11 _) (by decide) (List.mem_cons_of_mem _ (wa_11 _ (List.mem_of_getElem? (i := 19) (by decide +kernel)))) dX11_asksOf_40 ?_
  refine lv_iconst (v := nI 4) hx hb dX11_asksOf_43 (by decide) ?_
  refine lv_aload_n hx hb dX11_asksOf_44 rfl (lv_at hl 0 rfl) ?_
  refine lv_iload_n hx hb dX11_asksOf_45 rfl (lv_at hl 3 rfl) ?_
  refine m_cie (m_rV S hW (c_X11_leftOf l G ad sh1 V_4 g (zn z (10 + 2 * g) 2) g200 g201 ((congrFun (show V_4 201 = V 201 by rw [eV_4, mU_no _ _ (by decide), eV_3, mU_no _ _ (by decide), eV_2, mU_no _ _ (by decide), eV_1, mU_no _ _ (by decide)]; exact hfr _ (by decide)) _).trans (hZ.rLe hg)) (by omega)) (cwV 1 hts (gCall [.methodLink RX11 167 yX11_leftOf, .instanceMethod yX11_leftOf, .selects RX11 yX11_leftOf yX11_leftOf, .initialized RX11] (List.forall_mem_cons.mpr ⟨(wa_19 _ (List.mem_of_getElem? (i := 19) (by decide +kernel))), (List.forall_mem_cons.mpr ⟨(wa_19 _ (List.mem_of_getElem? (i := 16) (by decide +kernel))), (List.forall_mem_cons.mpr ⟨(wa_19 _ (List.mem_of_getElem? (i := 17) (by decide +kernel))), (List.forall_mem_cons.mpr ⟨(wa_19 _ (List.mem_of_getElem? (i := 18) (by decide +kernel))), (List.forall_mem_cons.mpr ⟨(wa_1 _ (List.mem_of_getElem? (i := 5) (by decide +kernel))), (fun _ h => absurd h List.not_mem_nil)⟩)⟩)⟩)⟩)⟩)) rfl rfl rfl (by decide +kernel) ⟨Nat.le_of_ble_eq_true rfl, Nat.le_of_ble_eq_true rfl⟩) g200 kX11 rfl hl.1 rfl (Nat.le_of_ble_eq_true rfl) dX11_asksOf_46 ⟨Nat.le_of_ble_eq_true rfl, Nat.le_of_ble_eq_true rfl⟩) hW (fun H locs hW => ?_)
  refine m_cie (m_rS S hW (c_X11_ones l G ad sh1 V_4 (zn z (10 + 2 * g) 2) ((hZ.ok.le hg).2)) (va_cwS 1 hts (gCall [.methodLink RX11 170 yX11_ones, .static yX11_ones, .initialized RX11] (List.forall_mem_cons.mpr ⟨(wa_19 _ (List.mem_of_getElem? (i := 22) (by decide +kernel))), (List.forall_mem_cons.mpr ⟨(wa_19 _ (List.mem_of_getElem? (i := 20) (by decide +kernel))), (List.forall_mem_cons.mpr ⟨(wa_19 _ (List.mem_of_getElem? (i := 21) (by decide +kernel))), (List.forall_mem_cons.mpr ⟨(wa_1 _ (List.mem_of_getElem? (i := 5) (by decide +kernel))), (fun _ h => absurd h List.not_mem_nil)⟩)⟩)⟩)⟩)) rfl rfl rfl (by decide +kernel) ⟨Nat.le_of_ble_eq_true rfl, Nat.le_of_ble_eq_true rfl⟩) rfl hl.1 rfl (Nat.le_of_ble_eq_true rfl) dX11_asksOf_49 ⟨Nat.le_of_ble_eq_true rfl, Nat.le_of_ble_eq_true rfl⟩) hW (fun H locs hW => ?_)
  refine m_iast S hW g218 4 rfl (by decide) (by decide) dX11_asksOf_52 (fun H locs hW => ?_)
  obtain ⟨V_5, eV_5⟩ : ∃ vv_ : mV, vv_ = mU V_4 218 4 (nI (fOnes (zn z (10 + 2 * g) 2))) := ⟨_, rfl⟩
  rw [← eV_5] at hW
  refine lv_aload_n hx hb dX11_asksOf_53 rfl (lv_at hl 0 rfl) ?_
  refine m_getr S hW g200 31 rfl (j := 218) rfl kX11 (iW11 _) (by decide) (List.mem_cons_of_mem _ (wa_11 _ (List.mem_of_getElem? (i := 19) (by decide +kernel)))) dX11_asksOf_54 ?_
  refine lv_iconst (v := nI 5) hx hb dX11_asksOf_57 (by decide) ?_
  refine lv_aload_n hx hb dX11_asksOf_58 rfl (lv_at hl 0 rfl) ?_
  refine m_geti S hW g200 6 rfl kX11 (iW11 _) (by decide) (List.mem_cons_of_mem _ (wa_15 _ (List.mem_of_getElem? (i := 2) (by decide +kernel)))) dX11_asksOf_59 ?_
  refine m_top (y := (z 0 4)) ((congrFun (show V_5 200 = V 200 by rw [eV_5, mU_no _ _ (by decide), eV_4, mU_no _ _ (by decide), eV_3, mU_no _ _ (by decide), eV_2, mU_no _ _ (by decide), eV_1, mU_no _ _ (by decide)]; exact hfr _ (by decide)) _).trans hZ.rDay) ?_
  refine m_iast S hW g218 5 rfl (by decide) (by decide) dX11_asksOf_62 (fun H locs hW => ?_)
  obtain ⟨V_6, eV_6⟩ : ∃ vv_ : mV, vv_ = mU V_5 218 5 ((z 0 4)) := ⟨_, rfl⟩
  rw [← eV_6] at hW
  refine lv_aload_n hx hb dX11_asksOf_63 rfl (lv_at hl 0 rfl) ?_
  refine lv_iload_n hx hb dX11_asksOf_64 rfl (lv_at hl 1 rfl) ?_
  refine m_cie (m_rV S hW (c_X11_says l G ad sh1 V_6 rl tx pt g200 g206 g207 g217 g218 ((congrFun (show V_6 200 = V 200 by rw [eV_6, mU_no _ _ (by decide), eV_5, mU_no _ _ (by decide), eV_4, mU_no _ _ (by decide), eV_3, mU_no _ _ (by decide), eV_2, mU_no _ _ (by decide), eV_1, mU_no _ _ (by decide)]; exact hfr _ (by decide)) _).trans hZ.rl_) hZ.rl6 (hZ.tx.eq (show V_6 206 = V 206 by rw [eV_6, mU_no _ _ (by decide), eV_5, mU_no _ _ (by decide), eV_4, mU_no _ _ (by decide), eV_3, mU_no _ _ (by decide), eV_2, mU_no _ _ (by decide), eV_1, mU_no _ _ (by decide)]; exact hfr _ (by decide)) (show V_6 207 = V 207 by rw [eV_6, mU_no _ _ (by decide), eV_5, mU_no _ _ (by decide), eV_4, mU_no _ _ (by decide), eV_3, mU_no _ _ (by decide), eV_2, mU_no _ _ (by decide), eV_1, mU_no _ _ (by decide)]; exact hfr _ (by decide))) hZ.wf hpt) (cwV 1 hts (gCall [.methodLink RX11 173 yX11_says, .instanceMethod yX11_says, .selects RX11 yX11_says yX11_says, .initialized RX11] (List.forall_mem_cons.mpr ⟨(wa_20 _ (List.mem_of_getElem? (i := 2) (by decide +kernel))), (List.forall_mem_cons.mpr ⟨(wa_19 _ (List.mem_of_getElem? (i := 23) (by decide +kernel))), (List.forall_mem_cons.mpr ⟨(wa_20 _ (List.mem_of_getElem? (i := 0) (by decide +kernel))), (List.forall_mem_cons.mpr ⟨(wa_20 _ (List.mem_of_getElem? (i := 1) (by decide +kernel))), (List.forall_mem_cons.mpr ⟨(wa_1 _ (List.mem_of_getElem? (i := 5) (by decide +kernel))), (fun _ h => absurd h List.not_mem_nil)⟩)⟩)⟩)⟩)⟩)) rfl rfl rfl (by decide +kernel) ⟨Nat.le_of_ble_eq_true rfl, Nat.le_of_ble_eq_true rfl⟩) g200 kX11 rfl hl.1 rfl (Nat.le_of_ble_eq_true rfl) dX11_asksOf_65 ⟨Nat.le_of_ble_eq_true rfl, Nat.le_of_ble_eq_true rfl⟩) hW (fun H locs hW => ?_)
  refine m_top (y := (saysT tx pt (fNm y w (z (10 + 2 * g) 1) (z (4 + u) 1) (z (10 + 2 * g) 2) (z 0 4)))) (saysT_congr (fun k hk => by rw [eV_6, eV_5, eV_4, eV_3, eV_2, eV_1, (hZ.ok.so hg).1, (hZ.ok.le hg).1, ← fBits_nI _ (hZ.ok.le hg).2]; exact fNm_row k hk) _ _) ?_
  refine lv_iconst (v := nI 0) hx hb dX11_asksOf_68 (by decide) ?_
  refine lv_iload_n hx hb dX11_asksOf_69 rfl (lv_at hl 1 rfl) ?_
  refine lv_iconst (v := nI 1) hx hb dX11_asksOf_70 (by decide) ?_
  refine lv_icmp_ne (tgt := 79) hx hb dX11_asksOf_71 (by decide) (fun c_7 => ?_) (fun c_7 => ?_)
  · skip
    have c_7 : ¬ pt = 1 := mt (nI_eq (by omega) (by omega)).mpr c_7
    refine lv_sipush (v := nI 999) hx hb dX11_asksOf_79 (by decide) ?_
    refine m_cie (m_rS S hW (c_X11_within l G ad sh1 V_6 (saysT tx pt (fNm y w (z (10 + 2 * g) 1) (z (4 + u) 1) (z (10 + 2 * g) 2) (z 0 4))) 0 999) (va_cwS 3 hts (gCall [.methodLink RX11 176 yX11_within, .static yX11_within, .initialized RX11] (List.forall_mem_cons.mpr ⟨(wa_20 _ (List.mem_of_getElem? (i := 8) (by decide +kernel))), (List.forall_mem_cons.mpr ⟨(wa_20 _ (List.mem_of_getElem? (i := 6) (by decide +kernel))), (List.forall_mem_cons.mpr ⟨(wa_20 _ (List.mem_of_getElem? (i := 7) (by decide +kernel))), (List.forall_mem_cons.mpr ⟨(wa_1 _ (List.mem_of_getElem? (i := 5) (by decide +kernel))), (fun _ h => absurd h List.not_mem_nil)⟩)⟩)⟩)⟩)) rfl rfl rfl (by decide +kernel) ⟨Nat.le_of_ble_eq_true rfl, Nat.le_of_ble_eq_true rfl⟩) rfl hl.1 rfl (Nat.le_of_ble_eq_true rfl) dX11_asksOf_82 ⟨Nat.le_of_ble_eq_true rfl, Nat.le_of_ble_eq_true rfl⟩) hW (fun H locs hW => ?_)
    have hW := hW.forget (sh' := sh) (V' := V) g218 k218 (fun a ha => by rw [← hsh]; simp [va_up, ha]) (fun a ha => (by simp only [eV_1, eV_2, eV_3, eV_4, eV_5, eV_6]; simp [mU_no, ha, hfr]))
    exact m_iret S hr hlk hW dX11_asksOf_85 ⟨rfl, (by rw [askT_says hZ.wf hpt]; first | (rw [if_pos c_7]; done) | (rw [if_neg c_7]; done))⟩
  · skip
    have c_7 : pt = 1 := (nI_eq (by omega) (by omega)).mp c_7
    refine lv_bipush (v := nI 99) hx hb dX11_asksOf_74 (by decide) ?_
    refine lv_goto (tgt := 82) hx hb dX11_asksOf_76 (by decide) ?_
    refine m_cie (m_rS S hW (c_X11_within l G ad sh1 V_6 (saysT tx pt (fNm y w (z (10 + 2 * g) 1) (z (4 + u) 1) (z (10 + 2 * g) 2) (z 0 4))) 0 99) (va_cwS 3 hts (gCall [.methodLink RX11 176 yX11_within, .static yX11_within, .initialized RX11] (List.forall_mem_cons.mpr ⟨(wa_20 _ (List.mem_of_getElem? (i := 8) (by decide +kernel))), (List.forall_mem_cons.mpr ⟨(wa_20 _ (List.mem_of_getElem? (i := 6) (by decide +kernel))), (List.forall_mem_cons.mpr ⟨(wa_20 _ (List.mem_of_getElem? (i := 7) (by decide +kernel))), (List.forall_mem_cons.mpr ⟨(wa_1 _ (List.mem_of_getElem? (i := 5) (by decide +kernel))), (fun _ h => absurd h List.not_mem_nil)⟩)⟩)⟩)⟩)) rfl rfl rfl (by decide +kernel) ⟨Nat.le_of_ble_eq_true rfl, Nat.le_of_ble_eq_true rfl⟩) rfl hl.1 rfl (Nat.le_of_ble_eq_true rfl) dX11_asksOf_82 ⟨Nat.le_of_ble_eq_true rfl, Nat.le_of_ble_eq_true rfl⟩) hW (fun H locs hW => ?_)
    have hW := hW.forget (sh' := sh) (V' := V) g218 k218 (fun a ha => by rw [← hsh]; simp [va_up, ha]) (fun a ha => (by simp only [eV_1, eV_2, eV_3, eV_4, eV_5, eV_6]; simp [mU_no, ha, hfr]))
    exact m_iret S hr hlk hW dX11_asksOf_85 ⟨rfl, (by rw [askT_says hZ.wf hpt]; first | (rw [if_pos c_7]; done) | (rw [if_neg c_7]; done))⟩
set_option maxHeartbeats 4000000 in
set_option maxRecDepth 100000 in
theorem c_X11_shapeOf (l : Launch) (G : mG) (ad : Nat → Nat) (sh : Nat → Option mSh) (V : mV) (z : fZ) (ne ng rl : Nat) (tx : sT) (u g : Nat) (hZ : MZ sh V z ne ng rl tx) (he : u < ne) (hg : g < ng) : mM l yX11_shapeOf wsX11_shapeOf ({ frames := 1, cells := 0, slots := 0, locals := 21 } : Room) G ad sh V [.ref (ad 200), .int (nI u), .int (nI g)] 0 0 (mPe ad sh V (zSp z u g)) := by
  refine mM.of (cc := cX11_shapeOf) (maxL := 4) (ret := (some .int)) (by decide) rfl (Nat.le_of_ble_eq_true rfl) ?_
  intro p e s m below meth c S hr hlk hnm hW ls hl
  obtain ⟨hx, hb, hml, hown, hts⟩ := id S
  have hl : lv_has ls 4 [(0, .ref (ad 200)), (1, .int (nI u)), (2, .int (nI g))] := hl
  have hS0 : True := trivial
  have hne5 := hZ.ne5
  have hng6 := hZ.ng6
  refine lv_aload_n hx hb dX11_shapeOf_0 rfl (lv_at hl 0 rfl) ?_
  refine m_getr S hW hZ.sp.1 5 rfl (j := 204) rfl kX11 (iW11 _) (by decide) (List.mem_cons_of_mem _ (wa_11 _ (List.mem_of_getElem? (i := 5) (by decide +kernel)))) dX11_shapeOf_1 ?_
  refine lv_iconst (v := nI 3) hx hb dX11_shapeOf_4 (by decide) ?_
  refine lv_iload_n hx hb dX11_shapeOf_5 rfl (lv_at hl 1 rfl) ?_
  refine lv_imul hx hb dX11_shapeOf_6 ?_
  refine m_top (y := nI (3 * u)) (pk_mul 3 u) ?_
  refine m_iald S hW hZ.sp.2.2.2.2.1 (3 * u) rfl (by omega) (by decide) dX11_shapeOf_7 ?_
  refine m_top (y := (z (4 + u) 2)) (hZ.iJa he) ?_
  refine lv_istore_n (lv' := [(3, .int (z (4 + u) 2)), (0, .ref (ad 200)), (1, .int (nI u)), (2, .int (nI g))]) hx hb dX11_shapeOf_8 rfl hl (by decide) rfl (fun ls hl => ?_)
  refine lv_aload_n hx hb dX11_shapeOf_9 rfl (lv_at hl 1 rfl) ?_
  refine m_getr S hW hZ.sp.1 3 rfl (j := 202) rfl kX11 (iW11 _) (by decide) (List.mem_cons_of_mem _ (wa_11 _ (List.mem_of_getElem? (i := 3) (by decide +kernel)))) dX11_shapeOf_10 ?_
  refine lv_iload_n hx hb dX11_shapeOf_13 rfl (lv_at hl 2 rfl) ?_
  refine m_iald S hW hZ.sp.2.2.1 u rfl (by omega) (by decide) dX11_shapeOf_14 ?_
  refine m_top (y := (z (4 + u) 0)) (hZ.iKi he) ?_
  by_cases c_1 : (z (4 + u) 0) = nI 1
  · skip
    refine lv_tableIn (off := 33) (tgt := 48) hx hb dX11_shapeOf_15 (by rw [c_1]; decide) (by rw [c_1]; decide) (by rw [c_1]; decide +kernel) (by decide) ?_
    refine lv_iload_n hx hb dX11_shapeOf_48 rfl (lv_at hl 0 rfl) ?_
    refine lv_iload_n hx hb dX11_shapeOf_49 rfl (lv_at hl 0 rfl) ?_
    refine lv_iconst (v := nI 1) hx hb dX11_shapeOf_50 (by decide) ?_
    refine lv_ishl hx hb dX11_shapeOf_51 ?_
    refine lv_ior hx hb dX11_shapeOf_52 ?_
    exact m_iret S hr hlk hW dX11_shapeOf_53 ⟨rfl, (by have e3 := lowb _ (hZ.ok.ja he).2.2; rw [← (hZ.ok.ja he).1] at e3; simp only [zSp, fShape, c_1]; first | rfl | (simp [c_1, nI_lit]; done) | (simp [c_1, nI_lit, e3]; done) | simp_all [nI_lit])⟩
  by_cases c_2 : (z (4 + u) 0) = nI 2
  · skip
    refine lv_tableIn (off := 39) (tgt := 54) hx hb dX11_shapeOf_15 (by rw [c_2]; decide) (by rw [c_2]; decide) (by rw [c_2]; decide +kernel) (by decide) ?_
    refine lv_aload_n hx hb dX11_shapeOf_54 rfl (lv_at hl 1 rfl) ?_
    refine lv_iload_n hx hb dX11_shapeOf_55 rfl (lv_at hl 3 rfl) ?_
    refine m_cie (m_rV S hW (c_X11_softOf l G ad sh V g (zn z (10 + 2 * g) 1) hZ.sp.1 hZ.sp.2.1 (hZ.rSo (by first | assumption | omega)) (by omega)) (cwV 1 hts (gCall [.methodLink RX11 164 yX11_softOf, .instanceMethod yX11_softOf, .selects RX11 yX11_softOf yX11_softOf, .initialized RX11] (List.forall_mem_cons.mpr ⟨(wa_19 _ (List.mem_of_getElem? (i := 15) (by decide +kernel))), (List.forall_mem_cons.mpr ⟨(wa_19 _ (List.mem_of_getElem? (i := 12) (by decide +kernel))), (List.forall_mem_cons.mpr ⟨(wa_19 _ (List.mem_of_getElem? (i := 13) (by decide +kernel))), (List.forall_mem_cons.mpr ⟨(wa_19 _ (List.mem_of_getElem? (i := 14) (by decide +kernel))), (List.forall_mem_cons.mpr ⟨(wa_1 _ (List.mem_of_getElem? (i := 5) (by decide +kernel))), (fun _ h => absurd h List.not_mem_nil)⟩)⟩)⟩)⟩)⟩)) rfl rfl rfl (by decide +kernel) ⟨Nat.le_of_ble_eq_true rfl, Nat.le_of_ble_eq_true rfl⟩) hZ.sp.1 kX11 rfl hl.1 rfl (Nat.le_of_ble_eq_true rfl) dX11_shapeOf_56 ⟨Nat.le_of_ble_eq_true rfl, Nat.le_of_ble_eq_true rfl⟩) hW (fun H locs hW => ?_)
    refine m_top (y := (z (10 + 2 * g) 1)) (hZ.ok.so hg).1.symm ?_
    refine lv_iconst (v := nI 5) hx hb dX11_shapeOf_59 (by decide) ?_
    refine lv_icmp_ge (tgt := 67) hx hb dX11_shapeOf_60 (by decide) (fun c_3 => ?_) (fun c_3 => ?_)
    · skip
      refine lv_iload_n hx hb dX11_shapeOf_67 rfl (lv_at hl 0 rfl) ?_
      exact m_iret S hr hlk hW dX11_shapeOf_68 ⟨rfl, (by have e3 := lowb _ (hZ.ok.ja he).2.2; rw [← (hZ.ok.ja he).1] at e3; simp only [zSp, fShape, c_1, c_2, c_3]; first | rfl | (simp [c_1, c_2, c_3, nI_lit]; done) | (simp [c_1, c_2, c_3, nI_lit, e3]; done) | simp_all [nI_lit])⟩
    · skip
      refine lv_iconst (v := nI 0) hx hb dX11_shapeOf_63 (by decide) ?_
      refine lv_goto (tgt := 68) hx hb dX11_shapeOf_64 (by decide) ?_
      exact m_iret S hr hlk hW dX11_shapeOf_68 ⟨rfl, (by have e3 := lowb _ (hZ.ok.ja he).2.2; rw [← (hZ.ok.ja he).1] at e3; simp only [zSp, fShape, c_1, c_2, c_3]; first | rfl | (simp [c_1, c_2, c_3, nI_lit]; done) | (simp [c_1, c_2, c_3, nI_lit, e3]; done) | simp_all [nI_lit])⟩
  by_cases c_4 : (z (4 + u) 0) = nI 3
  · skip
    refine lv_tableIn (off := 54) (tgt := 69) hx hb dX11_shapeOf_15 (by rw [c_4]; decide) (by rw [c_4]; decide) (by rw [c_4]; decide +kernel) (by decide) ?_
    refine lv_iload_n hx hb dX11_shapeOf_69 rfl (lv_at hl 0 rfl) ?_
    refine lv_iload_n hx hb dX11_shapeOf_70 rfl (lv_at hl 0 rfl) ?_
    refine lv_ineg hx hb dX11_shapeOf_71 ?_
    refine lv_iand hx hb dX11_shapeOf_72 ?_
    exact m_iret S hr hlk hW dX11_shapeOf_73 ⟨rfl, (by have e3 := lowb _ (hZ.ok.ja he).2.2; rw [← (hZ.ok.ja he).1] at e3; simp only [zSp, fShape, c_1, c_2, c_4]; first | rfl | (simp [c_1, c_2, c_4, nI_lit]; done) | (simp [c_1, c_2, c_4, nI_lit, e3]; done) | simp_all [nI_lit])⟩
  by_cases c_5 : (z (4 + u) 0) = nI 4
  · skip
    refine lv_tableIn (off := 39) (tgt := 54) hx hb dX11_shapeOf_15 (by rw [c_5]; decide) (by rw [c_5]; decide) (by rw [c_5]; decide +kernel) (by decide) ?_
    refine lv_aload_n hx hb dX11_shapeOf_54 rfl (lv_at hl 1 rfl) ?_
    refine lv_iload_n hx hb dX11_shapeOf_55 rfl (lv_at hl 3 rfl) ?_
    refine m_cie (m_rV S hW (c_X11_softOf l G ad sh V g (zn z (10 + 2 * g) 1) hZ.sp.1 hZ.sp.2.1 (hZ.rSo (by first | assumption | omega)) (by omega)) (cwV 1 hts (gCall [.methodLink RX11 164 yX11_softOf, .instanceMethod yX11_softOf, .selects RX11 yX11_softOf yX11_softOf, .initialized RX11] (List.forall_mem_cons.mpr ⟨(wa_19 _ (List.mem_of_getElem? (i := 15) (by decide +kernel))), (List.forall_mem_cons.mpr ⟨(wa_19 _ (List.mem_of_getElem? (i := 12) (by decide +kernel))), (List.forall_mem_cons.mpr ⟨(wa_19 _ (List.mem_of_getElem? (i := 13) (by decide +kernel))), (List.forall_mem_cons.mpr ⟨(wa_19 _ (List.mem_of_getElem? (i := 14) (by decide +kernel))), (List.forall_mem_cons.mpr ⟨(wa_1 _ (List.mem_of_getElem? (i := 5) (by decide +kernel))), (fun _ h => absurd h List.not_mem_nil)⟩)⟩)⟩)⟩)⟩)) rfl rfl rfl (by decide +kernel) ⟨Nat.le_of_ble_eq_true rfl, Nat.le_of_ble_eq_true rfl⟩) hZ.sp.1 kX11 rfl hl.1 rfl (Nat.le_of_ble_eq_true rfl) dX11_shapeOf_56 ⟨Nat.le_of_ble_eq_true rfl, Nat.le_of_ble_eq_true rfl⟩) hW (fun H locs hW => ?_)
    refine m_top (y := (z (10 + 2 * g) 1)) (hZ.ok.so hg).1.symm ?_
    refine lv_iconst (v := nI 5) hx hb dX11_shapeOf_59 (by decide) ?_
    refine lv_icmp_ge (tgt := 67) hx hb dX11_shapeOf_60 (by decide) (fun c_6 => ?_) (fun c_6 => ?_)
    · skip
      refine lv_iload_n hx hb dX11_shapeOf_67 rfl (lv_at hl 0 rfl) ?_
      exact m_iret S hr hlk hW dX11_shapeOf_68 ⟨rfl, (by have e3 := lowb _ (hZ.ok.ja he).2.2; rw [← (hZ.ok.ja he).1] at e3; simp only [zSp, fShape, c_1, c_2, c_4, c_5, c_6]; first | rfl | (simp [c_1, c_2, c_4, c_5, c_6, nI_lit]; done) | (simp [c_1, c_2, c_4, c_5, c_6, nI_lit, e3]; done) | simp_all [nI_lit])⟩
    · skip
      refine lv_iconst (v := nI 0) hx hb dX11_shapeOf_63 (by decide) ?_
      refine lv_goto (tgt := 68) hx hb dX11_shapeOf_64 (by decide) ?_
      exact m_iret S hr hlk hW dX11_shapeOf_68 ⟨rfl, (by have e3 := lowb _ (hZ.ok.ja he).2.2; rw [← (hZ.ok.ja he).1] at e3; simp only [zSp, fShape, c_1, c_2, c_4, c_5, c_6]; first | rfl | (simp [c_1, c_2, c_4, c_5, c_6, nI_lit]; done) | (simp [c_1, c_2, c_4, c_5, c_6, nI_lit, e3]; done) | simp_all [nI_lit])⟩
  by_cases c_7 : (z (4 + u) 0) = nI 5
  · skip
    refine lv_tableIn (off := 59) (tgt := 74) hx hb dX11_shapeOf_15 (by rw [c_7]; decide) (by rw [c_7]; decide) (by rw [c_7]; decide +kernel) (by decide) ?_
    refine lv_iconst (v := nI 2) hx hb dX11_shapeOf_74 (by decide) ?_
    refine lv_aload_n hx hb dX11_shapeOf_75 rfl (lv_at hl 1 rfl) ?_
    refine m_getr S hW hZ.sp.1 4 rfl (j := 203) rfl kX11 (iW11 _) (by decide) (List.mem_cons_of_mem _ (wa_11 _ (List.mem_of_getElem? (i := 4) (by decide +kernel)))) dX11_shapeOf_76 ?_
    refine lv_iload_n hx hb dX11_shapeOf_79 rfl (lv_at hl 2 rfl) ?_
    refine m_iald S hW hZ.sp.2.2.2.1 u rfl (by omega) (by decide) dX11_shapeOf_80 ?_
    refine m_top (y := (z (4 + u) 1)) (hZ.iMo he) ?_
    refine lv_iconst (v := nI 2) hx hb dX11_shapeOf_81 (by decide) ?_
    refine lv_idiv hx hb dX11_shapeOf_82 (by decide) ?_
    refine lv_ishl hx hb dX11_shapeOf_83 ?_
    refine lv_iconst (v := nI 1) hx hb dX11_shapeOf_84 (by decide) ?_
    refine lv_isub hx hb dX11_shapeOf_85 ?_
    exact m_iret S hr hlk hW dX11_shapeOf_86 ⟨rfl, (by have e3 := lowb _ (hZ.ok.ja he).2.2; rw [← (hZ.ok.ja he).1] at e3; simp only [zSp, fShape, c_1, c_2, c_4, c_5, c_7]; first | rfl | (simp [c_1, c_2, c_4, c_5, c_7, nI_lit]; done) | (simp [c_1, c_2, c_4, c_5, c_7, nI_lit, e3]; done) | simp_all [nI_lit])⟩
  refine lv_tableOut (tgt := 87) hx hb dX11_shapeOf_15 (by have a0 := lv_neT c_1 (show (nI 1 : Int32).toInt = 1 by decide); have a1 := lv_neT c_2 (show (nI 2 : Int32).toInt = 2 by decide); have a2 := lv_neT c_4 (show (nI 3 : Int32).toInt = 3 by decide); have a3 := lv_neT c_5 (show (nI 4 : Int32).toInt = 4 by decide); have a4 := lv_neT c_7 (show (nI 5 : Int32).toInt = 5 by decide); omega) (by decide) ?_
  refine lv_iload_n hx hb dX11_shapeOf_87 rfl (lv_at hl 0 rfl) ?_
  exact m_iret S hr hlk hW dX11_shapeOf_88 ⟨rfl, (by have e3 := lowb _ (hZ.ok.ja he).2.2; rw [← (hZ.ok.ja he).1] at e3; simp only [zSp, fShape, c_1, c_2, c_4, c_5, c_7]; first | rfl | (simp [c_1, c_2, c_4, c_5, c_7, nI_lit]; done) | (simp [c_1, c_2, c_4, c_5, c_7, nI_lit, e3]; done) | simp_all [nI_lit])⟩
set_option maxHeartbeats 4000000 in
set_option maxRecDepth 100000 in
theorem c_X11_markOf (l : Launch) (G : mG) (ad : Nat → Nat) (sh : Nat → Option mSh) (V : mV) (z : fZ) (ne ng rl : Nat) (tx : sT) (u g p0 : Nat) (hZ : MZ sh V z ne ng rl tx) (he : u < ne) (hg : g < ng) (hp0 : p0 < 16) : mM l yX11_markOf wsX11_markOf ({ frames := 2, cells := 0, slots := 0, locals := 48 } : Room) G ad sh V [.ref (ad 200), .int (nI u), .int (nI g), .int (nI p0)] 0 0 (mPe ad sh V (nI (zm z u g p0))) := by
  refine mM.of (cc := cX11_markOf) (maxL := 4) (ret := (some .int)) (by decide) rfl (Nat.le_of_ble_eq_true rfl) ?_
  intro p e s m below meth c S hr hlk hnm hW ls hl
  obtain ⟨hx, hb, hml, hown, hts⟩ := id S
  have hl : lv_has ls 4 [(0, .ref (ad 200)), (1, .int (nI u)), (2, .int (nI g)), (3, .int (nI p0))] := hl
  have hS0 : True := trivial
  have hne5 := hZ.ne5
  have hng6 := hZ.ng6
  refine lv_aload_n hx hb dX11_markOf_0 rfl (lv_at hl 0 rfl) ?_
  refine lv_iload_n hx hb dX11_markOf_1 rfl (lv_at hl 1 rfl) ?_
  refine lv_iload_n hx hb dX11_markOf_2 rfl (lv_at hl 2 rfl) ?_
  refine m_cie (m_rV S hW (c_X11_shapeOf l G ad sh V z ne ng rl tx u g hZ (by first | assumption | omega) (by first | assumption | omega)) (cwV 2 hts (gCall [.methodLink RX11 189 yX11_shapeOf, .instanceMethod yX11_shapeOf, .selects RX11 yX11_shapeOf yX11_shapeOf, .initialized RX11] (List.forall_mem_cons.mpr ⟨(wa_24 _ (List.mem_of_getElem? (i := 20) (by decide +kernel))), (List.forall_mem_cons.mpr ⟨(wa_24 _ (List.mem_of_getElem? (i := 17) (by decide +kernel))), (List.forall_mem_cons.mpr ⟨(wa_24 _ (List.mem_of_getElem? (i := 18) (by decide +kernel))), (List.forall_mem_cons.mpr ⟨(wa_24 _ (List.mem_of_getElem? (i := 19) (by decide +kernel))), (List.forall_mem_cons.mpr ⟨(wa_1 _ (List.mem_of_getElem? (i := 5) (by decide +kernel))), (fun _ h => absurd h List.not_mem_nil)⟩)⟩)⟩)⟩)⟩)) rfl rfl rfl (by decide +kernel) ⟨Nat.le_of_ble_eq_true rfl, Nat.le_of_ble_eq_true rfl⟩) hZ.sp.1 kX11 rfl hl.1 rfl (Nat.le_of_ble_eq_true rfl) dX11_markOf_3 ⟨Nat.le_of_ble_eq_true rfl, Nat.le_of_ble_eq_true rfl⟩) hW (fun H locs hW => ?_)
  refine m_top (y := nI (shM z u g)) (hZ.ok.spm he hg).1 ?_
  refine lv_aload_n hx hb dX11_markOf_6 rfl (lv_at hl 0 rfl) ?_
  refine lv_iload_n hx hb dX11_markOf_7 rfl (lv_at hl 2 rfl) ?_
  refine m_cie (m_rV S hW (c_X11_leftOf l G ad sh V g (zn z (10 + 2 * g) 2) hZ.sp.1 hZ.sp.2.1 (hZ.rLe (by first | assumption | omega)) (by omega)) (cwV 1 hts (gCall [.methodLink RX11 167 yX11_leftOf, .instanceMethod yX11_leftOf, .selects RX11 yX11_leftOf yX11_leftOf, .initialized RX11] (List.forall_mem_cons.mpr ⟨(wa_19 _ (List.mem_of_getElem? (i := 19) (by decide +kernel))), (List.forall_mem_cons.mpr ⟨(wa_19 _ (List.mem_of_getElem? (i := 16) (by decide +kernel))), (List.forall_mem_cons.mpr ⟨(wa_19 _ (List.mem_of_getElem? (i := 17) (by decide +kernel))), (List.forall_mem_cons.mpr ⟨(wa_19 _ (List.mem_of_getElem? (i := 18) (by decide +kernel))), (List.forall_mem_cons.mpr ⟨(wa_1 _ (List.mem_of_getElem? (i := 5) (by decide +kernel))), (fun _ h => absurd h List.not_mem_nil)⟩)⟩)⟩)⟩)⟩)) rfl rfl rfl (by decide +kernel) ⟨Nat.le_of_ble_eq_true rfl, Nat.le_of_ble_eq_true rfl⟩) hZ.sp.1 kX11 rfl hl.1 rfl (Nat.le_of_ble_eq_true rfl) dX11_markOf_8 ⟨Nat.le_of_ble_eq_true rfl, Nat.le_of_ble_eq_true rfl⟩) hW (fun H locs hW => ?_)
  refine lv_iload_n hx hb dX11_markOf_11 rfl (lv_at hl 3 rfl) ?_
  refine m_cie (m_rS S hW (c_X11_markBy l G ad sh V (shM z u g) (zn z (10 + 2 * g) 2) p0 ((hZ.ok.spm he hg).2) ((hZ.ok.le hg).2) (by first | assumption | omega)) (va_cwS 3 hts (gCall [.methodLink RX11 192 yX11_markBy, .static yX11_markBy, .initialized RX11] (List.forall_mem_cons.mpr ⟨(wa_26 _ (List.mem_of_getElem? (i := 21) (by decide +kernel))), (List.forall_mem_cons.mpr ⟨(wa_26 _ (List.mem_of_getElem? (i := 19) (by decide +kernel))), (List.forall_mem_cons.mpr ⟨(wa_26 _ (List.mem_of_getElem? (i := 20) (by decide +kernel))), (List.forall_mem_cons.mpr ⟨(wa_1 _ (List.mem_of_getElem? (i := 5) (by decide +kernel))), (fun _ h => absurd h List.not_mem_nil)⟩)⟩)⟩)⟩)) rfl rfl rfl (by decide +kernel) ⟨Nat.le_of_ble_eq_true rfl, Nat.le_of_ble_eq_true rfl⟩) rfl hl.1 rfl (Nat.le_of_ble_eq_true rfl) dX11_markOf_12 ⟨Nat.le_of_ble_eq_true rfl, Nat.le_of_ble_eq_true rfl⟩) hW (fun H locs hW => ?_)
  exact m_iret S hr hlk hW dX11_markOf_15 ⟨rfl, (by rfl)⟩
set_option maxHeartbeats 4000000 in
set_option maxRecDepth 100000 in
theorem c_X11_worthAll (l : Launch) (G : mG) (ad : Nat → Nat) (sh : Nat → Option mSh) (V : mV) (z : fZ) (ne ng rl : Nat) (tx : sT) (g mk : Nat) (hZ : MZ sh V z ne ng rl tx) (hg : g < ng) (hmk : mk < 1024) : mM l yX11_worthAll wsX11_worthAll ({ frames := 0, cells := 0, slots := 0, locals := 0 } : Room) G ad sh V [.ref (ad 200), .int (nI g), .int (nI mk)] 0 0 (mPe ad sh V (fWorth (z (11 + 2 * g)) (nI mk) 10)) := by
  refine mM.of (cc := cX11_worthAll) (maxL := 5) (ret := (some .int)) (by decide) rfl (Nat.le_of_ble_eq_true rfl) ?_
  intro p e s m below meth c S hr hlk hnm hW ls hl
  obtain ⟨hx, hb, hml, hown, hts⟩ := id S
  have hl : lv_has ls 5 [(0, .ref (ad 200)), (1, .int (nI g)), (2, .int (nI mk))] := hl
  have hS0 : True := trivial
  have hne5 := hZ.ne5
  have hng6 := hZ.ng6
  refine lv_iconst (v := nI 0) hx hb dX11_worthAll_0 (by decide) ?_
  refine lv_istore_n (lv' := [(3, .int (nI 0)), (0, .ref (ad 200)), (1, .int (nI g)), (2, .int (nI mk))]) hx hb dX11_worthAll_1 rfl hl (by decide) rfl (fun ls hl => ?_)
  refine lv_iconst (v := nI 0) hx hb dX11_worthAll_2 (by decide) ?_
  refine lv_istore (lv' := [(4, .int (nI 0)), (3, .int (nI 0)), (0, .ref (ad 200)), (1, .int (nI g)), (2, .int (nI mk))]) hx hb dX11_worthAll_3 hl (by decide) rfl (fun ls hl => ?_)
  have loop_5 : ∀ (n_5 : Nat) (sm : Int32) (k : Nat) (H : Heap) (locs : List Loc) (ls : Array Slot), (k ≤ 10) → (sm = fWorth (z (11 + 2 * g)) (nI mk) k) → (10 - k) < n_5 → mC (mA ad sh s.heap.size) s.heap s G ad sh V H locs → lv_has ls 5 [(0, .ref (ad 200)), (1, .int (nI g)), (2, .int (nI mk)), (3, .int sm), (4, .int (nI k))] → W p l e ({ frames := 0, cells := 0, slots := 0, locals := 0 } : Room) s m ([.ref (ad 200), .int (nI g), .int (nI mk)] : List Value).toArray below meth c H locs 0 0 (MQ below (mPost G ad sh s.heap.size (mPe ad sh V (fWorth (z (11 + 2 * g)) (nI mk) 10))) ([.ref (ad 200), .int (nI g), .int (nI mk)] : List Value).toArray s 0 0 (mA ad sh s.heap.size)) (F0 m 5 ls []) := by
    intro n_5
    induction n_5 with
    | zero => intro sm k H locs ls hk hs hM_ hW hl; omega
    | succ n_5 ih_5 =>
      intro sm k H locs ls hk hs hM_ hW hl
      refine lv_iload hx hb dX11_worthAll_5 (lv_at hl 4 rfl) ?_
      refine lv_bipush (v := nI 10) hx hb dX11_worthAll_7 (by decide) ?_
      refine lv_icmp_ge (tgt := 47) hx hb dX11_worthAll_9 (by decide) (fun c_1 => ?_) (fun c_1 => ?_)
      · skip
        have c_1 : 10 ≤ k := (nI_leI (by omega) (by omega)).mp c_1
        refine lv_iload_n hx hb dX11_worthAll_47 rfl (lv_at hl 3 rfl) ?_
        exact m_iret S hr hlk hW dX11_worthAll_48 ⟨rfl, (by rw [hs, show k = 10 by omega])⟩
      · skip
        have c_1 : ¬ 10 ≤ k := mt (nI_leI (by omega) (by omega)).mpr c_1
        refine lv_iload_n hx hb dX11_worthAll_12 rfl (lv_at hl 3 rfl) ?_
        refine lv_iload_n hx hb dX11_worthAll_13 rfl (lv_at hl 2 rfl) ?_
        refine lv_iload hx hb dX11_worthAll_14 (lv_at hl 4 rfl) ?_
        refine lv_ishr hx hb dX11_worthAll_16 ?_
        refine lv_iconst (v := nI 1) hx hb dX11_worthAll_17 (by decide) ?_
        refine lv_iand hx hb dX11_worthAll_18 ?_
        refine m_top (y := nI (mk / 2 ^ k % 2)) (m_bit (by omega) (by omega)) ?_
        refine lv_iconst (v := nI 1) hx hb dX11_worthAll_19 (by decide) ?_
        refine lv_icmp_ne (tgt := 38) hx hb dX11_worthAll_20 (by decide) (fun c_2 => ?_) (fun c_2 => ?_)
        · skip
          have c_2 : ¬ (mk / 2 ^ k % 2) = 1 := mt (nI_eq (by omega) (by omega)).mpr c_2
          refine lv_iconst (v := nI 0) hx hb dX11_worthAll_38 (by decide) ?_
          refine lv_iadd hx hb dX11_worthAll_39 ?_
          refine lv_istore_n (lv' := [(3, .int (sm + (nI 0))), (0, .ref (ad 200)), (1, .int (nI g)), (2, .int (nI mk)), (4, .int (nI k))]) hx hb dX11_worthAll_40 rfl hl (by decide) rfl (fun ls hl => ?_)
          refine lv_iinc (v := nI (k + 1)) (lv' := [(4, .int (nI (k + 1))), (3, .int (sm + (nI 0))), (0, .ref (ad 200)), (1, .int (nI g)), (2, .int (nI mk))]) hx hb dX11_worthAll_41 hl (k := 4) rfl (m_inc k 1) (by decide) rfl (fun ls hl => ?_)
          refine lv_goto (tgt := 5) hx hb dX11_worthAll_44 (by decide) ?_
          exact ih_5  (sm + (nI 0)) (k + 1)  _ _ _ (by omega) (by rw [fWorth]; first | (rw [if_neg (fBit_t hmk (by omega) c_2), ← hs]; done) | (rw [if_pos (fBit_f hmk (by omega) c_2), ← hs, m_a0]; done)) (by omega) hW (lv_sub hl [2, 3, 4, 1, 0] rfl)
        · skip
          have c_2 : (mk / 2 ^ k % 2) = 1 := (nI_eq (by omega) (by omega)).mp c_2
          refine lv_aload_n hx hb dX11_worthAll_23 rfl (lv_at hl 0 rfl) ?_
          refine m_getr S hW hZ.sp.1 1 rfl (j := 201) rfl kX11 (iW11 _) (by decide) (List.mem_cons_of_mem _ (wa_11 _ (List.mem_of_getElem? (i := 2) (by decide +kernel)))) dX11_worthAll_24 ?_
          refine lv_bipush (v := nI 12) hx hb dX11_worthAll_27 (by decide) ?_
          refine lv_iload_n hx hb dX11_worthAll_29 rfl (lv_at hl 1 rfl) ?_
          refine lv_imul hx hb dX11_worthAll_30 ?_
          refine m_top (y := nI (12 * g)) (pk_mul 12 g) ?_
          refine lv_iload hx hb dX11_worthAll_31 (lv_at hl 4 rfl) ?_
          refine lv_iadd hx hb dX11_worthAll_33 ?_
          refine m_top (y := nI ((12 * g) + k)) (nI_add (12 * g) k) ?_
          refine m_iald S hW hZ.sp.2.1 ((12 * g) + k) rfl (by omega) (by decide) dX11_worthAll_34 ?_
          refine m_top (y := (z (11 + 2 * g) k)) (hZ.rWo hg (by omega)) ?_
          refine lv_goto (tgt := 39) hx hb dX11_worthAll_35 (by decide) ?_
          refine lv_iadd hx hb dX11_worthAll_39 ?_
          refine lv_istore_n (lv' := [(3, .int (sm + (z (11 + 2 * g) k))), (0, .ref (ad 200)), (1, .int (nI g)), (2, .int (nI mk)), (4, .int (nI k))]) hx hb dX11_worthAll_40 rfl hl (by decide) rfl (fun ls hl => ?_)
          refine lv_iinc (v := nI (k + 1)) (lv' := [(4, .int (nI (k + 1))), (3, .int (sm + (z (11 + 2 * g) k))), (0, .ref (ad 200)), (1, .int (nI g)), (2, .int (nI mk))]) hx hb dX11_worthAll_41 hl (k := 4) rfl (m_inc k 1) (by decide) rfl (fun ls hl => ?_)
          refine lv_goto (tgt := 5) hx hb dX11_worthAll_44 (by decide) ?_
          exact ih_5  (sm + (z (11 + 2 * g) k)) (k + 1)  _ _ _ (by omega) (by rw [fWorth]; first | (rw [if_neg (fBit_t hmk (by omega) c_2), ← hs]; done) | (rw [if_pos (fBit_f hmk (by omega) c_2), ← hs, m_a0]; done)) (by omega) hW (lv_sub hl [2, 3, 4, 1, 0] rfl)
  exact loop_5 (10 - 0 + 1) (nI 0) 0  _ _ _ (by omega) (by rfl) (by omega) hW (lv_sub hl [2, 3, 4, 1, 0] rfl)
set_option maxHeartbeats 4000000 in
set_option maxRecDepth 100000 in
theorem c_X11_costsOf (l : Launch) (G : mG) (ad : Nat → Nat) (sh : Nat → Option mSh) (V : mV) (z : fZ) (ne ng rl : Nat) (tx : sT) (u g mk : Nat) (hZ : MZ sh V z ne ng rl tx) (he : u < ne) (hg : g < ng) (hmk : mk < 1024) : mM l yX11_costsOf wsX11_costsOf ({ frames := 3, cells := 0, slots := 0, locals := 71 } : Room) G ad sh V [.ref (ad 200), .int (nI u), .int (nI g), .int (nI mk)] 0 0 (mPe ad sh V (zCo (askT tx) z u g (nI mk))) := by
  refine mM.of (cc := cX11_costsOf) (maxL := 5) (ret := (some .int)) (by decide) rfl (Nat.le_of_ble_eq_true rfl) ?_
  intro p e s m below meth c S hr hlk hnm hW ls hl
  obtain ⟨hx, hb, hml, hown, hts⟩ := id S
  have hl : lv_has ls 5 [(0, .ref (ad 200)), (1, .int (nI u)), (2, .int (nI g)), (3, .int (nI mk))] := hl
  have hS0 : True := trivial
  have hne5 := hZ.ne5
  have hng6 := hZ.ng6
  refine lv_aload_n hx hb dX11_costsOf_0 rfl (lv_at hl 0 rfl) ?_
  refine lv_iconst (v := nI 0) hx hb dX11_costsOf_1 (by decide) ?_
  refine lv_iload_n hx hb dX11_costsOf_2 rfl (lv_at hl 1 rfl) ?_
  refine lv_iload_n hx hb dX11_costsOf_3 rfl (lv_at hl 2 rfl) ?_
  refine lv_iload_n hx hb dX11_costsOf_4 rfl (lv_at hl 3 rfl) ?_
  refine m_cie (m_rS S hW (c_X11_ones l G ad sh V mk (by first | assumption | omega)) (va_cwS 1 hts (gCall [.methodLink RX11 170 yX11_ones, .static yX11_ones, .initialized RX11] (List.forall_mem_cons.mpr ⟨(wa_19 _ (List.mem_of_getElem? (i := 22) (by decide +kernel))), (List.forall_mem_cons.mpr ⟨(wa_19 _ (List.mem_of_getElem? (i := 20) (by decide +kernel))), (List.forall_mem_cons.mpr ⟨(wa_19 _ (List.mem_of_getElem? (i := 21) (by decide +kernel))), (List.forall_mem_cons.mpr ⟨(wa_1 _ (List.mem_of_getElem? (i := 5) (by decide +kernel))), (fun _ h => absurd h List.not_mem_nil)⟩)⟩)⟩)⟩)) rfl rfl rfl (by decide +kernel) ⟨Nat.le_of_ble_eq_true rfl, Nat.le_of_ble_eq_true rfl⟩) rfl hl.1 rfl (Nat.le_of_ble_eq_true rfl) dX11_costsOf_5 ⟨Nat.le_of_ble_eq_true rfl, Nat.le_of_ble_eq_true rfl⟩) hW (fun H locs hW => ?_)
  refine lv_aload_n hx hb dX11_costsOf_8 rfl (lv_at hl 0 rfl) ?_
  refine lv_iload_n hx hb dX11_costsOf_9 rfl (lv_at hl 2 rfl) ?_
  refine lv_iload_n hx hb dX11_costsOf_10 rfl (lv_at hl 3 rfl) ?_
  refine m_cie (m_rV S hW (c_X11_worthAll l G ad sh V z ne ng rl tx g mk hZ (by first | assumption | omega) (by first | assumption | omega)) (cwV 2 hts (gCall [.methodLink RX11 195 yX11_worthAll, .instanceMethod yX11_worthAll, .selects RX11 yX11_worthAll yX11_worthAll, .initialized RX11] (List.forall_mem_cons.mpr ⟨(wa_27 _ (List.mem_of_getElem? (i := 5) (by decide +kernel))), (List.forall_mem_cons.mpr ⟨(wa_27 _ (List.mem_of_getElem? (i := 2) (by decide +kernel))), (List.forall_mem_cons.mpr ⟨(wa_27 _ (List.mem_of_getElem? (i := 3) (by decide +kernel))), (List.forall_mem_cons.mpr ⟨(wa_27 _ (List.mem_of_getElem? (i := 4) (by decide +kernel))), (List.forall_mem_cons.mpr ⟨(wa_1 _ (List.mem_of_getElem? (i := 5) (by decide +kernel))), (fun _ h => absurd h List.not_mem_nil)⟩)⟩)⟩)⟩)⟩)) rfl rfl rfl (by decide +kernel) ⟨Nat.le_of_ble_eq_true rfl, Nat.le_of_ble_eq_true rfl⟩) hZ.sp.1 kX11 rfl hl.1 rfl (Nat.le_of_ble_eq_true rfl) dX11_costsOf_11 ⟨Nat.le_of_ble_eq_true rfl, Nat.le_of_ble_eq_true rfl⟩) hW (fun H locs hW => ?_)
  refine m_cie (m_rV S hW (c_X11_asksOf l G ad sh V z ne ng rl tx u g 0 (nI (fOnes mk)) (fWorth (z (11 + 2 * g)) (nI mk) 10) hZ (by first | assumption | omega) (by first | assumption | omega) (by first | assumption | omega)) (cwV 5 hts (gCall [.methodLink RX11 185 yX11_asksOf, .instanceMethod yX11_asksOf, .selects RX11 yX11_asksOf yX11_asksOf, .initialized RX11] (List.forall_mem_cons.mpr ⟨(wa_19 _ (List.mem_of_getElem? (i := 11) (by decide +kernel))), (List.forall_mem_cons.mpr ⟨(wa_19 _ (List.mem_of_getElem? (i := 8) (by decide +kernel))), (List.forall_mem_cons.mpr ⟨(wa_19 _ (List.mem_of_getElem? (i := 9) (by decide +kernel))), (List.forall_mem_cons.mpr ⟨(wa_19 _ (List.mem_of_getElem? (i := 10) (by decide +kernel))), (List.forall_mem_cons.mpr ⟨(wa_1 _ (List.mem_of_getElem? (i := 5) (by decide +kernel))), (fun _ h => absurd h List.not_mem_nil)⟩)⟩)⟩)⟩)⟩)) rfl rfl rfl (by decide +kernel) ⟨Nat.le_of_ble_eq_true rfl, Nat.le_of_ble_eq_true rfl⟩) hZ.sp.1 kX11 rfl hl.1 rfl (Nat.le_of_ble_eq_true rfl) dX11_costsOf_14 ⟨Nat.le_of_ble_eq_true rfl, Nat.le_of_ble_eq_true rfl⟩) hW (fun H locs hW => ?_)
  refine lv_topi (fun x_1 ex_1 => ?_)
  refine lv_istore (lv' := [(4, .int x_1), (0, .ref (ad 200)), (1, .int (nI u)), (2, .int (nI g)), (3, .int (nI mk))]) hx hb dX11_costsOf_17 hl (by decide) rfl (fun ls hl => ?_)
  refine lv_aload_n hx hb dX11_costsOf_19 rfl (lv_at hl 1 rfl) ?_
  refine m_getr S hW hZ.sp.1 3 rfl (j := 202) rfl kX11 (iW11 _) (by decide) (List.mem_cons_of_mem _ (wa_11 _ (List.mem_of_getElem? (i := 3) (by decide +kernel)))) dX11_costsOf_20 ?_
  refine lv_iload_n hx hb dX11_costsOf_23 rfl (lv_at hl 2 rfl) ?_
  refine m_iald S hW hZ.sp.2.2.1 u rfl (by omega) (by decide) dX11_costsOf_24 ?_
  refine m_top (y := (z (4 + u) 0)) (hZ.iKi he) ?_
  by_cases c_2 : (z (4 + u) 0) = nI 2
  · skip
    refine lv_tableIn (off := 31) (tgt := 56) hx hb dX11_costsOf_25 (by rw [c_2]; decide) (by rw [c_2]; decide) (by rw [c_2]; decide +kernel) (by decide) ?_
    refine lv_aload_n hx hb dX11_costsOf_56 rfl (lv_at hl 1 rfl) ?_
    refine lv_iload_n hx hb dX11_costsOf_57 rfl (lv_at hl 3 rfl) ?_
    refine m_cie (m_rV S hW (c_X11_softOf l G ad sh V g (zn z (10 + 2 * g) 1) hZ.sp.1 hZ.sp.2.1 (hZ.rSo (by first | assumption | omega)) (by omega)) (cwV 1 hts (gCall [.methodLink RX11 164 yX11_softOf, .instanceMethod yX11_softOf, .selects RX11 yX11_softOf yX11_softOf, .initialized RX11] (List.forall_mem_cons.mpr ⟨(wa_19 _ (List.mem_of_getElem? (i := 15) (by decide +kernel))), (List.forall_mem_cons.mpr ⟨(wa_19 _ (List.mem_of_getElem? (i := 12) (by decide +kernel))), (List.forall_mem_cons.mpr ⟨(wa_19 _ (List.mem_of_getElem? (i := 13) (by decide +kernel))), (List.forall_mem_cons.mpr ⟨(wa_19 _ (List.mem_of_getElem? (i := 14) (by decide +kernel))), (List.forall_mem_cons.mpr ⟨(wa_1 _ (List.mem_of_getElem? (i := 5) (by decide +kernel))), (fun _ h => absurd h List.not_mem_nil)⟩)⟩)⟩)⟩)⟩)) rfl rfl rfl (by decide +kernel) ⟨Nat.le_of_ble_eq_true rfl, Nat.le_of_ble_eq_true rfl⟩) hZ.sp.1 kX11 rfl hl.1 rfl (Nat.le_of_ble_eq_true rfl) dX11_costsOf_58 ⟨Nat.le_of_ble_eq_true rfl, Nat.le_of_ble_eq_true rfl⟩) hW (fun H locs hW => ?_)
    refine m_top (y := (z (10 + 2 * g) 1)) (hZ.ok.so hg).1.symm ?_
    refine lv_bipush (v := nI 6) hx hb dX11_costsOf_61 (by decide) ?_
    refine lv_icmp_le (tgt := 70) hx hb dX11_costsOf_63 (by decide) (fun c_3 => ?_) (fun c_3 => ?_)
    · skip
      refine lv_iload hx hb dX11_costsOf_70 (lv_at hl 0 rfl) ?_
      exact m_iret S hr hlk hW dX11_costsOf_72 ⟨rfl, (by subst_vars; first | (simp only [zCo, fCost, fBits_nI mk hmk, fPays, c_2, c_3]; done) | (simp [zCo, fCost, fBits_nI mk hmk, fPays, c_2, c_3, nI_lit]; done) | (simp_all [zCo, fCost, fBits_nI mk hmk, fPays, nI_lit]; done))⟩
    · skip
      refine lv_iconst (v := nI 0) hx hb dX11_costsOf_66 (by decide) ?_
      refine lv_goto (tgt := 72) hx hb dX11_costsOf_67 (by decide) ?_
      exact m_iret S hr hlk hW dX11_costsOf_72 ⟨rfl, (by subst_vars; first | (simp only [zCo, fCost, fBits_nI mk hmk, fPays, c_2, c_3]; done) | (simp [zCo, fCost, fBits_nI mk hmk, fPays, c_2, c_3, nI_lit]; done) | (simp_all [zCo, fCost, fBits_nI mk hmk, fPays, nI_lit]; done))⟩
  by_cases c_4 : (z (4 + u) 0) = nI 3
  · skip
    refine lv_tableIn (off := 79) (tgt := 104) hx hb dX11_costsOf_25 (by rw [c_4]; decide) (by rw [c_4]; decide) (by rw [c_4]; decide +kernel) (by decide) ?_
    refine lv_iload hx hb dX11_costsOf_104 (lv_at hl 0 rfl) ?_
    exact m_iret S hr hlk hW dX11_costsOf_106 ⟨rfl, (by subst_vars; first | (simp only [zCo, fCost, fBits_nI mk hmk, fPays, c_2, c_4]; done) | (simp [zCo, fCost, fBits_nI mk hmk, fPays, c_2, c_4, nI_lit]; done) | (simp_all [zCo, fCost, fBits_nI mk hmk, fPays, nI_lit]; done))⟩
  by_cases c_5 : (z (4 + u) 0) = nI 4
  · skip
    refine lv_tableIn (off := 48) (tgt := 73) hx hb dX11_costsOf_25 (by rw [c_5]; decide) (by rw [c_5]; decide) (by rw [c_5]; decide +kernel) (by decide) ?_
    refine lv_aload_n hx hb dX11_costsOf_73 rfl (lv_at hl 1 rfl) ?_
    refine lv_iload_n hx hb dX11_costsOf_74 rfl (lv_at hl 3 rfl) ?_
    refine m_cie (m_rV S hW (c_X11_softOf l G ad sh V g (zn z (10 + 2 * g) 1) hZ.sp.1 hZ.sp.2.1 (hZ.rSo (by first | assumption | omega)) (by omega)) (cwV 1 hts (gCall [.methodLink RX11 164 yX11_softOf, .instanceMethod yX11_softOf, .selects RX11 yX11_softOf yX11_softOf, .initialized RX11] (List.forall_mem_cons.mpr ⟨(wa_19 _ (List.mem_of_getElem? (i := 15) (by decide +kernel))), (List.forall_mem_cons.mpr ⟨(wa_19 _ (List.mem_of_getElem? (i := 12) (by decide +kernel))), (List.forall_mem_cons.mpr ⟨(wa_19 _ (List.mem_of_getElem? (i := 13) (by decide +kernel))), (List.forall_mem_cons.mpr ⟨(wa_19 _ (List.mem_of_getElem? (i := 14) (by decide +kernel))), (List.forall_mem_cons.mpr ⟨(wa_1 _ (List.mem_of_getElem? (i := 5) (by decide +kernel))), (fun _ h => absurd h List.not_mem_nil)⟩)⟩)⟩)⟩)⟩)) rfl rfl rfl (by decide +kernel) ⟨Nat.le_of_ble_eq_true rfl, Nat.le_of_ble_eq_true rfl⟩) hZ.sp.1 kX11 rfl hl.1 rfl (Nat.le_of_ble_eq_true rfl) dX11_costsOf_75 ⟨Nat.le_of_ble_eq_true rfl, Nat.le_of_ble_eq_true rfl⟩) hW (fun H locs hW => ?_)
    refine m_top (y := (z (10 + 2 * g) 1)) (hZ.ok.so hg).1.symm ?_
    refine lv_bipush (v := nI 6) hx hb dX11_costsOf_78 (by decide) ?_
    refine lv_icmp_le (tgt := 87) hx hb dX11_costsOf_80 (by decide) (fun c_6 => ?_) (fun c_6 => ?_)
    · skip
      refine lv_iload hx hb dX11_costsOf_87 (lv_at hl 0 rfl) ?_
      refine lv_aload_n hx hb dX11_costsOf_89 rfl (lv_at hl 1 rfl) ?_
      refine m_getr S hW hZ.sp.1 4 rfl (j := 203) rfl kX11 (iW11 _) (by decide) (List.mem_cons_of_mem _ (wa_11 _ (List.mem_of_getElem? (i := 4) (by decide +kernel)))) dX11_costsOf_90 ?_
      refine lv_iload_n hx hb dX11_costsOf_93 rfl (lv_at hl 2 rfl) ?_
      refine m_iald S hW hZ.sp.2.2.2.1 u rfl (by omega) (by decide) dX11_costsOf_94 ?_
      refine m_top (y := (z (4 + u) 1)) (hZ.iMo he) ?_
      refine lv_iconst (v := nI 3) hx hb dX11_costsOf_95 (by decide) ?_
      refine lv_idiv hx hb dX11_costsOf_96 (by decide) ?_
      refine lv_iadd hx hb dX11_costsOf_97 ?_
      exact m_iret S hr hlk hW dX11_costsOf_98 ⟨rfl, (by subst_vars; first | (simp only [zCo, fCost, fBits_nI mk hmk, fPays, c_2, c_4, c_5, c_6]; done) | (simp [zCo, fCost, fBits_nI mk hmk, fPays, c_2, c_4, c_5, c_6, nI_lit]; done) | (simp_all [zCo, fCost, fBits_nI mk hmk, fPays, nI_lit]; done))⟩
    · skip
      refine lv_iconst (v := nI 0) hx hb dX11_costsOf_83 (by decide) ?_
      refine lv_goto (tgt := 89) hx hb dX11_costsOf_84 (by decide) ?_
      refine lv_aload_n hx hb dX11_costsOf_89 rfl (lv_at hl 1 rfl) ?_
      refine m_getr S hW hZ.sp.1 4 rfl (j := 203) rfl kX11 (iW11 _) (by decide) (List.mem_cons_of_mem _ (wa_11 _ (List.mem_of_getElem? (i := 4) (by decide +kernel)))) dX11_costsOf_90 ?_
      refine lv_iload_n hx hb dX11_costsOf_93 rfl (lv_at hl 2 rfl) ?_
      refine m_iald S hW hZ.sp.2.2.2.1 u rfl (by omega) (by decide) dX11_costsOf_94 ?_
      refine m_top (y := (z (4 + u) 1)) (hZ.iMo he) ?_
      refine lv_iconst (v := nI 3) hx hb dX11_costsOf_95 (by decide) ?_
      refine lv_idiv hx hb dX11_costsOf_96 (by decide) ?_
      refine lv_iadd hx hb dX11_costsOf_97 ?_
      exact m_iret S hr hlk hW dX11_costsOf_98 ⟨rfl, (by subst_vars; first | (simp only [zCo, fCost, fBits_nI mk hmk, fPays, c_2, c_4, c_5, c_6]; done) | (simp [zCo, fCost, fBits_nI mk hmk, fPays, c_2, c_4, c_5, c_6, nI_lit]; done) | (simp_all [zCo, fCost, fBits_nI mk hmk, fPays, nI_lit]; done))⟩
  by_cases c_7 : (z (4 + u) 0) = nI 5
  · skip
    refine lv_tableIn (off := 74) (tgt := 99) hx hb dX11_costsOf_25 (by rw [c_7]; decide) (by rw [c_7]; decide) (by rw [c_7]; decide +kernel) (by decide) ?_
    refine lv_iload hx hb dX11_costsOf_99 (lv_at hl 0 rfl) ?_
    refine lv_iconst (v := nI 3) hx hb dX11_costsOf_101 (by decide) ?_
    refine lv_iadd hx hb dX11_costsOf_102 ?_
    exact m_iret S hr hlk hW dX11_costsOf_103 ⟨rfl, (by subst_vars; first | (simp only [zCo, fCost, fBits_nI mk hmk, fPays, c_2, c_4, c_5, c_7]; done) | (simp [zCo, fCost, fBits_nI mk hmk, fPays, c_2, c_4, c_5, c_7, nI_lit]; done) | (simp_all [zCo, fCost, fBits_nI mk hmk, fPays, nI_lit]; done))⟩
  refine lv_tableOut (tgt := 104) hx hb dX11_costsOf_25 (by have a0 := lv_neT c_2 (show (nI 2 : Int32).toInt = 2 by decide); have a1 := lv_neT c_4 (show (nI 3 : Int32).toInt = 3 by decide); have a2 := lv_neT c_5 (show (nI 4 : Int32).toInt = 4 by decide); have a3 := lv_neT c_7 (show (nI 5 : Int32).toInt = 5 by decide); omega) (by decide) ?_
  refine lv_iload hx hb dX11_costsOf_104 (lv_at hl 0 rfl) ?_
  exact m_iret S hr hlk hW dX11_costsOf_106 ⟨rfl, (by subst_vars; first | (simp only [zCo, fCost, fBits_nI mk hmk, fPays, c_2, c_4, c_5, c_7]; done) | (simp [zCo, fCost, fBits_nI mk hmk, fPays, c_2, c_4, c_5, c_7, nI_lit]; done) | (simp_all [zCo, fCost, fBits_nI mk hmk, fPays, nI_lit]; done))⟩
set_option maxHeartbeats 4000000 in
set_option maxRecDepth 100000 in
theorem c_X11_likesOf (l : Launch) (G : mG) (ad : Nat → Nat) (sh : Nat → Option mSh) (V : mV) (z : fZ) (ne ng rl : Nat) (tx : sT) (u g mk : Nat) (hZ : MZ sh V z ne ng rl tx) (he : u < ne) (hg : g < ng) (hmk : mk < 1024) : mM l yX11_likesOf wsX11_likesOf ({ frames := 3, cells := 0, slots := 0, locals := 71 } : Room) G ad sh V [.ref (ad 200), .int (nI u), .int (nI g), .int (nI mk)] 0 0 (mPe ad sh V (zLi (askT tx) z u g (nI mk))) := by
  refine mM.of (cc := cX11_likesOf) (maxL := 7) (ret := (some .int)) (by decide) rfl (Nat.le_of_ble_eq_true rfl) ?_
  intro p e s m below meth c S hr hlk hnm hW ls hl
  obtain ⟨hx, hb, hml, hown, hts⟩ := id S
  have hl : lv_has ls 7 [(0, .ref (ad 200)), (1, .int (nI u)), (2, .int (nI g)), (3, .int (nI mk))] := hl
  have hS0 : True := trivial
  have hne5 := hZ.ne5
  have hng6 := hZ.ng6
  refine lv_iconst (v := nI 0) hx hb dX11_likesOf_0 (by decide) ?_
  refine lv_istore (lv' := [(4, .int (nI 0)), (0, .ref (ad 200)), (1, .int (nI u)), (2, .int (nI g)), (3, .int (nI mk))]) hx hb dX11_likesOf_1 hl (by decide) rfl (fun ls hl => ?_)
  refine lv_iconst (v := nI 0) hx hb dX11_likesOf_3 (by decide) ?_
  refine lv_istore (lv' := [(5, .int (nI 0)), (4, .int (nI 0)), (0, .ref (ad 200)), (1, .int (nI u)), (2, .int (nI g)), (3, .int (nI mk))]) hx hb dX11_likesOf_4 hl (by decide) rfl (fun ls hl => ?_)
  have loop_6 : ∀ (n_6 : Nat) (sm : Int32) (k : Nat) (H : Heap) (locs : List Loc) (ls : Array Slot), (k ≤ 10) → (sm = fLikes (askT tx) (z (4 + u) 0) (z (4 + u) 1) (z (10 + 2 * g) 1) (z (10 + 2 * g) 2) (z 0 4) (z (11 + 2 * g)) (nI mk) k) → (10 - k) < n_6 → mC (mA ad sh s.heap.size) s.heap s G ad sh V H locs → lv_has ls 7 [(0, .ref (ad 200)), (1, .int (nI u)), (2, .int (nI g)), (3, .int (nI mk)), (4, .int sm), (5, .int (nI k))] → W p l e ({ frames := 3, cells := 0, slots := 0, locals := 71 } : Room) s m ([.ref (ad 200), .int (nI u), .int (nI g), .int (nI mk)] : List Value).toArray below meth c H locs 0 0 (MQ below (mPost G ad sh s.heap.size (mPe ad sh V (zLi (askT tx) z u g (nI mk)))) ([.ref (ad 200), .int (nI u), .int (nI g), .int (nI mk)] : List Value).toArray s 0 0 (mA ad sh s.heap.size)) (F0 m 6 ls []) := by
    intro n_6
    induction n_6 with
    | zero => intro sm k H locs ls hk hs hM_ hW hl; omega
    | succ n_6 ih_6 =>
      intro sm k H locs ls hk hs hM_ hW hl
      refine lv_iload hx hb dX11_likesOf_6 (lv_at hl 5 rfl) ?_
      refine lv_bipush (v := nI 10) hx hb dX11_likesOf_8 (by decide) ?_
      refine lv_icmp_ge (tgt := 100) hx hb dX11_likesOf_10 (by decide) (fun c_1 => ?_) (fun c_1 => ?_)
      · skip
        have c_1 : 10 ≤ k := (nI_leI (by omega) (by omega)).mp c_1
        refine lv_iload hx hb dX11_likesOf_100 (lv_at hl 4 rfl) ?_
        exact m_iret S hr hlk hW dX11_likesOf_102 ⟨rfl, (by rw [hs, show k = 10 by omega]; rfl)⟩
      · skip
        have c_1 : ¬ 10 ≤ k := mt (nI_leI (by omega) (by omega)).mpr c_1
        refine lv_iload_n hx hb dX11_likesOf_13 rfl (lv_at hl 3 rfl) ?_
        refine lv_iload hx hb dX11_likesOf_14 (lv_at hl 5 rfl) ?_
        refine lv_ishr hx hb dX11_likesOf_16 ?_
        refine lv_iconst (v := nI 1) hx hb dX11_likesOf_17 (by decide) ?_
        refine lv_iand hx hb dX11_likesOf_18 ?_
        refine m_top (y := nI (mk / 2 ^ k % 2)) (m_bit (by omega) (by omega)) ?_
        refine lv_iconst (v := nI 1) hx hb dX11_likesOf_19 (by decide) ?_
        refine lv_icmp_ne (tgt := 94) hx hb dX11_likesOf_20 (by decide) (fun c_2 => ?_) (fun c_2 => ?_)
        · skip
          have c_2 : ¬ (mk / 2 ^ k % 2) = 1 := mt (nI_eq (by omega) (by omega)).mpr c_2
          refine lv_iinc (v := nI (k + 1)) (lv' := [(5, .int (nI (k + 1))), (0, .ref (ad 200)), (1, .int (nI u)), (2, .int (nI g)), (3, .int (nI mk)), (4, .int sm)]) hx hb dX11_likesOf_94 hl (k := 5) rfl (m_inc k 1) (by decide) rfl (fun ls hl => ?_)
          refine lv_goto (tgt := 6) hx hb dX11_likesOf_97 (by decide) ?_
          exact ih_6  sm (k + 1)  _ _ _ (by omega) (by rw [fLikes, if_pos (fBit_f hmk (by omega) c_2), ← hs]) (by omega) hW (lv_sub hl [1, 2, 3, 4, 5, 0] rfl)
        · skip
          have c_2 : (mk / 2 ^ k % 2) = 1 := (nI_eq (by omega) (by omega)).mp c_2
          refine lv_aload_n hx hb dX11_likesOf_23 rfl (lv_at hl 0 rfl) ?_
          refine lv_iconst (v := nI 1) hx hb dX11_likesOf_24 (by decide) ?_
          refine lv_iload_n hx hb dX11_likesOf_25 rfl (lv_at hl 1 rfl) ?_
          refine lv_iload_n hx hb dX11_likesOf_26 rfl (lv_at hl 2 rfl) ?_
          refine lv_iload_n hx hb dX11_likesOf_27 rfl (lv_at hl 3 rfl) ?_
          refine m_cie (m_rS S hW (c_X11_ones l G ad sh V mk (by first | assumption | omega)) (va_cwS 1 hts (gCall [.methodLink RX11 170 yX11_ones, .static yX11_ones, .initialized RX11] (List.forall_mem_cons.mpr ⟨(wa_19 _ (List.mem_of_getElem? (i := 22) (by decide +kernel))), (List.forall_mem_cons.mpr ⟨(wa_19 _ (List.mem_of_getElem? (i := 20) (by decide +kernel))), (List.forall_mem_cons.mpr ⟨(wa_19 _ (List.mem_of_getElem? (i := 21) (by decide +kernel))), (List.forall_mem_cons.mpr ⟨(wa_1 _ (List.mem_of_getElem? (i := 5) (by decide +kernel))), (fun _ h => absurd h List.not_mem_nil)⟩)⟩)⟩)⟩)) rfl rfl rfl (by decide +kernel) ⟨Nat.le_of_ble_eq_true rfl, Nat.le_of_ble_eq_true rfl⟩) rfl hl.1 rfl (Nat.le_of_ble_eq_true rfl) dX11_likesOf_28 ⟨Nat.le_of_ble_eq_true rfl, Nat.le_of_ble_eq_true rfl⟩) hW (fun H locs hW => ?_)
          refine lv_aload_n hx hb dX11_likesOf_31 rfl (lv_at hl 0 rfl) ?_
          refine m_getr S hW hZ.sp.1 1 rfl (j := 201) rfl kX11 (iW11 _) (by decide) (List.mem_cons_of_mem _ (wa_11 _ (List.mem_of_getElem? (i := 2) (by decide +kernel)))) dX11_likesOf_32 ?_
          refine lv_bipush (v := nI 12) hx hb dX11_likesOf_35 (by decide) ?_
          refine lv_iload_n hx hb dX11_likesOf_37 rfl (lv_at hl 2 rfl) ?_
          refine lv_imul hx hb dX11_likesOf_38 ?_
          refine m_top (y := nI (12 * g)) (pk_mul 12 g) ?_
          refine lv_iload hx hb dX11_likesOf_39 (lv_at hl 5 rfl) ?_
          refine lv_iadd hx hb dX11_likesOf_41 ?_
          refine m_top (y := nI ((12 * g) + k)) (nI_add (12 * g) k) ?_
          refine m_iald S hW hZ.sp.2.1 ((12 * g) + k) rfl (by omega) (by decide) dX11_likesOf_42 ?_
          refine m_top (y := (z (11 + 2 * g) k)) (hZ.rWo hg (by omega)) ?_
          refine m_cie (m_rV S hW (c_X11_asksOf l G ad sh V z ne ng rl tx u g 1 (nI (fOnes mk)) (z (11 + 2 * g) k) hZ (by first | assumption | omega) (by first | assumption | omega) (by first | assumption | omega)) (cwV 5 hts (gCall [.methodLink RX11 185 yX11_asksOf, .instanceMethod yX11_asksOf, .selects RX11 yX11_asksOf yX11_asksOf, .initialized RX11] (List.forall_mem_cons.mpr ⟨(wa_19 _ (List.mem_of_getElem? (i := 11) (by decide +kernel))), (List.forall_mem_cons.mpr ⟨(wa_19 _ (List.mem_of_getElem? (i := 8) (by decide +kernel))), (List.forall_mem_cons.mpr ⟨(wa_19 _ (List.mem_of_getElem? (i := 9) (by decide +kernel))), (List.forall_mem_cons.mpr ⟨(wa_19 _ (List.mem_of_getElem? (i := 10) (by decide +kernel))), (List.forall_mem_cons.mpr ⟨(wa_1 _ (List.mem_of_getElem? (i := 5) (by decide +kernel))), (fun _ h => absurd h List.not_mem_nil)⟩)⟩)⟩)⟩)⟩)) rfl rfl rfl (by decide +kernel) ⟨Nat.le_of_ble_eq_true rfl, Nat.le_of_ble_eq_true rfl⟩) hZ.sp.1 kX11 rfl hl.1 rfl (Nat.le_of_ble_eq_true rfl) dX11_likesOf_43 ⟨Nat.le_of_ble_eq_true rfl, Nat.le_of_ble_eq_true rfl⟩) hW (fun H locs hW => ?_)
          refine lv_istore (lv' := [(6, .int (askT tx 1 (fNm (nI (fOnes mk)) (z (11 + 2 * g) k) (z (10 + 2 * g) 1) (z (4 + u) 1) (z (10 + 2 * g) 2) (z 0 4)))), (0, .ref (ad 200)), (1, .int (nI u)), (2, .int (nI g)), (3, .int (nI mk)), (4, .int sm), (5, .int (nI k))]) hx hb dX11_likesOf_46 hl (by decide) rfl (fun ls hl => ?_)
          refine lv_iload hx hb dX11_likesOf_48 (lv_at hl 5 rfl) ?_
          refine lv_aload_n hx hb dX11_likesOf_50 rfl (lv_at hl 1 rfl) ?_
          refine m_getr S hW hZ.sp.1 3 rfl (j := 202) rfl kX11 (iW11 _) (by decide) (List.mem_cons_of_mem _ (wa_11 _ (List.mem_of_getElem? (i := 3) (by decide +kernel)))) dX11_likesOf_51 ?_
          refine lv_iload_n hx hb dX11_likesOf_54 rfl (lv_at hl 2 rfl) ?_
          refine m_iald S hW hZ.sp.2.2.1 u rfl (by omega) (by decide) dX11_likesOf_55 ?_
          refine m_top (y := (z (4 + u) 0)) (hZ.iKi he) ?_
          refine lv_iconst (v := nI 3) hx hb dX11_likesOf_56 (by decide) ?_
          refine lv_icmp_ne (tgt := 72) hx hb dX11_likesOf_57 (by decide) (fun c_3 => ?_) (fun c_3 => ?_)
          · skip
            refine lv_aload_n hx hb dX11_likesOf_72 rfl (lv_at hl 1 rfl) ?_
            refine m_getr S hW hZ.sp.1 3 rfl (j := 202) rfl kX11 (iW11 _) (by decide) (List.mem_cons_of_mem _ (wa_11 _ (List.mem_of_getElem? (i := 3) (by decide +kernel)))) dX11_likesOf_73 ?_
            refine lv_iload_n hx hb dX11_likesOf_76 rfl (lv_at hl 2 rfl) ?_
            refine m_iald S hW hZ.sp.2.2.1 u rfl (by omega) (by decide) dX11_likesOf_77 ?_
            refine m_top (y := (z (4 + u) 0)) (hZ.iKi he) ?_
            refine lv_iconst (v := nI 4) hx hb dX11_likesOf_78 (by decide) ?_
            refine lv_icmp_ne (tgt := 89) hx hb dX11_likesOf_79 (by decide) (fun c_4 => ?_) (fun c_4 => ?_)
            · skip
              refine lv_iload hx hb dX11_likesOf_89 (lv_at hl 0 rfl) ?_
              refine lv_iadd hx hb dX11_likesOf_91 ?_
              refine lv_istore (lv' := [(4, .int (sm + (askT tx 1 (fNm (nI (fOnes mk)) (z (11 + 2 * g) k) (z (10 + 2 * g) 1) (z (4 + u) 1) (z (10 + 2 * g) 2) (z 0 4))))), (6, .int (askT tx 1 (fNm (nI (fOnes mk)) (z (11 + 2 * g) k) (z (10 + 2 * g) 1) (z (4 + u) 1) (z (10 + 2 * g) 2) (z 0 4)))), (0, .ref (ad 200)), (1, .int (nI u)), (2, .int (nI g)), (3, .int (nI mk)), (5, .int (nI k))]) hx hb dX11_likesOf_92 hl (by decide) rfl (fun ls hl => ?_)
              refine lv_iinc (v := nI (k + 1)) (lv' := [(5, .int (nI (k + 1))), (4, .int (sm + (askT tx 1 (fNm (nI (fOnes mk)) (z (11 + 2 * g) k) (z (10 + 2 * g) 1) (z (4 + u) 1) (z (10 + 2 * g) 2) (z 0 4))))), (6, .int (askT tx 1 (fNm (nI (fOnes mk)) (z (11 + 2 * g) k) (z (10 + 2 * g) 1) (z (4 + u) 1) (z (10 + 2 * g) 2) (z 0 4)))), (0, .ref (ad 200)), (1, .int (nI u)), (2, .int (nI g)), (3, .int (nI mk))]) hx hb dX11_likesOf_94 hl (k := 6) rfl (m_inc k 1) (by decide) rfl (fun ls hl => ?_)
              refine lv_goto (tgt := 6) hx hb dX11_likesOf_97 (by decide) ?_
              exact ih_6  (sm + (askT tx 1 (fNm (nI (fOnes mk)) (z (11 + 2 * g) k) (z (10 + 2 * g) 1) (z (4 + u) 1) (z (10 + 2 * g) 2) (z 0 4)))) (k + 1)  _ _ _ (by omega) (by rw [fLikes, if_neg (fBit_t hmk (by omega) c_2), ← hs, fBits_nI mk hmk, fLike]; first | (rw [if_pos c_3]; done) | (rw [if_neg c_3, if_pos c_4]; done) | (rw [if_neg c_3, if_neg c_4]; done)) (by omega) hW (lv_sub hl [3, 4, 5, 6, 1, 0] rfl)
            · skip
              refine lv_iconst (v := nI 2) hx hb dX11_likesOf_82 (by decide) ?_
              refine lv_iload hx hb dX11_likesOf_83 (lv_at hl 0 rfl) ?_
              refine lv_imul hx hb dX11_likesOf_85 ?_
              refine lv_goto (tgt := 91) hx hb dX11_likesOf_86 (by decide) ?_
              refine lv_iadd hx hb dX11_likesOf_91 ?_
              refine lv_istore (lv' := [(4, .int (sm + ((nI 2) * (askT tx 1 (fNm (nI (fOnes mk)) (z (11 + 2 * g) k) (z (10 + 2 * g) 1) (z (4 + u) 1) (z (10 + 2 * g) 2) (z 0 4)))))), (6, .int (askT tx 1 (fNm (nI (fOnes mk)) (z (11 + 2 * g) k) (z (10 + 2 * g) 1) (z (4 + u) 1) (z (10 + 2 * g) 2) (z 0 4)))), (0, .ref (ad 200)), (1, .int (nI u)), (2, .int (nI g)), (3, .int (nI mk)), (5, .int (nI k))]) hx hb dX11_likesOf_92 hl (by decide) rfl (fun ls hl => ?_)
              refine lv_iinc (v := nI (k + 1)) (lv' := [(5, .int (nI (k + 1))), (4, .int (sm + ((nI 2) * (askT tx 1 (fNm (nI (fOnes mk)) (z (11 + 2 * g) k) (z (10 + 2 * g) 1) (z (4 + u) 1) (z (10 + 2 * g) 2) (z 0 4)))))), (6, .int (askT tx 1 (fNm (nI (fOnes mk)) (z (11 + 2 * g) k) (z (10 + 2 * g) 1) (z (4 + u) 1) (z (10 + 2 * g) 2) (z 0 4)))), (0, .ref (ad 200)), (1, .int (nI u)), (2, .int (nI g)), (3, .int (nI mk))]) hx hb dX11_likesOf_94 hl (k := 6) rfl (m_inc k 1) (by decide) rfl (fun ls hl => ?_)
              refine lv_goto (tgt := 6) hx hb dX11_likesOf_97 (by decide) ?_
              exact ih_6  (sm + ((nI 2) * (askT tx 1 (fNm (nI (fOnes mk)) (z (11 + 2 * g) k) (z (10 + 2 * g) 1) (z (4 + u) 1) (z (10 + 2 * g) 2) (z 0 4))))) (k + 1)  _ _ _ (by omega) (by rw [fLikes, if_neg (fBit_t hmk (by omega) c_2), ← hs, fBits_nI mk hmk, fLike]; first | (rw [if_pos c_3]; done) | (rw [if_neg c_3, if_pos c_4]; done) | (rw [if_neg c_3, if_neg c_4]; done)) (by omega) hW (lv_sub hl [3, 4, 5, 6, 1, 0] rfl)
          · skip
            refine lv_iload hx hb dX11_likesOf_60 (lv_at hl 0 rfl) ?_
            refine lv_aload_n hx hb dX11_likesOf_62 rfl (lv_at hl 1 rfl) ?_
            refine m_getr S hW hZ.sp.1 4 rfl (j := 203) rfl kX11 (iW11 _) (by decide) (List.mem_cons_of_mem _ (wa_11 _ (List.mem_of_getElem? (i := 4) (by decide +kernel)))) dX11_likesOf_63 ?_
            refine lv_iload_n hx hb dX11_likesOf_66 rfl (lv_at hl 2 rfl) ?_
            refine m_iald S hW hZ.sp.2.2.2.1 u rfl (by omega) (by decide) dX11_likesOf_67 ?_
            refine m_top (y := (z (4 + u) 1)) (hZ.iMo he) ?_
            refine lv_iadd hx hb dX11_likesOf_68 ?_
            refine lv_goto (tgt := 91) hx hb dX11_likesOf_69 (by decide) ?_
            refine lv_iadd hx hb dX11_likesOf_91 ?_
            refine lv_istore (lv' := [(4, .int (sm + ((askT tx 1 (fNm (nI (fOnes mk)) (z (11 + 2 * g) k) (z (10 + 2 * g) 1) (z (4 + u) 1) (z (10 + 2 * g) 2) (z 0 4))) + (z (4 + u) 1)))), (6, .int (askT tx 1 (fNm (nI (fOnes mk)) (z (11 + 2 * g) k) (z (10 + 2 * g) 1) (z (4 + u) 1) (z (10 + 2 * g) 2) (z 0 4)))), (0, .ref (ad 200)), (1, .int (nI u)), (2, .int (nI g)), (3, .int (nI mk)), (5, .int (nI k))]) hx hb dX11_likesOf_92 hl (by decide) rfl (fun ls hl => ?_)
            refine lv_iinc (v := nI (k + 1)) (lv' := [(5, .int (nI (k + 1))), (4, .int (sm + ((askT tx 1 (fNm (nI (fOnes mk)) (z (11 + 2 * g) k) (z (10 + 2 * g) 1) (z (4 + u) 1) (z (10 + 2 * g) 2) (z 0 4))) + (z (4 + u) 1)))), (6, .int (askT tx 1 (fNm (nI (fOnes mk)) (z (11 + 2 * g) k) (z (10 + 2 * g) 1) (z (4 + u) 1) (z (10 + 2 * g) 2) (z 0 4)))), (0, .ref (ad 200)), (1, .int (nI u)), (2, .int (nI g)), (3, .int (nI mk))]) hx hb dX11_likesOf_94 hl (k := 6) rfl (m_inc k 1) (by decide) rfl (fun ls hl => ?_)
            refine lv_goto (tgt := 6) hx hb dX11_likesOf_97 (by decide) ?_
            exact ih_6  (sm + ((askT tx 1 (fNm (nI (fOnes mk)) (z (11 + 2 * g) k) (z (10 + 2 * g) 1) (z (4 + u) 1) (z (10 + 2 * g) 2) (z 0 4))) + (z (4 + u) 1))) (k + 1)  _ _ _ (by omega) (by rw [fLikes, if_neg (fBit_t hmk (by omega) c_2), ← hs, fBits_nI mk hmk, fLike]; first | (rw [if_pos c_3]; done) | (rw [if_neg c_3, if_pos c_3]; done) | (rw [if_neg c_3, if_neg c_3]; done)) (by omega) hW (lv_sub hl [3, 4, 5, 6, 1, 0] rfl)
  exact loop_6 (10 - 0 + 1) (nI 0) 0  _ _ _ (by omega) (by rfl) (by omega) hW (lv_sub hl [2, 3, 4, 5, 1, 0] rfl)
set_option maxHeartbeats 4000000 in
set_option maxRecDepth 100000 in
theorem c_X11_canBe (l : Launch) (G : mG) (ad : Nat → Nat) (sh : Nat → Option mSh) (V : mV) (z : fZ) (ne ng rl : Nat) (tx : sT) (u g p0 : Nat) (hZ : MZ sh V z ne ng rl tx) (he : u < ne) (hg : g < ng) (hp0 : p0 < 16) : mM l yX11_canBe wsX11_canBe ({ frames := 4, cells := 0, slots := 0, locals := 95 } : Room) G ad sh V [.ref (ad 200), .int (nI u), .int (nI g), .int (nI p0)] 0 0 (mPip ad sh V (fun r => (nI 1 = r ∧ (zCan (askT tx) z u g p0)) ∨ (nI 0 = r ∧ (¬ zCan (askT tx) z u g p0)))) := by
  refine mM.of (cc := cX11_canBe) (maxL := 5) (ret := (some .boolean)) (by decide) rfl (Nat.le_of_ble_eq_true rfl) ?_
  intro p e s m below meth c S hr hlk hnm hW ls hl
  obtain ⟨hx, hb, hml, hown, hts⟩ := id S
  have hl : lv_has ls 5 [(0, .ref (ad 200)), (1, .int (nI u)), (2, .int (nI g)), (3, .int (nI p0))] := hl
  have hS0 : True := trivial
  have hne5 := hZ.ne5
  have hng6 := hZ.ng6
  refine lv_aload_n hx hb dX11_canBe_0 rfl (lv_at hl 0 rfl) ?_
  refine lv_iload_n hx hb dX11_canBe_1 rfl (lv_at hl 1 rfl) ?_
  refine lv_iload_n hx hb dX11_canBe_2 rfl (lv_at hl 2 rfl) ?_
  refine lv_iload_n hx hb dX11_canBe_3 rfl (lv_at hl 3 rfl) ?_
  refine m_cie (m_rV S hW (c_X11_markOf l G ad sh V z ne ng rl tx u g p0 hZ (by first | assumption | omega) (by first | assumption | omega) (by first | assumption | omega)) (cwV 3 hts (gCall [.methodLink RX11 198 yX11_markOf, .instanceMethod yX11_markOf, .selects RX11 yX11_markOf yX11_markOf, .initialized RX11] (List.forall_mem_cons.mpr ⟨(wa_26 _ (List.mem_of_getElem? (i := 18) (by decide +kernel))), (List.forall_mem_cons.mpr ⟨(wa_26 _ (List.mem_of_getElem? (i := 15) (by decide +kernel))), (List.forall_mem_cons.mpr ⟨(wa_26 _ (List.mem_of_getElem? (i := 16) (by decide +kernel))), (List.forall_mem_cons.mpr ⟨(wa_26 _ (List.mem_of_getElem? (i := 17) (by decide +kernel))), (List.forall_mem_cons.mpr ⟨(wa_1 _ (List.mem_of_getElem? (i := 5) (by decide +kernel))), (fun _ h => absurd h List.not_mem_nil)⟩)⟩)⟩)⟩)⟩)) rfl rfl rfl (by decide +kernel) ⟨Nat.le_of_ble_eq_true rfl, Nat.le_of_ble_eq_true rfl⟩) hZ.sp.1 kX11 rfl hl.1 rfl (Nat.le_of_ble_eq_true rfl) dX11_canBe_4 ⟨Nat.le_of_ble_eq_true rfl, Nat.le_of_ble_eq_true rfl⟩) hW (fun H locs hW => ?_)
  have hmk := hZ.ok.mkm he hg hp0
  refine lv_istore (lv' := [(4, .int (nI (zm z u g p0))), (0, .ref (ad 200)), (1, .int (nI u)), (2, .int (nI g)), (3, .int (nI p0))]) hx hb dX11_canBe_7 hl (by decide) rfl (fun ls hl => ?_)
  refine lv_iload hx hb dX11_canBe_9 (lv_at hl 0 rfl) ?_
  refine m_if_eq (tgt := 39) hx hb dX11_canBe_11 (by decide) (fun c_1 => ?_) (fun c_1 => ?_)
  · skip
    have c_1 : (zm z u g p0) = 0 := (nI_eq (by omega) (by omega)).mp c_1
    refine lv_iconst (v := nI 0) hx hb dX11_canBe_39 (by decide) ?_
    exact m_zret S hr hlk hW rfl dX11_canBe_40 ⟨rfl, (by exact Or.inr ⟨rfl, fun z => z.1 (by rw [hmk.1, c_1])⟩)⟩
  · skip
    have c_1 : ¬ (zm z u g p0) = 0 := mt (nI_eq (by omega) (by omega)).mpr c_1
    refine lv_aload_n hx hb dX11_canBe_14 rfl (lv_at hl 1 rfl) ?_
    refine lv_iload_n hx hb dX11_canBe_15 rfl (lv_at hl 2 rfl) ?_
    refine lv_iload_n hx hb dX11_canBe_16 rfl (lv_at hl 3 rfl) ?_
    refine lv_iload hx hb dX11_canBe_17 (lv_at hl 0 rfl) ?_
    refine m_cie (m_rV S hW (c_X11_costsOf l G ad sh V z ne ng rl tx u g (zm z u g p0) hZ (by first | assumption | omega) (by first | assumption | omega) hmk.2) (cwV 3 hts (gCall [.methodLink RX11 201 yX11_costsOf, .instanceMethod yX11_costsOf, .selects RX11 yX11_costsOf yX11_costsOf, .initialized RX11] (List.forall_mem_cons.mpr ⟨(wa_27 _ (List.mem_of_getElem? (i := 1) (by decide +kernel))), (List.forall_mem_cons.mpr ⟨(wa_26 _ (List.mem_of_getElem? (i := 22) (by decide +kernel))), (List.forall_mem_cons.mpr ⟨(wa_26 _ (List.mem_of_getElem? (i := 23) (by decide +kernel))), (List.forall_mem_cons.mpr ⟨(wa_27 _ (List.mem_of_getElem? (i := 0) (by decide +kernel))), (List.forall_mem_cons.mpr ⟨(wa_1 _ (List.mem_of_getElem? (i := 5) (by decide +kernel))), (fun _ h => absurd h List.not_mem_nil)⟩)⟩)⟩)⟩)⟩)) rfl rfl rfl (by decide +kernel) ⟨Nat.le_of_ble_eq_true rfl, Nat.le_of_ble_eq_true rfl⟩) hZ.sp.1 kX11 rfl hl.1 rfl (Nat.le_of_ble_eq_true rfl) dX11_canBe_19 ⟨Nat.le_of_ble_eq_true rfl, Nat.le_of_ble_eq_true rfl⟩) hW (fun H locs hW => ?_)
    refine lv_aload_n hx hb dX11_canBe_22 rfl (lv_at hl 1 rfl) ?_
    refine m_getr S hW hZ.sp.1 5 rfl (j := 204) rfl kX11 (iW11 _) (by decide) (List.mem_cons_of_mem _ (wa_11 _ (List.mem_of_getElem? (i := 5) (by decide +kernel)))) dX11_canBe_23 ?_
    refine lv_iconst (v := nI 3) hx hb dX11_canBe_26 (by decide) ?_
    refine lv_iload_n hx hb dX11_canBe_27 rfl (lv_at hl 2 rfl) ?_
    refine lv_imul hx hb dX11_canBe_28 ?_
    refine m_top (y := nI (3 * u)) (pk_mul 3 u) ?_
    refine lv_iconst (v := nI 1) hx hb dX11_canBe_29 (by decide) ?_
    refine lv_iadd hx hb dX11_canBe_30 ?_
    refine m_top (y := nI ((3 * u) + 1)) (nI_add (3 * u) 1) ?_
    refine m_iald S hW hZ.sp.2.2.2.2.1 ((3 * u) + 1) rfl (by omega) (by decide) dX11_canBe_31 ?_
    refine m_top (y := (z (4 + u) 3)) (hZ.rPu he) ?_
    refine lv_icmp_gt (tgt := 39) hx hb dX11_canBe_32 (by decide) (fun c_2 => ?_) (fun c_2 => ?_)
    · skip
      refine lv_iconst (v := nI 0) hx hb dX11_canBe_39 (by decide) ?_
      exact m_zret S hr hlk hW rfl dX11_canBe_40 ⟨rfl, (by exact Or.inr ⟨rfl, fun z => z.2 (by rw [hmk.1]; exact c_2)⟩)⟩
    · skip
      refine lv_iconst (v := nI 1) hx hb dX11_canBe_35 (by decide) ?_
      refine lv_goto (tgt := 40) hx hb dX11_canBe_36 (by decide) ?_
      exact m_zret S hr hlk hW rfl dX11_canBe_40 ⟨rfl, (by exact Or.inl ⟨rfl, by rw [hmk.1]; exact mt (nI_eq (by omega) (by decide)).mp c_1, by rw [hmk.1]; exact c_2⟩)⟩
set_option maxHeartbeats 4000000 in
set_option maxRecDepth 100000 in
theorem c_X11_bites (l : Launch) (G : mG) (ad : Nat → Nat) (sh : Nat → Option mSh) (V : mV) (z : fZ) (ne ng rl : Nat) (tx : sT) (u g p0 : Nat) (hZ : MZ sh V z ne ng rl tx) (he : u < ne) (hg : g < ng) (hp0 : p0 < 16) (hcan : zCan (askT tx) z u g p0) : mM l yX11_bites wsX11_bites ({ frames := 4, cells := 0, slots := 0, locals := 97 } : Room) G ad sh V [.ref (ad 200), .int (nI u), .int (nI g), .int (nI p0)] 0 0 (mPi ad sh (fun r V' => (zGa (askT tx) z u g p0) = r ∧ (MZ sh V' (zBi (askT tx) z u g p0) ne ng rl tx) ∧ (MB V V'))) := by
  refine mM.of (cc := cX11_bites) (maxL := 7) (ret := (some .int)) (by decide) rfl (Nat.le_of_ble_eq_true rfl) ?_
  intro p e s m below meth c S hr hlk hnm hW ls hl
  obtain ⟨hx, hb, hml, hown, hts⟩ := id S
  have hl : lv_has ls 7 [(0, .ref (ad 200)), (1, .int (nI u)), (2, .int (nI g)), (3, .int (nI p0))] := hl
  have hS0 : True := trivial
  have hne5 := hZ.ne5
  have hng6 := hZ.ng6
  refine lv_aload_n hx hb dX11_bites_0 rfl (lv_at hl 0 rfl) ?_
  refine lv_iload_n hx hb dX11_bites_1 rfl (lv_at hl 1 rfl) ?_
  refine lv_iload_n hx hb dX11_bites_2 rfl (lv_at hl 2 rfl) ?_
  refine lv_iload_n hx hb dX11_bites_3 rfl (lv_at hl 3 rfl) ?_
  refine m_cie (m_rV S hW (c_X11_markOf l G ad sh V z ne ng rl tx u g p0 hZ (by first | assumption | omega) (by first | assumption | omega) (by first | assumption | omega)) (cwV 3 hts (gCall [.methodLink RX11 198 yX11_markOf, .instanceMethod yX11_markOf, .selects RX11 yX11_markOf yX11_markOf, .initialized RX11] (List.forall_mem_cons.mpr ⟨(wa_26 _ (List.mem_of_getElem? (i := 18) (by decide +kernel))), (List.forall_mem_cons.mpr ⟨(wa_26 _ (List.mem_of_getElem? (i := 15) (by decide +kernel))), (List.forall_mem_cons.mpr ⟨(wa_26 _ (List.mem_of_getElem? (i := 16) (by decide +kernel))), (List.forall_mem_cons.mpr ⟨(wa_26 _ (List.mem_of_getElem? (i := 17) (by decide +kernel))), (List.forall_mem_cons.mpr ⟨(wa_1 _ (List.mem_of_getElem? (i := 5) (by decide +kernel))), (fun _ h => absurd h List.not_mem_nil)⟩)⟩)⟩)⟩)⟩)) rfl rfl rfl (by decide +kernel) ⟨Nat.le_of_ble_eq_true rfl, Nat.le_of_ble_eq_true rfl⟩) hZ.sp.1 kX11 rfl hl.1 rfl (Nat.le_of_ble_eq_true rfl) dX11_bites_4 ⟨Nat.le_of_ble_eq_true rfl, Nat.le_of_ble_eq_true rfl⟩) hW (fun H locs hW => ?_)
  have hmk := hZ.ok.mkm he hg hp0
  refine lv_istore (lv' := [(4, .int (nI (zm z u g p0))), (0, .ref (ad 200)), (1, .int (nI u)), (2, .int (nI g)), (3, .int (nI p0))]) hx hb dX11_bites_7 hl (by decide) rfl (fun ls hl => ?_)
  refine lv_aload_n hx hb dX11_bites_9 rfl (lv_at hl 1 rfl) ?_
  refine lv_iload_n hx hb dX11_bites_10 rfl (lv_at hl 2 rfl) ?_
  refine lv_iload_n hx hb dX11_bites_11 rfl (lv_at hl 3 rfl) ?_
  refine lv_iload hx hb dX11_bites_12 (lv_at hl 0 rfl) ?_
  refine m_cie (m_rV S hW (c_X11_costsOf l G ad sh V z ne ng rl tx u g (zm z u g p0) hZ (by first | assumption | omega) (by first | assumption | omega) hmk.2) (cwV 3 hts (gCall [.methodLink RX11 201 yX11_costsOf, .instanceMethod yX11_costsOf, .selects RX11 yX11_costsOf yX11_costsOf, .initialized RX11] (List.forall_mem_cons.mpr ⟨(wa_27 _ (List.mem_of_getElem? (i := 1) (by decide +kernel))), (List.forall_mem_cons.mpr ⟨(wa_26 _ (List.mem_of_getElem? (i := 22) (by decide +kernel))), (List.forall_mem_cons.mpr ⟨(wa_26 _ (List.mem_of_getElem? (i := 23) (by decide +kernel))), (List.forall_mem_cons.mpr ⟨(wa_27 _ (List.mem_of_getElem? (i := 0) (by decide +kernel))), (List.forall_mem_cons.mpr ⟨(wa_1 _ (List.mem_of_getElem? (i := 5) (by decide +kernel))), (fun _ h => absurd h List.not_mem_nil)⟩)⟩)⟩)⟩)⟩)) rfl rfl rfl (by decide +kernel) ⟨Nat.le_of_ble_eq_true rfl, Nat.le_of_ble_eq_true rfl⟩) hZ.sp.1 kX11 rfl hl.1 rfl (Nat.le_of_ble_eq_true rfl) dX11_bites_14 ⟨Nat.le_of_ble_eq_true rfl, Nat.le_of_ble_eq_true rfl⟩) hW (fun H locs hW => ?_)
  refine m_top (y := (zCo (askT tx) z u g (zMk z u g p0))) (by rw [hmk.1]) ?_
  refine lv_istore (lv' := [(5, .int (zCo (askT tx) z u g (zMk z u g p0))), (4, .int (nI (zm z u g p0))), (0, .ref (ad 200)), (1, .int (nI u)), (2, .int (nI g)), (3, .int (nI p0))]) hx hb dX11_bites_17 hl (by decide) rfl (fun ls hl => ?_)
  refine lv_aload_n hx hb dX11_bites_19 rfl (lv_at hl 2 rfl) ?_
  refine lv_iload_n hx hb dX11_bites_20 rfl (lv_at hl 3 rfl) ?_
  refine lv_iload_n hx hb dX11_bites_21 rfl (lv_at hl 4 rfl) ?_
  refine lv_iload hx hb dX11_bites_22 (lv_at hl 1 rfl) ?_
  refine m_cie (m_rV S hW (c_X11_likesOf l G ad sh V z ne ng rl tx u g (zm z u g p0) hZ (by first | assumption | omega) (by first | assumption | omega) hmk.2) (cwV 3 hts (gCall [.methodLink RX11 207 yX11_likesOf, .instanceMethod yX11_likesOf, .selects RX11 yX11_likesOf yX11_likesOf, .initialized RX11] (List.forall_mem_cons.mpr ⟨(wa_27 _ (List.mem_of_getElem? (i := 9) (by decide +kernel))), (List.forall_mem_cons.mpr ⟨(wa_27 _ (List.mem_of_getElem? (i := 6) (by decide +kernel))), (List.forall_mem_cons.mpr ⟨(wa_27 _ (List.mem_of_getElem? (i := 7) (by decide +kernel))), (List.forall_mem_cons.mpr ⟨(wa_27 _ (List.mem_of_getElem? (i := 8) (by decide +kernel))), (List.forall_mem_cons.mpr ⟨(wa_1 _ (List.mem_of_getElem? (i := 5) (by decide +kernel))), (fun _ h => absurd h List.not_mem_nil)⟩)⟩)⟩)⟩)⟩)) rfl rfl rfl (by decide +kernel) ⟨Nat.le_of_ble_eq_true rfl, Nat.le_of_ble_eq_true rfl⟩) hZ.sp.1 kX11 rfl hl.1 rfl (Nat.le_of_ble_eq_true rfl) dX11_bites_24 ⟨Nat.le_of_ble_eq_true rfl, Nat.le_of_ble_eq_true rfl⟩) hW (fun H locs hW => ?_)
  refine m_top (y := (zLi (askT tx) z u g (zMk z u g p0))) (by rw [hmk.1]) ?_
  refine lv_istore (lv' := [(6, .int (zLi (askT tx) z u g (zMk z u g p0))), (5, .int (zCo (askT tx) z u g (zMk z u g p0))), (4, .int (nI (zm z u g p0))), (0, .ref (ad 200)), (1, .int (nI u)), (2, .int (nI g)), (3, .int (nI p0))]) hx hb dX11_bites_27 hl (by decide) rfl (fun ls hl => ?_)
  refine lv_aload_n hx hb dX11_bites_29 rfl (lv_at hl 3 rfl) ?_
  refine m_getr S hW hZ.sp.1 5 rfl (j := 204) rfl kX11 (iW11 _) (by decide) (List.mem_cons_of_mem _ (wa_11 _ (List.mem_of_getElem? (i := 5) (by decide +kernel)))) dX11_bites_30 ?_
  refine lv_iconst (v := nI 3) hx hb dX11_bites_33 (by decide) ?_
  refine lv_iload_n hx hb dX11_bites_34 rfl (lv_at hl 4 rfl) ?_
  refine lv_imul hx hb dX11_bites_35 ?_
  refine m_top (y := nI (3 * u)) (pk_mul 3 u) ?_
  refine lv_iconst (v := nI 1) hx hb dX11_bites_36 (by decide) ?_
  refine lv_iadd hx hb dX11_bites_37 ?_
  refine m_top (y := nI ((3 * u) + 1)) (nI_add (3 * u) 1) ?_
  refine lv_dup2_11 hx hb dX11_bites_38 rfl rfl ?_
  refine m_iald S hW hZ.sp.2.2.2.2.1 ((3 * u) + 1) rfl (by omega) (by decide) dX11_bites_39 ?_
  refine m_top (y := (z (4 + u) 3)) (hZ.rPu he) ?_
  refine lv_iload hx hb dX11_bites_40 (lv_at hl 1 rfl) ?_
  refine lv_isub hx hb dX11_bites_42 ?_
  refine m_iast S hW hZ.sp.2.2.2.2.1 ((3 * u) + 1) rfl (by omega) (by decide) dX11_bites_43 (fun H locs hW => ?_)
  obtain ⟨V_1, eV_1⟩ : ∃ vv_ : mV, vv_ = mU V 204 ((3 * u) + 1) (((z (4 + u) 3) - (zCo (askT tx) z u g (zMk z u g p0)))) := ⟨_, rfl⟩
  rw [← eV_1] at hW
  refine lv_aload_n hx hb dX11_bites_44 rfl (lv_at hl 3 rfl) ?_
  refine m_getr S hW hZ.sp.1 5 rfl (j := 204) rfl kX11 (iW11 _) (by decide) (List.mem_cons_of_mem _ (wa_11 _ (List.mem_of_getElem? (i := 5) (by decide +kernel)))) dX11_bites_45 ?_
  refine lv_iconst (v := nI 3) hx hb dX11_bites_48 (by decide) ?_
  refine lv_iload_n hx hb dX11_bites_49 rfl (lv_at hl 4 rfl) ?_
  refine lv_imul hx hb dX11_bites_50 ?_
  refine m_top (y := nI (3 * u)) (pk_mul 3 u) ?_
  refine lv_iconst (v := nI 2) hx hb dX11_bites_51 (by decide) ?_
  refine lv_iadd hx hb dX11_bites_52 ?_
  refine m_top (y := nI ((3 * u) + 2)) (nI_add (3 * u) 2) ?_
  refine lv_aload_n hx hb dX11_bites_53 rfl (lv_at hl 3 rfl) ?_
  refine m_getr S hW hZ.sp.1 5 rfl (j := 204) rfl kX11 (iW11 _) (by decide) (List.mem_cons_of_mem _ (wa_11 _ (List.mem_of_getElem? (i := 5) (by decide +kernel)))) dX11_bites_54 ?_
  refine lv_iconst (v := nI 3) hx hb dX11_bites_57 (by decide) ?_
  refine lv_iload_n hx hb dX11_bites_58 rfl (lv_at hl 4 rfl) ?_
  refine lv_imul hx hb dX11_bites_59 ?_
  refine m_top (y := nI (3 * u)) (pk_mul 3 u) ?_
  refine lv_iconst (v := nI 2) hx hb dX11_bites_60 (by decide) ?_
  refine lv_iadd hx hb dX11_bites_61 ?_
  refine m_top (y := nI ((3 * u) + 2)) (nI_add (3 * u) 2) ?_
  refine m_iald S hW hZ.sp.2.2.2.2.1 ((3 * u) + 2) rfl (by omega) (by decide) dX11_bites_62 ?_
  refine m_top (y := (z (4 + u) 4)) (by rw [eV_1, mU_ne _ _ (by omega)]; exact hZ.rHa he) ?_
  refine lv_iload hx hb dX11_bites_63 (lv_at hl 0 rfl) ?_
  refine lv_iadd hx hb dX11_bites_65 ?_
  refine lv_iconst (v := nI 0) hx hb dX11_bites_66 (by decide) ?_
  refine lv_sipush (v := nI 9999) hx hb dX11_bites_67 (by decide) ?_
  refine m_cie (m_rS S hW (c_X11_within l G ad sh V_1 ((z (4 + u) 4) + (zLi (askT tx) z u g (zMk z u g p0))) 0 9999) (va_cwS 3 hts (gCall [.methodLink RX11 176 yX11_within, .static yX11_within, .initialized RX11] (List.forall_mem_cons.mpr ⟨(wa_20 _ (List.mem_of_getElem? (i := 8) (by decide +kernel))), (List.forall_mem_cons.mpr ⟨(wa_20 _ (List.mem_of_getElem? (i := 6) (by decide +kernel))), (List.forall_mem_cons.mpr ⟨(wa_20 _ (List.mem_of_getElem? (i := 7) (by decide +kernel))), (List.forall_mem_cons.mpr ⟨(wa_1 _ (List.mem_of_getElem? (i := 5) (by decide +kernel))), (fun _ h => absurd h List.not_mem_nil)⟩)⟩)⟩)⟩)) rfl rfl rfl (by decide +kernel) ⟨Nat.le_of_ble_eq_true rfl, Nat.le_of_ble_eq_true rfl⟩) rfl hl.1 rfl (Nat.le_of_ble_eq_true rfl) dX11_bites_70 ⟨Nat.le_of_ble_eq_true rfl, Nat.le_of_ble_eq_true rfl⟩) hW (fun H locs hW => ?_)
  refine m_iast S hW hZ.sp.2.2.2.2.1 ((3 * u) + 2) rfl (by omega) (by decide) dX11_bites_73 (fun H locs hW => ?_)
  obtain ⟨V_2, eV_2⟩ : ∃ vv_ : mV, vv_ = mU V_1 204 ((3 * u) + 2) ((fCl 0 9999 ((z (4 + u) 4) + (zLi (askT tx) z u g (zMk z u g p0))))) := ⟨_, rfl⟩
  rw [← eV_2] at hW
  refine lv_aload_n hx hb dX11_bites_74 rfl (lv_at hl 3 rfl) ?_
  refine m_getr S hW hZ.sp.1 1 rfl (j := 201) rfl kX11 (iW11 _) (by decide) (List.mem_cons_of_mem _ (wa_11 _ (List.mem_of_getElem? (i := 2) (by decide +kernel)))) dX11_bites_75 ?_
  refine lv_bipush (v := nI 12) hx hb dX11_bites_78 (by decide) ?_
  refine lv_iload_n hx hb dX11_bites_80 rfl (lv_at hl 5 rfl) ?_
  refine lv_imul hx hb dX11_bites_81 ?_
  refine m_top (y := nI (12 * g)) (pk_mul 12 g) ?_
  refine lv_bipush (v := nI 11) hx hb dX11_bites_82 (by decide) ?_
  refine lv_iadd hx hb dX11_bites_84 ?_
  refine m_top (y := nI ((12 * g) + 11)) (nI_add (12 * g) 11) ?_
  refine lv_dup2_11 hx hb dX11_bites_85 rfl rfl ?_
  refine m_iald S hW hZ.sp.2.1 ((12 * g) + 11) rfl (by omega) (by decide) dX11_bites_86 ?_
  refine m_top (y := (z (10 + 2 * g) 2)) (by rw [eV_2, mU_no _ _ (by decide), eV_1, mU_no _ _ (by decide)]; exact hZ.iLe hg) ?_
  refine lv_iload hx hb dX11_bites_87 (lv_at hl 2 rfl) ?_
  refine lv_iconst (v := -1) hx hb dX11_bites_89 (by decide) ?_
  refine lv_ixor hx hb dX11_bites_90 ?_
  refine lv_iand hx hb dX11_bites_91 ?_
  refine m_top (y := (z (10 + 2 * g) 2 &&& ((zMk z u g p0) ^^^ -1))) (by rw [hmk.1]) ?_
  refine m_iast S hW hZ.sp.2.1 ((12 * g) + 11) rfl (by omega) (by decide) dX11_bites_92 (fun H locs hW => ?_)
  obtain ⟨V_3, eV_3⟩ : ∃ vv_ : mV, vv_ = mU V_2 201 ((12 * g) + 11) ((z (10 + 2 * g) 2 &&& ((zMk z u g p0) ^^^ -1))) := ⟨_, rfl⟩
  rw [← eV_3] at hW
  refine lv_iload hx hb dX11_bites_93 (lv_at hl 0 rfl) ?_
  refine lv_iload hx hb dX11_bites_95 (lv_at hl 1 rfl) ?_
  refine lv_isub hx hb dX11_bites_97 ?_
  exact m_iret S hr hlk hW dX11_bites_98 (by rw [eV_3, eV_2, eV_1]; exact ⟨rfl, hZ.bite11 he hg hp0 hcan⟩)
set_option maxHeartbeats 4000000 in
set_option maxRecDepth 100000 in
theorem c_X11_bestOf (l : Launch) (G : mG) (ad : Nat → Nat) (sh : Nat → Option mSh) (V : mV) (z : fZ) (ne ng rl : Nat) (tx : sT) (u : Nat) (hZ : MZ sh V z ne ng rl tx) (he : u < ne) : mM l yX11_bestOf wsX11_bestOf ({ frames := 5, cells := 0, slots := 0, locals := 119 } : Room) G ad sh V [.ref (ad 200), .int (nI u)] 0 0 (mPi ad sh (fun r V' => (zBest (askT tx) z u (ng * 16)).1 = r ∧ (V' = mU V 200 32 (zBest (askT tx) z u (ng * 16)).2))) := by
  refine mM.of (cc := cX11_bestOf) (maxL := 10) (ret := (some .int)) (by decide) rfl (Nat.le_of_ble_eq_true rfl) ?_
  intro p e s m below meth c S hr hlk hnm hW ls hl
  obtain ⟨hx, hb, hml, hown, hts⟩ := id S
  have hl : lv_has ls 10 [(0, .ref (ad 200)), (1, .int (nI u))] := hl
  have hS0 : True := trivial
  have hne5 := hZ.ne5
  have hng6 := hZ.ng6
  refine lv_iconst (v := -1) hx hb dX11_bestOf_0 (by decide) ?_
  refine lv_istore_n (lv' := [(2, .int (-1)), (0, .ref (ad 200)), (1, .int (nI u))]) hx hb dX11_bestOf_1 rfl hl (by decide) rfl (fun ls hl => ?_)
  refine lv_aload_n hx hb dX11_bestOf_2 rfl (lv_at hl 1 rfl) ?_
  refine lv_iconst (v := nI 0) hx hb dX11_bestOf_3 (by decide) ?_
  refine m_puti S hW hZ.sp.1 32 rfl kX11 (iW11 _) tyX11 tyX11_ok nmX11 (by decide) (List.mem_cons_of_mem _ (wa_29 _ (List.mem_of_getElem? (i := 11) (by decide +kernel)))) (Or.inl rfl) rfl rfl dX11_bestOf_4 (fun H locs hW => ?_)
  obtain ⟨V_1, eV_1⟩ : ∃ vv_ : mV, vv_ = mU V 200 32 (nI 0) := ⟨_, rfl⟩
  rw [← eV_1] at hW
  refine lv_iconst (v := nI 0) hx hb dX11_bestOf_7 (by decide) ?_
  refine lv_istore_n (lv' := [(3, .int (nI 0)), (2, .int (-1)), (0, .ref (ad 200)), (1, .int (nI u))]) hx hb dX11_bestOf_8 rfl hl (by decide) rfl (fun ls hl => ?_)
  have loop_9 : ∀ (n_9 : Nat) (bs : Int32) (k : Nat) (V1 : mV) (H : Heap) (locs : List Loc) (ls : Array Slot), (k ≤ 16 * ng) → (bs = (zBest (askT tx) z u k).1) → (V1 = mU V 200 32 (zBest (askT tx) z u k).2) → (16 * ng - k) < n_9 → mC (mA ad sh s.heap.size) s.heap s G ad sh V1 H locs → lv_has ls 10 [(0, .ref (ad 200)), (1, .int (nI u)), (2, .int bs), (3, .int (nI k))] → W p l e ({ frames := 5, cells := 0, slots := 0, locals := 119 } : Room) s m ([.ref (ad 200), .int (nI u)] : List Value).toArray below meth c H locs 0 0 (MQ below (mPost G ad sh s.heap.size (mPi ad sh (fun r V' => (zBest (askT tx) z u (ng * 16)).1 = r ∧ (V' = mU V 200 32 (zBest (askT tx) z u (ng * 16)).2)))) ([.ref (ad 200), .int (nI u)] : List Value).toArray s 0 0 (mA ad sh s.heap.size)) (F0 m 9 ls []) := by
    intro n_9
    induction n_9 with
    | zero => intro bs k V1 H locs ls hk hbs hv hM_ hW hl; omega
    | succ n_9 ih_9 =>
      intro bs k V1 H locs ls hk hbs hv hM_ hW hl
      have hMk1 : MK V V1 := by rw [hv]; exact (MK.rfl V).p200 _ (Or.inl rfl)
      have hZ1 := hZ.k hMk1
      have v32 : V1 200 32 = (zBest (askT tx) z u k).2 := by rw [hv, mU_eq]
      refine lv_iload_n hx hb dX11_bestOf_9 rfl (lv_at hl 3 rfl) ?_
      refine lv_bipush (v := nI 16) hx hb dX11_bestOf_10 (by decide) ?_
      refine lv_aload_n hx hb dX11_bestOf_12 rfl (lv_at hl 0 rfl) ?_
      refine m_geti S hW hZ.sp.1 0 rfl kX11 (iW11 _) (by decide) (List.mem_cons_of_mem _ (wa_15 _ (List.mem_of_getElem? (i := 1) (by decide +kernel)))) dX11_bestOf_13 ?_
      refine m_top (y := nI ng) hZ1.ng_ ?_
      refine lv_imul hx hb dX11_bestOf_16 ?_
      refine m_top (y := nI (16 * ng)) (pk_mul 16 ng) ?_
      refine lv_icmp_ge (tgt := 177) hx hb dX11_bestOf_17 (by decide) (fun c_2 => ?_) (fun c_2 => ?_)
      · skip
        have c_2 : (16 * ng) ≤ k := (nI_leI (by omega) (by omega)).mp c_2
        refine lv_iload_n hx hb dX11_bestOf_177 rfl (lv_at hl 2 rfl) ?_
        exact m_iret S hr hlk hW dX11_bestOf_178 (by rw [show k = ng * 16 by omega] at hbs hv; exact ⟨hbs.symm, hv⟩)
      · skip
        have c_2 : ¬ (16 * ng) ≤ k := mt (nI_leI (by omega) (by omega)).mpr c_2
        have hg16 : k / 16 < ng := by omega
        have hp16 : k % 16 < 16 := Nat.mod_lt _ (by decide)
        refine lv_iload_n hx hb dX11_bestOf_20 rfl (lv_at hl 3 rfl) ?_
        refine lv_bipush (v := nI 16) hx hb dX11_bestOf_21 (by decide) ?_
        refine lv_idiv hx hb dX11_bestOf_23 (by decide) ?_
        refine m_top (y := nI (k / 16)) (pk_div (by omega) (by omega) (by omega)) ?_
        refine lv_istore (lv' := [(4, .int (nI (k / 16))), (0, .ref (ad 200)), (1, .int (nI u)), (2, .int bs), (3, .int (nI k))]) hx hb dX11_bestOf_24 hl (by decide) rfl (fun ls hl => ?_)
        refine lv_iload_n hx hb dX11_bestOf_26 rfl (lv_at hl 4 rfl) ?_
        refine lv_bipush (v := nI 16) hx hb dX11_bestOf_27 (by decide) ?_
        refine lv_irem hx hb dX11_bestOf_29 (by decide) ?_
        refine m_top (y := nI (k % 16)) (pk_rem (by omega) (by omega) (by omega)) ?_
        refine lv_istore (lv' := [(5, .int (nI (k % 16))), (4, .int (nI (k / 16))), (0, .ref (ad 200)), (1, .int (nI u)), (2, .int bs), (3, .int (nI k))]) hx hb dX11_bestOf_30 hl (by decide) rfl (fun ls hl => ?_)
        refine lv_aload_n hx hb dX11_bestOf_32 rfl (lv_at hl 2 rfl) ?_
        refine lv_iload_n hx hb dX11_bestOf_33 rfl (lv_at hl 3 rfl) ?_
        refine lv_iload hx hb dX11_bestOf_34 (lv_at hl 1 rfl) ?_
        refine lv_iload hx hb dX11_bestOf_36 (lv_at hl 0 rfl) ?_
        refine m_cip (m_rV S hW (c_X11_canBe l G ad sh V1 z ne ng rl tx u (k / 16) (k % 16) hZ1 (by first | assumption | omega) hg16 hp16) (cwV 3 hts (gCall [.methodLink RX11 216 yX11_canBe, .instanceMethod yX11_canBe, .selects RX11 yX11_canBe yX11_canBe, .initialized RX11] (List.forall_mem_cons.mpr ⟨(wa_29 _ (List.mem_of_getElem? (i := 19) (by decide +kernel))), (List.forall_mem_cons.mpr ⟨(wa_29 _ (List.mem_of_getElem? (i := 16) (by decide +kernel))), (List.forall_mem_cons.mpr ⟨(wa_29 _ (List.mem_of_getElem? (i := 17) (by decide +kernel))), (List.forall_mem_cons.mpr ⟨(wa_29 _ (List.mem_of_getElem? (i := 18) (by decide +kernel))), (List.forall_mem_cons.mpr ⟨(wa_1 _ (List.mem_of_getElem? (i := 5) (by decide +kernel))), (fun _ h => absurd h List.not_mem_nil)⟩)⟩)⟩)⟩)⟩)) rfl rfl rfl (by decide +kernel) ⟨Nat.le_of_ble_eq_true rfl, Nat.le_of_ble_eq_true rfl⟩) hZ.sp.1 kX11 rfl hl.1 rfl (Nat.le_of_ble_eq_true rfl) dX11_bestOf_38 ⟨Nat.le_of_ble_eq_true rfl, Nat.le_of_ble_eq_true rfl⟩) hW (fun r_4 H locs hp_3 hW => ?_)
        rcases hp_3 with ⟨rfl, w_5⟩ | ⟨rfl, w_6⟩
        · skip
          refine m_if_eq (tgt := 171) hx hb dX11_bestOf_41 (by decide) (fun c_7 => ?_) (fun c_7 => ?_)
          · exact absurd c_7 (by decide)
          · skip
            have hmk := hZ.ok.mkm he hg16 hp16
            refine lv_aload_n hx hb dX11_bestOf_44 rfl (lv_at hl 2 rfl) ?_
            refine lv_iload_n hx hb dX11_bestOf_45 rfl (lv_at hl 3 rfl) ?_
            refine lv_iload hx hb dX11_bestOf_46 (lv_at hl 1 rfl) ?_
            refine lv_iload hx hb dX11_bestOf_48 (lv_at hl 0 rfl) ?_
            refine m_cie (m_rV S hW (c_X11_markOf l G ad sh V1 z ne ng rl tx u (k / 16) (k % 16) hZ1 (by first | assumption | omega) hg16 hp16) (cwV 3 hts (gCall [.methodLink RX11 198 yX11_markOf, .instanceMethod yX11_markOf, .selects RX11 yX11_markOf yX11_markOf, .initialized RX11] (List.forall_mem_cons.mpr ⟨(wa_26 _ (List.mem_of_getElem? (i := 18) (by decide +kernel))), (List.forall_mem_cons.mpr ⟨(wa_26 _ (List.mem_of_getElem? (i := 15) (by decide +kernel))), (List.forall_mem_cons.mpr ⟨(wa_26 _ (List.mem_of_getElem? (i := 16) (by decide +kernel))), (List.forall_mem_cons.mpr ⟨(wa_26 _ (List.mem_of_getElem? (i := 17) (by decide +kernel))), (List.forall_mem_cons.mpr ⟨(wa_1 _ (List.mem_of_getElem? (i := 5) (by decide +kernel))), (fun _ h => absurd h List.not_mem_nil)⟩)⟩)⟩)⟩)⟩)) rfl rfl rfl (by decide +kernel) ⟨Nat.le_of_ble_eq_true rfl, Nat.le_of_ble_eq_true rfl⟩) hZ.sp.1 kX11 rfl hl.1 rfl (Nat.le_of_ble_eq_true rfl) dX11_bestOf_50 ⟨Nat.le_of_ble_eq_true rfl, Nat.le_of_ble_eq_true rfl⟩) hW (fun H locs hW => ?_)
            refine lv_istore (lv' := [(6, .int (nI (zm z u (k / 16) (k % 16)))), (5, .int (nI (k % 16))), (4, .int (nI (k / 16))), (0, .ref (ad 200)), (1, .int (nI u)), (2, .int bs), (3, .int (nI k))]) hx hb dX11_bestOf_53 hl (by decide) rfl (fun ls hl => ?_)
            refine lv_aload_n hx hb dX11_bestOf_55 rfl (lv_at hl 3 rfl) ?_
            refine lv_iload_n hx hb dX11_bestOf_56 rfl (lv_at hl 4 rfl) ?_
            refine lv_iload hx hb dX11_bestOf_57 (lv_at hl 2 rfl) ?_
            refine lv_iload hx hb dX11_bestOf_59 (lv_at hl 0 rfl) ?_
            refine m_cie (m_rV S hW (c_X11_likesOf l G ad sh V1 z ne ng rl tx u (k / 16) (zm z u (k / 16) (k % 16)) hZ1 (by first | assumption | omega) hg16 hmk.2) (cwV 3 hts (gCall [.methodLink RX11 207 yX11_likesOf, .instanceMethod yX11_likesOf, .selects RX11 yX11_likesOf yX11_likesOf, .initialized RX11] (List.forall_mem_cons.mpr ⟨(wa_27 _ (List.mem_of_getElem? (i := 9) (by decide +kernel))), (List.forall_mem_cons.mpr ⟨(wa_27 _ (List.mem_of_getElem? (i := 6) (by decide +kernel))), (List.forall_mem_cons.mpr ⟨(wa_27 _ (List.mem_of_getElem? (i := 7) (by decide +kernel))), (List.forall_mem_cons.mpr ⟨(wa_27 _ (List.mem_of_getElem? (i := 8) (by decide +kernel))), (List.forall_mem_cons.mpr ⟨(wa_1 _ (List.mem_of_getElem? (i := 5) (by decide +kernel))), (fun _ h => absurd h List.not_mem_nil)⟩)⟩)⟩)⟩)⟩)) rfl rfl rfl (by decide +kernel) ⟨Nat.le_of_ble_eq_true rfl, Nat.le_of_ble_eq_true rfl⟩) hZ.sp.1 kX11 rfl hl.1 rfl (Nat.le_of_ble_eq_true rfl) dX11_bestOf_61 ⟨Nat.le_of_ble_eq_true rfl, Nat.le_of_ble_eq_true rfl⟩) hW (fun H locs hW => ?_)
            refine lv_aload_n hx hb dX11_bestOf_64 rfl (lv_at hl 3 rfl) ?_
            refine lv_iload_n hx hb dX11_bestOf_65 rfl (lv_at hl 4 rfl) ?_
            refine lv_iload hx hb dX11_bestOf_66 (lv_at hl 2 rfl) ?_
            refine lv_iload hx hb dX11_bestOf_68 (lv_at hl 0 rfl) ?_
            refine m_cie (m_rV S hW (c_X11_costsOf l G ad sh V1 z ne ng rl tx u (k / 16) (zm z u (k / 16) (k % 16)) hZ1 (by first | assumption | omega) hg16 hmk.2) (cwV 3 hts (gCall [.methodLink RX11 201 yX11_costsOf, .instanceMethod yX11_costsOf, .selects RX11 yX11_costsOf yX11_costsOf, .initialized RX11] (List.forall_mem_cons.mpr ⟨(wa_27 _ (List.mem_of_getElem? (i := 1) (by decide +kernel))), (List.forall_mem_cons.mpr ⟨(wa_26 _ (List.mem_of_getElem? (i := 22) (by decide +kernel))), (List.forall_mem_cons.mpr ⟨(wa_26 _ (List.mem_of_getElem? (i := 23) (by decide +kernel))), (List.forall_mem_cons.mpr ⟨(wa_27 _ (List.mem_of_getElem? (i := 0) (by decide +kernel))), (List.forall_mem_cons.mpr ⟨(wa_1 _ (List.mem_of_getElem? (i := 5) (by decide +kernel))), (fun _ h => absurd h List.not_mem_nil)⟩)⟩)⟩)⟩)⟩)) rfl rfl rfl (by decide +kernel) ⟨Nat.le_of_ble_eq_true rfl, Nat.le_of_ble_eq_true rfl⟩) hZ.sp.1 kX11 rfl hl.1 rfl (Nat.le_of_ble_eq_true rfl) dX11_bestOf_70 ⟨Nat.le_of_ble_eq_true rfl, Nat.le_of_ble_eq_true rfl⟩) hW (fun H locs hW => ?_)
            refine lv_isub hx hb dX11_bestOf_73 ?_
            refine m_top (y := (zGa (askT tx) z u (k / 16) (k % 16))) (by rw [zGa, hmk.1]) ?_
            refine lv_istore (lv' := [(7, .int (zGa (askT tx) z u (k / 16) (k % 16))), (6, .int (nI (zm z u (k / 16) (k % 16)))), (5, .int (nI (k % 16))), (4, .int (nI (k / 16))), (0, .ref (ad 200)), (1, .int (nI u)), (2, .int bs), (3, .int (nI k))]) hx hb dX11_bestOf_74 hl (by decide) rfl (fun ls hl => ?_)
            refine lv_iload hx hb dX11_bestOf_76 (lv_at hl 0 rfl) ?_
            refine lv_aload_n hx hb dX11_bestOf_78 rfl (lv_at hl 4 rfl) ?_
            refine lv_iconst (v := nI 2) hx hb dX11_bestOf_79 (by decide) ?_
            refine lv_iload_n hx hb dX11_bestOf_80 rfl (lv_at hl 5 rfl) ?_
            refine lv_iload hx hb dX11_bestOf_81 (lv_at hl 3 rfl) ?_
            refine lv_iload hx hb dX11_bestOf_83 (lv_at hl 1 rfl) ?_
            refine m_cie (m_rS S hW (c_X11_ones l G ad sh V1 (zm z u (k / 16) (k % 16)) hmk.2) (va_cwS 1 hts (gCall [.methodLink RX11 170 yX11_ones, .static yX11_ones, .initialized RX11] (List.forall_mem_cons.mpr ⟨(wa_19 _ (List.mem_of_getElem? (i := 22) (by decide +kernel))), (List.forall_mem_cons.mpr ⟨(wa_19 _ (List.mem_of_getElem? (i := 20) (by decide +kernel))), (List.forall_mem_cons.mpr ⟨(wa_19 _ (List.mem_of_getElem? (i := 21) (by decide +kernel))), (List.forall_mem_cons.mpr ⟨(wa_1 _ (List.mem_of_getElem? (i := 5) (by decide +kernel))), (fun _ h => absurd h List.not_mem_nil)⟩)⟩)⟩)⟩)) rfl rfl rfl (by decide +kernel) ⟨Nat.le_of_ble_eq_true rfl, Nat.le_of_ble_eq_true rfl⟩) rfl hl.1 rfl (Nat.le_of_ble_eq_true rfl) dX11_bestOf_85 ⟨Nat.le_of_ble_eq_true rfl, Nat.le_of_ble_eq_true rfl⟩) hW (fun H locs hW => ?_)
            refine lv_aload_n hx hb dX11_bestOf_88 rfl (lv_at hl 4 rfl) ?_
            refine lv_iload hx hb dX11_bestOf_89 (lv_at hl 3 rfl) ?_
            refine lv_iload hx hb dX11_bestOf_91 (lv_at hl 1 rfl) ?_
            refine m_cie (m_rV S hW (c_X11_worthAll l G ad sh V1 z ne ng rl tx (k / 16) (zm z u (k / 16) (k % 16)) hZ1 hg16 hmk.2) (cwV 2 hts (gCall [.methodLink RX11 195 yX11_worthAll, .instanceMethod yX11_worthAll, .selects RX11 yX11_worthAll yX11_worthAll, .initialized RX11] (List.forall_mem_cons.mpr ⟨(wa_27 _ (List.mem_of_getElem? (i := 5) (by decide +kernel))), (List.forall_mem_cons.mpr ⟨(wa_27 _ (List.mem_of_getElem? (i := 2) (by decide +kernel))), (List.forall_mem_cons.mpr ⟨(wa_27 _ (List.mem_of_getElem? (i := 3) (by decide +kernel))), (List.forall_mem_cons.mpr ⟨(wa_27 _ (List.mem_of_getElem? (i := 4) (by decide +kernel))), (List.forall_mem_cons.mpr ⟨(wa_1 _ (List.mem_of_getElem? (i := 5) (by decide +kernel))), (fun _ h => absurd h List.not_mem_nil)⟩)⟩)⟩)⟩)⟩)) rfl rfl rfl (by decide +kernel) ⟨Nat.le_of_ble_eq_true rfl, Nat.le_of_ble_eq_true rfl⟩) hZ.sp.1 kX11 rfl hl.1 rfl (Nat.le_of_ble_eq_true rfl) dX11_bestOf_93 ⟨Nat.le_of_ble_eq_true rfl, Nat.le_of_ble_eq_true rfl⟩) hW (fun H locs hW => ?_)
            refine m_cie (m_rV S hW (c_X11_asksOf l G ad sh V1 z ne ng rl tx u (k / 16) 2 (nI (fOnes (zm z u (k / 16) (k % 16)))) (fWorth (z (11 + 2 * (k / 16))) (nI (zm z u (k / 16) (k % 16))) 10) hZ1 (by first | assumption | omega) hg16 (by first | assumption | omega)) (cwV 5 hts (gCall [.methodLink RX11 185 yX11_asksOf, .instanceMethod yX11_asksOf, .selects RX11 yX11_asksOf yX11_asksOf, .initialized RX11] (List.forall_mem_cons.mpr ⟨(wa_19 _ (List.mem_of_getElem? (i := 11) (by decide +kernel))), (List.forall_mem_cons.mpr ⟨(wa_19 _ (List.mem_of_getElem? (i := 8) (by decide +kernel))), (List.forall_mem_cons.mpr ⟨(wa_19 _ (List.mem_of_getElem? (i := 9) (by decide +kernel))), (List.forall_mem_cons.mpr ⟨(wa_19 _ (List.mem_of_getElem? (i := 10) (by decide +kernel))), (List.forall_mem_cons.mpr ⟨(wa_1 _ (List.mem_of_getElem? (i := 5) (by decide +kernel))), (fun _ h => absurd h List.not_mem_nil)⟩)⟩)⟩)⟩)⟩)) rfl rfl rfl (by decide +kernel) ⟨Nat.le_of_ble_eq_true rfl, Nat.le_of_ble_eq_true rfl⟩) hZ.sp.1 kX11 rfl hl.1 rfl (Nat.le_of_ble_eq_true rfl) dX11_bestOf_96 ⟨Nat.le_of_ble_eq_true rfl, Nat.le_of_ble_eq_true rfl⟩) hW (fun H locs hW => ?_)
            refine m_top (y := (zWa (askT tx) z u (k / 16) (zMk z u (k / 16) (k % 16)))) (by rw [zWa, fWait, hmk.1, fBits_nI _ hmk.2]) ?_
            refine lv_icmp_lt (tgt := 106) hx hb dX11_bestOf_99 (by decide) (fun c_8 => ?_) (fun c_8 => ?_)
            · skip
              refine lv_iconst (v := nI 0) hx hb dX11_bestOf_106 (by decide) ?_
              refine lv_istore (lv' := [(8, .int (nI 0)), (7, .int (zGa (askT tx) z u (k / 16) (k % 16))), (6, .int (nI (zm z u (k / 16) (k % 16)))), (5, .int (nI (k % 16))), (4, .int (nI (k / 16))), (0, .ref (ad 200)), (1, .int (nI u)), (2, .int bs), (3, .int (nI k))]) hx hb dX11_bestOf_107 hl (by decide) rfl (fun ls hl => ?_)
              refine lv_iload hx hb dX11_bestOf_109 (lv_at hl 0 rfl) ?_
              refine m_if_eq (tgt := 132) hx hb dX11_bestOf_111 (by decide) (fun c_9 => ?_) (fun c_9 => ?_)
              · skip
                refine lv_iconst (v := nI 0) hx hb dX11_bestOf_132 (by decide) ?_
                refine lv_istore (lv' := [(9, .int (nI 0)), (8, .int (nI 0)), (7, .int (zGa (askT tx) z u (k / 16) (k % 16))), (6, .int (nI (zm z u (k / 16) (k % 16)))), (5, .int (nI (k % 16))), (4, .int (nI (k / 16))), (0, .ref (ad 200)), (1, .int (nI u)), (2, .int bs), (3, .int (nI k))]) hx hb dX11_bestOf_133 hl (by decide) rfl (fun ls hl => ?_)
                refine lv_iload hx hb dX11_bestOf_135 (lv_at hl 0 rfl) ?_
                refine m_if_eq (tgt := 151) hx hb dX11_bestOf_137 (by decide) (fun c_10 => ?_) (fun c_10 => ?_)
                · skip
                  refine lv_iload_n hx hb dX11_bestOf_151 rfl (lv_at hl 8 rfl) ?_
                  refine lv_istore_n (lv' := [(2, .int bs), (9, .int (nI 0)), (8, .int (nI 0)), (7, .int (zGa (askT tx) z u (k / 16) (k % 16))), (6, .int (nI (zm z u (k / 16) (k % 16)))), (5, .int (nI (k % 16))), (4, .int (nI (k / 16))), (0, .ref (ad 200)), (1, .int (nI u)), (3, .int (nI k))]) hx hb dX11_bestOf_152 rfl hl (by decide) rfl (fun ls hl => ?_)
                  refine lv_aload_n hx hb dX11_bestOf_153 rfl (lv_at hl 7 rfl) ?_
                  refine lv_iload hx hb dX11_bestOf_154 (lv_at hl 1 rfl) ?_
                  refine m_if_eq (tgt := 164) hx hb dX11_bestOf_156 (by decide) (fun c_11 => ?_) (fun c_11 => ?_)
                  · skip
                    refine lv_aload_n hx hb dX11_bestOf_164 rfl (lv_at hl 7 rfl) ?_
                    refine m_geti S hW hZ.sp.1 32 rfl kX11 (iW11 _) (by decide) (List.mem_cons_of_mem _ (wa_29 _ (List.mem_of_getElem? (i := 11) (by decide +kernel)))) dX11_bestOf_165 ?_
                    refine m_top (y := (zBest (askT tx) z u k).2) v32 ?_
                    refine m_puti S hW hZ.sp.1 32 rfl kX11 (iW11 _) tyX11 tyX11_ok nmX11 (by decide) (List.mem_cons_of_mem _ (wa_29 _ (List.mem_of_getElem? (i := 11) (by decide +kernel)))) (Or.inl rfl) rfl rfl dX11_bestOf_168 (fun H locs hW => ?_)
                    obtain ⟨V_12, eV_12⟩ : ∃ vv_ : mV, vv_ = mU V1 200 32 ((zBest (askT tx) z u k).2) := ⟨_, rfl⟩
                    rw [← eV_12] at hW
                    refine lv_iinc (v := nI (k + 1)) (lv' := [(3, .int (nI (k + 1))), (2, .int bs), (9, .int (nI 0)), (8, .int (nI 0)), (7, .int (zGa (askT tx) z u (k / 16) (k % 16))), (6, .int (nI (zm z u (k / 16) (k % 16)))), (5, .int (nI (k % 16))), (4, .int (nI (k / 16))), (0, .ref (ad 200)), (1, .int (nI u))]) hx hb dX11_bestOf_171 hl (k := 9) rfl (m_inc k 1) (by decide) rfl (fun ls hl => ?_)
                    refine lv_goto (tgt := 9) hx hb dX11_bestOf_174 (by decide) ?_
                    exact ih_9  bs (k + 1) V_12 _ _ _ (by omega) (by rw [zBest, if_neg (fun z => absurd z.2.2 (Int32.not_le.mpr c_8))]; exact hbs) (by rw [zBest, if_neg (fun z => absurd z.2.2 (Int32.not_le.mpr c_8))]; rw [eV_12, mU_self _ v32]; exact hv) (by omega) hW (lv_sub hl [8, 9, 1, 0] rfl)
                  · exact absurd c_11 (by decide)
                · exact absurd c_10 (by decide)
              · exact absurd c_9 (by decide)
            · skip
              refine lv_iconst (v := nI 1) hx hb dX11_bestOf_102 (by decide) ?_
              refine lv_goto (tgt := 107) hx hb dX11_bestOf_103 (by decide) ?_
              refine lv_istore (lv' := [(8, .int (nI 1)), (7, .int (zGa (askT tx) z u (k / 16) (k % 16))), (6, .int (nI (zm z u (k / 16) (k % 16)))), (5, .int (nI (k % 16))), (4, .int (nI (k / 16))), (0, .ref (ad 200)), (1, .int (nI u)), (2, .int bs), (3, .int (nI k))]) hx hb dX11_bestOf_107 hl (by decide) rfl (fun ls hl => ?_)
              refine lv_iload hx hb dX11_bestOf_109 (lv_at hl 0 rfl) ?_
              refine m_if_eq (tgt := 132) hx hb dX11_bestOf_111 (by decide) (fun c_13 => ?_) (fun c_13 => ?_)
              · exact absurd c_13 (by decide)
              · skip
                refine lv_iload_n hx hb dX11_bestOf_114 rfl (lv_at hl 7 rfl) ?_
                refine lv_iconst (v := -1) hx hb dX11_bestOf_115 (by decide) ?_
                refine lv_icmp_eq (tgt := 128) hx hb dX11_bestOf_116 (by decide) (fun c_14 => ?_) (fun c_14 => ?_)
                · skip
                  refine lv_iconst (v := nI 1) hx hb dX11_bestOf_128 (by decide) ?_
                  refine lv_goto (tgt := 133) hx hb dX11_bestOf_129 (by decide) ?_
                  refine lv_istore (lv' := [(9, .int (nI 1)), (8, .int (nI 1)), (7, .int (zGa (askT tx) z u (k / 16) (k % 16))), (6, .int (nI (zm z u (k / 16) (k % 16)))), (5, .int (nI (k % 16))), (4, .int (nI (k / 16))), (0, .ref (ad 200)), (1, .int (nI u)), (2, .int bs), (3, .int (nI k))]) hx hb dX11_bestOf_133 hl (by decide) rfl (fun ls hl => ?_)
                  refine lv_iload hx hb dX11_bestOf_135 (lv_at hl 0 rfl) ?_
                  refine m_if_eq (tgt := 151) hx hb dX11_bestOf_137 (by decide) (fun c_15 => ?_) (fun c_15 => ?_)
                  · exact absurd c_15 (by decide)
                  · skip
                    refine lv_bipush (v := nI 100) hx hb dX11_bestOf_140 (by decide) ?_
                    refine lv_iload hx hb dX11_bestOf_142 (lv_at hl 5 rfl) ?_
                    refine lv_imul hx hb dX11_bestOf_144 ?_
                    refine m_top (y := nI (100 * (k / 16))) (pk_mul 100 (k / 16)) ?_
                    refine lv_iload hx hb dX11_bestOf_145 (lv_at hl 4 rfl) ?_
                    refine lv_iadd hx hb dX11_bestOf_147 ?_
                    refine m_top (y := nI ((100 * (k / 16)) + (k % 16))) (nI_add (100 * (k / 16)) (k % 16)) ?_
                    refine lv_goto (tgt := 152) hx hb dX11_bestOf_148 (by decide) ?_
                    refine lv_istore_n (lv' := [(2, .int (nI ((100 * (k / 16)) + (k % 16)))), (9, .int (nI 1)), (8, .int (nI 1)), (7, .int (zGa (askT tx) z u (k / 16) (k % 16))), (6, .int (nI (zm z u (k / 16) (k % 16)))), (5, .int (nI (k % 16))), (4, .int (nI (k / 16))), (0, .ref (ad 200)), (1, .int (nI u)), (3, .int (nI k))]) hx hb dX11_bestOf_152 rfl hl (by decide) rfl (fun ls hl => ?_)
                    refine lv_aload_n hx hb dX11_bestOf_153 rfl (lv_at hl 7 rfl) ?_
                    refine lv_iload hx hb dX11_bestOf_154 (lv_at hl 1 rfl) ?_
                    refine m_if_eq (tgt := 164) hx hb dX11_bestOf_156 (by decide) (fun c_16 => ?_) (fun c_16 => ?_)
                    · exact absurd c_16 (by decide)
                    · skip
                      refine lv_iload hx hb dX11_bestOf_159 (lv_at hl 3 rfl) ?_
                      refine lv_goto (tgt := 168) hx hb dX11_bestOf_161 (by decide) ?_
                      refine m_puti S hW hZ.sp.1 32 rfl kX11 (iW11 _) tyX11 tyX11_ok nmX11 (by decide) (List.mem_cons_of_mem _ (wa_29 _ (List.mem_of_getElem? (i := 11) (by decide +kernel)))) (Or.inl rfl) rfl rfl dX11_bestOf_168 (fun H locs hW => ?_)
                      obtain ⟨V_17, eV_17⟩ : ∃ vv_ : mV, vv_ = mU V1 200 32 ((zGa (askT tx) z u (k / 16) (k % 16))) := ⟨_, rfl⟩
                      rw [← eV_17] at hW
                      refine lv_iinc (v := nI (k + 1)) (lv' := [(3, .int (nI (k + 1))), (2, .int (nI ((100 * (k / 16)) + (k % 16)))), (9, .int (nI 1)), (8, .int (nI 1)), (7, .int (zGa (askT tx) z u (k / 16) (k % 16))), (6, .int (nI (zm z u (k / 16) (k % 16)))), (5, .int (nI (k % 16))), (4, .int (nI (k / 16))), (0, .ref (ad 200)), (1, .int (nI u))]) hx hb dX11_bestOf_171 hl (k := 9) rfl (m_inc k 1) (by decide) rfl (fun ls hl => ?_)
                      refine lv_goto (tgt := 9) hx hb dX11_bestOf_174 (by decide) ?_
                      exact ih_9  (nI ((100 * (k / 16)) + (k % 16))) (k + 1) V_17 _ _ _ (by omega) (by rw [zBest, if_pos ⟨w_5, Or.inl (hbs.symm.trans c_14), Int32.not_lt.mp c_8⟩]) (by rw [zBest, if_pos ⟨w_5, Or.inl (hbs.symm.trans c_14), Int32.not_lt.mp c_8⟩]; rw [eV_17, hv, mU_mU]) (by omega) hW (lv_sub hl [8, 9, 1, 0] rfl)
                · skip
                  refine lv_iload hx hb dX11_bestOf_119 (lv_at hl 1 rfl) ?_
                  refine lv_aload_n hx hb dX11_bestOf_121 rfl (lv_at hl 5 rfl) ?_
                  refine m_geti S hW hZ.sp.1 32 rfl kX11 (iW11 _) (by decide) (List.mem_cons_of_mem _ (wa_29 _ (List.mem_of_getElem? (i := 11) (by decide +kernel)))) dX11_bestOf_122 ?_
                  refine m_top (y := (zBest (askT tx) z u k).2) v32 ?_
                  refine lv_icmp_le (tgt := 132) hx hb dX11_bestOf_125 (by decide) (fun c_18 => ?_) (fun c_18 => ?_)
                  · skip
                    refine lv_iconst (v := nI 0) hx hb dX11_bestOf_132 (by decide) ?_
                    refine lv_istore (lv' := [(9, .int (nI 0)), (8, .int (nI 1)), (7, .int (zGa (askT tx) z u (k / 16) (k % 16))), (6, .int (nI (zm z u (k / 16) (k % 16)))), (5, .int (nI (k % 16))), (4, .int (nI (k / 16))), (0, .ref (ad 200)), (1, .int (nI u)), (2, .int bs), (3, .int (nI k))]) hx hb dX11_bestOf_133 hl (by decide) rfl (fun ls hl => ?_)
                    refine lv_iload hx hb dX11_bestOf_135 (lv_at hl 0 rfl) ?_
                    refine m_if_eq (tgt := 151) hx hb dX11_bestOf_137 (by decide) (fun c_19 => ?_) (fun c_19 => ?_)
                    · skip
                      refine lv_iload_n hx hb dX11_bestOf_151 rfl (lv_at hl 8 rfl) ?_
                      refine lv_istore_n (lv' := [(2, .int bs), (9, .int (nI 0)), (8, .int (nI 1)), (7, .int (zGa (askT tx) z u (k / 16) (k % 16))), (6, .int (nI (zm z u (k / 16) (k % 16)))), (5, .int (nI (k % 16))), (4, .int (nI (k / 16))), (0, .ref (ad 200)), (1, .int (nI u)), (3, .int (nI k))]) hx hb dX11_bestOf_152 rfl hl (by decide) rfl (fun ls hl => ?_)
                      refine lv_aload_n hx hb dX11_bestOf_153 rfl (lv_at hl 7 rfl) ?_
                      refine lv_iload hx hb dX11_bestOf_154 (lv_at hl 1 rfl) ?_
                      refine m_if_eq (tgt := 164) hx hb dX11_bestOf_156 (by decide) (fun c_20 => ?_) (fun c_20 => ?_)
                      · skip
                        refine lv_aload_n hx hb dX11_bestOf_164 rfl (lv_at hl 7 rfl) ?_
                        refine m_geti S hW hZ.sp.1 32 rfl kX11 (iW11 _) (by decide) (List.mem_cons_of_mem _ (wa_29 _ (List.mem_of_getElem? (i := 11) (by decide +kernel)))) dX11_bestOf_165 ?_
                        refine m_top (y := (zBest (askT tx) z u k).2) v32 ?_
                        refine m_puti S hW hZ.sp.1 32 rfl kX11 (iW11 _) tyX11 tyX11_ok nmX11 (by decide) (List.mem_cons_of_mem _ (wa_29 _ (List.mem_of_getElem? (i := 11) (by decide +kernel)))) (Or.inl rfl) rfl rfl dX11_bestOf_168 (fun H locs hW => ?_)
                        obtain ⟨V_21, eV_21⟩ : ∃ vv_ : mV, vv_ = mU V1 200 32 ((zBest (askT tx) z u k).2) := ⟨_, rfl⟩
                        rw [← eV_21] at hW
                        refine lv_iinc (v := nI (k + 1)) (lv' := [(3, .int (nI (k + 1))), (2, .int bs), (9, .int (nI 0)), (8, .int (nI 1)), (7, .int (zGa (askT tx) z u (k / 16) (k % 16))), (6, .int (nI (zm z u (k / 16) (k % 16)))), (5, .int (nI (k % 16))), (4, .int (nI (k / 16))), (0, .ref (ad 200)), (1, .int (nI u))]) hx hb dX11_bestOf_171 hl (k := 9) rfl (m_inc k 1) (by decide) rfl (fun ls hl => ?_)
                        refine lv_goto (tgt := 9) hx hb dX11_bestOf_174 (by decide) ?_
                        exact ih_9  bs (k + 1) V_21 _ _ _ (by omega) (by rw [zBest, if_neg (fun z => z.2.1.elim (fun y => c_14 (hbs.trans y)) (fun y => absurd y (Int32.not_lt.mpr c_18)))]; exact hbs) (by rw [zBest, if_neg (fun z => z.2.1.elim (fun y => c_14 (hbs.trans y)) (fun y => absurd y (Int32.not_lt.mpr c_18)))]; rw [eV_21, mU_self _ v32]; exact hv) (by omega) hW (lv_sub hl [8, 9, 1, 0] rfl)
                      · exact absurd c_20 (by decide)
                    · exact absurd c_19 (by decide)
                  · skip
                    refine lv_iconst (v := nI 1) hx hb dX11_bestOf_128 (by decide) ?_
                    refine lv_goto (tgt := 133) hx hb dX11_bestOf_129 (by decide) ?_
                    refine lv_istore (lv' := [(9, .int (nI 1)), (8, .int (nI 1)), (7, .int (zGa (askT tx) z u (k / 16) (k % 16))), (6, .int (nI (zm z u (k / 16) (k % 16)))), (5, .int (nI (k % 16))), (4, .int (nI (k / 16))), (0, .ref (ad 200)), (1, .int (nI u)), (2, .int bs), (3, .int (nI k))]) hx hb dX11_bestOf_133 hl (by decide) rfl (fun ls hl => ?_)
                    refine lv_iload hx hb dX11_bestOf_135 (lv_at hl 0 rfl) ?_
                    refine m_if_eq (tgt := 151) hx hb dX11_bestOf_137 (by decide) (fun c_22 => ?_) (fun c_22 => ?_)
                    · exact absurd c_22 (by decide)
                    · skip
                      refine lv_bipush (v := nI 100) hx hb dX11_bestOf_140 (by decide) ?_
                      refine lv_iload hx hb dX11_bestOf_142 (lv_at hl 5 rfl) ?_
                      refine lv_imul hx hb dX11_bestOf_144 ?_
                      refine m_top (y := nI (100 * (k / 16))) (pk_mul 100 (k / 16)) ?_
                      refine lv_iload hx hb dX11_bestOf_145 (lv_at hl 4 rfl) ?_
                      refine lv_iadd hx hb dX11_bestOf_147 ?_
                      refine m_top (y := nI ((100 * (k / 16)) + (k % 16))) (nI_add (100 * (k / 16)) (k % 16)) ?_
                      refine lv_goto (tgt := 152) hx hb dX11_bestOf_148 (by decide) ?_
                      refine lv_istore_n (lv' := [(2, .int (nI ((100 * (k / 16)) + (k % 16)))), (9, .int (nI 1)), (8, .int (nI 1)), (7, .int (zGa (askT tx) z u (k / 16) (k % 16))), (6, .int (nI (zm z u (k / 16) (k % 16)))), (5, .int (nI (k % 16))), (4, .int (nI (k / 16))), (0, .ref (ad 200)), (1, .int (nI u)), (3, .int (nI k))]) hx hb dX11_bestOf_152 rfl hl (by decide) rfl (fun ls hl => ?_)
                      refine lv_aload_n hx hb dX11_bestOf_153 rfl (lv_at hl 7 rfl) ?_
                      refine lv_iload hx hb dX11_bestOf_154 (lv_at hl 1 rfl) ?_
                      refine m_if_eq (tgt := 164) hx hb dX11_bestOf_156 (by decide) (fun c_23 => ?_) (fun c_23 => ?_)
                      · exact absurd c_23 (by decide)
                      · skip
                        refine lv_iload hx hb dX11_bestOf_159 (lv_at hl 3 rfl) ?_
                        refine lv_goto (tgt := 168) hx hb dX11_bestOf_161 (by decide) ?_
                        refine m_puti S hW hZ.sp.1 32 rfl kX11 (iW11 _) tyX11 tyX11_ok nmX11 (by decide) (List.mem_cons_of_mem _ (wa_29 _ (List.mem_of_getElem? (i := 11) (by decide +kernel)))) (Or.inl rfl) rfl rfl dX11_bestOf_168 (fun H locs hW => ?_)
                        obtain ⟨V_24, eV_24⟩ : ∃ vv_ : mV, vv_ = mU V1 200 32 ((zGa (askT tx) z u (k / 16) (k % 16))) := ⟨_, rfl⟩
                        rw [← eV_24] at hW
                        refine lv_iinc (v := nI (k + 1)) (lv' := [(3, .int (nI (k + 1))), (2, .int (nI ((100 * (k / 16)) + (k % 16)))), (9, .int (nI 1)), (8, .int (nI 1)), (7, .int (zGa (askT tx) z u (k / 16) (k % 16))), (6, .int (nI (zm z u (k / 16) (k % 16)))), (5, .int (nI (k % 16))), (4, .int (nI (k / 16))), (0, .ref (ad 200)), (1, .int (nI u))]) hx hb dX11_bestOf_171 hl (k := 9) rfl (m_inc k 1) (by decide) rfl (fun ls hl => ?_)
                        refine lv_goto (tgt := 9) hx hb dX11_bestOf_174 (by decide) ?_
                        exact ih_9  (nI ((100 * (k / 16)) + (k % 16))) (k + 1) V_24 _ _ _ (by omega) (by rw [zBest, if_pos ⟨w_5, Or.inr (Int32.not_le.mp c_18), Int32.not_lt.mp c_8⟩]) (by rw [zBest, if_pos ⟨w_5, Or.inr (Int32.not_le.mp c_18), Int32.not_lt.mp c_8⟩]; rw [eV_24, hv, mU_mU]) (by omega) hW (lv_sub hl [8, 9, 1, 0] rfl)
        · skip
          refine m_if_eq (tgt := 171) hx hb dX11_bestOf_41 (by decide) (fun c_25 => ?_) (fun c_25 => ?_)
          · skip
            refine lv_iinc (v := nI (k + 1)) (lv' := [(3, .int (nI (k + 1))), (5, .int (nI (k % 16))), (4, .int (nI (k / 16))), (0, .ref (ad 200)), (1, .int (nI u)), (2, .int bs)]) hx hb dX11_bestOf_171 hl (k := 5) rfl (m_inc k 1) (by decide) rfl (fun ls hl => ?_)
            refine lv_goto (tgt := 9) hx hb dX11_bestOf_174 (by decide) ?_
            exact ih_9  bs (k + 1) V1 _ _ _ (by omega) (by rw [zBest, if_neg (fun z => w_6 z.1)]; exact hbs) (by rw [zBest, if_neg (fun z => w_6 z.1)]; exact hv) (by omega) hW (lv_sub hl [3, 4, 5, 0] rfl)
          · exact absurd c_25 (by decide)
  exact loop_9 (16 * ng - 0 + 1) (-1) 0 V_1 _ _ _ (by omega) (by rfl) (by rw [eV_1]; rfl) (by omega) hW (lv_sub hl [2, 3, 1, 0] rfl)
