/-! what makes objects: words of its own -/
def nKs (bs : List Bool) : List (Option (Int32 → Option Nat)) := bs.map (fun b => if b = true then some (fun _ => none) else none)
theorem nKs_no (ci : Nat) (bs : List Bool) (v : Nat → Int32) (r : Nat) : ¬ mRf (mO ci (nKs bs)) v r := by
  rintro ⟨k, g, h1, h2⟩
  rw [nKs, List.getElem?_map] at h1
  cases hb : bs[k]? with
  | none => rw [hb] at h1; cases h1
  | some b =>
    rw [hb] at h1
    cases b with
    | true =>
      have h3 : (some (fun _ => none) : Option (Int32 → Option Nat)) = some g := Option.some.inj h1
      cases h3
      cases h2
    | false =>
      have h3 : (none : Option (Int32 → Option Nat)) = some g := Option.some.inj h1
      cases h3
/-- the first k places of row i are as told, all other rows as they were -/
def FillI (V0 V : mV) (i : Nat) (T : List Int32) (j : Nat) : Prop := (∀ k, k < j → V i k = T.getD k 0) ∧ ∀ a, a ≠ i → V a = V0 a
theorem FillI.zero (V : mV) (i : Nat) (T : List Int32) : FillI V V i T 0 := ⟨fun k hk => absurd hk (Nat.not_lt_zero k), fun _ _ => rfl⟩
theorem FillI.step {V0 V : mV} {i : Nat} {T : List Int32} {j : Nat} (h : FillI V0 V i T j) {x : Int32} (hx : T.getD j 0 = x) : FillI V0 (mU V i j x) i T (j + 1) := by
  refine ⟨fun k hk => ?_, fun a ha => by rw [mU_no _ _ ha]; exact h.2 a ha⟩
  by_cases hj : k = j
  · subst hj
    rw [mU_eq, hx]
  · rw [mU_ne _ _ (by omega)]
    exact h.1 k (by omega)
theorem mC.rowR {A : Nat → Prop} {H0 : Heap} {s : State} {G : mG} {ad : Nat → Nat} {sh : Nat → Option mSh} {V : mV} {H : Heap} {locs : List Loc} (hW : mC A H0 s G ad sh V H locs) {i ci n : Nat} {ch0 ch1 : Nat → Int32 → Option Nat} (hi : sh i = some (mR ci n ch0)) (hc : ∀ j, ch1 j 0 = ch0 j (V i j)) : mC A H0 s G ad (va_up sh i (some (mR ci n ch1))) (va_up V i (fun _ => 0)) H locs := by
  refine hW.shape hi rfl ?_ (fun r hr => ?_)
  · show (.inl (G.2.2.1 ci, n, .inr (.inr (.inr (.inr (fun j => (ch1 j 0).map ad))))) : va_E) = .inl (G.2.2.1 ci, n, .inr (.inr (.inr (.inr (fun j => (ch0 j (V i j)).map ad)))))
    have he : (fun j => (ch1 j 0).map ad) = fun j => (ch0 j (V i j)).map ad := funext (fun j => by rw [hc j])
    rw [he]
  · obtain ⟨j, hj⟩ := hr
    exact hW.ne hi ⟨j, by rw [← hc j]; exact hj⟩
set_option maxHeartbeats 4000000 in
set_option maxRecDepth 100000 in
theorem c_X1_init (l : Launch) (G : mG) (ad : Nat → Nat) (sh : Nat → Option mSh) (V : mV) (i : Nat) : mM l yX1_init wsX1_init ({ frames := 1, cells := 0, slots := 0, locals := 20 } : Room) G ad sh V [.ref (ad i)] 0 0 (fun v ad' sh' V' => v = none ∧ (∀ a, 0 ≤ a → ad' a = ad a) ∧ (∀ a, 0 ≤ a → sh' a = sh a) ∧ (∀ a, 0 ≤ a → V' a = V a)) := by
  refine mM.of (cc := cX1_init) (maxL := 1) (ret := none) (by decide) rfl (Nat.le_of_ble_eq_true rfl) ?_
  intro p e s m below meth c S hr hlk hnm hW ls hl
  obtain ⟨hx, hb, hml, hown, hts⟩ := id S
  have hl : lv_has ls 1 [(0, .ref (ad i))] := hl
  skip
  refine lv_aload_n hx hb dX1_init_0 rfl (lv_at hl 0 rfl) ?_
  refine W.objInit hx hb hown (hts (.methodLink RX1 3 objectInit) (List.mem_cons_of_mem _ (wa_3 _ (List.mem_of_getElem? (i := 7) (by decide +kernel))))) (hts (.instanceMethod objectInit) (List.mem_cons_of_mem _ (wa_1 _ (List.mem_of_getElem? (i := 10) (by decide +kernel))))) (hts (.code objectInit ⟨#[0xb1]⟩ 1 none) (List.mem_cons_of_mem _ (wa_1 _ (List.mem_of_getElem? (i := 11) (by decide +kernel))))) rfl (by rw [hml]; exact hl.1) rfl dX1_init_1 (Nat.le_of_ble_eq_true rfl) (Nat.le_of_ble_eq_true rfl) ?_
  refine W.eq (g2 := F0 m 4 ls []) rfl ?_
  refine W.widen (k := 0) (n := 0) (Nat.le_of_ble_eq_true rfl) (Nat.le_of_ble_eq_true rfl) ?_
  refine W.vret S.1 S.2.1 hr (m_post hW ?_) hW.2.2.1.2.2 dX1_init_4 hlk
  exact ⟨rfl, fun _ _ => rfl, fun _ _ => rfl, fun _ _ => rfl⟩
set_option maxHeartbeats 4000000 in
set_option maxRecDepth 100000 in
theorem c_X0_init (l : Launch) (G : mG) (ad : Nat → Nat) (sh : Nat → Option mSh) (V : mV)  (h0 : sh 8 = some (mO 0 (nKs [true]))) (h1 : sh 9 = none) : mM l yX0_init wsX0_init ({ frames := 1, cells := 1, slots := 1024, locals := 20 } : Room) G ad sh V [.ref (ad 8)] 1 1024 (fun v ad' sh' V' => v = none ∧ (∀ a, a ≠ 9 → ad' a = ad a) ∧ (∀ a, (a ≠ 8 ∧ a ≠ 9) → sh' a = sh a) ∧ (∀ a, a ≠ 9 → V' a = V a) ∧ (sh' 8 = some sCover ∧ sh' 9 = some (mI 1024)) ∧ (V' 9 0 = 0)) := by
  refine mM.of (cc := cX0_init) (maxL := 1) (ret := none) (by decide) rfl (Nat.le_of_ble_eq_true rfl) ?_
  intro p e s m below meth c S hr hlk hnm hW ls hl
  obtain ⟨hx, hb, hml, hown, hts⟩ := id S
  have hl : lv_has ls 1 [(0, .ref (ad 8))] := hl
  skip
  refine lv_aload_n hx hb dX0_init_0 rfl (lv_at hl 0 rfl) ?_
  refine W.objInit hx hb hown (hts (.methodLink RX0 3 objectInit) (List.mem_cons_of_mem _ (wa_3 _ (List.mem_of_getElem? (i := 10) (by decide +kernel))))) (hts (.instanceMethod objectInit) (List.mem_cons_of_mem _ (wa_1 _ (List.mem_of_getElem? (i := 10) (by decide +kernel))))) (hts (.code objectInit ⟨#[0xb1]⟩ 1 none) (List.mem_cons_of_mem _ (wa_1 _ (List.mem_of_getElem? (i := 11) (by decide +kernel))))) rfl (by rw [hml]; exact hl.1) rfl dX0_init_1 (Nat.le_of_ble_eq_true rfl) (Nat.le_of_ble_eq_true rfl) ?_
  refine W.eq (g2 := F0 m 4 ls []) rfl ?_
  refine lv_aload_n hx hb dX0_init_4 rfl (lv_at hl 0 rfl) ?_
  refine lv_sipush (v := nI 1024) hx hb dX0_init_5 (by decide) ?_
  refine m_newI S hW 9 1024 true h1 (List.mem_cons_of_mem _ (wa_2 _ (List.mem_of_getElem? (i := 19) (by decide +kernel)))) (by decide) (Nat.le_of_ble_eq_true rfl) (Nat.le_of_ble_eq_true rfl) dX0_init_8 (fun ad_1 H fad_1 hW => ?_)
  refine W.eq (g2 := F0 m 10 ls [.ref (ad_1 9), .ref (ad_1 8)]) (by rw [fad_1 8 (by omega)]) ?_
  have hl : lv_has ls 1 [(0, .ref (ad_1 8))] := by rw [fad_1 8 (by omega)]; exact hl
  obtain ⟨sh_2, esh_2⟩ : ∃ vv_ : Nat → Option mSh, vv_ = va_up sh 9 (some (mI 1024)) := ⟨_, rfl⟩
  rw [← esh_2] at hW
  have qsh_2 : sh_2 9 = some (mI 1024) := by rw [esh_2]; exact va_up_self _ _ _
  have fsh_2 : ∀ a, a ≠ 9 → sh_2 a = sh a := fun a ha => by rw [esh_2]; exact va_up_ne _ _ ha
  clear esh_2
  obtain ⟨V_3, eV_3⟩ : ∃ vv_ : mV, vv_ = va_up V 9 (fun _ => 0) := ⟨_, rfl⟩
  rw [← eV_3] at hW
  have qV_3 : V_3 9 = fun _ => 0 := by rw [eV_3]; exact va_up_self _ _ _
  have fV_3 : ∀ a, a ≠ 9 → V_3 a = V a := fun a ha => by rw [eV_3]; exact va_up_ne _ _ ha
  clear eV_3
  refine m_putc S hW (fun _ => some 9) ((fsh_2 8 (by omega)).trans h0) 0 (Nat.lt_of_lt_of_eq (by decide : 0 < 1) rfl) (j := 9) rfl (by rw [qsh_2]; exact fun z => by cases z) kX0 (iW0 _) tyX0 tyX0_ok nmX0 (by decide) (List.mem_cons_of_mem _ (wa_3 _ (List.mem_of_getElem? (i := 11) (by decide +kernel)))) (Or.inr ⟨rfl, hnm, rfl⟩) (fun _ => rfl) (fun _ => rfl) dX0_init_10 (fun H locs hW => ?_)
  obtain ⟨sh_4, esh_4⟩ : ∃ vv_ : Nat → Option mSh, vv_ = va_up sh_2 8 (some (mO 0 ((nKs [true]).set 0 (some (fun _ => some 9))))) := ⟨_, rfl⟩
  rw [← esh_4] at hW
  have qsh_4 : sh_4 8 = some (mO 0 ((nKs [true]).set 0 (some (fun _ => some 9)))) := by rw [esh_4]; exact va_up_self _ _ _
  have fsh_4 : ∀ a, a ≠ 8 → sh_4 a = sh_2 a := fun a ha => by rw [esh_4]; exact va_up_ne _ _ ha
  clear esh_4
  refine W.widen (k := 1) (n := 1024) (Nat.le_of_ble_eq_true rfl) (Nat.le_of_ble_eq_true rfl) ?_
  refine W.vret S.1 S.2.1 hr (m_post hW ?_) hW.2.2.1.2.2 dX0_init_13 hlk
  exact ⟨rfl, fun a ha => fad_1 a (by omega), fun a ha => (fsh_4 a (by omega)).trans (fsh_2 a (by omega)), fun a ha => fV_3 a (by omega), ⟨qsh_4, ((fsh_4 9 (by omega)).trans qsh_2)⟩, by rw [qV_3]⟩
set_option maxHeartbeats 4000000 in
set_option maxRecDepth 100000 in
theorem c_X2_init (l : Launch) (G : mG) (ad : Nat → Nat) (sh : Nat → Option mSh) (V : mV)  (h0 : sh 6 = some (mO 2 (nKs [true, false]))) (h1 : sh 7 = none) : mM l yX2_init wsX2_init ({ frames := 2, cells := 1, slots := 5, locals := 40 } : Room) G ad sh V [.ref (ad 6)] 1 5 (fun v ad' sh' V' => v = none ∧ (∀ a, a ≠ 7 → ad' a = ad a) ∧ (∀ a, (a ≠ 6 ∧ a ≠ 7) → sh' a = sh a) ∧ (∀ a, a ≠ 7 → V' a = V a) ∧ (sh' 6 = some sFit ∧ sh' 7 = some sEater)) := by
  refine mM.of (cc := cX2_init) (maxL := 1) (ret := none) (by decide) rfl (Nat.le_of_ble_eq_true rfl) ?_
  intro p e s m below meth c S hr hlk hnm hW ls hl
  obtain ⟨hx, hb, hml, hown, hts⟩ := id S
  have hl : lv_has ls 1 [(0, .ref (ad 6))] := hl
  skip
  refine lv_aload_n hx hb dX2_init_0 rfl (lv_at hl 0 rfl) ?_
  refine W.objInit hx hb hown (hts (.methodLink RX2 3 objectInit) (List.mem_cons_of_mem _ (wa_3 _ (List.mem_of_getElem? (i := 0) (by decide +kernel))))) (hts (.instanceMethod objectInit) (List.mem_cons_of_mem _ (wa_1 _ (List.mem_of_getElem? (i := 10) (by decide +kernel))))) (hts (.code objectInit ⟨#[0xb1]⟩ 1 none) (List.mem_cons_of_mem _ (wa_1 _ (List.mem_of_getElem? (i := 11) (by decide +kernel))))) rfl (by rw [hml]; exact hl.1) rfl dX2_init_1 (Nat.le_of_ble_eq_true rfl) (Nat.le_of_ble_eq_true rfl) ?_
  refine W.eq (g2 := F0 m 4 ls []) rfl ?_
  refine lv_aload_n hx hb dX2_init_4 rfl (lv_at hl 0 rfl) ?_
  refine m_new S hW (C := RX1) (ci := 1) (ks := nKs [false, false, false, false, false]) 7 h1 kX1 (iW1 _) tyX1 tyX1_ok (List.mem_cons_of_mem _ (wa_3 _ (List.mem_of_getElem? (i := 1) (by decide +kernel)))) (List.mem_cons_of_mem _ (wa_3 _ (List.mem_of_getElem? (i := 2) (by decide +kernel)))) (List.mem_cons_of_mem _ (wa_3 _ (List.mem_of_getElem? (i := 3) (by decide +kernel)))) (fun r => nKs_no _ _ _ r) (fun ad j hj => by rcases (show j = 0 ∨ j = 1 ∨ j = 2 ∨ j = 3 ∨ j = 4 by omega) with rfl | rfl | rfl | rfl | rfl <;> rfl) (Nat.le_of_ble_eq_true rfl) (Nat.le_of_ble_eq_true rfl) dX2_init_5 (fun ad_1 H fad_1 hW => ?_)
  refine W.eq (g2 := F0 m 8 ls [.ref (ad_1 7), .ref (ad_1 6)]) (by rw [fad_1 6 (by omega)]) ?_
  have hl : lv_has ls 1 [(0, .ref (ad_1 6))] := by rw [fad_1 6 (by omega)]; exact hl
  obtain ⟨sh_2, esh_2⟩ : ∃ vv_ : Nat → Option mSh, vv_ = va_up sh 7 (some (mO 1 (nKs [false, false, false, false, false]))) := ⟨_, rfl⟩
  rw [← esh_2] at hW
  have qsh_2 : sh_2 7 = some (mO 1 (nKs [false, false, false, false, false])) := by rw [esh_2]; exact va_up_self _ _ _
  have fsh_2 : ∀ a, a ≠ 7 → sh_2 a = sh a := fun a ha => by rw [esh_2]; exact va_up_ne _ _ ha
  clear esh_2
  obtain ⟨V_3, eV_3⟩ : ∃ vv_ : mV, vv_ = va_up V 7 (fun _ => 0) := ⟨_, rfl⟩
  rw [← eV_3] at hW
  have qV_3 : V_3 7 = fun _ => 0 := by rw [eV_3]; exact va_up_self _ _ _
  have fV_3 : ∀ a, a ≠ 7 → V_3 a = V a := fun a ha => by rw [eV_3]; exact va_up_ne _ _ ha
  clear eV_3
  refine lv_dup hx hb dX2_init_8 rfl ?_
  refine m_fin (m_rIN S hW (c_X1_init l G ad_1 sh_2 V_3 7) ⟨va_cnB 0 hts (gCall [] (List.forall_mem_cons.mpr ⟨(wa_3 _ (List.mem_of_getElem? (i := 6) (by decide +kernel))), (fun _ h => absurd h List.not_mem_nil)⟩)) rfl rfl rfl (hW.2.2.2.2.2.1 _ (List.mem_of_getElem? (i := 2) rfl)) (hts (.initialized RX1) (List.mem_cons_of_mem _ (wa_3 _ (List.mem_of_getElem? (i := 3) (by decide +kernel))))) (by decide +kernel) ⟨(Nat.le_of_ble_eq_true rfl), (Nat.le_of_ble_eq_true rfl)⟩, rfl, hts (.instanceMethod yX1_init) (List.mem_cons_of_mem _ (wa_3 _ (List.mem_of_getElem? (i := 5) (by decide +kernel))))⟩ rfl hl.1 rfl (Nat.le_of_ble_eq_true rfl) dX2_init_9 ⟨(Nat.le_of_ble_eq_true rfl), (Nat.le_of_ble_eq_true rfl)⟩) hW (fun v_4 ad_5 sh_6 V_7 H locs hp_8 hW => ?_)
  obtain ⟨rfl, hA_9, hS_10, hV_11⟩ := hp_8
  refine W.eq (g2 := F0 m 12 ls [.ref (ad_5 7), .ref (ad_5 6)]) (by rw [hA_9 7 (by omega), hA_9 6 (by omega)]; rfl) ?_
  have hl : lv_has ls 1 [(0, .ref (ad_5 6))] := by rw [hA_9 6 (by omega)]; exact hl
  refine m_putc S hW (fun _ => some 7) ((hS_10 6 (by omega)).trans ((fsh_2 6 (by omega)).trans h0)) 0 (Nat.lt_of_lt_of_eq (by decide : 0 < 2) rfl) (j := 7) rfl (by rw [((hS_10 7 (by omega)).trans qsh_2)]; exact fun z => by cases z) kX2 (iW2 _) tyX2 tyX2_ok nmX2 (by decide) (List.mem_cons_of_mem _ (wa_3 _ (List.mem_of_getElem? (i := 4) (by decide +kernel)))) (Or.inr ⟨rfl, hnm, rfl⟩) (fun _ => rfl) (fun _ => rfl) dX2_init_12 (fun H locs hW => ?_)
  obtain ⟨sh_12, esh_12⟩ : ∃ vv_ : Nat → Option mSh, vv_ = va_up sh_6 6 (some (mO 2 ((nKs [true, false]).set 0 (some (fun _ => some 7))))) := ⟨_, rfl⟩
  rw [← esh_12] at hW
  have qsh_12 : sh_12 6 = some (mO 2 ((nKs [true, false]).set 0 (some (fun _ => some 7)))) := by rw [esh_12]; exact va_up_self _ _ _
  have fsh_12 : ∀ a, a ≠ 6 → sh_12 a = sh_6 a := fun a ha => by rw [esh_12]; exact va_up_ne _ _ ha
  clear esh_12
  refine W.widen (k := 1) (n := 5) (Nat.le_of_ble_eq_true rfl) (Nat.le_of_ble_eq_true rfl) ?_
  refine W.vret S.1 S.2.1 hr (m_post hW ?_) hW.2.2.1.2.2 dX2_init_15 hlk
  exact ⟨rfl, fun a ha => (hA_9 a (by omega)).trans (fad_1 a (by omega)), fun a ha => (fsh_12 a (by omega)).trans ((hS_10 a (by omega)).trans (fsh_2 a (by omega))), fun a ha => (hV_11 a (by omega)).trans (fV_3 a (by omega)), ⟨qsh_12, ((fsh_12 7 (by omega)).trans ((hS_10 7 (by omega)).trans qsh_2))⟩⟩
set_option maxHeartbeats 4000000 in
set_option maxRecDepth 100000 in
theorem c_X3_init (l : Launch) (G : mG) (ad : Nat → Nat) (sh : Nat → Option mSh) (V : mV) (i : Nat) (h0 : sh i = some (mO 3 (nKs [true, false, false]))) (h1 : sh (i + 1) = none) : mM l yX3_init wsX3_init ({ frames := 1, cells := 1, slots := 10, locals := 20 } : Room) G ad sh V [.ref (ad i)] 1 10 (fun v ad' sh' V' => v = none ∧ (∀ a, a ≠ i + 1 → ad' a = ad a) ∧ (∀ a, (a ≠ i ∧ a ≠ i + 1) → sh' a = sh a) ∧ (∀ a, a ≠ i + 1 → V' a = V a) ∧ (sh' i = some (sGood i)) ∧ (sh' (i + 1) = some (mI 10))) := by
  refine mM.of (cc := cX3_init) (maxL := 1) (ret := none) (by decide) rfl (Nat.le_of_ble_eq_true rfl) ?_
  intro p e s m below meth c S hr hlk hnm hW ls hl
  obtain ⟨hx, hb, hml, hown, hts⟩ := id S
  have hl : lv_has ls 1 [(0, .ref (ad i))] := hl
  skip
  refine lv_aload_n hx hb dX3_init_0 rfl (lv_at hl 0 rfl) ?_
  refine W.objInit hx hb hown (hts (.methodLink RX3 3 objectInit) (List.mem_cons_of_mem _ (wa_10 _ (List.mem_of_getElem? (i := 8) (by decide +kernel))))) (hts (.instanceMethod objectInit) (List.mem_cons_of_mem _ (wa_1 _ (List.mem_of_getElem? (i := 10) (by decide +kernel))))) (hts (.code objectInit ⟨#[0xb1]⟩ 1 none) (List.mem_cons_of_mem _ (wa_1 _ (List.mem_of_getElem? (i := 11) (by decide +kernel))))) rfl (by rw [hml]; exact hl.1) rfl dX3_init_1 (Nat.le_of_ble_eq_true rfl) (Nat.le_of_ble_eq_true rfl) ?_
  refine W.eq (g2 := F0 m 4 ls []) rfl ?_
  refine lv_aload_n hx hb dX3_init_4 rfl (lv_at hl 0 rfl) ?_
  refine lv_bipush (v := nI 10) hx hb dX3_init_5 (by decide) ?_
  refine m_newI S hW (i + 1) 10 true h1 (List.mem_cons_of_mem _ (wa_2 _ (List.mem_of_getElem? (i := 19) (by decide +kernel)))) (by decide) (Nat.le_of_ble_eq_true rfl) (Nat.le_of_ble_eq_true rfl) dX3_init_7 (fun ad_1 H fad_1 hW => ?_)
  refine W.eq (g2 := F0 m 9 ls [.ref (ad_1 (i + 1)), .ref (ad_1 i)]) (by rw [fad_1 i (by omega)]) ?_
  have hl : lv_has ls 1 [(0, .ref (ad_1 i))] := by rw [fad_1 i (by omega)]; exact hl
  obtain ⟨sh_2, esh_2⟩ : ∃ vv_ : Nat → Option mSh, vv_ = va_up sh (i + 1) (some (mI 10)) := ⟨_, rfl⟩
  rw [← esh_2] at hW
  have qsh_2 : sh_2 (i + 1) = some (mI 10) := by rw [esh_2]; exact va_up_self _ _ _
  have fsh_2 : ∀ a, a ≠ (i + 1) → sh_2 a = sh a := fun a ha => by rw [esh_2]; exact va_up_ne _ _ ha
  clear esh_2
  obtain ⟨V_3, eV_3⟩ : ∃ vv_ : mV, vv_ = va_up V (i + 1) (fun _ => 0) := ⟨_, rfl⟩
  rw [← eV_3] at hW
  have qV_3 : V_3 (i + 1) = fun _ => 0 := by rw [eV_3]; exact va_up_self _ _ _
  have fV_3 : ∀ a, a ≠ (i + 1) → V_3 a = V a := fun a ha => by rw [eV_3]; exact va_up_ne _ _ ha
  clear eV_3
  refine m_putc S hW (fun _ => some (i + 1)) ((fsh_2 i (by omega)).trans h0) 0 (Nat.lt_of_lt_of_eq (by decide : 0 < 3) rfl) (j := i + 1) rfl (by rw [qsh_2]; exact fun z => by cases z) kX3 (iW3 _) tyX3 tyX3_ok nmX3 (by decide) (List.mem_cons_of_mem _ (wa_10 _ (List.mem_of_getElem? (i := 9) (by decide +kernel)))) (Or.inr ⟨rfl, hnm, rfl⟩) (fun _ => rfl) (fun _ => rfl) dX3_init_9 (fun H locs hW => ?_)
  obtain ⟨sh_4, esh_4⟩ : ∃ vv_ : Nat → Option mSh, vv_ = va_up sh_2 i (some (mO 3 ((nKs [true, false, false]).set 0 (some (fun _ => some (i + 1)))))) := ⟨_, rfl⟩
  rw [← esh_4] at hW
  have qsh_4 : sh_4 i = some (mO 3 ((nKs [true, false, false]).set 0 (some (fun _ => some (i + 1))))) := by rw [esh_4]; exact va_up_self _ _ _
  have fsh_4 : ∀ a, a ≠ i → sh_4 a = sh_2 a := fun a ha => by rw [esh_4]; exact va_up_ne _ _ ha
  clear esh_4
  refine W.widen (k := 1) (n := 10) (Nat.le_of_ble_eq_true rfl) (Nat.le_of_ble_eq_true rfl) ?_
  refine W.vret S.1 S.2.1 hr (m_post hW ?_) hW.2.2.1.2.2 dX3_init_12 hlk
  exact ⟨rfl, fun a ha => fad_1 a (by omega), fun a ha => (fsh_4 a (by omega)).trans (fsh_2 a (by omega)), fun a ha => fV_3 a (by omega), qsh_4, ((fsh_4 (i + 1) (by omega)).trans qsh_2)⟩
set_option maxHeartbeats 4000000 in
set_option maxRecDepth 100000 in
theorem c_X5_init (l : Launch) (G : mG) (ad : Nat → Nat) (sh : Nat → Option mSh) (V : mV) (i : Nat) (h0 : sh i = some (mO 5 (nKs [false, false, true]))) (h1 : sh (i + 4) = none) : mM l yX5_init wsX5_init ({ frames := 1, cells := 1, slots := 40, locals := 20 } : Room) G ad sh V [.ref (ad i)] 1 40 (fun v ad' sh' V' => v = none ∧ (∀ a, a ≠ i + 4 → ad' a = ad a) ∧ (∀ a, (a ≠ i ∧ a ≠ i + 4) → sh' a = sh a) ∧ (∀ a, (a ≠ i ∧ a ≠ i + 4) → V' a = V a) ∧ (sh' i = some (sSheet i)) ∧ (sh' (i + 4) = some (mI 40)) ∧ (V' i 0 = -1 ∧ V' i 1 = V i 1) ∧ (∀ k, V' (i + 4) k = 0)) := by
  refine mM.of (cc := cX5_init) (maxL := 1) (ret := none) (by decide) rfl (Nat.le_of_ble_eq_true rfl) ?_
  intro p e s m below meth c S hr hlk hnm hW ls hl
  obtain ⟨hx, hb, hml, hown, hts⟩ := id S
  have hl : lv_has ls 1 [(0, .ref (ad i))] := hl
  skip
  refine lv_aload_n hx hb dX5_init_0 rfl (lv_at hl 0 rfl) ?_
  refine W.objInit hx hb hown (hts (.methodLink RX5 3 objectInit) (List.mem_cons_of_mem _ (wa_10 _ (List.mem_of_getElem? (i := 19) (by decide +kernel))))) (hts (.instanceMethod objectInit) (List.mem_cons_of_mem _ (wa_1 _ (List.mem_of_getElem? (i := 10) (by decide +kernel))))) (hts (.code objectInit ⟨#[0xb1]⟩ 1 none) (List.mem_cons_of_mem _ (wa_1 _ (List.mem_of_getElem? (i := 11) (by decide +kernel))))) rfl (by rw [hml]; exact hl.1) rfl dX5_init_1 (Nat.le_of_ble_eq_true rfl) (Nat.le_of_ble_eq_true rfl) ?_
  refine W.eq (g2 := F0 m 4 ls []) rfl ?_
  refine lv_aload_n hx hb dX5_init_4 rfl (lv_at hl 0 rfl) ?_
  refine lv_iconst (v := -1) hx hb dX5_init_5 (by decide) ?_
  refine m_puti S hW h0 0 rfl kX5 (iW5 _) tyX5 tyX5_ok nmX5 (by decide) (List.mem_cons_of_mem _ (wa_10 _ (List.mem_of_getElem? (i := 20) (by decide +kernel)))) (Or.inl rfl) rfl rfl dX5_init_6 (fun H locs hW => ?_)
  obtain ⟨V_1, eV_1⟩ : ∃ vv_ : mV, vv_ = mU V i 0 (-1) := ⟨_, rfl⟩
  rw [← eV_1] at hW
  have fV_1 : ∀ a, a ≠ i → V_1 a = V a := fun a ha => by rw [eV_1]; exact mU_no _ _ ha
  refine lv_aload_n hx hb dX5_init_9 rfl (lv_at hl 0 rfl) ?_
  refine lv_bipush (v := nI 40) hx hb dX5_init_10 (by decide) ?_
  refine m_newI S hW (i + 4) 40 true h1 (List.mem_cons_of_mem _ (wa_2 _ (List.mem_of_getElem? (i := 19) (by decide +kernel)))) (by decide) (Nat.le_of_ble_eq_true rfl) (Nat.le_of_ble_eq_true rfl) dX5_init_12 (fun ad_2 H fad_2 hW => ?_)
  refine W.eq (g2 := F0 m 14 ls [.ref (ad_2 (i + 4)), .ref (ad_2 i)]) (by rw [fad_2 i (by omega)]) ?_
  have hl : lv_has ls 1 [(0, .ref (ad_2 i))] := by rw [fad_2 i (by omega)]; exact hl
  obtain ⟨sh_3, esh_3⟩ : ∃ vv_ : Nat → Option mSh, vv_ = va_up sh (i + 4) (some (mI 40)) := ⟨_, rfl⟩
  rw [← esh_3] at hW
  have qsh_3 : sh_3 (i + 4) = some (mI 40) := by rw [esh_3]; exact va_up_self _ _ _
  have fsh_3 : ∀ a, a ≠ (i + 4) → sh_3 a = sh a := fun a ha => by rw [esh_3]; exact va_up_ne _ _ ha
  clear esh_3
  obtain ⟨V_4, eV_4⟩ : ∃ vv_ : mV, vv_ = va_up V_1 (i + 4) (fun _ => 0) := ⟨_, rfl⟩
  rw [← eV_4] at hW
  have qV_4 : V_4 (i + 4) = fun _ => 0 := by rw [eV_4]; exact va_up_self _ _ _
  have fV_4 : ∀ a, a ≠ (i + 4) → V_4 a = V_1 a := fun a ha => by rw [eV_4]; exact va_up_ne _ _ ha
  clear eV_4
  refine m_putc S hW (fun _ => some (i + 4)) ((fsh_3 i (by omega)).trans h0) 2 (Nat.lt_of_lt_of_eq (by decide : 2 < 3) rfl) (j := i + 4) rfl (by rw [qsh_3]; exact fun z => by cases z) kX5 (iW5 _) tyX5 tyX5_ok nmX5 (by decide) (List.mem_cons_of_mem _ (wa_10 _ (List.mem_of_getElem? (i := 21) (by decide +kernel)))) (Or.inr ⟨rfl, hnm, rfl⟩) (fun _ => rfl) (fun _ => rfl) dX5_init_14 (fun H locs hW => ?_)
  obtain ⟨sh_5, esh_5⟩ : ∃ vv_ : Nat → Option mSh, vv_ = va_up sh_3 i (some (mO 5 ((nKs [false, false, true]).set 2 (some (fun _ => some (i + 4)))))) := ⟨_, rfl⟩
  rw [← esh_5] at hW
  have qsh_5 : sh_5 i = some (mO 5 ((nKs [false, false, true]).set 2 (some (fun _ => some (i + 4))))) := by rw [esh_5]; exact va_up_self _ _ _
  have fsh_5 : ∀ a, a ≠ i → sh_5 a = sh_3 a := fun a ha => by rw [esh_5]; exact va_up_ne _ _ ha
  clear esh_5
  refine W.widen (k := 1) (n := 40) (Nat.le_of_ble_eq_true rfl) (Nat.le_of_ble_eq_true rfl) ?_
  refine W.vret S.1 S.2.1 hr (m_post hW ?_) hW.2.2.1.2.2 dX5_init_17 hlk
  exact ⟨rfl, fun a ha => fad_2 a (by omega), fun a ha => (fsh_5 a (by omega)).trans (fsh_3 a (by omega)), fun a ha => (fV_4 a (by omega)).trans (fV_1 a (by omega)), qsh_5, ((fsh_5 (i + 4) (by omega)).trans qsh_3), ⟨by rw [fV_4 i (by omega), eV_1, mU_eq], by rw [fV_4 i (by omega), eV_1, mU_ne _ _ (by omega)]⟩, fun k => by rw [qV_4]⟩
set_option maxHeartbeats 4000000 in
set_option maxRecDepth 100000 in
theorem c_X6_init (l : Launch) (G : mG) (ad : Nat → Nat) (sh : Nat → Option mSh) (V : mV)  (h0 : sh 1 = some (mO 6 (nKs [true, false, false, false, false, false, false, true, false, false, false]))) (h1 : sh 2 = none) (h2 : sh 3 = none) : mM l yX6_init wsX6_init ({ frames := 1, cells := 2, slots := 320, locals := 20 } : Room) G ad sh V [.ref (ad 1)] 2 320 (fun v ad' sh' V' => v = none ∧ (∀ a, (a ≠ 2 ∧ a ≠ 3) → ad' a = ad a) ∧ (∀ a, (a ≠ 1 ∧ a ≠ 2 ∧ a ≠ 3) → sh' a = sh a) ∧ (∀ a, (a ≠ 2 ∧ a ≠ 3) → V' a = V a) ∧ (sh' 1 = some sTape ∧ sh' 2 = some (mI 160) ∧ sh' 3 = some (mI 160))) := by
  refine mM.of (cc := cX6_init) (maxL := 1) (ret := none) (by decide) rfl (Nat.le_of_ble_eq_true rfl) ?_
  intro p e s m below meth c S hr hlk hnm hW ls hl
  obtain ⟨hx, hb, hml, hown, hts⟩ := id S
  have hl : lv_has ls 1 [(0, .ref (ad 1))] := hl
  skip
  refine lv_aload_n hx hb dX6_init_0 rfl (lv_at hl 0 rfl) ?_
  refine W.objInit hx hb hown (hts (.methodLink RX6 3 objectInit) (List.mem_cons_of_mem _ (wa_2 _ (List.mem_of_getElem? (i := 18) (by decide +kernel))))) (hts (.instanceMethod objectInit) (List.mem_cons_of_mem _ (wa_1 _ (List.mem_of_getElem? (i := 10) (by decide +kernel))))) (hts (.code objectInit ⟨#[0xb1]⟩ 1 none) (List.mem_cons_of_mem _ (wa_1 _ (List.mem_of_getElem? (i := 11) (by decide +kernel))))) rfl (by rw [hml]; exact hl.1) rfl dX6_init_1 (Nat.le_of_ble_eq_true rfl) (Nat.le_of_ble_eq_true rfl) ?_
  refine W.eq (g2 := F0 m 4 ls []) rfl ?_
  refine lv_aload_n hx hb dX6_init_4 rfl (lv_at hl 0 rfl) ?_
  refine lv_sipush (v := nI 160) hx hb dX6_init_5 (by decide) ?_
  refine m_newI S hW 2 160 true h1 (List.mem_cons_of_mem _ (wa_2 _ (List.mem_of_getElem? (i := 19) (by decide +kernel)))) (by decide) (Nat.le_of_ble_eq_true rfl) (Nat.le_of_ble_eq_true rfl) dX6_init_8 (fun ad_1 H fad_1 hW => ?_)
  refine W.eq (g2 := F0 m 10 ls [.ref (ad_1 2), .ref (ad_1 1)]) (by rw [fad_1 1 (by omega)]) ?_
  have hl : lv_has ls 1 [(0, .ref (ad_1 1))] := by rw [fad_1 1 (by omega)]; exact hl
  obtain ⟨sh_2, esh_2⟩ : ∃ vv_ : Nat → Option mSh, vv_ = va_up sh 2 (some (mI 160)) := ⟨_, rfl⟩
  rw [← esh_2] at hW
  have qsh_2 : sh_2 2 = some (mI 160) := by rw [esh_2]; exact va_up_self _ _ _
  have fsh_2 : ∀ a, a ≠ 2 → sh_2 a = sh a := fun a ha => by rw [esh_2]; exact va_up_ne _ _ ha
  clear esh_2
  obtain ⟨V_3, eV_3⟩ : ∃ vv_ : mV, vv_ = va_up V 2 (fun _ => 0) := ⟨_, rfl⟩
  rw [← eV_3] at hW
  have qV_3 : V_3 2 = fun _ => 0 := by rw [eV_3]; exact va_up_self _ _ _
  have fV_3 : ∀ a, a ≠ 2 → V_3 a = V a := fun a ha => by rw [eV_3]; exact va_up_ne _ _ ha
  clear eV_3
  refine m_putc S hW (fun _ => some 2) ((fsh_2 1 (by omega)).trans h0) 0 (Nat.lt_of_lt_of_eq (by decide : 0 < 11) rfl) (j := 2) rfl (by rw [qsh_2]; exact fun z => by cases z) kX6 (iW6 _) tyX6 tyX6_ok nmX6 (by decide) (List.mem_cons_of_mem _ (wa_2 _ (List.mem_of_getElem? (i := 20) (by decide +kernel)))) (Or.inr ⟨rfl, hnm, rfl⟩) (fun _ => rfl) (fun _ => rfl) dX6_init_10 (fun H locs hW => ?_)
  obtain ⟨sh_4, esh_4⟩ : ∃ vv_ : Nat → Option mSh, vv_ = va_up sh_2 1 (some (mO 6 ((nKs [true, false, false, false, false, false, false, true, false, false, false]).set 0 (some (fun _ => some 2))))) := ⟨_, rfl⟩
  rw [← esh_4] at hW
  have qsh_4 : sh_4 1 = some (mO 6 ((nKs [true, false, false, false, false, false, false, true, false, false, false]).set 0 (some (fun _ => some 2)))) := by rw [esh_4]; exact va_up_self _ _ _
  have fsh_4 : ∀ a, a ≠ 1 → sh_4 a = sh_2 a := fun a ha => by rw [esh_4]; exact va_up_ne _ _ ha
  clear esh_4
  refine lv_aload_n hx hb dX6_init_13 rfl (lv_at hl 0 rfl) ?_
  refine lv_sipush (v := nI 160) hx hb dX6_init_14 (by decide) ?_
  refine m_newI S hW 3 160 true ((fsh_4 3 (by omega)).trans ((fsh_2 3 (by omega)).trans h2)) (List.mem_cons_of_mem _ (wa_2 _ (List.mem_of_getElem? (i := 19) (by decide +kernel)))) (by decide) (Nat.le_of_ble_eq_true rfl) (Nat.le_of_ble_eq_true rfl) dX6_init_17 (fun ad_5 H fad_5 hW => ?_)
  refine W.eq (g2 := F0 m 19 ls [.ref (ad_5 3), .ref (ad_5 1)]) (by rw [fad_5 1 (by omega)]) ?_
  have hl : lv_has ls 1 [(0, .ref (ad_5 1))] := by rw [fad_5 1 (by omega)]; exact hl
  obtain ⟨sh_6, esh_6⟩ : ∃ vv_ : Nat → Option mSh, vv_ = va_up sh_4 3 (some (mI 160)) := ⟨_, rfl⟩
  rw [← esh_6] at hW
  have qsh_6 : sh_6 3 = some (mI 160) := by rw [esh_6]; exact va_up_self _ _ _
  have fsh_6 : ∀ a, a ≠ 3 → sh_6 a = sh_4 a := fun a ha => by rw [esh_6]; exact va_up_ne _ _ ha
  clear esh_6
  obtain ⟨V_7, eV_7⟩ : ∃ vv_ : mV, vv_ = va_up V_3 3 (fun _ => 0) := ⟨_, rfl⟩
  rw [← eV_7] at hW
  have qV_7 : V_7 3 = fun _ => 0 := by rw [eV_7]; exact va_up_self _ _ _
  have fV_7 : ∀ a, a ≠ 3 → V_7 a = V_3 a := fun a ha => by rw [eV_7]; exact va_up_ne _ _ ha
  clear eV_7
  refine m_putc S hW (fun _ => some 3) ((fsh_6 1 (by omega)).trans qsh_4) 7 (Nat.lt_of_lt_of_eq (by decide : 7 < 11) rfl) (j := 3) rfl (by rw [qsh_6]; exact fun z => by cases z) kX6 (iW6 _) tyX6 tyX6_ok nmX6 (by decide) (List.mem_cons_of_mem _ (wa_2 _ (List.mem_of_getElem? (i := 21) (by decide +kernel)))) (Or.inr ⟨rfl, hnm, rfl⟩) (fun _ => rfl) (fun _ => rfl) dX6_init_19 (fun H locs hW => ?_)
  obtain ⟨sh_8, esh_8⟩ : ∃ vv_ : Nat → Option mSh, vv_ = va_up sh_6 1 (some (mO 6 (((nKs [true, false, false, false, false, false, false, true, false, false, false]).set 0 (some (fun _ => some 2))).set 7 (some (fun _ => some 3))))) := ⟨_, rfl⟩
  rw [← esh_8] at hW
  have qsh_8 : sh_8 1 = some (mO 6 (((nKs [true, false, false, false, false, false, false, true, false, false, false]).set 0 (some (fun _ => some 2))).set 7 (some (fun _ => some 3)))) := by rw [esh_8]; exact va_up_self _ _ _
  have fsh_8 : ∀ a, a ≠ 1 → sh_8 a = sh_6 a := fun a ha => by rw [esh_8]; exact va_up_ne _ _ ha
  clear esh_8
  refine W.widen (k := 2) (n := 320) (Nat.le_of_ble_eq_true rfl) (Nat.le_of_ble_eq_true rfl) ?_
  refine W.vret S.1 S.2.1 hr (m_post hW ?_) hW.2.2.1.2.2 dX6_init_22 hlk
  exact ⟨rfl, fun a ha => (fad_5 a (by omega)).trans (fad_1 a (by omega)), fun a ha => (fsh_8 a (by omega)).trans ((fsh_6 a (by omega)).trans ((fsh_4 a (by omega)).trans (fsh_2 a (by omega)))), fun a ha => (fV_7 a (by omega)).trans (fV_3 a (by omega)), ⟨qsh_8, ((fsh_8 2 (by omega)).trans ((fsh_6 2 (by omega)).trans ((fsh_4 2 (by omega)).trans qsh_2))), ((fsh_8 3 (by omega)).trans qsh_6)⟩⟩
set_option maxHeartbeats 4000000 in
set_option maxRecDepth 100000 in
theorem c_X7_init (l : Launch) (G : mG) (ad : Nat → Nat) (sh : Nat → Option mSh) (V : mV) (t tl : Nat) (nm lf wf : Int32) (h0 : sh t = some (mO 7 (nKs [false, true, false, false, true]))) (h1 : sh (t + 1) = some (mI tl)) (h2 : sh (t + 2) = none) : mM l yX7_init wsX7_init ({ frames := 1, cells := 1, slots := 32, locals := 20 } : Room) G ad sh V [.ref (ad t), .int nm, .ref (ad (t + 1)), .int lf, .int wf] 1 32 (fun v ad' sh' V' => v = none ∧ (∀ a, a ≠ t + 2 → ad' a = ad a) ∧ (∀ a, (a ≠ t ∧ a ≠ t + 2) → sh' a = sh a) ∧ (∀ a, (a ≠ t ∧ a ≠ t + 2) → V' a = V a) ∧ (TxS sh' t tl) ∧ (V' t 0 = nm ∧ V' t 2 = lf ∧ V' t 3 = wf)) := by
  refine mM.of (cc := cX7_init) (maxL := 5) (ret := none) (by decide) rfl (Nat.le_of_ble_eq_true rfl) ?_
  intro p e s m below meth c S hr hlk hnm hW ls hl
  obtain ⟨hx, hb, hml, hown, hts⟩ := id S
  have hl : lv_has ls 5 [(0, .ref (ad t)), (1, .int nm), (2, .ref (ad (t + 1))), (3, .int lf), (4, .int wf)] := hl
  skip
  refine lv_aload_n hx hb dX7_init_0 rfl (lv_at hl 0 rfl) ?_
  refine W.objInit hx hb hown (hts (.methodLink RX7 1 objectInit) (List.mem_cons_of_mem _ (wa_9 _ (List.mem_of_getElem? (i := 8) (by decide +kernel))))) (hts (.instanceMethod objectInit) (List.mem_cons_of_mem _ (wa_1 _ (List.mem_of_getElem? (i := 10) (by decide +kernel))))) (hts (.code objectInit ⟨#[0xb1]⟩ 1 none) (List.mem_cons_of_mem _ (wa_1 _ (List.mem_of_getElem? (i := 11) (by decide +kernel))))) rfl (by rw [hml]; exact hl.1) rfl dX7_init_1 (Nat.le_of_ble_eq_true rfl) (Nat.le_of_ble_eq_true rfl) ?_
  refine W.eq (g2 := F0 m 4 ls []) rfl ?_
  refine lv_aload_n hx hb dX7_init_4 rfl (lv_at hl 0 rfl) ?_
  refine lv_bipush (v := nI 32) hx hb dX7_init_5 (by decide) ?_
  refine m_newI S hW (t + 2) 32 false h2 (List.mem_cons_of_mem _ (wa_2 _ (List.mem_of_getElem? (i := 19) (by decide +kernel)))) (by decide) (Nat.le_of_ble_eq_true rfl) (Nat.le_of_ble_eq_true rfl) dX7_init_7 (fun ad_1 H fad_1 hW => ?_)
  refine W.eq (g2 := F0 m 9 ls [.ref (ad_1 (t + 2)), .ref (ad_1 t)]) (by rw [fad_1 t (by omega)]) ?_
  have hl : lv_has ls 5 [(0, .ref (ad_1 t)), (1, .int nm), (2, .ref (ad_1 (t + 1))), (3, .int lf), (4, .int wf)] := by rw [fad_1 t (by omega), fad_1 (t + 1) (by omega)]; exact hl
  obtain ⟨sh_2, esh_2⟩ : ∃ vv_ : Nat → Option mSh, vv_ = va_up sh (t + 2) (some (mS 32)) := ⟨_, rfl⟩
  rw [← esh_2] at hW
  have qsh_2 : sh_2 (t + 2) = some (mS 32) := by rw [esh_2]; exact va_up_self _ _ _
  have fsh_2 : ∀ a, a ≠ (t + 2) → sh_2 a = sh a := fun a ha => by rw [esh_2]; exact va_up_ne _ _ ha
  clear esh_2
  obtain ⟨V_3, eV_3⟩ : ∃ vv_ : mV, vv_ = va_up V (t + 2) (fun _ => 0) := ⟨_, rfl⟩
  rw [← eV_3] at hW
  have qV_3 : V_3 (t + 2) = fun _ => 0 := by rw [eV_3]; exact va_up_self _ _ _
  have fV_3 : ∀ a, a ≠ (t + 2) → V_3 a = V a := fun a ha => by rw [eV_3]; exact va_up_ne _ _ ha
  clear eV_3
  refine m_putc S hW (fun _ => some (t + 2)) ((fsh_2 t (by omega)).trans h0) 4 (Nat.lt_of_lt_of_eq (by decide : 4 < 5) rfl) (j := t + 2) rfl (by rw [qsh_2]; exact fun z => by cases z) kX7 (iW7 _) tyX7 tyX7_ok nmX7 (by decide) (List.mem_cons_of_mem _ (wa_9 _ (List.mem_of_getElem? (i := 9) (by decide +kernel)))) (Or.inr ⟨rfl, hnm, rfl⟩) (fun _ => rfl) (fun _ => rfl) dX7_init_9 (fun H locs hW => ?_)
  obtain ⟨sh_4, esh_4⟩ : ∃ vv_ : Nat → Option mSh, vv_ = va_up sh_2 t (some (mO 7 ((nKs [false, true, false, false, true]).set 4 (some (fun _ => some (t + 2)))))) := ⟨_, rfl⟩
  rw [← esh_4] at hW
  have qsh_4 : sh_4 t = some (mO 7 ((nKs [false, true, false, false, true]).set 4 (some (fun _ => some (t + 2))))) := by rw [esh_4]; exact va_up_self _ _ _
  have fsh_4 : ∀ a, a ≠ t → sh_4 a = sh_2 a := fun a ha => by rw [esh_4]; exact va_up_ne _ _ ha
  clear esh_4
  refine lv_aload_n hx hb dX7_init_12 rfl (lv_at hl 0 rfl) ?_
  refine lv_iload_n hx hb dX7_init_13 rfl (lv_at hl 1 rfl) ?_
  refine m_puti S hW qsh_4 0 rfl kX7 (iW7 _) tyX7 tyX7_ok nmX7 (by decide) (List.mem_cons_of_mem _ (wa_9 _ (List.mem_of_getElem? (i := 10) (by decide +kernel)))) (Or.inr ⟨rfl, hnm, rfl⟩) rfl rfl dX7_init_14 (fun H locs hW => ?_)
  obtain ⟨V_5, eV_5⟩ : ∃ vv_ : mV, vv_ = mU V_3 t 0 nm := ⟨_, rfl⟩
  rw [← eV_5] at hW
  have fV_5 : ∀ a, a ≠ t → V_5 a = V_3 a := fun a ha => by rw [eV_5]; exact mU_no _ _ ha
  refine lv_aload_n hx hb dX7_init_17 rfl (lv_at hl 0 rfl) ?_
  refine lv_aload_n hx hb dX7_init_18 rfl (lv_at hl 2 rfl) ?_
  refine m_putc S hW (fun _ => some (t + 1)) qsh_4 1 (Nat.lt_of_lt_of_eq (by decide : 1 < 5) rfl) (j := t + 1) rfl (by rw [((fsh_4 (t + 1) (by omega)).trans ((fsh_2 (t + 1) (by omega)).trans h1))]; exact fun z => by cases z) kX7 (iW7 _) tyX7 tyX7_ok nmX7 (by decide) (List.mem_cons_of_mem _ (wa_9 _ (List.mem_of_getElem? (i := 11) (by decide +kernel)))) (Or.inr ⟨rfl, hnm, rfl⟩) (fun _ => rfl) (fun _ => rfl) dX7_init_19 (fun H locs hW => ?_)
  obtain ⟨sh_6, esh_6⟩ : ∃ vv_ : Nat → Option mSh, vv_ = va_up sh_4 t (some (mO 7 (((nKs [false, true, false, false, true]).set 4 (some (fun _ => some (t + 2)))).set 1 (some (fun _ => some (t + 1)))))) := ⟨_, rfl⟩
  rw [← esh_6] at hW
  have qsh_6 : sh_6 t = some (mO 7 (((nKs [false, true, false, false, true]).set 4 (some (fun _ => some (t + 2)))).set 1 (some (fun _ => some (t + 1))))) := by rw [esh_6]; exact va_up_self _ _ _
  have fsh_6 : ∀ a, a ≠ t → sh_6 a = sh_4 a := fun a ha => by rw [esh_6]; exact va_up_ne _ _ ha
  clear esh_6
  refine lv_aload_n hx hb dX7_init_22 rfl (lv_at hl 0 rfl) ?_
  refine lv_iload_n hx hb dX7_init_23 rfl (lv_at hl 3 rfl) ?_
  refine m_puti S hW qsh_6 2 rfl kX7 (iW7 _) tyX7 tyX7_ok nmX7 (by decide) (List.mem_cons_of_mem _ (wa_9 _ (List.mem_of_getElem? (i := 12) (by decide +kernel)))) (Or.inr ⟨rfl, hnm, rfl⟩) rfl rfl dX7_init_24 (fun H locs hW => ?_)
  obtain ⟨V_7, eV_7⟩ : ∃ vv_ : mV, vv_ = mU V_5 t 2 lf := ⟨_, rfl⟩
  rw [← eV_7] at hW
  have fV_7 : ∀ a, a ≠ t → V_7 a = V_5 a := fun a ha => by rw [eV_7]; exact mU_no _ _ ha
  refine lv_aload_n hx hb dX7_init_27 rfl (lv_at hl 0 rfl) ?_
  refine lv_iload hx hb dX7_init_28 (lv_at hl 4 rfl) ?_
  refine m_puti S hW qsh_6 3 rfl kX7 (iW7 _) tyX7 tyX7_ok nmX7 (by decide) (List.mem_cons_of_mem _ (wa_9 _ (List.mem_of_getElem? (i := 13) (by decide +kernel)))) (Or.inr ⟨rfl, hnm, rfl⟩) rfl rfl dX7_init_30 (fun H locs hW => ?_)
  obtain ⟨V_8, eV_8⟩ : ∃ vv_ : mV, vv_ = mU V_7 t 3 wf := ⟨_, rfl⟩
  rw [← eV_8] at hW
  have fV_8 : ∀ a, a ≠ t → V_8 a = V_7 a := fun a ha => by rw [eV_8]; exact mU_no _ _ ha
  refine W.widen (k := 1) (n := 32) (Nat.le_of_ble_eq_true rfl) (Nat.le_of_ble_eq_true rfl) ?_
  refine W.vret S.1 S.2.1 hr (m_post hW ?_) hW.2.2.1.2.2 dX7_init_33 hlk
  exact ⟨rfl, fun a ha => fad_1 a (by omega), fun a ha => (fsh_6 a (by omega)).trans ((fsh_4 a (by omega)).trans (fsh_2 a (by omega))), fun a ha => (fV_8 a (by omega)).trans ((fV_7 a (by omega)).trans ((fV_5 a (by omega)).trans (fV_3 a (by omega)))), ⟨qsh_6, ((fsh_6 (t + 1) (by omega)).trans ((fsh_4 (t + 1) (by omega)).trans ((fsh_2 (t + 1) (by omega)).trans h1))), ((fsh_6 (t + 2) (by omega)).trans ((fsh_4 (t + 2) (by omega)).trans qsh_2))⟩, ⟨by rw [eV_8, mU_ne _ _ (by omega), eV_7, mU_ne _ _ (by omega), eV_5, mU_eq], by rw [eV_8, mU_ne _ _ (by omega), eV_7, mU_eq], by rw [eV_8, mU_eq]⟩⟩
set_option maxHeartbeats 4000000 in
set_option maxRecDepth 100000 in
theorem c_X6_made (l : Launch) (G : mG) (ad : Nat → Nat) (sh : Nat → Option mSh) (V : mV) (t tl lf wf : Nat) (nm : Int32) (h1 : sh 1 = some sTape) (h3 : sh 3 = some (mI 160)) (ha : sh (t + 1) = none) (hn0 : sh t = none) (hn2 : sh (t + 2) = none) (ht3 : 3 < t) (hl8 : V 1 8 = nI tl) (htl : tl ≤ 160) (h9 : V 1 9 = nI lf) (h10 : V 1 10 = nI wf) : mM l yX6_made wsX6_made ({ frames := 2, cells := 3, slots := 197, locals := 61 } : Room) G ad sh V [.ref (ad 1), .int nm] 3 197 (fun v ad' sh' V' => v = some (.ref (ad' t)) ∧ (∀ a, (a ≠ t ∧ a ≠ t + 1 ∧ a ≠ t + 2) → ad' a = ad a) ∧ (∀ a, (a ≠ t ∧ a ≠ t + 1 ∧ a ≠ t + 2) → sh' a = sh a) ∧ (∀ a, (a ≠ t ∧ a ≠ t + 1 ∧ a ≠ t + 2) → V' a = V a) ∧ (TxS sh' t tl) ∧ (V' t 0 = nm ∧ V' t 2 = nI lf ∧ V' t 3 = nI wf) ∧ (∀ k, k < tl → V' (t + 1) k = V 3 k)) := by
  refine mM.of (cc := cX6_made) (maxL := 3) (ret := (some (.object "BiteFirst$Text"))) (by decide) rfl (Nat.le_of_ble_eq_true rfl) ?_
  intro p e s m below meth c S hr hlk hnm hW ls hl
  obtain ⟨hx, hb, hml, hown, hts⟩ := id S
  have hl : lv_has ls 3 [(0, .ref (ad 1)), (1, .int nm)] := hl
  skip
  refine lv_aload_n hx hb dX6_made_0 rfl (lv_at hl 0 rfl) ?_
  refine m_geti S hW h1 8 rfl kX6 (iW6 _) (by decide) (List.mem_cons_of_mem _ (wa_6 _ (List.mem_of_getElem? (i := 4) (by decide +kernel)))) dX6_made_1 ?_
  refine m_top (y := nI tl) (by rw [hl8]) ?_
  refine m_newI S hW (t + 1) tl true ha (List.mem_cons_of_mem _ (wa_2 _ (List.mem_of_getElem? (i := 19) (by decide +kernel)))) (by omega) (Nat.le_of_ble_eq_true rfl) (by show _ ≤ 197; omega) dX6_made_4 (fun ad_1 H fad_1 hW => ?_)
  have hl : lv_has ls 3 [(0, .ref (ad_1 1)), (1, .int nm)] := by rw [fad_1 1 (by omega)]; exact hl
  obtain ⟨sh_2, esh_2⟩ : ∃ vv_ : Nat → Option mSh, vv_ = va_up sh (t + 1) (some (mI tl)) := ⟨_, rfl⟩
  rw [← esh_2] at hW
  have qsh_2 : sh_2 (t + 1) = some (mI tl) := by rw [esh_2]; exact va_up_self _ _ _
  have fsh_2 : ∀ a, a ≠ (t + 1) → sh_2 a = sh a := fun a ha => by rw [esh_2]; exact va_up_ne _ _ ha
  clear esh_2
  obtain ⟨V_3, eV_3⟩ : ∃ vv_ : mV, vv_ = va_up V (t + 1) (fun _ => 0) := ⟨_, rfl⟩
  rw [← eV_3] at hW
  have qV_3 : V_3 (t + 1) = fun _ => 0 := by rw [eV_3]; exact va_up_self _ _ _
  have fV_3 : ∀ a, a ≠ (t + 1) → V_3 a = V a := fun a ha => by rw [eV_3]; exact va_up_ne _ _ ha
  clear eV_3
  refine lv_astore_n (lv' := [(2, .ref (ad_1 (t + 1))), (0, .ref (ad_1 1)), (1, .int nm)]) hx hb dX6_made_6 rfl hl (by decide) rfl (fun ls hl => ?_)
  refine lv_aload_n hx hb dX6_made_7 rfl (lv_at hl 1 rfl) ?_
  refine m_getr S hW ((fsh_2 1 (by omega)).trans h1) 7 rfl (j := 3) rfl kX6 (iW6 _) (by decide) (List.mem_cons_of_mem _ (wa_2 _ (List.mem_of_getElem? (i := 21) (by decide +kernel)))) dX6_made_8 ?_
  refine lv_iconst (v := nI 0) hx hb dX6_made_11 (by decide) ?_
  refine lv_aload_n hx hb dX6_made_12 rfl (lv_at hl 0 rfl) ?_
  refine lv_iconst (v := nI 0) hx hb dX6_made_13 (by decide) ?_
  refine lv_aload_n hx hb dX6_made_14 rfl (lv_at hl 1 rfl) ?_
  refine m_geti S hW ((fsh_2 1 (by omega)).trans h1) 8 rfl kX6 (iW6 _) (by decide) (List.mem_cons_of_mem _ (wa_6 _ (List.mem_of_getElem? (i := 4) (by decide +kernel)))) dX6_made_15 ?_
  refine m_top (y := nI tl) (by rw [fV_3 1 (by omega), hl8]) ?_
  refine m_copy S hW hl.1 ((fsh_2 3 (by omega)).trans h3) qsh_2 (List.mem_cons_of_mem _ (wa_8 _ (List.mem_of_getElem? (i := 22) (by decide +kernel)))) (List.mem_cons_of_mem _ (wa_8 _ (List.mem_of_getElem? (i := 23) (by decide +kernel)))) (List.mem_cons_of_mem _ (wa_9 _ (List.mem_of_getElem? (i := 0) (by decide +kernel)))) (List.mem_cons_of_mem _ (wa_9 _ (List.mem_of_getElem? (i := 1) (by decide +kernel)))) 0 0 tl rfl rfl rfl (by omega) (by omega) (by decide) (by omega) (Nat.le_of_ble_eq_true rfl) (Nat.le_of_ble_eq_true rfl) dX6_made_18 (fun H locs hW => ?_)
  obtain ⟨V_4, eV_4⟩ : ∃ vv_ : mV, vv_ = mCpy V_3 3 0 (t + 1) 0 tl := ⟨_, rfl⟩
  rw [← eV_4] at hW
  have fV_4 : ∀ a, a ≠ t + 1 → V_4 a = V_3 a := fun a ha => by rw [eV_4]; exact mCpy_no _ ha
  have hc1 : ∀ k, k < tl → V_4 (t + 1) k = V_3 3 k := fun k hk => by rw [eV_4, mCpy, if_pos ⟨rfl, Nat.zero_le _, by omega⟩, Nat.zero_add, Nat.sub_zero]
  refine m_new S hW (C := RX7) (ci := 7) (ks := nKs [false, true, false, false, true]) t ((fsh_2 t (by omega)).trans hn0) kX7 (iW7 _) tyX7 tyX7_ok (List.mem_cons_of_mem _ (wa_9 _ (List.mem_of_getElem? (i := 2) (by decide +kernel)))) (List.mem_cons_of_mem _ (wa_9 _ (List.mem_of_getElem? (i := 3) (by decide +kernel)))) (List.mem_cons_of_mem _ (wa_9 _ (List.mem_of_getElem? (i := 4) (by decide +kernel)))) (fun r => nKs_no _ _ _ r) (fun ad j hj => by rcases (show j = 0 ∨ j = 1 ∨ j = 2 ∨ j = 3 ∨ j = 4 by omega) with rfl | rfl | rfl | rfl | rfl <;> rfl) (Nat.le_of_ble_eq_true rfl) (by show _ ≤ 197; omega) dX6_made_21 (fun ad_5 H fad_5 hW => ?_)
  have hl : lv_has ls 3 [(2, .ref (ad_5 (t + 1))), (0, .ref (ad_5 1)), (1, .int nm)] := by rw [fad_5 (t + 1) (by omega), fad_5 1 (by omega)]; exact hl
  obtain ⟨sh_6, esh_6⟩ : ∃ vv_ : Nat → Option mSh, vv_ = va_up sh_2 t (some (mO 7 (nKs [false, true, false, false, true]))) := ⟨_, rfl⟩
  rw [← esh_6] at hW
  have qsh_6 : sh_6 t = some (mO 7 (nKs [false, true, false, false, true])) := by rw [esh_6]; exact va_up_self _ _ _
  have fsh_6 : ∀ a, a ≠ t → sh_6 a = sh_2 a := fun a ha => by rw [esh_6]; exact va_up_ne _ _ ha
  clear esh_6
  obtain ⟨V_7, eV_7⟩ : ∃ vv_ : mV, vv_ = va_up V_4 t (fun _ => 0) := ⟨_, rfl⟩
  rw [← eV_7] at hW
  have qV_7 : V_7 t = fun _ => 0 := by rw [eV_7]; exact va_up_self _ _ _
  have fV_7 : ∀ a, a ≠ t → V_7 a = V_4 a := fun a ha => by rw [eV_7]; exact va_up_ne _ _ ha
  clear eV_7
  refine lv_dup hx hb dX6_made_24 rfl ?_
  refine lv_iload_n hx hb dX6_made_25 rfl (lv_at hl 2 rfl) ?_
  refine lv_aload_n hx hb dX6_made_26 rfl (lv_at hl 0 rfl) ?_
  refine lv_aload_n hx hb dX6_made_27 rfl (lv_at hl 1 rfl) ?_
  refine m_geti S hW ((fsh_6 1 (by omega)).trans ((fsh_2 1 (by omega)).trans h1)) 9 rfl kX6 (iW6 _) (by decide) (List.mem_cons_of_mem _ (wa_6 _ (List.mem_of_getElem? (i := 5) (by decide +kernel)))) dX6_made_28 ?_
  refine m_top (y := nI lf) (by rw [fV_7 1 (by omega), fV_4 1 (by omega), fV_3 1 (by omega), h9]) ?_
  refine lv_aload_n hx hb dX6_made_31 rfl (lv_at hl 1 rfl) ?_
  refine m_geti S hW ((fsh_6 1 (by omega)).trans ((fsh_2 1 (by omega)).trans h1)) 10 rfl kX6 (iW6 _) (by decide) (List.mem_cons_of_mem _ (wa_6 _ (List.mem_of_getElem? (i := 6) (by decide +kernel)))) dX6_made_32 ?_
  refine m_top (y := nI wf) (by rw [fV_7 1 (by omega), fV_4 1 (by omega), fV_3 1 (by omega), h10]) ?_
  refine m_fin (m_rI S hW (c_X7_init l G ad_5 sh_6 V_7 t tl nm (nI lf) (nI wf) qsh_6 ((fsh_6 (t + 1) (by omega)).trans qsh_2) ((fsh_6 (t + 2) (by omega)).trans ((fsh_2 (t + 2) (by omega)).trans hn2))) (cwI 4 hts (gCall [] (List.forall_mem_cons.mpr ⟨(wa_9 _ (List.mem_of_getElem? (i := 7) (by decide +kernel))), (fun _ h => absurd h List.not_mem_nil)⟩)) rfl rfl rfl (hts (.initialized RX7) (List.mem_cons_of_mem _ (wa_9 _ (List.mem_of_getElem? (i := 4) (by decide +kernel))))) (hts (.methodLink RX6 77 yX7_init) (List.mem_cons_of_mem _ (wa_9 _ (List.mem_of_getElem? (i := 5) (by decide +kernel))))) (hts (.instanceMethod yX7_init) (List.mem_cons_of_mem _ (wa_9 _ (List.mem_of_getElem? (i := 6) (by decide +kernel))))) rfl (by decide +kernel) ⟨(Nat.le_of_ble_eq_true rfl), (Nat.le_of_ble_eq_true rfl)⟩) rfl hl.1 rfl (Nat.le_of_ble_eq_true rfl) dX6_made_35 ⟨(Nat.le_of_ble_eq_true rfl), (by show _ ≤ 197; omega)⟩) hW (fun v_8 ad_9 sh_10 V_11 H locs hp_12 hW => ?_)
  obtain ⟨rfl, hA_13, hS_14, hV_15, hT_16, h5_17⟩ := hp_12
  refine W.eq (g2 := F0 m 38 ls [.ref (ad_9 t)]) (by rw [hA_13 t (by omega)]; rfl) ?_
  have hl : lv_has ls 3 [(2, .ref (ad_9 (t + 1))), (0, .ref (ad_9 1)), (1, .int nm)] := by rw [hA_13 (t + 1) (by omega), hA_13 1 (by omega)]; exact hl
  refine W.widen (k := 3) (n := 197) (Nat.le_of_ble_eq_true rfl) (by omega) ?_
  refine W.aret S.1 S.2.1 hr (Or.inl ⟨_, rfl⟩) (Or.inr ⟨_, rfl⟩) (m_post hW ?_) hW.2.2.1.2.2 dX6_made_38 hlk
  exact ⟨rfl, fun a ha => (hA_13 a (by omega)).trans ((fad_5 a (by omega)).trans (fad_1 a (by omega))), fun a ha => (hS_14 a (by omega)).trans ((fsh_6 a (by omega)).trans (fsh_2 a (by omega))), fun a ha => (hV_15 a (by omega)).trans ((fV_7 a (by omega)).trans ((fV_4 a (by omega)).trans (fV_3 a (by omega)))), hT_16, ⟨h5_17.1, h5_17.2.1, h5_17.2.2⟩, fun k hk => by rw [hV_15 (t + 1) (by omega), fV_7 (t + 1) (by omega), hc1 k hk, fV_3 3 (by omega)]⟩
