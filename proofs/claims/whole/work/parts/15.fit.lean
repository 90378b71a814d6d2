/-! other teeth, other kinds, other jaws -/
/-- of teeth 1 .. t the least number of most gain (B), if more than g0: that (or -1), the gain -/
def fHire (g0 : Int32) (B : Nat → Int32) : Nat → Int32 × Int32
  | 0 => (-1, g0)
  | t + 1 => if (fHire g0 B t).2 < B (t + 1) then (nI (t + 1), B (t + 1)) else fHire g0 B t
/-- bits of what holds -/
def fBitsOf (P : Nat → Bool) : Nat → Int32
  | 0 => nI 0
  | n + 1 => if P n then fBitsOf P n ||| (nI 1 <<< (nI n &&& 31)) else fBitsOf P n
/-- whether a shape makes just this mark somewhere -/
def fCan (sp le x : Int32) : Bool := (List.range 16).any (fun n => decide (fMark sp le (nI n) = x))
theorem fCan_t {sp le x : Int32} (h : ∃ n, n < 16 ∧ fMark sp le (nI n) = x) : fCan sp le x = true := by
  obtain ⟨n, h1, h2⟩ := h
  exact List.any_eq_true.mpr ⟨n, List.mem_range.mpr h1, decide_eq_true h2⟩
theorem fCan_f {sp le x : Int32} (h : ∀ n, n < 16 → ¬ fMark sp le (nI n) = x) : ¬ fCan sp le x = true := by
  intro z
  obtain ⟨n, h1, h2⟩ := List.any_eq_true.mp z
  exact h n (List.mem_range.mp h1) (of_decide_eq_true h2)
def fCount (P : Nat → Bool) : Nat → Nat
  | 0 => 0
  | n + 1 => if P (n + 1) then fCount P n + 1 else fCount P n
/-- the least of n .. 63 of which P holds, or -1 (fuel: so many yet) -/
def fLeast (P : Nat → Bool) : Nat → Nat → Int32
  | 0, _ => -1
  | f + 1, n => if P n then nI n else fLeast P f (n + 1)
theorem fCount_s {P : Nat → Bool} {k : Nat} (h : 0 < k) : fCount P k = if P k then fCount P (k - 1) + 1 else fCount P (k - 1) := by
  obtain ⟨j, rfl⟩ : ∃ j, k = j + 1 := ⟨k - 1, by omega⟩
  rfl
set_option maxHeartbeats 4000000 in
set_option maxRecDepth 100000 in
theorem c_X2_kindsLeaving (l : Launch) (G : mG) (ad : Nat → Nat) (sh : Nat → Option mSh) (V : mV) (i g : Nat) (x : Int32) (h6 : sh 6 = some sFit) (h7 : sh 7 = some sEater) (hi : sh i = some sEater) (hg : sh g = some (sGood g)) (hg' : sh (g + 1) = some (mI 10)) : mM l yX2_kindsLeaving wsX2_kindsLeaving ({ frames := 3, cells := 0, slots := 0, locals := 69 } : Room) G ad sh V [.ref (ad 6), .ref (ad i), .ref (ad g), .int x] 0 0 (mPi ad sh (fun r V' => fBitsOf (fun n => fCan (fShape (nI n) (V i 1) (V i 2) (V g 1)) (V g 2) x) 6 = r ∧ (∀ a, a ≠ 7 → V' a = V a))) := by
  refine mM.of (cc := cX2_kindsLeaving) (maxL := 6) (ret := (some .int)) (by decide) rfl (Nat.le_of_ble_eq_true rfl) ?_
  intro p e s m below meth c S hr hlk hnm hW ls hl
  obtain ⟨hx, hb, hml, hown, hts⟩ := id S
  have hl : lv_has ls 6 [(0, .ref (ad 6)), (1, .ref (ad i)), (2, .ref (ad g)), (3, .int x)] := hl
  have hS0 : True := trivial
  have hg7 : g ≠ 7 := ne_sh hg h7 (fun z => by simp at z)
  refine lv_iconst (v := nI 0) hx hb dX2_kindsLeaving_0 (by decide) ?_
  refine lv_istore (lv' := [(4, .int (nI 0)), (0, .ref (ad 6)), (1, .ref (ad i)), (2, .ref (ad g)), (3, .int x)]) hx hb dX2_kindsLeaving_1 hl (by decide) rfl (fun ls hl => ?_)
  refine lv_aload_n hx hb dX2_kindsLeaving_3 rfl (lv_at hl 1 rfl) ?_
  refine m_getr S hW h6 0 rfl (j := 7) rfl kX2 (iW2 _) (by decide) (List.mem_cons_of_mem _ (wa_3 _ (List.mem_of_getElem? (i := 4) (by decide +kernel)))) dX2_kindsLeaving_4 ?_
  refine lv_aload_n hx hb dX2_kindsLeaving_7 rfl (lv_at hl 2 rfl) ?_
  refine m_cv (m_rV S hW (c_X1_become l G ad sh V 7 i h7 hi) (cwV 1 hts (gCall [.methodLink RX2 18 yX1_become, .instanceMethod yX1_become, .selects RX1 yX1_become yX1_become, .initialized RX1] (List.forall_mem_cons.mpr ⟨(wa_30 _ (List.mem_of_getElem? (i := 15) (by decide +kernel))), (List.forall_mem_cons.mpr ⟨(wa_35 _ (List.mem_of_getElem? (i := 22) (by decide +kernel))), (List.forall_mem_cons.mpr ⟨(wa_30 _ (List.mem_of_getElem? (i := 13) (by decide +kernel))), (List.forall_mem_cons.mpr ⟨(wa_30 _ (List.mem_of_getElem? (i := 14) (by decide +kernel))), (List.forall_mem_cons.mpr ⟨(wa_3 _ (List.mem_of_getElem? (i := 3) (by decide +kernel))), (fun _ h => absurd h List.not_mem_nil)⟩)⟩)⟩)⟩)⟩)) rfl rfl rfl (by decide +kernel) ⟨Nat.le_of_ble_eq_true rfl, Nat.le_of_ble_eq_true rfl⟩) h7 kX1 rfl hl.1 rfl (Nat.le_of_ble_eq_true rfl) dX2_kindsLeaving_8 ⟨Nat.le_of_ble_eq_true rfl, Nat.le_of_ble_eq_true rfl⟩) hW (fun V_1 H locs hp_2 hW => ?_)
  have eV_1 : V_1 = mCp V 7 i 5 := hp_2
  refine lv_iconst (v := nI 0) hx hb dX2_kindsLeaving_11 (by decide) ?_
  refine lv_istore (lv' := [(5, .int (nI 0)), (4, .int (nI 0)), (0, .ref (ad 6)), (1, .ref (ad i)), (2, .ref (ad g)), (3, .int x)]) hx hb dX2_kindsLeaving_12 hl (by decide) rfl (fun ls hl => ?_)
  have loop_14 : ∀ (n_14 : Nat) (sm : Int32) (k : Nat) (V1 : mV) (H : Heap) (locs : List Loc) (ls : Array Slot), (k ≤ 6) → (∀ a, a ≠ 7 → V1 a = V a) → (V1 7 1 = V i 1 ∧ V1 7 2 = V i 2) → (sm = fBitsOf (fun n => fCan (fShape (nI n) (V i 1) (V i 2) (V g 1)) (V g 2) x) k) → (6 - k) < n_14 → mC (mA ad sh s.heap.size) s.heap s G ad sh V1 H locs → lv_has ls 6 [(0, .ref (ad 6)), (1, .ref (ad i)), (2, .ref (ad g)), (3, .int x), (4, .int sm), (5, .int (nI k))] → W p l e ({ frames := 3, cells := 0, slots := 0, locals := 69 } : Room) s m ([.ref (ad 6), .ref (ad i), .ref (ad g), .int x] : List Value).toArray below meth c H locs 0 0 (MQ below (mPost G ad sh s.heap.size (mPi ad sh (fun r V' => fBitsOf (fun n => fCan (fShape (nI n) (V i 1) (V i 2) (V g 1)) (V g 2) x) 6 = r ∧ (∀ a, a ≠ 7 → V' a = V a)))) ([.ref (ad 6), .ref (ad i), .ref (ad g), .int x] : List Value).toArray s 0 0 (mA ad sh s.heap.size)) (F0 m 14 ls []) := by
    intro n_14
    induction n_14 with
    | zero => intro sm k V1 H locs ls hk hfr ho hs hM_ hW hl; omega
    | succ n_14 ih_14 =>
      intro sm k V1 H locs ls hk hfr ho hs hM_ hW hl
      refine lv_iload hx hb dX2_kindsLeaving_14 (lv_at hl 5 rfl) ?_
      refine lv_bipush (v := nI 6) hx hb dX2_kindsLeaving_16 (by decide) ?_
      refine lv_icmp_ge (tgt := 57) hx hb dX2_kindsLeaving_18 (by decide) (fun c_4 => ?_) (fun c_4 => ?_)
      · skip
        have c_4 : 6 ≤ k := (nI_leI (by omega) (by omega)).mp c_4
        refine lv_iload hx hb dX2_kindsLeaving_57 (lv_at hl 4 rfl) ?_
        exact m_iret S hr hlk hW dX2_kindsLeaving_59 (by exact ⟨by rw [hs, show k = 6 by omega], hfr⟩)
      · skip
        have c_4 : ¬ 6 ≤ k := mt (nI_leI (by omega) (by omega)).mpr c_4
        refine lv_aload_n hx hb dX2_kindsLeaving_21 rfl (lv_at hl 0 rfl) ?_
        refine m_getr S hW h6 0 rfl (j := 7) rfl kX2 (iW2 _) (by decide) (List.mem_cons_of_mem _ (wa_3 _ (List.mem_of_getElem? (i := 4) (by decide +kernel)))) dX2_kindsLeaving_22 ?_
        refine lv_iload hx hb dX2_kindsLeaving_25 (lv_at hl 5 rfl) ?_
        refine m_puti S hW h7 0 rfl kX1 (iW1 _) tyX1 tyX1_ok nmX1 (by decide) (List.mem_cons_of_mem _ (wa_35 _ (List.mem_of_getElem? (i := 20) (by decide +kernel)))) (Or.inl rfl) rfl rfl dX2_kindsLeaving_27 (fun H locs hW => ?_)
        obtain ⟨V_5, eV_5⟩ : ∃ z : mV, z = mU V1 7 0 (nI k) := ⟨_, rfl⟩
        rw [← eV_5] at hW
        refine lv_aload_n hx hb dX2_kindsLeaving_30 rfl (lv_at hl 0 rfl) ?_
        refine m_getr S hW h6 0 rfl (j := 7) rfl kX2 (iW2 _) (by decide) (List.mem_cons_of_mem _ (wa_3 _ (List.mem_of_getElem? (i := 4) (by decide +kernel)))) dX2_kindsLeaving_31 ?_
        refine lv_aload_n hx hb dX2_kindsLeaving_34 rfl (lv_at hl 2 rfl) ?_
        refine lv_iload_n hx hb dX2_kindsLeaving_35 rfl (lv_at hl 3 rfl) ?_
        refine m_cip (m_rV S hW (c_X1_canLeave l G ad sh V_5 7 g x h7 hg hg') (cwV 2 hts (gCall [.methodLink RX2 40 yX1_canLeave, .instanceMethod yX1_canLeave, .selects RX1 yX1_canLeave yX1_canLeave, .initialized RX1] (List.forall_mem_cons.mpr ⟨(wa_36 _ (List.mem_of_getElem? (i := 14) (by decide +kernel))), (List.forall_mem_cons.mpr ⟨(wa_37 _ (List.mem_of_getElem? (i := 12) (by decide +kernel))), (List.forall_mem_cons.mpr ⟨(wa_36 _ (List.mem_of_getElem? (i := 12) (by decide +kernel))), (List.forall_mem_cons.mpr ⟨(wa_36 _ (List.mem_of_getElem? (i := 13) (by decide +kernel))), (List.forall_mem_cons.mpr ⟨(wa_3 _ (List.mem_of_getElem? (i := 3) (by decide +kernel))), (fun _ h => absurd h List.not_mem_nil)⟩)⟩)⟩)⟩)⟩)) rfl rfl rfl (by decide +kernel) ⟨Nat.le_of_ble_eq_true rfl, Nat.le_of_ble_eq_true rfl⟩) h7 kX1 rfl hl.1 rfl (Nat.le_of_ble_eq_true rfl) dX2_kindsLeaving_36 ⟨Nat.le_of_ble_eq_true rfl, Nat.le_of_ble_eq_true rfl⟩) hW (fun r_7 H locs hp_6 hW => ?_)
        rcases hp_6 with ⟨rfl, w_8⟩ | ⟨rfl, w_9⟩
        · skip
          refine m_if_eq (tgt := 51) hx hb dX2_kindsLeaving_39 (by decide) (fun c_10 => ?_) (fun c_10 => ?_)
          · exact absurd c_10 (by decide)
          · skip
            refine lv_iload hx hb dX2_kindsLeaving_42 (lv_at hl 4 rfl) ?_
            refine lv_iconst (v := nI 1) hx hb dX2_kindsLeaving_44 (by decide) ?_
            refine lv_iload hx hb dX2_kindsLeaving_45 (lv_at hl 5 rfl) ?_
            refine lv_ishl hx hb dX2_kindsLeaving_47 ?_
            refine lv_ior hx hb dX2_kindsLeaving_48 ?_
            refine lv_istore (lv' := [(4, .int (sm ||| ((nI 1) <<< ((nI k) &&& 31)))), (0, .ref (ad 6)), (1, .ref (ad i)), (2, .ref (ad g)), (3, .int x), (5, .int (nI k))]) hx hb dX2_kindsLeaving_49 hl (by decide) rfl (fun ls hl => ?_)
            refine lv_iinc (v := nI (k + 1)) (lv' := [(5, .int (nI (k + 1))), (4, .int (sm ||| ((nI 1) <<< ((nI k) &&& 31)))), (0, .ref (ad 6)), (1, .ref (ad i)), (2, .ref (ad g)), (3, .int x)]) hx hb dX2_kindsLeaving_51 hl (k := 5) rfl (m_inc k 1) (by decide) rfl (fun ls hl => ?_)
            refine lv_goto (tgt := 14) hx hb dX2_kindsLeaving_54 (by decide) ?_
            exact ih_14  (sm ||| ((nI 1) <<< ((nI k) &&& 31))) (k + 1) V_5 _ _ _ (by omega) (by intro a ha; rw [eV_5, mU_no _ _ ha]; exact hfr a ha) (by exact ⟨by rw [eV_5, mU_ne _ _ (by omega)]; exact ho.1, by rw [eV_5, mU_ne _ _ (by omega)]; exact ho.2⟩) (by have e0 : V_5 7 0 = nI k := (by rw [eV_5, mU_eq]); have e1 : V_5 7 1 = V i 1 := (by rw [eV_5, mU_ne _ _ (by omega)]; exact ho.1); have e2 : V_5 7 2 = V i 2 := (by rw [eV_5, mU_ne _ _ (by omega)]; exact ho.2); have eg : V_5 g = V g := (by rw [eV_5, mU_no _ _ hg7]; exact hfr g hg7); rw [e0, e1, e2, eg] at w_8; first | (rw [fBitsOf, if_pos (fCan_t w_8), ← hs]; done) | (rw [fBitsOf, if_neg (fCan_f w_8), ← hs]; done)) (by omega) hW (lv_sub hl [2, 3, 4, 5, 1, 0] rfl)
        · skip
          refine m_if_eq (tgt := 51) hx hb dX2_kindsLeaving_39 (by decide) (fun c_11 => ?_) (fun c_11 => ?_)
          · skip
            refine lv_iinc (v := nI (k + 1)) (lv' := [(5, .int (nI (k + 1))), (0, .ref (ad 6)), (1, .ref (ad i)), (2, .ref (ad g)), (3, .int x), (4, .int sm)]) hx hb dX2_kindsLeaving_51 hl (k := 5) rfl (m_inc k 1) (by decide) rfl (fun ls hl => ?_)
            refine lv_goto (tgt := 14) hx hb dX2_kindsLeaving_54 (by decide) ?_
            exact ih_14  sm (k + 1) V_5 _ _ _ (by omega) (by intro a ha; rw [eV_5, mU_no _ _ ha]; exact hfr a ha) (by exact ⟨by rw [eV_5, mU_ne _ _ (by omega)]; exact ho.1, by rw [eV_5, mU_ne _ _ (by omega)]; exact ho.2⟩) (by have e0 : V_5 7 0 = nI k := (by rw [eV_5, mU_eq]); have e1 : V_5 7 1 = V i 1 := (by rw [eV_5, mU_ne _ _ (by omega)]; exact ho.1); have e2 : V_5 7 2 = V i 2 := (by rw [eV_5, mU_ne _ _ (by omega)]; exact ho.2); have eg : V_5 g = V g := (by rw [eV_5, mU_no _ _ hg7]; exact hfr g hg7); rw [e0, e1, e2, eg] at w_9; first | (rw [fBitsOf, if_pos (fCan_t w_9), ← hs]; done) | (rw [fBitsOf, if_neg (fCan_f w_9), ← hs]; done)) (by omega) hW (lv_sub hl [1, 2, 3, 4, 5, 0] rfl)
          · exact absurd c_11 (by decide)
  exact loop_14 (6 - 0 + 1) (nI 0) 0 V_1 _ _ _ (by omega) (by intro a ha; funext q; rw [eV_1, mCp, if_neg (fun z => ha z.1)]) (by exact ⟨by rw [eV_1, mCp, if_pos ⟨rfl, by decide⟩], by rw [eV_1, mCp, if_pos ⟨rfl, by decide⟩]⟩) (by rfl) (by omega) hW (lv_sub hl [2, 3, 4, 5, 1, 0] rfl)
set_option maxHeartbeats 4000000 in
set_option maxRecDepth 100000 in
theorem c_X2_moresLeaving (l : Launch) (G : mG) (ad : Nat → Nat) (sh : Nat → Option mSh) (V : mV) (i g : Nat) (x : Int32) (h6 : sh 6 = some sFit) (h7 : sh 7 = some sEater) (hi : sh i = some sEater) (hg : sh g = some (sGood g)) (hg' : sh (g + 1) = some (mI 10)) : mM l yX2_moresLeaving wsX2_moresLeaving ({ frames := 3, cells := 0, slots := 0, locals := 69 } : Room) G ad sh V [.ref (ad 6), .ref (ad i), .ref (ad g), .int x] 0 0 (mPi ad sh (fun r V' => fBitsOf (fun n => fCan (fShape (V i 0) (nI n) (V i 2) (V g 1)) (V g 2) x) 10 = r ∧ (∀ a, a ≠ 7 → V' a = V a))) := by
  refine mM.of (cc := cX2_moresLeaving) (maxL := 6) (ret := (some .int)) (by decide) rfl (Nat.le_of_ble_eq_true rfl) ?_
  intro p e s m below meth c S hr hlk hnm hW ls hl
  obtain ⟨hx, hb, hml, hown, hts⟩ := id S
  have hl : lv_has ls 6 [(0, .ref (ad 6)), (1, .ref (ad i)), (2, .ref (ad g)), (3, .int x)] := hl
  have hS0 : True := trivial
  have hg7 : g ≠ 7 := ne_sh hg h7 (fun z => by simp at z)
  refine lv_iconst (v := nI 0) hx hb dX2_moresLeaving_0 (by decide) ?_
  refine lv_istore (lv' := [(4, .int (nI 0)), (0, .ref (ad 6)), (1, .ref (ad i)), (2, .ref (ad g)), (3, .int x)]) hx hb dX2_moresLeaving_1 hl (by decide) rfl (fun ls hl => ?_)
  refine lv_aload_n hx hb dX2_moresLeaving_3 rfl (lv_at hl 1 rfl) ?_
  refine m_getr S hW h6 0 rfl (j := 7) rfl kX2 (iW2 _) (by decide) (List.mem_cons_of_mem _ (wa_3 _ (List.mem_of_getElem? (i := 4) (by decide +kernel)))) dX2_moresLeaving_4 ?_
  refine lv_aload_n hx hb dX2_moresLeaving_7 rfl (lv_at hl 2 rfl) ?_
  refine m_cv (m_rV S hW (c_X1_become l G ad sh V 7 i h7 hi) (cwV 1 hts (gCall [.methodLink RX2 18 yX1_become, .instanceMethod yX1_become, .selects RX1 yX1_become yX1_become, .initialized RX1] (List.forall_mem_cons.mpr ⟨(wa_30 _ (List.mem_of_getElem? (i := 15) (by decide +kernel))), (List.forall_mem_cons.mpr ⟨(wa_35 _ (List.mem_of_getElem? (i := 22) (by decide +kernel))), (List.forall_mem_cons.mpr ⟨(wa_30 _ (List.mem_of_getElem? (i := 13) (by decide +kernel))), (List.forall_mem_cons.mpr ⟨(wa_30 _ (List.mem_of_getElem? (i := 14) (by decide +kernel))), (List.forall_mem_cons.mpr ⟨(wa_3 _ (List.mem_of_getElem? (i := 3) (by decide +kernel))), (fun _ h => absurd h List.not_mem_nil)⟩)⟩)⟩)⟩)⟩)) rfl rfl rfl (by decide +kernel) ⟨Nat.le_of_ble_eq_true rfl, Nat.le_of_ble_eq_true rfl⟩) h7 kX1 rfl hl.1 rfl (Nat.le_of_ble_eq_true rfl) dX2_moresLeaving_8 ⟨Nat.le_of_ble_eq_true rfl, Nat.le_of_ble_eq_true rfl⟩) hW (fun V_1 H locs hp_2 hW => ?_)
  have eV_1 : V_1 = mCp V 7 i 5 := hp_2
  refine lv_iconst (v := nI 0) hx hb dX2_moresLeaving_11 (by decide) ?_
  refine lv_istore (lv' := [(5, .int (nI 0)), (4, .int (nI 0)), (0, .ref (ad 6)), (1, .ref (ad i)), (2, .ref (ad g)), (3, .int x)]) hx hb dX2_moresLeaving_12 hl (by decide) rfl (fun ls hl => ?_)
  have loop_14 : ∀ (n_14 : Nat) (sm : Int32) (k : Nat) (V1 : mV) (H : Heap) (locs : List Loc) (ls : Array Slot), (k ≤ 10) → (∀ a, a ≠ 7 → V1 a = V a) → (V1 7 0 = V i 0 ∧ V1 7 2 = V i 2) → (sm = fBitsOf (fun n => fCan (fShape (V i 0) (nI n) (V i 2) (V g 1)) (V g 2) x) k) → (10 - k) < n_14 → mC (mA ad sh s.heap.size) s.heap s G ad sh V1 H locs → lv_has ls 6 [(0, .ref (ad 6)), (1, .ref (ad i)), (2, .ref (ad g)), (3, .int x), (4, .int sm), (5, .int (nI k))] → W p l e ({ frames := 3, cells := 0, slots := 0, locals := 69 } : Room) s m ([.ref (ad 6), .ref (ad i), .ref (ad g), .int x] : List Value).toArray below meth c H locs 0 0 (MQ below (mPost G ad sh s.heap.size (mPi ad sh (fun r V' => fBitsOf (fun n => fCan (fShape (V i 0) (nI n) (V i 2) (V g 1)) (V g 2) x) 10 = r ∧ (∀ a, a ≠ 7 → V' a = V a)))) ([.ref (ad 6), .ref (ad i), .ref (ad g), .int x] : List Value).toArray s 0 0 (mA ad sh s.heap.size)) (F0 m 14 ls []) := by
    intro n_14
    induction n_14 with
    | zero => intro sm k V1 H locs ls hk hfr ho hs hM_ hW hl; omega
    | succ n_14 ih_14 =>
      intro sm k V1 H locs ls hk hfr ho hs hM_ hW hl
      refine lv_iload hx hb dX2_moresLeaving_14 (lv_at hl 5 rfl) ?_
      refine lv_bipush (v := nI 10) hx hb dX2_moresLeaving_16 (by decide) ?_
      refine lv_icmp_ge (tgt := 57) hx hb dX2_moresLeaving_18 (by decide) (fun c_4 => ?_) (fun c_4 => ?_)
      · skip
        have c_4 : 10 ≤ k := (nI_leI (by omega) (by omega)).mp c_4
        refine lv_iload hx hb dX2_moresLeaving_57 (lv_at hl 4 rfl) ?_
        exact m_iret S hr hlk hW dX2_moresLeaving_59 (by exact ⟨by rw [hs, show k = 10 by omega], hfr⟩)
      · skip
        have c_4 : ¬ 10 ≤ k := mt (nI_leI (by omega) (by omega)).mpr c_4
        refine lv_aload_n hx hb dX2_moresLeaving_21 rfl (lv_at hl 0 rfl) ?_
        refine m_getr S hW h6 0 rfl (j := 7) rfl kX2 (iW2 _) (by decide) (List.mem_cons_of_mem _ (wa_3 _ (List.mem_of_getElem? (i := 4) (by decide +kernel)))) dX2_moresLeaving_22 ?_
        refine lv_iload hx hb dX2_moresLeaving_25 (lv_at hl 5 rfl) ?_
        refine m_puti S hW h7 1 rfl kX1 (iW1 _) tyX1 tyX1_ok nmX1 (by decide) (List.mem_cons_of_mem _ (wa_35 _ (List.mem_of_getElem? (i := 21) (by decide +kernel)))) (Or.inl rfl) rfl rfl dX2_moresLeaving_27 (fun H locs hW => ?_)
        obtain ⟨V_5, eV_5⟩ : ∃ z : mV, z = mU V1 7 1 (nI k) := ⟨_, rfl⟩
        rw [← eV_5] at hW
        refine lv_aload_n hx hb dX2_moresLeaving_30 rfl (lv_at hl 0 rfl) ?_
        refine m_getr S hW h6 0 rfl (j := 7) rfl kX2 (iW2 _) (by decide) (List.mem_cons_of_mem _ (wa_3 _ (List.mem_of_getElem? (i := 4) (by decide +kernel)))) dX2_moresLeaving_31 ?_
        refine lv_aload_n hx hb dX2_moresLeaving_34 rfl (lv_at hl 2 rfl) ?_
        refine lv_iload_n hx hb dX2_moresLeaving_35 rfl (lv_at hl 3 rfl) ?_
        refine m_cip (m_rV S hW (c_X1_canLeave l G ad sh V_5 7 g x h7 hg hg') (cwV 2 hts (gCall [.methodLink RX2 40 yX1_canLeave, .instanceMethod yX1_canLeave, .selects RX1 yX1_canLeave yX1_canLeave, .initialized RX1] (List.forall_mem_cons.mpr ⟨(wa_36 _ (List.mem_of_getElem? (i := 14) (by decide +kernel))), (List.forall_mem_cons.mpr ⟨(wa_37 _ (List.mem_of_getElem? (i := 12) (by decide +kernel))), (List.forall_mem_cons.mpr ⟨(wa_36 _ (List.mem_of_getElem? (i := 12) (by decide +kernel))), (List.forall_mem_cons.mpr ⟨(wa_36 _ (List.mem_of_getElem? (i := 13) (by decide +kernel))), (List.forall_mem_cons.mpr ⟨(wa_3 _ (List.mem_of_getElem? (i := 3) (by decide +kernel))), (fun _ h => absurd h List.not_mem_nil)⟩)⟩)⟩)⟩)⟩)) rfl rfl rfl (by decide +kernel) ⟨Nat.le_of_ble_eq_true rfl, Nat.le_of_ble_eq_true rfl⟩) h7 kX1 rfl hl.1 rfl (Nat.le_of_ble_eq_true rfl) dX2_moresLeaving_36 ⟨Nat.le_of_ble_eq_true rfl, Nat.le_of_ble_eq_true rfl⟩) hW (fun r_7 H locs hp_6 hW => ?_)
        rcases hp_6 with ⟨rfl, w_8⟩ | ⟨rfl, w_9⟩
        · skip
          refine m_if_eq (tgt := 51) hx hb dX2_moresLeaving_39 (by decide) (fun c_10 => ?_) (fun c_10 => ?_)
          · exact absurd c_10 (by decide)
          · skip
            refine lv_iload hx hb dX2_moresLeaving_42 (lv_at hl 4 rfl) ?_
            refine lv_iconst (v := nI 1) hx hb dX2_moresLeaving_44 (by decide) ?_
            refine lv_iload hx hb dX2_moresLeaving_45 (lv_at hl 5 rfl) ?_
            refine lv_ishl hx hb dX2_moresLeaving_47 ?_
            refine lv_ior hx hb dX2_moresLeaving_48 ?_
            refine lv_istore (lv' := [(4, .int (sm ||| ((nI 1) <<< ((nI k) &&& 31)))), (0, .ref (ad 6)), (1, .ref (ad i)), (2, .ref (ad g)), (3, .int x), (5, .int (nI k))]) hx hb dX2_moresLeaving_49 hl (by decide) rfl (fun ls hl => ?_)
            refine lv_iinc (v := nI (k + 1)) (lv' := [(5, .int (nI (k + 1))), (4, .int (sm ||| ((nI 1) <<< ((nI k) &&& 31)))), (0, .ref (ad 6)), (1, .ref (ad i)), (2, .ref (ad g)), (3, .int x)]) hx hb dX2_moresLeaving_51 hl (k := 5) rfl (m_inc k 1) (by decide) rfl (fun ls hl => ?_)
            refine lv_goto (tgt := 14) hx hb dX2_moresLeaving_54 (by decide) ?_
            exact ih_14  (sm ||| ((nI 1) <<< ((nI k) &&& 31))) (k + 1) V_5 _ _ _ (by omega) (by intro a ha; rw [eV_5, mU_no _ _ ha]; exact hfr a ha) (by exact ⟨by rw [eV_5, mU_ne _ _ (by omega)]; exact ho.1, by rw [eV_5, mU_ne _ _ (by omega)]; exact ho.2⟩) (by have e0 : V_5 7 1 = nI k := (by rw [eV_5, mU_eq]); have e1 : V_5 7 0 = V i 0 := (by rw [eV_5, mU_ne _ _ (by omega)]; exact ho.1); have e2 : V_5 7 2 = V i 2 := (by rw [eV_5, mU_ne _ _ (by omega)]; exact ho.2); have eg : V_5 g = V g := (by rw [eV_5, mU_no _ _ hg7]; exact hfr g hg7); rw [e0, e1, e2, eg] at w_8; first | (rw [fBitsOf, if_pos (fCan_t w_8), ← hs]; done) | (rw [fBitsOf, if_neg (fCan_f w_8), ← hs]; done)) (by omega) hW (lv_sub hl [2, 3, 4, 5, 1, 0] rfl)
        · skip
          refine m_if_eq (tgt := 51) hx hb dX2_moresLeaving_39 (by decide) (fun c_11 => ?_) (fun c_11 => ?_)
          · skip
            refine lv_iinc (v := nI (k + 1)) (lv' := [(5, .int (nI (k + 1))), (0, .ref (ad 6)), (1, .ref (ad i)), (2, .ref (ad g)), (3, .int x), (4, .int sm)]) hx hb dX2_moresLeaving_51 hl (k := 5) rfl (m_inc k 1) (by decide) rfl (fun ls hl => ?_)
            refine lv_goto (tgt := 14) hx hb dX2_moresLeaving_54 (by decide) ?_
            exact ih_14  sm (k + 1) V_5 _ _ _ (by omega) (by intro a ha; rw [eV_5, mU_no _ _ ha]; exact hfr a ha) (by exact ⟨by rw [eV_5, mU_ne _ _ (by omega)]; exact ho.1, by rw [eV_5, mU_ne _ _ (by omega)]; exact ho.2⟩) (by have e0 : V_5 7 1 = nI k := (by rw [eV_5, mU_eq]); have e1 : V_5 7 0 = V i 0 := (by rw [eV_5, mU_ne _ _ (by omega)]; exact ho.1); have e2 : V_5 7 2 = V i 2 := (by rw [eV_5, mU_ne _ _ (by omega)]; exact ho.2); have eg : V_5 g = V g := (by rw [eV_5, mU_no _ _ hg7]; exact hfr g hg7); rw [e0, e1, e2, eg] at w_9; first | (rw [fBitsOf, if_pos (fCan_t w_9), ← hs]; done) | (rw [fBitsOf, if_neg (fCan_f w_9), ← hs]; done)) (by omega) hW (lv_sub hl [1, 2, 3, 4, 5, 0] rfl)
          · exact absurd c_11 (by decide)
  exact loop_14 (10 - 0 + 1) (nI 0) 0 V_1 _ _ _ (by omega) (by intro a ha; funext q; rw [eV_1, mCp, if_neg (fun z => ha z.1)]) (by exact ⟨by rw [eV_1, mCp, if_pos ⟨rfl, by decide⟩], by rw [eV_1, mCp, if_pos ⟨rfl, by decide⟩]⟩) (by rfl) (by omega) hW (lv_sub hl [2, 3, 4, 5, 1, 0] rfl)
set_option maxHeartbeats 4000000 in
set_option maxRecDepth 100000 in
theorem c_X2_countJaws (l : Launch) (G : mG) (ad : Nat → Nat) (sh : Nat → Option mSh) (V : mV) (i g : Nat) (x : Int32) (h6 : sh 6 = some sFit) (h7 : sh 7 = some sEater) (hi : sh i = some sEater) (hg : sh g = some (sGood g)) (hg' : sh (g + 1) = some (mI 10)) : mM l yX2_countJaws wsX2_countJaws ({ frames := 3, cells := 0, slots := 0, locals := 69 } : Room) G ad sh V [.ref (ad 6), .ref (ad i), .ref (ad g), .int x] 0 0 (mPi ad sh (fun r V' => nI (fCount (fun n => fCan (fShape (V i 0) (V i 1) (nI n) (V g 1)) (V g 2) x) 63) = r ∧ (∀ a, a ≠ 7 → V' a = V a))) := by
  refine mM.of (cc := cX2_countJaws) (maxL := 6) (ret := (some .int)) (by decide) rfl (Nat.le_of_ble_eq_true rfl) ?_
  intro p e s m below meth c S hr hlk hnm hW ls hl
  obtain ⟨hx, hb, hml, hown, hts⟩ := id S
  have hl : lv_has ls 6 [(0, .ref (ad 6)), (1, .ref (ad i)), (2, .ref (ad g)), (3, .int x)] := hl
  have hS0 : True := trivial
  have hg7 : g ≠ 7 := ne_sh hg h7 (fun z => by simp at z)
  refine lv_iconst (v := nI 0) hx hb dX2_countJaws_0 (by decide) ?_
  refine lv_istore (lv' := [(4, .int (nI 0)), (0, .ref (ad 6)), (1, .ref (ad i)), (2, .ref (ad g)), (3, .int x)]) hx hb dX2_countJaws_1 hl (by decide) rfl (fun ls hl => ?_)
  refine lv_aload_n hx hb dX2_countJaws_3 rfl (lv_at hl 1 rfl) ?_
  refine m_getr S hW h6 0 rfl (j := 7) rfl kX2 (iW2 _) (by decide) (List.mem_cons_of_mem _ (wa_3 _ (List.mem_of_getElem? (i := 4) (by decide +kernel)))) dX2_countJaws_4 ?_
  refine lv_aload_n hx hb dX2_countJaws_7 rfl (lv_at hl 2 rfl) ?_
  refine m_cv (m_rV S hW (c_X1_become l G ad sh V 7 i h7 hi) (cwV 1 hts (gCall [.methodLink RX2 18 yX1_become, .instanceMethod yX1_become, .selects RX1 yX1_become yX1_become, .initialized RX1] (List.forall_mem_cons.mpr ⟨(wa_30 _ (List.mem_of_getElem? (i := 15) (by decide +kernel))), (List.forall_mem_cons.mpr ⟨(wa_35 _ (List.mem_of_getElem? (i := 22) (by decide +kernel))), (List.forall_mem_cons.mpr ⟨(wa_30 _ (List.mem_of_getElem? (i := 13) (by decide +kernel))), (List.forall_mem_cons.mpr ⟨(wa_30 _ (List.mem_of_getElem? (i := 14) (by decide +kernel))), (List.forall_mem_cons.mpr ⟨(wa_3 _ (List.mem_of_getElem? (i := 3) (by decide +kernel))), (fun _ h => absurd h List.not_mem_nil)⟩)⟩)⟩)⟩)⟩)) rfl rfl rfl (by decide +kernel) ⟨Nat.le_of_ble_eq_true rfl, Nat.le_of_ble_eq_true rfl⟩) h7 kX1 rfl hl.1 rfl (Nat.le_of_ble_eq_true rfl) dX2_countJaws_8 ⟨Nat.le_of_ble_eq_true rfl, Nat.le_of_ble_eq_true rfl⟩) hW (fun V_1 H locs hp_2 hW => ?_)
  have eV_1 : V_1 = mCp V 7 i 5 := hp_2
  refine lv_iconst (v := nI 1) hx hb dX2_countJaws_11 (by decide) ?_
  refine lv_istore (lv' := [(5, .int (nI 1)), (4, .int (nI 0)), (0, .ref (ad 6)), (1, .ref (ad i)), (2, .ref (ad g)), (3, .int x)]) hx hb dX2_countJaws_12 hl (by decide) rfl (fun ls hl => ?_)
  have loop_14 : ∀ (n_14 : Nat) (cn k : Nat) (V1 : mV) (H : Heap) (locs : List Loc) (ls : Array Slot), (1 ≤ k ∧ k ≤ 64) → (∀ a, a ≠ 7 → V1 a = V a) → (V1 7 0 = V i 0 ∧ V1 7 1 = V i 1) → (cn = fCount (fun n => fCan (fShape (V i 0) (V i 1) (nI n) (V g 1)) (V g 2) x) (k - 1)) → (64 - k) < n_14 → mC (mA ad sh s.heap.size) s.heap s G ad sh V1 H locs → lv_has ls 6 [(0, .ref (ad 6)), (1, .ref (ad i)), (2, .ref (ad g)), (3, .int x), (4, .int (nI cn)), (5, .int (nI k))] → W p l e ({ frames := 3, cells := 0, slots := 0, locals := 69 } : Room) s m ([.ref (ad 6), .ref (ad i), .ref (ad g), .int x] : List Value).toArray below meth c H locs 0 0 (MQ below (mPost G ad sh s.heap.size (mPi ad sh (fun r V' => nI (fCount (fun n => fCan (fShape (V i 0) (V i 1) (nI n) (V g 1)) (V g 2) x) 63) = r ∧ (∀ a, a ≠ 7 → V' a = V a)))) ([.ref (ad 6), .ref (ad i), .ref (ad g), .int x] : List Value).toArray s 0 0 (mA ad sh s.heap.size)) (F0 m 14 ls []) := by
    intro n_14
    induction n_14 with
    | zero => intro cn k V1 H locs ls hk hfr ho hs hM_ hW hl; omega
    | succ n_14 ih_14 =>
      intro cn k V1 H locs ls hk hfr ho hs hM_ hW hl
      refine lv_iload hx hb dX2_countJaws_14 (lv_at hl 5 rfl) ?_
      refine lv_bipush (v := nI 63) hx hb dX2_countJaws_16 (by decide) ?_
      refine lv_icmp_gt (tgt := 51) hx hb dX2_countJaws_18 (by decide) (fun c_4 => ?_) (fun c_4 => ?_)
      · skip
        have c_4 : 63 < k := (nI_ltI (by omega) (by omega)).mp c_4
        refine lv_iload hx hb dX2_countJaws_51 (lv_at hl 4 rfl) ?_
        exact m_iret S hr hlk hW dX2_countJaws_53 (by exact ⟨by rw [hs, show k - 1 = 63 by omega], hfr⟩)
      · skip
        have c_4 : ¬ 63 < k := mt (nI_ltI (by omega) (by omega)).mpr c_4
        refine lv_aload_n hx hb dX2_countJaws_21 rfl (lv_at hl 0 rfl) ?_
        refine m_getr S hW h6 0 rfl (j := 7) rfl kX2 (iW2 _) (by decide) (List.mem_cons_of_mem _ (wa_3 _ (List.mem_of_getElem? (i := 4) (by decide +kernel)))) dX2_countJaws_22 ?_
        refine lv_iload hx hb dX2_countJaws_25 (lv_at hl 5 rfl) ?_
        refine m_puti S hW h7 2 rfl kX1 (iW1 _) tyX1 tyX1_ok nmX1 (by decide) (List.mem_cons_of_mem _ (wa_37 _ (List.mem_of_getElem? (i := 21) (by decide +kernel)))) (Or.inl rfl) rfl rfl dX2_countJaws_27 (fun H locs hW => ?_)
        obtain ⟨V_5, eV_5⟩ : ∃ z : mV, z = mU V1 7 2 (nI k) := ⟨_, rfl⟩
        rw [← eV_5] at hW
        refine lv_aload_n hx hb dX2_countJaws_30 rfl (lv_at hl 0 rfl) ?_
        refine m_getr S hW h6 0 rfl (j := 7) rfl kX2 (iW2 _) (by decide) (List.mem_cons_of_mem _ (wa_3 _ (List.mem_of_getElem? (i := 4) (by decide +kernel)))) dX2_countJaws_31 ?_
        refine lv_aload_n hx hb dX2_countJaws_34 rfl (lv_at hl 2 rfl) ?_
        refine lv_iload_n hx hb dX2_countJaws_35 rfl (lv_at hl 3 rfl) ?_
        refine m_cip (m_rV S hW (c_X1_canLeave l G ad sh V_5 7 g x h7 hg hg') (cwV 2 hts (gCall [.methodLink RX2 40 yX1_canLeave, .instanceMethod yX1_canLeave, .selects RX1 yX1_canLeave yX1_canLeave, .initialized RX1] (List.forall_mem_cons.mpr ⟨(wa_36 _ (List.mem_of_getElem? (i := 14) (by decide +kernel))), (List.forall_mem_cons.mpr ⟨(wa_37 _ (List.mem_of_getElem? (i := 12) (by decide +kernel))), (List.forall_mem_cons.mpr ⟨(wa_36 _ (List.mem_of_getElem? (i := 12) (by decide +kernel))), (List.forall_mem_cons.mpr ⟨(wa_36 _ (List.mem_of_getElem? (i := 13) (by decide +kernel))), (List.forall_mem_cons.mpr ⟨(wa_3 _ (List.mem_of_getElem? (i := 3) (by decide +kernel))), (fun _ h => absurd h List.not_mem_nil)⟩)⟩)⟩)⟩)⟩)) rfl rfl rfl (by decide +kernel) ⟨Nat.le_of_ble_eq_true rfl, Nat.le_of_ble_eq_true rfl⟩) h7 kX1 rfl hl.1 rfl (Nat.le_of_ble_eq_true rfl) dX2_countJaws_36 ⟨Nat.le_of_ble_eq_true rfl, Nat.le_of_ble_eq_true rfl⟩) hW (fun r_7 H locs hp_6 hW => ?_)
        rcases hp_6 with ⟨rfl, w_8⟩ | ⟨rfl, w_9⟩
        · skip
          refine m_if_eq (tgt := 45) hx hb dX2_countJaws_39 (by decide) (fun c_10 => ?_) (fun c_10 => ?_)
          · exact absurd c_10 (by decide)
          · skip
            refine lv_iinc (v := nI (cn + 1)) (lv' := [(4, .int (nI (cn + 1))), (0, .ref (ad 6)), (1, .ref (ad i)), (2, .ref (ad g)), (3, .int x), (5, .int (nI k))]) hx hb dX2_countJaws_42 hl (k := 4) rfl (m_inc cn 1) (by decide) rfl (fun ls hl => ?_)
            refine lv_iinc (v := nI (k + 1)) (lv' := [(5, .int (nI (k + 1))), (4, .int (nI (cn + 1))), (0, .ref (ad 6)), (1, .ref (ad i)), (2, .ref (ad g)), (3, .int x)]) hx hb dX2_countJaws_45 hl (k := 5) rfl (m_inc k 1) (by decide) rfl (fun ls hl => ?_)
            refine lv_goto (tgt := 14) hx hb dX2_countJaws_48 (by decide) ?_
            exact ih_14  (cn + 1) (k + 1) V_5 _ _ _ (by omega) (by intro a ha; rw [eV_5, mU_no _ _ ha]; exact hfr a ha) (by exact ⟨by rw [eV_5, mU_ne _ _ (by omega)]; exact ho.1, by rw [eV_5, mU_ne _ _ (by omega)]; exact ho.2⟩) (by have e0 : V_5 7 2 = nI k := (by rw [eV_5, mU_eq]); have e1 : V_5 7 0 = V i 0 := (by rw [eV_5, mU_ne _ _ (by omega)]; exact ho.1); have e2 : V_5 7 1 = V i 1 := (by rw [eV_5, mU_ne _ _ (by omega)]; exact ho.2); have eg : V_5 g = V g := (by rw [eV_5, mU_no _ _ hg7]; exact hfr g hg7); rw [e0, e1, e2, eg] at w_8; rw [show k + 1 - 1 = k by omega, fCount_s (by omega)]; first | (rw [if_pos (fCan_t w_8), ← hs]; done) | (rw [if_neg (fCan_f w_8), ← hs]; done)) (by omega) hW (lv_sub hl [2, 3, 4, 5, 1, 0] rfl)
        · skip
          refine m_if_eq (tgt := 45) hx hb dX2_countJaws_39 (by decide) (fun c_11 => ?_) (fun c_11 => ?_)
          · skip
            refine lv_iinc (v := nI (k + 1)) (lv' := [(5, .int (nI (k + 1))), (0, .ref (ad 6)), (1, .ref (ad i)), (2, .ref (ad g)), (3, .int x), (4, .int (nI cn))]) hx hb dX2_countJaws_45 hl (k := 5) rfl (m_inc k 1) (by decide) rfl (fun ls hl => ?_)
            refine lv_goto (tgt := 14) hx hb dX2_countJaws_48 (by decide) ?_
            exact ih_14  cn (k + 1) V_5 _ _ _ (by omega) (by intro a ha; rw [eV_5, mU_no _ _ ha]; exact hfr a ha) (by exact ⟨by rw [eV_5, mU_ne _ _ (by omega)]; exact ho.1, by rw [eV_5, mU_ne _ _ (by omega)]; exact ho.2⟩) (by have e0 : V_5 7 2 = nI k := (by rw [eV_5, mU_eq]); have e1 : V_5 7 0 = V i 0 := (by rw [eV_5, mU_ne _ _ (by omega)]; exact ho.1); have e2 : V_5 7 1 = V i 1 := (by rw [eV_5, mU_ne _ _ (by omega)]; exact ho.2); have eg : V_5 g = V g := (by rw [eV_5, mU_no _ _ hg7]; exact hfr g hg7); rw [e0, e1, e2, eg] at w_9; rw [show k + 1 - 1 = k by omega, fCount_s (by omega)]; first | (rw [if_pos (fCan_t w_9), ← hs]; done) | (rw [if_neg (fCan_f w_9), ← hs]; done)) (by omega) hW (lv_sub hl [1, 2, 3, 4, 5, 0] rfl)
          · exact absurd c_11 (by decide)
  exact loop_14 (64 - 1 + 1) 0 1 V_1 _ _ _ (by omega) (by intro a ha; funext q; rw [eV_1, mCp, if_neg (fun z => ha z.1)]) (by exact ⟨by rw [eV_1, mCp, if_pos ⟨rfl, by decide⟩], by rw [eV_1, mCp, if_pos ⟨rfl, by decide⟩]⟩) (by rfl) (by omega) hW (lv_sub hl [2, 3, 4, 5, 1, 0] rfl)
set_option maxHeartbeats 4000000 in
set_option maxRecDepth 100000 in
theorem c_X2_leastJaw (l : Launch) (G : mG) (ad : Nat → Nat) (sh : Nat → Option mSh) (V : mV) (i g : Nat) (x : Int32) (h6 : sh 6 = some sFit) (h7 : sh 7 = some sEater) (hi : sh i = some sEater) (hg : sh g = some (sGood g)) (hg' : sh (g + 1) = some (mI 10)) : mM l yX2_leastJaw wsX2_leastJaw ({ frames := 3, cells := 0, slots := 0, locals := 69 } : Room) G ad sh V [.ref (ad 6), .ref (ad i), .ref (ad g), .int x] 0 0 (mPi ad sh (fun r V' => fLeast (fun n => fCan (fShape (V i 0) (V i 1) (nI n) (V g 1)) (V g 2) x) 63 1 = r ∧ (∀ a, a ≠ 7 → V' a = V a))) := by
  refine mM.of (cc := cX2_leastJaw) (maxL := 5) (ret := (some .int)) (by decide) rfl (Nat.le_of_ble_eq_true rfl) ?_
  intro p e s m below meth c S hr hlk hnm hW ls hl
  obtain ⟨hx, hb, hml, hown, hts⟩ := id S
  have hl : lv_has ls 5 [(0, .ref (ad 6)), (1, .ref (ad i)), (2, .ref (ad g)), (3, .int x)] := hl
  have hS0 : True := trivial
  have hg7 : g ≠ 7 := ne_sh hg h7 (fun z => by simp at z)
  refine lv_aload_n hx hb dX2_leastJaw_0 rfl (lv_at hl 0 rfl) ?_
  refine m_getr S hW h6 0 rfl (j := 7) rfl kX2 (iW2 _) (by decide) (List.mem_cons_of_mem _ (wa_3 _ (List.mem_of_getElem? (i := 4) (by decide +kernel)))) dX2_leastJaw_1 ?_
  refine lv_aload_n hx hb dX2_leastJaw_4 rfl (lv_at hl 1 rfl) ?_
  refine m_cv (m_rV S hW (c_X1_become l G ad sh V 7 i h7 hi) (cwV 1 hts (gCall [.methodLink RX2 18 yX1_become, .instanceMethod yX1_become, .selects RX1 yX1_become yX1_become, .initialized RX1] (List.forall_mem_cons.mpr ⟨(wa_30 _ (List.mem_of_getElem? (i := 15) (by decide +kernel))), (List.forall_mem_cons.mpr ⟨(wa_35 _ (List.mem_of_getElem? (i := 22) (by decide +kernel))), (List.forall_mem_cons.mpr ⟨(wa_30 _ (List.mem_of_getElem? (i := 13) (by decide +kernel))), (List.forall_mem_cons.mpr ⟨(wa_30 _ (List.mem_of_getElem? (i := 14) (by decide +kernel))), (List.forall_mem_cons.mpr ⟨(wa_3 _ (List.mem_of_getElem? (i := 3) (by decide +kernel))), (fun _ h => absurd h List.not_mem_nil)⟩)⟩)⟩)⟩)⟩)) rfl rfl rfl (by decide +kernel) ⟨Nat.le_of_ble_eq_true rfl, Nat.le_of_ble_eq_true rfl⟩) h7 kX1 rfl hl.1 rfl (Nat.le_of_ble_eq_true rfl) dX2_leastJaw_5 ⟨Nat.le_of_ble_eq_true rfl, Nat.le_of_ble_eq_true rfl⟩) hW (fun V_1 H locs hp_2 hW => ?_)
  have eV_1 : V_1 = mCp V 7 i 5 := hp_2
  refine lv_iconst (v := nI 1) hx hb dX2_leastJaw_8 (by decide) ?_
  refine lv_istore (lv' := [(4, .int (nI 1)), (0, .ref (ad 6)), (1, .ref (ad i)), (2, .ref (ad g)), (3, .int x)]) hx hb dX2_leastJaw_9 hl (by decide) rfl (fun ls hl => ?_)
  have loop_11 : ∀ (n_11 : Nat) (k : Nat) (V1 : mV) (H : Heap) (locs : List Loc) (ls : Array Slot), (1 ≤ k ∧ k ≤ 64) → (∀ a, a ≠ 7 → V1 a = V a) → (V1 7 0 = V i 0 ∧ V1 7 1 = V i 1) → (fLeast (fun n => fCan (fShape (V i 0) (V i 1) (nI n) (V g 1)) (V g 2) x) (64 - k) k = fLeast (fun n => fCan (fShape (V i 0) (V i 1) (nI n) (V g 1)) (V g 2) x) 63 1) → (64 - k) < n_11 → mC (mA ad sh s.heap.size) s.heap s G ad sh V1 H locs → lv_has ls 5 [(0, .ref (ad 6)), (1, .ref (ad i)), (2, .ref (ad g)), (3, .int x), (4, .int (nI k))] → W p l e ({ frames := 3, cells := 0, slots := 0, locals := 69 } : Room) s m ([.ref (ad 6), .ref (ad i), .ref (ad g), .int x] : List Value).toArray below meth c H locs 0 0 (MQ below (mPost G ad sh s.heap.size (mPi ad sh (fun r V' => fLeast (fun n => fCan (fShape (V i 0) (V i 1) (nI n) (V g 1)) (V g 2) x) 63 1 = r ∧ (∀ a, a ≠ 7 → V' a = V a)))) ([.ref (ad 6), .ref (ad i), .ref (ad g), .int x] : List Value).toArray s 0 0 (mA ad sh s.heap.size)) (F0 m 11 ls []) := by
    intro n_11
    induction n_11 with
    | zero => intro k V1 H locs ls hk hfr ho hs hM_ hW hl; omega
    | succ n_11 ih_11 =>
      intro k V1 H locs ls hk hfr ho hs hM_ hW hl
      refine lv_iload hx hb dX2_leastJaw_11 (lv_at hl 4 rfl) ?_
      refine lv_bipush (v := nI 63) hx hb dX2_leastJaw_13 (by decide) ?_
      refine lv_icmp_gt (tgt := 48) hx hb dX2_leastJaw_15 (by decide) (fun c_4 => ?_) (fun c_4 => ?_)
      · skip
        have c_4 : 63 < k := (nI_ltI (by omega) (by omega)).mp c_4
        refine lv_iconst (v := -1) hx hb dX2_leastJaw_48 (by decide) ?_
        exact m_iret S hr hlk hW dX2_leastJaw_49 (by exact ⟨by rw [← hs, show k = 64 by omega]; rfl, hfr⟩)
      · skip
        have c_4 : ¬ 63 < k := mt (nI_ltI (by omega) (by omega)).mpr c_4
        refine lv_aload_n hx hb dX2_leastJaw_18 rfl (lv_at hl 0 rfl) ?_
        refine m_getr S hW h6 0 rfl (j := 7) rfl kX2 (iW2 _) (by decide) (List.mem_cons_of_mem _ (wa_3 _ (List.mem_of_getElem? (i := 4) (by decide +kernel)))) dX2_leastJaw_19 ?_
        refine lv_iload hx hb dX2_leastJaw_22 (lv_at hl 4 rfl) ?_
        refine m_puti S hW h7 2 rfl kX1 (iW1 _) tyX1 tyX1_ok nmX1 (by decide) (List.mem_cons_of_mem _ (wa_37 _ (List.mem_of_getElem? (i := 21) (by decide +kernel)))) (Or.inl rfl) rfl rfl dX2_leastJaw_24 (fun H locs hW => ?_)
        obtain ⟨V_5, eV_5⟩ : ∃ z : mV, z = mU V1 7 2 (nI k) := ⟨_, rfl⟩
        rw [← eV_5] at hW
        refine lv_aload_n hx hb dX2_leastJaw_27 rfl (lv_at hl 0 rfl) ?_
        refine m_getr S hW h6 0 rfl (j := 7) rfl kX2 (iW2 _) (by decide) (List.mem_cons_of_mem _ (wa_3 _ (List.mem_of_getElem? (i := 4) (by decide +kernel)))) dX2_leastJaw_28 ?_
        refine lv_aload_n hx hb dX2_leastJaw_31 rfl (lv_at hl 2 rfl) ?_
        refine lv_iload_n hx hb dX2_leastJaw_32 rfl (lv_at hl 3 rfl) ?_
        refine m_cip (m_rV S hW (c_X1_canLeave l G ad sh V_5 7 g x h7 hg hg') (cwV 2 hts (gCall [.methodLink RX2 40 yX1_canLeave, .instanceMethod yX1_canLeave, .selects RX1 yX1_canLeave yX1_canLeave, .initialized RX1] (List.forall_mem_cons.mpr ⟨(wa_36 _ (List.mem_of_getElem? (i := 14) (by decide +kernel))), (List.forall_mem_cons.mpr ⟨(wa_37 _ (List.mem_of_getElem? (i := 12) (by decide +kernel))), (List.forall_mem_cons.mpr ⟨(wa_36 _ (List.mem_of_getElem? (i := 12) (by decide +kernel))), (List.forall_mem_cons.mpr ⟨(wa_36 _ (List.mem_of_getElem? (i := 13) (by decide +kernel))), (List.forall_mem_cons.mpr ⟨(wa_3 _ (List.mem_of_getElem? (i := 3) (by decide +kernel))), (fun _ h => absurd h List.not_mem_nil)⟩)⟩)⟩)⟩)⟩)) rfl rfl rfl (by decide +kernel) ⟨Nat.le_of_ble_eq_true rfl, Nat.le_of_ble_eq_true rfl⟩) h7 kX1 rfl hl.1 rfl (Nat.le_of_ble_eq_true rfl) dX2_leastJaw_33 ⟨Nat.le_of_ble_eq_true rfl, Nat.le_of_ble_eq_true rfl⟩) hW (fun r_7 H locs hp_6 hW => ?_)
        rcases hp_6 with ⟨rfl, w_8⟩ | ⟨rfl, w_9⟩
        · skip
          refine m_if_eq (tgt := 42) hx hb dX2_leastJaw_36 (by decide) (fun c_10 => ?_) (fun c_10 => ?_)
          · exact absurd c_10 (by decide)
          · skip
            refine lv_iload hx hb dX2_leastJaw_39 (lv_at hl 4 rfl) ?_
            exact m_iret S hr hlk hW dX2_leastJaw_41 (by have e0 : V_5 7 2 = nI k := (by rw [eV_5, mU_eq]); have e1 : V_5 7 0 = V i 0 := (by rw [eV_5, mU_ne _ _ (by omega)]; exact ho.1); have e2 : V_5 7 1 = V i 1 := (by rw [eV_5, mU_ne _ _ (by omega)]; exact ho.2); have eg : V_5 g = V g := (by rw [eV_5, mU_no _ _ hg7]; exact hfr g hg7); rw [e0, e1, e2, eg] at w_8; exact ⟨by rw [← hs, show 64 - k = (64 - (k + 1)) + 1 by omega, fLeast, if_pos (fCan_t w_8)], fun a ha => by rw [eV_5, mU_no _ _ ha]; exact hfr a ha⟩)
        · skip
          refine m_if_eq (tgt := 42) hx hb dX2_leastJaw_36 (by decide) (fun c_11 => ?_) (fun c_11 => ?_)
          · skip
            refine lv_iinc (v := nI (k + 1)) (lv' := [(4, .int (nI (k + 1))), (0, .ref (ad 6)), (1, .ref (ad i)), (2, .ref (ad g)), (3, .int x)]) hx hb dX2_leastJaw_42 hl (k := 4) rfl (m_inc k 1) (by decide) rfl (fun ls hl => ?_)
            refine lv_goto (tgt := 11) hx hb dX2_leastJaw_45 (by decide) ?_
            exact ih_11  (k + 1) V_5 _ _ _ (by omega) (by intro a ha; rw [eV_5, mU_no _ _ ha]; exact hfr a ha) (by exact ⟨by rw [eV_5, mU_ne _ _ (by omega)]; exact ho.1, by rw [eV_5, mU_ne _ _ (by omega)]; exact ho.2⟩) (by have e0 : V_5 7 2 = nI k := (by rw [eV_5, mU_eq]); have e1 : V_5 7 0 = V i 0 := (by rw [eV_5, mU_ne _ _ (by omega)]; exact ho.1); have e2 : V_5 7 1 = V i 1 := (by rw [eV_5, mU_ne _ _ (by omega)]; exact ho.2); have eg : V_5 g = V g := (by rw [eV_5, mU_no _ _ hg7]; exact hfr g hg7); rw [e0, e1, e2, eg] at w_9; rw [← hs, show 64 - k = (64 - (k + 1)) + 1 by omega, fLeast, if_neg (fCan_f w_9)]) (by omega) hW (lv_sub hl [1, 2, 3, 4, 0] rfl)
          · exact absurd c_11 (by decide)
  exact loop_11 (64 - 1 + 1) 1 V_1 _ _ _ (by omega) (by intro a ha; funext q; rw [eV_1, mCp, if_neg (fun z => ha z.1)]) (by exact ⟨by rw [eV_1, mCp, if_pos ⟨rfl, by decide⟩], by rw [eV_1, mCp, if_pos ⟨rfl, by decide⟩]⟩) (by rfl) (by omega) hW (lv_sub hl [1, 2, 3, 4, 0] rfl)
