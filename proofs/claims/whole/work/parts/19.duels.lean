/-! orders' walk, duels -/
theorem fGone_t {gn k : Nat} {P : Nat → Bool} (h : gn < 32) (hk : k < 5) (hP : ∀ k, k < 5 → (gn / 2 ^ k % 2 = 0 ↔ P k = false)) (c : ¬ (nI gn >>> (nI k &&& 31)) &&& nI 1 = nI 0) : P k = true := by
  cases hp : P k with
  | true => rfl
  | false => exact absurd ((fGone_bit h hk).mpr ((hP k hk).mpr hp)) c
theorem fGone_f {gn k : Nat} {P : Nat → Bool} (h : gn < 32) (hk : k < 5) (hP : ∀ k, k < 5 → (gn / 2 ^ k % 2 = 0 ↔ P k = false)) (c : (nI gn >>> (nI k &&& 31)) &&& nI 1 = nI 0) : ¬ P k = true := by
  rw [(hP k hk).mp ((fGone_bit h hk).mp c)]
  exact fun z => by cases z
def zDfold (f : Nat → Int32) : Nat → Int32 × Int32
  | 0 => (-1, -1000000)
  | k + 1 => if (zDfold f k).2 < f k then (nI (100 * (k / 16) + k % 16), f k) else zDfold f k
/-- what a duel comes to for i, of whom it is the turn, against j; which bite -/
def zDuel (ask : fAsks) (ng : Nat) : Nat → fZ → Nat → Nat → Int32 × Int32
  | 0, _, _, _ => (nI 0, -1)
  | n + 1, z, i, j => (if (zDfold (fun k => if zCan ask z i (k / 16) (k % 16) then zGa ask z i (k / 16) (k % 16) - (zDuel ask ng n (zBi ask z i (k / 16) (k % 16)) j i).1 else -1000000) (ng * 16)).1 = -1 then -(zDuel ask ng n z j i).1 else (zDfold (fun k => if zCan ask z i (k / 16) (k % 16) then zGa ask z i (k / 16) (k % 16) - (zDuel ask ng n (zBi ask z i (k / 16) (k % 16)) j i).1 else -1000000) (ng * 16)).2, (zDfold (fun k => if zCan ask z i (k / 16) (k % 16) then zGa ask z i (k / 16) (k % 16) - (zDuel ask ng n (zBi ask z i (k / 16) (k % 16)) j i).1 else -1000000) (ng * 16)).1)
theorem zDfold_s {f : Nat → Int32} {k : Nat} {fd mo v : Int32} (hq : (fd, mo) = zDfold f k) (hv : f k = v) : zDfold f (k + 1) = if mo < v then (nI (100 * (k / 16) + k % 16), v) else (fd, mo) := by
  rw [zDfold, ← hq, hv]
set_option maxHeartbeats 4000000 in
set_option maxRecDepth 100000 in
theorem c_X8_tryOrders_0 (l : Launch) (G : mG) (ad : Nat → Nat) (sh : Nat → Option mSh) (V : mV) (t ta tb tl ne ng : Nat) (ask : fAsks) (z : fZ) (P : Nat → Bool) (d tn gn : Nat) (dg ga : Int32) (hH : ThOk sh V t ta tb tl ne ng ask z) (htn : tn + 0 = ne) (hgn : gn < 32) (hP : ∀ k, k < 5 → (gn / 2 ^ k % 2 = 0 ↔ P k = false)) : mM l yX8_tryOrders wsX8_tryOrders ({ frames := 20 + 2 * 0, cells := 0, slots := 0, locals := 600 + 60 * 0 } : Room) G ad sh V [.ref (ad 5), .int (nI tn), .int (nI gn), .int dg, .int ga] 0 0 (mPv ad sh (fun V' => (ThFr V V') ∧ ((V' 5 1, V' 5 2) = zOrd ask ne ng 0 z P dg ga (V 5 1, V 5 2)))) := by
  refine mM.of (cc := cX8_tryOrders) (maxL := 6) (ret := none) (by decide) rfl (Nat.le_of_ble_eq_true rfl) ?_
  intro p e s m below meth c S hr hlk hnm hW ls hl
  obtain ⟨hx, hb, hml, hown, hts⟩ := id S
  have hl : lv_has ls 6 [(0, .ref (ad 5)), (1, .int (nI tn)), (2, .int (nI gn)), (3, .int dg), (4, .int ga)] := hl
  have hS0 : True := trivial
  have hne5 := hH.2.ne5
  have hng6 := hH.2.ng6
  refine lv_iload_n hx hb dX8_tryOrders_0 rfl (lv_at hl 1 rfl) ?_
  refine lv_aload_n hx hb dX8_tryOrders_1 rfl (lv_at hl 0 rfl) ?_
  refine m_getr S hW hH.1 0 rfl (j := 80) rfl kX8 (iW8 _) (by decide) (List.mem_cons_of_mem _ (wa_10 _ (List.mem_of_getElem? (i := 15) (by decide +kernel)))) dX8_tryOrders_2 ?_
  refine m_geti S hW hH.2.1.1 2 rfl kX4 (iW4 _) (by decide) (List.mem_cons_of_mem _ (wa_31 _ (List.mem_of_getElem? (i := 0) (by decide +kernel)))) dX8_tryOrders_5 ?_
  refine m_top (y := nI ne) hH.2.2.1.1 ?_
  refine lv_icmp_lt (tgt := 40) hx hb dX8_tryOrders_8 (by decide) (fun c_1 => ?_) (fun c_1 => ?_)
  · skip
    have c_1 : tn < ne := (nI_ltI (by omega) (by omega)).mp c_1
    exfalso; omega
  · skip
    have c_1 : ¬ tn < ne := mt (nI_ltI (by omega) (by omega)).mpr c_1
    refine lv_aload_n hx hb dX8_tryOrders_11 rfl (lv_at hl 0 rfl) ?_
    refine m_geti S hW hH.1 1 rfl kX8 (iW8 _) (by decide) (List.mem_cons_of_mem _ (wa_30 _ (List.mem_of_getElem? (i := 6) (by decide +kernel)))) dX8_tryOrders_12 ?_
    refine lv_iconst (v := -1) hx hb dX8_tryOrders_15 (by decide) ?_
    refine lv_icmp_eq (tgt := 28) hx hb dX8_tryOrders_16 (by decide) (fun c_2 => ?_) (fun c_2 => ?_)
    · skip
      refine lv_aload_n hx hb dX8_tryOrders_28 rfl (lv_at hl 0 rfl) ?_
      refine lv_iload_n hx hb dX8_tryOrders_29 rfl (lv_at hl 3 rfl) ?_
      refine m_puti S hW hH.1 1 rfl kX8 (iW8 _) tyX8 tyX8_ok nmX8 (by decide) (List.mem_cons_of_mem _ (wa_30 _ (List.mem_of_getElem? (i := 6) (by decide +kernel)))) (Or.inl rfl) rfl rfl dX8_tryOrders_30 (fun H locs hW => ?_)
      obtain ⟨V_3, eV_3⟩ : ∃ z : mV, z = mU V 5 1 (dg) := ⟨_, rfl⟩
      rw [← eV_3] at hW
      refine lv_aload_n hx hb dX8_tryOrders_33 rfl (lv_at hl 0 rfl) ?_
      refine lv_iload hx hb dX8_tryOrders_34 (lv_at hl 4 rfl) ?_
      refine m_puti S hW hH.1 2 rfl kX8 (iW8 _) tyX8 tyX8_ok nmX8 (by decide) (List.mem_cons_of_mem _ (wa_30 _ (List.mem_of_getElem? (i := 7) (by decide +kernel)))) (Or.inl rfl) rfl rfl dX8_tryOrders_36 (fun H locs hW => ?_)
      obtain ⟨V_4, eV_4⟩ : ∃ z : mV, z = mU V_3 5 2 (ga) := ⟨_, rfl⟩
      rw [← eV_4] at hW
      exact m_vret S hr hlk hW dX8_tryOrders_39 (by exact ⟨by rw [eV_4, eV_3]; exact ((ThFr.rfl V).p5 _ _).p5 _ _, by rw [eV_4, mU_eq, mU_ne _ _ (by omega), eV_3, mU_eq]; exact (if_pos (Or.inl c_2)).symm⟩)
    · skip
      refine lv_iload hx hb dX8_tryOrders_19 (lv_at hl 4 rfl) ?_
      refine lv_aload_n hx hb dX8_tryOrders_21 rfl (lv_at hl 0 rfl) ?_
      refine m_geti S hW hH.1 2 rfl kX8 (iW8 _) (by decide) (List.mem_cons_of_mem _ (wa_30 _ (List.mem_of_getElem? (i := 7) (by decide +kernel)))) dX8_tryOrders_22 ?_
      refine lv_icmp_le (tgt := 39) hx hb dX8_tryOrders_25 (by decide) (fun c_5 => ?_) (fun c_5 => ?_)
      · skip
        exact m_vret S hr hlk hW dX8_tryOrders_39 (by exact ⟨ThFr.rfl V, (if_neg (fun z => z.elim (fun y => c_2 y) (fun y => absurd y (Int32.not_lt.mpr c_5)))).symm⟩)
      · skip
        refine lv_aload_n hx hb dX8_tryOrders_28 rfl (lv_at hl 0 rfl) ?_
        refine lv_iload_n hx hb dX8_tryOrders_29 rfl (lv_at hl 3 rfl) ?_
        refine m_puti S hW hH.1 1 rfl kX8 (iW8 _) tyX8 tyX8_ok nmX8 (by decide) (List.mem_cons_of_mem _ (wa_30 _ (List.mem_of_getElem? (i := 6) (by decide +kernel)))) (Or.inl rfl) rfl rfl dX8_tryOrders_30 (fun H locs hW => ?_)
        obtain ⟨V_6, eV_6⟩ : ∃ z : mV, z = mU V 5 1 (dg) := ⟨_, rfl⟩
        rw [← eV_6] at hW
        refine lv_aload_n hx hb dX8_tryOrders_33 rfl (lv_at hl 0 rfl) ?_
        refine lv_iload hx hb dX8_tryOrders_34 (lv_at hl 4 rfl) ?_
        refine m_puti S hW hH.1 2 rfl kX8 (iW8 _) tyX8 tyX8_ok nmX8 (by decide) (List.mem_cons_of_mem _ (wa_30 _ (List.mem_of_getElem? (i := 7) (by decide +kernel)))) (Or.inl rfl) rfl rfl dX8_tryOrders_36 (fun H locs hW => ?_)
        obtain ⟨V_7, eV_7⟩ : ∃ z : mV, z = mU V_6 5 2 (ga) := ⟨_, rfl⟩
        rw [← eV_7] at hW
        exact m_vret S hr hlk hW dX8_tryOrders_39 (by exact ⟨by rw [eV_7, eV_6]; exact ((ThFr.rfl V).p5 _ _).p5 _ _, by rw [eV_7, mU_eq, mU_ne _ _ (by omega), eV_6, mU_eq]; exact (if_pos (Or.inr (Int32.not_le.mp c_5))).symm⟩)
set_option maxHeartbeats 4000000 in
set_option maxRecDepth 100000 in
theorem c_X8_tryOrders_s (l : Launch) (G : mG) (ad : Nat → Nat) (sh : Nat → Option mSh) (V : mV) (t ta tb tl ne ng : Nat) (ask : fAsks) (z : fZ) (P : Nat → Bool) (d tn gn : Nat) (dg ga : Int32) (hH : ThOk sh V t ta tb tl ne ng ask z) (htn : tn + (d + 1) = ne) (hgn : gn < 32) (hP : ∀ k, k < 5 → (gn / 2 ^ k % 2 = 0 ↔ P k = false)) (IH : ∀ (V : mV) (z : fZ) (P : Nat → Bool) (tn gn : Nat) (dg ga : Int32), (ThOk sh V t ta tb tl ne ng ask z) → (tn + d = ne) → (gn < 32) → (∀ k, k < 5 → (gn / 2 ^ k % 2 = 0 ↔ P k = false)) → mM l yX8_tryOrders wsX8_tryOrders ({ frames := 20 + 2 * d, cells := 0, slots := 0, locals := 600 + 60 * d } : Room) G ad sh V [.ref (ad 5), .int (nI tn), .int (nI gn), .int dg, .int ga] 0 0 (mPv ad sh (fun V' => (ThFr V V') ∧ ((V' 5 1, V' 5 2) = zOrd ask ne ng d z P dg ga (V 5 1, V 5 2))))) : mM l yX8_tryOrders wsX8_tryOrders ({ frames := 20 + 2 * (d + 1), cells := 0, slots := 0, locals := 600 + 60 * (d + 1) } : Room) G ad sh V [.ref (ad 5), .int (nI tn), .int (nI gn), .int dg, .int ga] 0 0 (mPv ad sh (fun V' => (ThFr V V') ∧ ((V' 5 1, V' 5 2) = zOrd ask ne ng (d + 1) z P dg ga (V 5 1, V 5 2)))) := by
  refine mM.of (cc := cX8_tryOrders) (maxL := 6) (ret := none) (by decide) rfl (Nat.le_of_ble_eq_true rfl) ?_
  intro p e s m below meth c S hr hlk hnm hW ls hl
  obtain ⟨hx, hb, hml, hown, hts⟩ := id S
  have hl : lv_has ls 6 [(0, .ref (ad 5)), (1, .int (nI tn)), (2, .int (nI gn)), (3, .int dg), (4, .int ga)] := hl
  have hS0 : True := trivial
  have hne5 := hH.2.ne5
  have hng6 := hH.2.ng6
  refine lv_iload_n hx hb dX8_tryOrders_0 rfl (lv_at hl 1 rfl) ?_
  refine lv_aload_n hx hb dX8_tryOrders_1 rfl (lv_at hl 0 rfl) ?_
  refine m_getr S hW hH.1 0 rfl (j := 80) rfl kX8 (iW8 _) (by decide) (List.mem_cons_of_mem _ (wa_10 _ (List.mem_of_getElem? (i := 15) (by decide +kernel)))) dX8_tryOrders_2 ?_
  refine m_geti S hW hH.2.1.1 2 rfl kX4 (iW4 _) (by decide) (List.mem_cons_of_mem _ (wa_31 _ (List.mem_of_getElem? (i := 0) (by decide +kernel)))) dX8_tryOrders_5 ?_
  refine m_top (y := nI ne) hH.2.2.1.1 ?_
  refine lv_icmp_lt (tgt := 40) hx hb dX8_tryOrders_8 (by decide) (fun c_1 => ?_) (fun c_1 => ?_)
  · skip
    have c_1 : tn < ne := (nI_ltI (by omega) (by omega)).mp c_1
    refine lv_iconst (v := nI 0) hx hb dX8_tryOrders_40 (by decide) ?_
    refine lv_istore (lv' := [(5, .int (nI 0)), (0, .ref (ad 5)), (1, .int (nI tn)), (2, .int (nI gn)), (3, .int dg), (4, .int ga)]) hx hb dX8_tryOrders_41 hl (by decide) rfl (fun ls hl => ?_)
    have loop_43 : ∀ (n_43 : Nat) (k : Nat) (V1 : mV) (H : Heap) (locs : List Loc) (ls : Array Slot), (k ≤ ne) → (ThFr V V1) → ((V1 5 1, V1 5 2) = zTry (fun ee q => zNext (fun z ga q => zOrd ask ne ng d z (fun x => P x || x == ee) (nI 10 * dg + nI ee + nI 1) ga q) ask ng z ee ga q) P (V 5 1, V 5 2) k) → (ne - k) < n_43 → mC (mA ad sh s.heap.size) s.heap s G ad sh V1 H locs → lv_has ls 6 [(0, .ref (ad 5)), (1, .int (nI tn)), (2, .int (nI gn)), (3, .int dg), (4, .int ga), (5, .int (nI k))] → W p l e ({ frames := 20 + 2 * (d + 1), cells := 0, slots := 0, locals := 600 + 60 * (d + 1) } : Room) s m ([.ref (ad 5), .int (nI tn), .int (nI gn), .int dg, .int ga] : List Value).toArray below meth c H locs 0 0 (MQ below (mPost G ad sh s.heap.size (mPv ad sh (fun V' => (ThFr V V') ∧ ((V' 5 1, V' 5 2) = zOrd ask ne ng (d + 1) z P dg ga (V 5 1, V 5 2))))) ([.ref (ad 5), .int (nI tn), .int (nI gn), .int dg, .int ga] : List Value).toArray s 0 0 (mA ad sh s.heap.size)) (F0 m 43 ls []) := by
      intro n_43
      induction n_43 with
      | zero => intro k V1 H locs ls hk hf hq hM_ hW hl; omega
      | succ n_43 ih_43 =>
        intro k V1 H locs ls hk hf hq hM_ hW hl
        have hH1 := hH.fr hf
        refine lv_iload hx hb dX8_tryOrders_43 (lv_at hl 5 rfl) ?_
        refine lv_aload_n hx hb dX8_tryOrders_45 rfl (lv_at hl 0 rfl) ?_
        refine m_getr S hW hH.1 0 rfl (j := 80) rfl kX8 (iW8 _) (by decide) (List.mem_cons_of_mem _ (wa_10 _ (List.mem_of_getElem? (i := 15) (by decide +kernel)))) dX8_tryOrders_46 ?_
        refine m_geti S hW hH.2.1.1 2 rfl kX4 (iW4 _) (by decide) (List.mem_cons_of_mem _ (wa_31 _ (List.mem_of_getElem? (i := 0) (by decide +kernel)))) dX8_tryOrders_49 ?_
        refine m_top (y := nI ne) hH1.2.2.1.1 ?_
        refine lv_icmp_ge (tgt := 94) hx hb dX8_tryOrders_52 (by decide) (fun c_2 => ?_) (fun c_2 => ?_)
        · skip
          have c_2 : ne ≤ k := (nI_leI (by omega) (by omega)).mp c_2
          exact m_vret S hr hlk hW dX8_tryOrders_94 (by rw [show k = ne by omega] at hq; exact ⟨hf, hq⟩)
        · skip
          have c_2 : ¬ ne ≤ k := mt (nI_leI (by omega) (by omega)).mpr c_2
          refine lv_iload_n hx hb dX8_tryOrders_55 rfl (lv_at hl 2 rfl) ?_
          refine lv_iload hx hb dX8_tryOrders_56 (lv_at hl 5 rfl) ?_
          refine lv_ishr hx hb dX8_tryOrders_58 ?_
          refine lv_iconst (v := nI 1) hx hb dX8_tryOrders_59 (by decide) ?_
          refine lv_iand hx hb dX8_tryOrders_60 ?_
          refine m_if_ne (tgt := 88) hx hb dX8_tryOrders_61 (by decide) (fun c_3 => ?_) (fun c_3 => ?_)
          · skip
            refine lv_iinc (v := nI (k + 1)) (lv' := [(5, .int (nI (k + 1))), (0, .ref (ad 5)), (1, .int (nI tn)), (2, .int (nI gn)), (3, .int dg), (4, .int ga)]) hx hb dX8_tryOrders_88 hl (k := 5) rfl (m_inc k 1) (by decide) rfl (fun ls hl => ?_)
            refine lv_goto (tgt := 43) hx hb dX8_tryOrders_91 (by decide) ?_
            exact ih_43  (k + 1) V1 _ _ _ (by omega) (by exact hf) (by rw [zTry, if_pos (fGone_t hgn (by omega) hP c_3)]; exact hq) (by omega) hW (lv_sub hl [1, 2, 3, 4, 5, 0] rfl)
          · skip
            refine lv_aload_n hx hb dX8_tryOrders_64 rfl (lv_at hl 0 rfl) ?_
            refine lv_iload hx hb dX8_tryOrders_65 (lv_at hl 5 rfl) ?_
            refine lv_iload_n hx hb dX8_tryOrders_67 rfl (lv_at hl 1 rfl) ?_
            refine lv_iload_n hx hb dX8_tryOrders_68 rfl (lv_at hl 2 rfl) ?_
            refine lv_iconst (v := nI 1) hx hb dX8_tryOrders_69 (by decide) ?_
            refine lv_iload hx hb dX8_tryOrders_70 (lv_at hl 5 rfl) ?_
            refine lv_ishl hx hb dX8_tryOrders_72 ?_
            refine lv_ior hx hb dX8_tryOrders_73 ?_
            refine m_top (y := nI (gn ||| 2 ^ k)) (fGone_or (by omega)) ?_
            refine lv_bipush (v := nI 10) hx hb dX8_tryOrders_74 (by decide) ?_
            refine lv_iload_n hx hb dX8_tryOrders_76 rfl (lv_at hl 3 rfl) ?_
            refine lv_imul hx hb dX8_tryOrders_77 ?_
            refine lv_iload hx hb dX8_tryOrders_78 (lv_at hl 5 rfl) ?_
            refine lv_iadd hx hb dX8_tryOrders_80 ?_
            refine lv_iconst (v := nI 1) hx hb dX8_tryOrders_81 (by decide) ?_
            refine lv_iadd hx hb dX8_tryOrders_82 ?_
            refine lv_iload hx hb dX8_tryOrders_83 (lv_at hl 4 rfl) ?_
            refine m_cv (m_rV S hW (c_X8_tryNext l G ad sh V1 t ta tb tl ne ng ask z (fun x => P x || x == k) d k tn (gn ||| 2 ^ k) ((((nI 10) * dg) + (nI k)) + (nI 1)) ga hH1 (by first | assumption | omega) (by omega) ((fGone_all gn hgn k (by omega)).1) (fGone_P hgn (by omega) hP) (by first | assumption | omega)) (cwV 5 hts (gCall [.methodLink RX8 34 yX8_tryNext, .instanceMethod yX8_tryNext, .selects RX8 yX8_tryNext yX8_tryNext, .initialized RX8] (List.forall_mem_cons.mpr ⟨(wa_31 _ (List.mem_of_getElem? (i := 4) (by decide +kernel))), (List.forall_mem_cons.mpr ⟨(wa_31 _ (List.mem_of_getElem? (i := 1) (by decide +kernel))), (List.forall_mem_cons.mpr ⟨(wa_31 _ (List.mem_of_getElem? (i := 2) (by decide +kernel))), (List.forall_mem_cons.mpr ⟨(wa_31 _ (List.mem_of_getElem? (i := 3) (by decide +kernel))), (List.forall_mem_cons.mpr ⟨(wa_2 _ (List.mem_of_getElem? (i := 12) (by decide +kernel))), (fun _ h => absurd h List.not_mem_nil)⟩)⟩)⟩)⟩)⟩)) rfl rfl rfl (by decide +kernel) ⟨by dsimp only; omega, by dsimp only; omega⟩) hH.1 kX8 rfl hl.1 rfl (Nat.le_of_ble_eq_true rfl) dX8_tryOrders_85 ⟨Nat.le_of_ble_eq_true rfl, Nat.le_of_ble_eq_true rfl⟩) hW (fun V_4 H locs hp_5 hW => ?_)
            obtain ⟨hf_7, hq_8⟩ := hp_5
            refine lv_iinc (v := nI (k + 1)) (lv' := [(5, .int (nI (k + 1))), (0, .ref (ad 5)), (1, .int (nI tn)), (2, .int (nI gn)), (3, .int dg), (4, .int ga)]) hx hb dX8_tryOrders_88 hl (k := 5) rfl (m_inc k 1) (by decide) rfl (fun ls hl => ?_)
            refine lv_goto (tgt := 43) hx hb dX8_tryOrders_91 (by decide) ?_
            exact ih_43  (k + 1) V_4 _ _ _ (by omega) (by exact hf.trans hf_7) (by rw [zTry, if_neg (fGone_f hgn (by omega) hP c_3), ← hq]; exact hq_8) (by omega) hW (lv_sub hl [1, 2, 3, 4, 5, 0] rfl)
    exact loop_43 (ne - 0 + 1) 0 V _ _ _ (by omega) (by exact ThFr.rfl V) (by rfl) (by omega) hW (lv_sub hl [1, 2, 3, 4, 5, 0] rfl)
  · skip
    have c_1 : ¬ tn < ne := mt (nI_ltI (by omega) (by omega)).mpr c_1
    exfalso; omega
set_option maxHeartbeats 4000000 in
set_option maxRecDepth 100000 in
theorem c_X8_tryTurn (l : Launch) (G : mG) (ad : Nat → Nat) (sh : Nat → Option mSh) (V : mV) (t ta tb tl ne ng : Nat) (ask : fAsks) (z : fZ) (n i j k : Nat) (hH : ThOk sh V t ta tb tl ne ng ask z) (hi : i < ne) (hj : j < ne) (hk : k < ng * 16) (hn : n < 100) (IH : ∀ (V : mV) (z : fZ) (i j : Nat), (ThOk sh V t ta tb tl ne ng ask z) → (i < ne) → (j < ne) → mM l yX8_tryDuel wsX8_tryDuel ({ frames := 20 + 2 * n, cells := 0, slots := 0, locals := 600 + 60 * n } : Room) G ad sh V [.ref (ad 5), .ref (ad (80 + 4 + i)), .ref (ad (80 + 4 + j)), .int (nI n)] 0 0 (mPi ad sh (fun r V' => (zDuel ask ng n z i j).1 = r ∧ (ThFr V V') ∧ (n ≠ 0 → V' 5 3 = (zDuel ask ng n z i j).2)))) : mM l yX8_tryTurn wsX8_tryTurn ({ frames := 21 + 2 * n, cells := 0, slots := 0, locals := 630 + 60 * n } : Room) G ad sh V [.ref (ad 5), .ref (ad (80 + 4 + i)), .ref (ad (80 + 4 + j)), .int (nI (n + 1)), .int (nI k)] 0 0 (mPi ad sh (fun r V' => (-1000000 = r ∧ V' = V ∧ (¬ zCan ask z i (k / 16) (k % 16))) ∨ ((zGa ask z i (k / 16) (k % 16) - (zDuel ask ng n (zBi ask z i (k / 16) (k % 16)) j i).1) = r ∧ (zCan ask z i (k / 16) (k % 16)) ∧ (ThFr V V')))) := by
  refine mM.of (cc := cX8_tryTurn) (maxL := 11) (ret := (some .int)) (by decide) rfl (Nat.le_of_ble_eq_true rfl) ?_
  intro p e s m below meth c S hr hlk hnm hW ls hl
  obtain ⟨hx, hb, hml, hown, hts⟩ := id S
  have hl : lv_has ls 11 [(0, .ref (ad 5)), (1, .ref (ad (80 + 4 + i))), (2, .ref (ad (80 + 4 + j))), (3, .int (nI (n + 1))), (4, .int (nI k))] := hl
  have hS0 : True := trivial
  have hne5 := hH.2.ne5
  have hng6 := hH.2.ng6
  refine lv_aload_n hx hb dX8_tryTurn_0 rfl (lv_at hl 0 rfl) ?_
  refine m_getr S hW hH.1 0 rfl (j := 80) rfl kX8 (iW8 _) (by decide) (List.mem_cons_of_mem _ (wa_10 _ (List.mem_of_getElem? (i := 15) (by decide +kernel)))) dX8_tryTurn_1 ?_
  refine m_getr S hW hH.2.1.1 1 rfl (j := (80 + 2)) rfl kX4 (iW4 _) (by decide) (List.mem_cons_of_mem _ (wa_33 _ (List.mem_of_getElem? (i := 18) (by decide +kernel)))) dX8_tryTurn_4 ?_
  refine lv_iload hx hb dX8_tryTurn_7 (lv_at hl 4 rfl) ?_
  refine lv_bipush (v := nI 16) hx hb dX8_tryTurn_9 (by decide) ?_
  refine lv_idiv hx hb dX8_tryTurn_11 (by decide) ?_
  refine m_top (y := nI (k / 16)) (pk_div (by omega) (by omega) (by omega)) ?_
  refine m_aald S hW 2 rfl hH.2.1.2.2.1 (k / 16) rfl (by omega) (by decide) (j := (80 + 10 + 2 * (k / 16))) (if_pos (by omega)) dX8_tryTurn_12 ?_
  refine lv_astore (lv' := [(5, .ref (ad (80 + 10 + 2 * (k / 16)))), (0, .ref (ad 5)), (1, .ref (ad (80 + 4 + i))), (2, .ref (ad (80 + 4 + j))), (3, .int (nI (n + 1))), (4, .int (nI k))]) hx hb dX8_tryTurn_13 hl (by decide) rfl (fun ls hl => ?_)
  refine lv_aload_n hx hb dX8_tryTurn_15 rfl (lv_at hl 2 rfl) ?_
  refine m_geti S hW (hH.2.sE hi) 3 rfl kX1 (iW1 _) (by decide) (List.mem_cons_of_mem _ (wa_31 _ (List.mem_of_getElem? (i := 6) (by decide +kernel)))) dX8_tryTurn_16 ?_
  refine lv_istore (lv' := [(6, .int (V (80 + 4 + i) 3)), (5, .ref (ad (80 + 10 + 2 * (k / 16)))), (0, .ref (ad 5)), (1, .ref (ad (80 + 4 + i))), (2, .ref (ad (80 + 4 + j))), (3, .int (nI (n + 1))), (4, .int (nI k))]) hx hb dX8_tryTurn_19 hl (by decide) rfl (fun ls hl => ?_)
  refine lv_aload_n hx hb dX8_tryTurn_21 rfl (lv_at hl 3 rfl) ?_
  refine m_geti S hW (hH.2.sE hi) 4 rfl kX1 (iW1 _) (by decide) (List.mem_cons_of_mem _ (wa_31 _ (List.mem_of_getElem? (i := 7) (by decide +kernel)))) dX8_tryTurn_22 ?_
  refine lv_istore (lv' := [(7, .int (V (80 + 4 + i) 4)), (6, .int (V (80 + 4 + i) 3)), (5, .ref (ad (80 + 10 + 2 * (k / 16)))), (0, .ref (ad 5)), (1, .ref (ad (80 + 4 + i))), (2, .ref (ad (80 + 4 + j))), (3, .int (nI (n + 1))), (4, .int (nI k))]) hx hb dX8_tryTurn_25 hl (by decide) rfl (fun ls hl => ?_)
  refine lv_aload hx hb dX8_tryTurn_27 (lv_at hl 2 rfl) ?_
  refine m_geti S hW (hH.2.1.2.2.2.2.2.1 (k / 16) (by omega)) 2 rfl kX3 (iW3 _) (by decide) (List.mem_cons_of_mem _ (wa_31 _ (List.mem_of_getElem? (i := 8) (by decide +kernel)))) dX8_tryTurn_29 ?_
  refine lv_istore (lv' := [(8, .int (V (80 + 10 + 2 * (k / 16)) 2)), (7, .int (V (80 + 4 + i) 4)), (6, .int (V (80 + 4 + i) 3)), (5, .ref (ad (80 + 10 + 2 * (k / 16)))), (0, .ref (ad 5)), (1, .ref (ad (80 + 4 + i))), (2, .ref (ad (80 + 4 + j))), (3, .int (nI (n + 1))), (4, .int (nI k))]) hx hb dX8_tryTurn_32 hl (by decide) rfl (fun ls hl => ?_)
  refine lv_aload_n hx hb dX8_tryTurn_34 rfl (lv_at hl 4 rfl) ?_
  refine m_getr S hW hH.1 0 rfl (j := 80) rfl kX8 (iW8 _) (by decide) (List.mem_cons_of_mem _ (wa_10 _ (List.mem_of_getElem? (i := 15) (by decide +kernel)))) dX8_tryTurn_35 ?_
  refine lv_aload_n hx hb dX8_tryTurn_38 rfl (lv_at hl 5 rfl) ?_
  refine lv_aload hx hb dX8_tryTurn_39 (lv_at hl 3 rfl) ?_
  refine lv_iload hx hb dX8_tryTurn_41 (lv_at hl 8 rfl) ?_
  refine lv_bipush (v := nI 16) hx hb dX8_tryTurn_43 (by decide) ?_
  refine lv_irem hx hb dX8_tryTurn_45 (by decide) ?_
  refine m_top (y := nI (k % 16)) (pk_rem (by omega) (by omega) (by omega)) ?_
  refine m_ci (m_rV S hW (c_X4_tryBite_z l G ad sh V 80 t ta tb tl ne ng ask z i (k / 16) (k % 16) hH.2 hi (by omega)) (cwV 3 hts (gCall [.methodLink RX8 71 yX4_tryBite, .instanceMethod yX4_tryBite, .selects RX4 yX4_tryBite yX4_tryBite, .initialized RX4] (List.forall_mem_cons.mpr ⟨(wa_27 _ (List.mem_of_getElem? (i := 17) (by decide +kernel))), (List.forall_mem_cons.mpr ⟨(wa_31 _ (List.mem_of_getElem? (i := 21) (by decide +kernel))), (List.forall_mem_cons.mpr ⟨(wa_27 _ (List.mem_of_getElem? (i := 15) (by decide +kernel))), (List.forall_mem_cons.mpr ⟨(wa_27 _ (List.mem_of_getElem? (i := 16) (by decide +kernel))), (List.forall_mem_cons.mpr ⟨(wa_2 _ (List.mem_of_getElem? (i := 7) (by decide +kernel))), (fun _ h => absurd h List.not_mem_nil)⟩)⟩)⟩)⟩)⟩)) rfl rfl rfl (by decide +kernel) ⟨by dsimp only; omega, by dsimp only; omega⟩) hH.2.1.1 kX4 rfl hl.1 rfl (Nat.le_of_ble_eq_true rfl) dX8_tryTurn_46 ⟨Nat.le_of_ble_eq_true rfl, Nat.le_of_ble_eq_true rfl⟩) hW (fun r_3 V_1 H locs hp_2 hW => ?_)
  rcases hp_2 with ⟨rfl, eV_1, nc_4⟩ | ⟨rfl, yc_5, hv_6⟩
  · skip
    refine m_if_ne (tgt := 55) hx hb dX8_tryTurn_49 (by decide) (fun c_7 => ?_) (fun c_7 => ?_)
    · exact absurd c_7 (by decide)
    · skip
      refine lv_ldc (v := -1000000) hx hb hown (hts (.constant RX8 82 (-1000000)) (List.mem_cons_of_mem _ (wa_33 _ (List.mem_of_getElem? (i := 9) (by decide +kernel))))) dX8_tryTurn_52 ?_
      exact m_iret S hr hlk hW dX8_tryTurn_54 (by exact Or.inl ⟨rfl, eV_1, nc_4⟩)
  · skip
    have hH2 : ThOk sh V_1 t ta tb tl ne ng ask (zBi ask z i (k / 16) (k % 16)) := by rw [hv_6]; exact hH.bite hi (by omega)
    have e80 : V_1 80 8 = zGa ask z i (k / 16) (k % 16) := by rw [hv_6, fBite, mU_no _ _ (by omega), mU_no _ _ (by omega), mU_no _ _ (by omega), mU_eq]; rfl
    refine m_if_ne (tgt := 55) hx hb dX8_tryTurn_49 (by decide) (fun c_8 => ?_) (fun c_8 => ?_)
    · skip
      refine lv_aload_n hx hb dX8_tryTurn_55 rfl (lv_at hl 4 rfl) ?_
      refine m_getr S hW hH.1 0 rfl (j := 80) rfl kX8 (iW8 _) (by decide) (List.mem_cons_of_mem _ (wa_10 _ (List.mem_of_getElem? (i := 15) (by decide +kernel)))) dX8_tryTurn_56 ?_
      refine m_geti S hW hH.2.1.1 8 rfl kX4 (iW4 _) (by decide) (List.mem_cons_of_mem _ (wa_31 _ (List.mem_of_getElem? (i := 9) (by decide +kernel)))) dX8_tryTurn_59 ?_
      refine m_top (y := (zGa ask z i (k / 16) (k % 16))) e80 ?_
      refine lv_istore (lv' := [(9, .int (zGa ask z i (k / 16) (k % 16))), (8, .int (V (80 + 10 + 2 * (k / 16)) 2)), (7, .int (V (80 + 4 + i) 4)), (6, .int (V (80 + 4 + i) 3)), (5, .ref (ad (80 + 10 + 2 * (k / 16)))), (0, .ref (ad 5)), (1, .ref (ad (80 + 4 + i))), (2, .ref (ad (80 + 4 + j))), (3, .int (nI (n + 1))), (4, .int (nI k))]) hx hb dX8_tryTurn_62 hl (by decide) rfl (fun ls hl => ?_)
      refine lv_iload hx hb dX8_tryTurn_64 (lv_at hl 0 rfl) ?_
      refine lv_aload_n hx hb dX8_tryTurn_66 rfl (lv_at hl 5 rfl) ?_
      refine lv_aload_n hx hb dX8_tryTurn_67 rfl (lv_at hl 7 rfl) ?_
      refine lv_aload_n hx hb dX8_tryTurn_68 rfl (lv_at hl 6 rfl) ?_
      refine lv_iload_n hx hb dX8_tryTurn_69 rfl (lv_at hl 8 rfl) ?_
      refine lv_iconst (v := nI 1) hx hb dX8_tryTurn_70 (by decide) ?_
      refine lv_isub hx hb dX8_tryTurn_71 ?_
      refine m_top (y := nI n) (by rw [pk_sub (by omega)]; rfl) ?_
      refine m_ci (m_rV S hW (IH V_1 (zBi ask z i (k / 16) (k % 16)) j i hH2 hj hi) (cwV 3 hts (gCall [.methodLink RX8 94 yX8_tryDuel, .instanceMethod yX8_tryDuel, .selects RX8 yX8_tryDuel yX8_tryDuel, .initialized RX8] (List.forall_mem_cons.mpr ⟨(wa_33 _ (List.mem_of_getElem? (i := 8) (by decide +kernel))), (List.forall_mem_cons.mpr ⟨(wa_33 _ (List.mem_of_getElem? (i := 16) (by decide +kernel))), (List.forall_mem_cons.mpr ⟨(wa_33 _ (List.mem_of_getElem? (i := 6) (by decide +kernel))), (List.forall_mem_cons.mpr ⟨(wa_33 _ (List.mem_of_getElem? (i := 7) (by decide +kernel))), (List.forall_mem_cons.mpr ⟨(wa_2 _ (List.mem_of_getElem? (i := 12) (by decide +kernel))), (fun _ h => absurd h List.not_mem_nil)⟩)⟩)⟩)⟩)⟩)) rfl rfl rfl (by decide +kernel) ⟨by dsimp only; omega, by dsimp only; omega⟩) hH.1 kX8 rfl hl.1 rfl (Nat.le_of_ble_eq_true rfl) dX8_tryTurn_72 ⟨Nat.le_of_ble_eq_true rfl, Nat.le_of_ble_eq_true rfl⟩) hW (fun r_11 V_9 H locs hp_10 hW => ?_)
      obtain ⟨rfl, hf_12, hb_13⟩ := hp_10
      refine lv_isub hx hb dX8_tryTurn_75 ?_
      refine lv_istore (lv' := [(10, .int ((zGa ask z i (k / 16) (k % 16)) - ((zDuel ask ng n (zBi ask z i (k / 16) (k % 16)) j i).1))), (9, .int (zGa ask z i (k / 16) (k % 16))), (8, .int (V (80 + 10 + 2 * (k / 16)) 2)), (7, .int (V (80 + 4 + i) 4)), (6, .int (V (80 + 4 + i) 3)), (5, .ref (ad (80 + 10 + 2 * (k / 16)))), (0, .ref (ad 5)), (1, .ref (ad (80 + 4 + i))), (2, .ref (ad (80 + 4 + j))), (3, .int (nI (n + 1))), (4, .int (nI k))]) hx hb dX8_tryTurn_76 hl (by decide) rfl (fun ls hl => ?_)
      refine lv_aload_n hx hb dX8_tryTurn_78 rfl (lv_at hl 7 rfl) ?_
      refine lv_aload hx hb dX8_tryTurn_79 (lv_at hl 5 rfl) ?_
      refine lv_iload hx hb dX8_tryTurn_81 (lv_at hl 2 rfl) ?_
      refine lv_iload hx hb dX8_tryTurn_83 (lv_at hl 4 rfl) ?_
      refine lv_iload hx hb dX8_tryTurn_85 (lv_at hl 3 rfl) ?_
      refine m_cv (m_rV S hW (c_X1_giveBack l G ad sh V_9 (80 + 4 + i) (80 + 10 + 2 * (k / 16)) (V (80 + 10 + 2 * (k / 16)) 2) (V (80 + 4 + i) 3) (V (80 + 4 + i) 4) (hH.2.sE hi) (hH.2.sG (by omega)) (hH.2.sW (by omega))) (cwV 4 hts (gCall [.methodLink RX8 78 yX1_giveBack, .instanceMethod yX1_giveBack, .selects RX1 yX1_giveBack yX1_giveBack, .initialized RX1] (List.forall_mem_cons.mpr ⟨(wa_32 _ (List.mem_of_getElem? (i := 1) (by decide +kernel))), (List.forall_mem_cons.mpr ⟨(wa_31 _ (List.mem_of_getElem? (i := 22) (by decide +kernel))), (List.forall_mem_cons.mpr ⟨(wa_31 _ (List.mem_of_getElem? (i := 23) (by decide +kernel))), (List.forall_mem_cons.mpr ⟨(wa_32 _ (List.mem_of_getElem? (i := 0) (by decide +kernel))), (List.forall_mem_cons.mpr ⟨(wa_3 _ (List.mem_of_getElem? (i := 3) (by decide +kernel))), (fun _ h => absurd h List.not_mem_nil)⟩)⟩)⟩)⟩)⟩)) rfl rfl rfl (by decide +kernel) ⟨by dsimp only; omega, by dsimp only; omega⟩) (hH.2.sE hi) kX1 rfl hl.1 rfl (Nat.le_of_ble_eq_true rfl) dX8_tryTurn_87 ⟨Nat.le_of_ble_eq_true rfl, Nat.le_of_ble_eq_true rfl⟩) hW (fun V_14 H locs hp_15 hW => ?_)
      have eV_14 : V_14 = mU (mU (mU V_9 (80 + 10 + 2 * (k / 16)) 2 (V (80 + 10 + 2 * (k / 16)) 2)) (80 + 4 + i) 3 (V (80 + 4 + i) 3)) (80 + 4 + i) 4 (V (80 + 4 + i) 4) := hp_15
      refine lv_iload hx hb dX8_tryTurn_90 (lv_at hl 0 rfl) ?_
      exact m_iret S hr hlk hW dX8_tryTurn_92 (by exact Or.inr ⟨rfl, yc_5, by rw [eV_14]; exact ThFr.back (ThFr.rfl V) hv_6 hf_12 (by omega)⟩)
    · exact absurd c_8 (by decide)
set_option maxHeartbeats 4000000 in
set_option maxRecDepth 100000 in
theorem c_X8_tryDuel_0 (l : Launch) (G : mG) (ad : Nat → Nat) (sh : Nat → Option mSh) (V : mV) (t ta tb tl ne ng : Nat) (ask : fAsks) (z : fZ) (n i j : Nat) (hH : ThOk sh V t ta tb tl ne ng ask z) (hi : i < ne) (hj : j < ne) : mM l yX8_tryDuel wsX8_tryDuel ({ frames := 20 + 2 * 0, cells := 0, slots := 0, locals := 600 + 60 * 0 } : Room) G ad sh V [.ref (ad 5), .ref (ad (80 + 4 + i)), .ref (ad (80 + 4 + j)), .int (nI 0)] 0 0 (mPi ad sh (fun r V' => (zDuel ask ng 0 z i j).1 = r ∧ (ThFr V V') ∧ (0 ≠ 0 → V' 5 3 = (zDuel ask ng 0 z i j).2))) := by
  refine mM.of (cc := cX8_tryDuel) (maxL := 8) (ret := (some .int)) (by decide) rfl (Nat.le_of_ble_eq_true rfl) ?_
  intro p e s m below meth c S hr hlk hnm hW ls hl
  obtain ⟨hx, hb, hml, hown, hts⟩ := id S
  have hl : lv_has ls 8 [(0, .ref (ad 5)), (1, .ref (ad (80 + 4 + i))), (2, .ref (ad (80 + 4 + j))), (3, .int (nI 0))] := hl
  have hS0 : True := trivial
  have hne5 := hH.2.ne5
  have hng6 := hH.2.ng6
  refine lv_iload_n hx hb dX8_tryDuel_0 rfl (lv_at hl 3 rfl) ?_
  refine m_if_gt (tgt := 6) hx hb dX8_tryDuel_1 (by decide) (fun c_1 => ?_) (fun c_1 => ?_)
  · exact absurd c_1 (by decide)
  · skip
    refine lv_iconst (v := nI 0) hx hb dX8_tryDuel_4 (by decide) ?_
    exact m_iret S hr hlk hW dX8_tryDuel_5 (by exact ⟨rfl, ThFr.rfl V, fun h => absurd rfl h⟩)
set_option maxHeartbeats 4000000 in
set_option maxRecDepth 100000 in
theorem c_X8_tryDuel_s (l : Launch) (G : mG) (ad : Nat → Nat) (sh : Nat → Option mSh) (V : mV) (t ta tb tl ne ng : Nat) (ask : fAsks) (z : fZ) (n i j : Nat) (hH : ThOk sh V t ta tb tl ne ng ask z) (hi : i < ne) (hj : j < ne) (hn : n < 100) (IH : ∀ (V : mV) (z : fZ) (i j : Nat), (ThOk sh V t ta tb tl ne ng ask z) → (i < ne) → (j < ne) → mM l yX8_tryDuel wsX8_tryDuel ({ frames := 20 + 2 * n, cells := 0, slots := 0, locals := 600 + 60 * n } : Room) G ad sh V [.ref (ad 5), .ref (ad (80 + 4 + i)), .ref (ad (80 + 4 + j)), .int (nI n)] 0 0 (mPi ad sh (fun r V' => (zDuel ask ng n z i j).1 = r ∧ (ThFr V V') ∧ (n ≠ 0 → V' 5 3 = (zDuel ask ng n z i j).2)))) : mM l yX8_tryDuel wsX8_tryDuel ({ frames := 20 + 2 * (n + 1), cells := 0, slots := 0, locals := 600 + 60 * (n + 1) } : Room) G ad sh V [.ref (ad 5), .ref (ad (80 + 4 + i)), .ref (ad (80 + 4 + j)), .int (nI (n + 1))] 0 0 (mPi ad sh (fun r V' => (zDuel ask ng (n + 1) z i j).1 = r ∧ (ThFr V V') ∧ ((n + 1) ≠ 0 → V' 5 3 = (zDuel ask ng (n + 1) z i j).2))) := by
  refine mM.of (cc := cX8_tryDuel) (maxL := 8) (ret := (some .int)) (by decide) rfl (Nat.le_of_ble_eq_true rfl) ?_
  intro p e s m below meth c S hr hlk hnm hW ls hl
  obtain ⟨hx, hb, hml, hown, hts⟩ := id S
  have hl : lv_has ls 8 [(0, .ref (ad 5)), (1, .ref (ad (80 + 4 + i))), (2, .ref (ad (80 + 4 + j))), (3, .int (nI (n + 1)))] := hl
  have hS0 : True := trivial
  have hne5 := hH.2.ne5
  have hng6 := hH.2.ng6
  refine lv_iload_n hx hb dX8_tryDuel_0 rfl (lv_at hl 3 rfl) ?_
  refine m_if_gt (tgt := 6) hx hb dX8_tryDuel_1 (by decide) (fun c_1 => ?_) (fun c_1 => ?_)
  · skip
    have c_1 : 0 < (n + 1) := (nI_ltI (by omega) (by omega)).mp c_1
    refine lv_iconst (v := -1) hx hb dX8_tryDuel_6 (by decide) ?_
    refine lv_istore (lv' := [(4, .int (-1)), (0, .ref (ad 5)), (1, .ref (ad (80 + 4 + i))), (2, .ref (ad (80 + 4 + j))), (3, .int (nI (n + 1)))]) hx hb dX8_tryDuel_7 hl (by decide) rfl (fun ls hl => ?_)
    refine lv_ldc (v := -1000000) hx hb hown (hts (.constant RX8 82 (-1000000)) (List.mem_cons_of_mem _ (wa_33 _ (List.mem_of_getElem? (i := 9) (by decide +kernel))))) dX8_tryDuel_9 ?_
    refine lv_istore (lv' := [(5, .int (-1000000)), (4, .int (-1)), (0, .ref (ad 5)), (1, .ref (ad (80 + 4 + i))), (2, .ref (ad (80 + 4 + j))), (3, .int (nI (n + 1)))]) hx hb dX8_tryDuel_11 hl (by decide) rfl (fun ls hl => ?_)
    refine lv_iconst (v := nI 0) hx hb dX8_tryDuel_13 (by decide) ?_
    refine lv_istore (lv' := [(6, .int (nI 0)), (5, .int (-1000000)), (4, .int (-1)), (0, .ref (ad 5)), (1, .ref (ad (80 + 4 + i))), (2, .ref (ad (80 + 4 + j))), (3, .int (nI (n + 1)))]) hx hb dX8_tryDuel_14 hl (by decide) rfl (fun ls hl => ?_)
    have loop_16 : ∀ (n_16 : Nat) (fd mo : Int32) (k : Nat) (V1 : mV) (H : Heap) (locs : List Loc) (ls : Array Slot), (k ≤ ng * 16) → (ThFr V V1) → ((fd, mo) = zDfold (fun k => if zCan ask z i (k / 16) (k % 16) then zGa ask z i (k / 16) (k % 16) - (zDuel ask ng n (zBi ask z i (k / 16) (k % 16)) j i).1 else -1000000) k) → (ng * 16 - k) < n_16 → mC (mA ad sh s.heap.size) s.heap s G ad sh V1 H locs → lv_has ls 8 [(0, .ref (ad 5)), (1, .ref (ad (80 + 4 + i))), (2, .ref (ad (80 + 4 + j))), (3, .int (nI (n + 1))), (4, .int fd), (5, .int mo), (6, .int (nI k))] → W p l e ({ frames := 20 + 2 * (n + 1), cells := 0, slots := 0, locals := 600 + 60 * (n + 1) } : Room) s m ([.ref (ad 5), .ref (ad (80 + 4 + i)), .ref (ad (80 + 4 + j)), .int (nI (n + 1))] : List Value).toArray below meth c H locs 0 0 (MQ below (mPost G ad sh s.heap.size (mPi ad sh (fun r V' => (zDuel ask ng (n + 1) z i j).1 = r ∧ (ThFr V V') ∧ ((n + 1) ≠ 0 → V' 5 3 = (zDuel ask ng (n + 1) z i j).2)))) ([.ref (ad 5), .ref (ad (80 + 4 + i)), .ref (ad (80 + 4 + j)), .int (nI (n + 1))] : List Value).toArray s 0 0 (mA ad sh s.heap.size)) (F0 m 16 ls []) := by
      intro n_16
      induction n_16 with
      | zero => intro fd mo k V1 H locs ls hk hf hq hM_ hW hl; omega
      | succ n_16 ih_16 =>
        intro fd mo k V1 H locs ls hk hf hq hM_ hW hl
        have hH1 := hH.fr hf
        refine lv_iload hx hb dX8_tryDuel_16 (lv_at hl 6 rfl) ?_
        refine lv_aload_n hx hb dX8_tryDuel_18 rfl (lv_at hl 0 rfl) ?_
        refine m_getr S hW hH.1 0 rfl (j := 80) rfl kX8 (iW8 _) (by decide) (List.mem_cons_of_mem _ (wa_10 _ (List.mem_of_getElem? (i := 15) (by decide +kernel)))) dX8_tryDuel_19 ?_
        refine m_geti S hW hH.2.1.1 3 rfl kX4 (iW4 _) (by decide) (List.mem_cons_of_mem _ (wa_33 _ (List.mem_of_getElem? (i := 10) (by decide +kernel)))) dX8_tryDuel_22 ?_
        refine m_top (y := nI ng) hH1.2.2.1.2.1 ?_
        refine lv_bipush (v := nI 16) hx hb dX8_tryDuel_25 (by decide) ?_
        refine lv_imul hx hb dX8_tryDuel_27 ?_
        refine m_top (y := nI (ng * 16)) (pk_mul ng 16) ?_
        refine lv_icmp_ge (tgt := 66) hx hb dX8_tryDuel_28 (by decide) (fun c_2 => ?_) (fun c_2 => ?_)
        · skip
          have c_2 : (ng * 16) ≤ k := (nI_leI (by omega) (by omega)).mp c_2
          rw [show k = ng * 16 by omega] at hq
          refine lv_iload hx hb dX8_tryDuel_66 (lv_at hl 4 rfl) ?_
          refine lv_iconst (v := -1) hx hb dX8_tryDuel_68 (by decide) ?_
          refine lv_icmp_ne (tgt := 84) hx hb dX8_tryDuel_69 (by decide) (fun c_3 => ?_) (fun c_3 => ?_)
          · skip
            refine lv_aload_n hx hb dX8_tryDuel_84 rfl (lv_at hl 0 rfl) ?_
            refine lv_iload hx hb dX8_tryDuel_85 (lv_at hl 4 rfl) ?_
            refine m_puti S hW hH.1 3 rfl kX8 (iW8 _) tyX8 tyX8_ok nmX8 (by decide) (List.mem_cons_of_mem _ (wa_33 _ (List.mem_of_getElem? (i := 11) (by decide +kernel)))) (Or.inl rfl) rfl rfl dX8_tryDuel_87 (fun H locs hW => ?_)
            obtain ⟨V_4, eV_4⟩ : ∃ z : mV, z = mU V1 5 3 (fd) := ⟨_, rfl⟩
            rw [← eV_4] at hW
            refine lv_iload hx hb dX8_tryDuel_90 (lv_at hl 5 rfl) ?_
            have hz1 : (zDuel ask ng (n + 1) z i j).2 = fd := by rw [zDuel]; exact (congrArg Prod.fst hq).symm
            exact m_iret S hr hlk hW dX8_tryDuel_92 (by refine ⟨?_, by rw [eV_4]; exact hf.p5 _ _, fun _ => by rw [eV_4, mU_eq, hz1]⟩; rw [zDuel]; refine (if_neg (by rw [← hq]; exact c_3)).trans ?_; exact (congrArg Prod.snd hq).symm)
          · skip
            refine lv_aload_n hx hb dX8_tryDuel_72 rfl (lv_at hl 0 rfl) ?_
            refine lv_aload_n hx hb dX8_tryDuel_73 rfl (lv_at hl 2 rfl) ?_
            refine lv_aload_n hx hb dX8_tryDuel_74 rfl (lv_at hl 1 rfl) ?_
            refine lv_iload_n hx hb dX8_tryDuel_75 rfl (lv_at hl 3 rfl) ?_
            refine lv_iconst (v := nI 1) hx hb dX8_tryDuel_76 (by decide) ?_
            refine lv_isub hx hb dX8_tryDuel_77 ?_
            refine m_top (y := nI n) (by rw [pk_sub (by omega)]; rfl) ?_
            refine m_ci (m_rV S hW (IH V1 z j i hH1 hj hi) (cwV 3 hts (gCall [.methodLink RX8 94 yX8_tryDuel, .instanceMethod yX8_tryDuel, .selects RX8 yX8_tryDuel yX8_tryDuel, .initialized RX8] (List.forall_mem_cons.mpr ⟨(wa_33 _ (List.mem_of_getElem? (i := 8) (by decide +kernel))), (List.forall_mem_cons.mpr ⟨(wa_33 _ (List.mem_of_getElem? (i := 16) (by decide +kernel))), (List.forall_mem_cons.mpr ⟨(wa_33 _ (List.mem_of_getElem? (i := 6) (by decide +kernel))), (List.forall_mem_cons.mpr ⟨(wa_33 _ (List.mem_of_getElem? (i := 7) (by decide +kernel))), (List.forall_mem_cons.mpr ⟨(wa_2 _ (List.mem_of_getElem? (i := 12) (by decide +kernel))), (fun _ h => absurd h List.not_mem_nil)⟩)⟩)⟩)⟩)⟩)) rfl rfl rfl (by decide +kernel) ⟨by dsimp only; omega, by dsimp only; omega⟩) hH.1 kX8 rfl hl.1 rfl (Nat.le_of_ble_eq_true rfl) dX8_tryDuel_78 ⟨Nat.le_of_ble_eq_true rfl, Nat.le_of_ble_eq_true rfl⟩) hW (fun r_7 V_5 H locs hp_6 hW => ?_)
            obtain ⟨rfl, hf_8, hb_9⟩ := hp_6
            refine lv_ineg hx hb dX8_tryDuel_81 ?_
            refine lv_istore (lv' := [(5, .int (-((zDuel ask ng n z j i).1))), (0, .ref (ad 5)), (1, .ref (ad (80 + 4 + i))), (2, .ref (ad (80 + 4 + j))), (3, .int (nI (n + 1))), (4, .int fd), (6, .int (nI k))]) hx hb dX8_tryDuel_82 hl (by decide) rfl (fun ls hl => ?_)
            refine lv_aload_n hx hb dX8_tryDuel_84 rfl (lv_at hl 1 rfl) ?_
            refine lv_iload hx hb dX8_tryDuel_85 (lv_at hl 5 rfl) ?_
            refine m_puti S hW hH.1 3 rfl kX8 (iW8 _) tyX8 tyX8_ok nmX8 (by decide) (List.mem_cons_of_mem _ (wa_33 _ (List.mem_of_getElem? (i := 11) (by decide +kernel)))) (Or.inl rfl) rfl rfl dX8_tryDuel_87 (fun H locs hW => ?_)
            obtain ⟨V_10, eV_10⟩ : ∃ z : mV, z = mU V_5 5 3 (fd) := ⟨_, rfl⟩
            rw [← eV_10] at hW
            refine lv_iload hx hb dX8_tryDuel_90 (lv_at hl 0 rfl) ?_
            have hz1 : (zDuel ask ng (n + 1) z i j).2 = fd := by rw [zDuel]; exact (congrArg Prod.fst hq).symm
            exact m_iret S hr hlk hW dX8_tryDuel_92 (by refine ⟨?_, by rw [eV_10]; exact (hf.trans hf_8).p5 _ _, fun _ => by rw [eV_10, mU_eq, hz1]⟩; rw [zDuel]; exact if_pos (by rw [← hq]; exact c_3))
        · skip
          have c_2 : ¬ (ng * 16) ≤ k := mt (nI_leI (by omega) (by omega)).mpr c_2
          refine lv_aload_n hx hb dX8_tryDuel_31 rfl (lv_at hl 0 rfl) ?_
          refine lv_aload_n hx hb dX8_tryDuel_32 rfl (lv_at hl 1 rfl) ?_
          refine lv_aload_n hx hb dX8_tryDuel_33 rfl (lv_at hl 2 rfl) ?_
          refine lv_iload_n hx hb dX8_tryDuel_34 rfl (lv_at hl 3 rfl) ?_
          refine lv_iload hx hb dX8_tryDuel_35 (lv_at hl 6 rfl) ?_
          refine m_ci (m_rV S hW (c_X8_tryTurn l G ad sh V1 t ta tb tl ne ng ask z n i j k hH1 (by first | assumption | omega) (by first | assumption | omega) (by first | assumption | omega) (by first | assumption | omega) (by first | assumption | omega)) (cwV 4 hts (gCall [.methodLink RX8 86 yX8_tryTurn, .instanceMethod yX8_tryTurn, .selects RX8 yX8_tryTurn yX8_tryTurn, .initialized RX8] (List.forall_mem_cons.mpr ⟨(wa_33 _ (List.mem_of_getElem? (i := 17) (by decide +kernel))), (List.forall_mem_cons.mpr ⟨(wa_33 _ (List.mem_of_getElem? (i := 12) (by decide +kernel))), (List.forall_mem_cons.mpr ⟨(wa_33 _ (List.mem_of_getElem? (i := 13) (by decide +kernel))), (List.forall_mem_cons.mpr ⟨(wa_33 _ (List.mem_of_getElem? (i := 14) (by decide +kernel))), (List.forall_mem_cons.mpr ⟨(wa_2 _ (List.mem_of_getElem? (i := 12) (by decide +kernel))), (fun _ h => absurd h List.not_mem_nil)⟩)⟩)⟩)⟩)⟩)) rfl rfl rfl (by decide +kernel) ⟨by dsimp only; omega, by dsimp only; omega⟩) hH.1 kX8 rfl hl.1 rfl (Nat.le_of_ble_eq_true rfl) dX8_tryDuel_37 ⟨Nat.le_of_ble_eq_true rfl, Nat.le_of_ble_eq_true rfl⟩) hW (fun r_13 V_11 H locs hp_12 hW => ?_)
          rcases hp_12 with ⟨rfl, eV_11, nc_14⟩ | ⟨rfl, yc_15, hf_16⟩
          · skip
            refine lv_istore (lv' := [(7, .int (-1000000)), (0, .ref (ad 5)), (1, .ref (ad (80 + 4 + i))), (2, .ref (ad (80 + 4 + j))), (3, .int (nI (n + 1))), (4, .int fd), (5, .int mo), (6, .int (nI k))]) hx hb dX8_tryDuel_40 hl (by decide) rfl (fun ls hl => ?_)
            refine lv_iload hx hb dX8_tryDuel_42 (lv_at hl 0 rfl) ?_
            refine lv_iload hx hb dX8_tryDuel_44 (lv_at hl 6 rfl) ?_
            refine lv_icmp_le (tgt := 60) hx hb dX8_tryDuel_46 (by decide) (fun c_17 => ?_) (fun c_17 => ?_)
            · skip
              refine lv_iinc (v := nI (k + 1)) (lv' := [(6, .int (nI (k + 1))), (7, .int (-1000000)), (0, .ref (ad 5)), (1, .ref (ad (80 + 4 + i))), (2, .ref (ad (80 + 4 + j))), (3, .int (nI (n + 1))), (4, .int fd), (5, .int mo)]) hx hb dX8_tryDuel_60 hl (k := 7) rfl (m_inc k 1) (by decide) rfl (fun ls hl => ?_)
              refine lv_goto (tgt := 16) hx hb dX8_tryDuel_63 (by decide) ?_
              exact ih_16  fd mo (k + 1) V_11 _ _ _ (by omega) (by rw [eV_11]; exact hf) (by rw [zDfold_s hq (if_neg nc_14), if_neg (Int32.not_lt.mpr c_17)]) (by omega) hW (lv_sub hl [2, 3, 4, 5, 6, 7, 0] rfl)
            · skip
              refine lv_iload hx hb dX8_tryDuel_49 (lv_at hl 7 rfl) ?_
              refine m_cie (m_rS S hW (c_X4_tellBite l G ad sh V_11 k (by omega)) (va_cwS 1 hts (gCall [.methodLink RX8 90 yX4_tellBite, .static yX4_tellBite, .initialized RX4] (List.forall_mem_cons.mpr ⟨(wa_29 _ (List.mem_of_getElem? (i := 6) (by decide +kernel))), (List.forall_mem_cons.mpr ⟨(wa_33 _ (List.mem_of_getElem? (i := 15) (by decide +kernel))), (List.forall_mem_cons.mpr ⟨(wa_29 _ (List.mem_of_getElem? (i := 5) (by decide +kernel))), (List.forall_mem_cons.mpr ⟨(wa_2 _ (List.mem_of_getElem? (i := 7) (by decide +kernel))), (fun _ h => absurd h List.not_mem_nil)⟩)⟩)⟩)⟩)) rfl rfl rfl (by decide +kernel) ⟨by dsimp only; omega, by dsimp only; omega⟩) rfl hl.1 rfl (Nat.le_of_ble_eq_true rfl) dX8_tryDuel_51 ⟨Nat.le_of_ble_eq_true rfl, Nat.le_of_ble_eq_true rfl⟩) hW (fun H locs hW => ?_)
              refine lv_istore (lv' := [(4, .int (nI (100 * (k / 16) + k % 16))), (7, .int (-1000000)), (0, .ref (ad 5)), (1, .ref (ad (80 + 4 + i))), (2, .ref (ad (80 + 4 + j))), (3, .int (nI (n + 1))), (5, .int mo), (6, .int (nI k))]) hx hb dX8_tryDuel_54 hl (by decide) rfl (fun ls hl => ?_)
              refine lv_iload hx hb dX8_tryDuel_56 (lv_at hl 1 rfl) ?_
              refine lv_istore (lv' := [(5, .int (-1000000)), (4, .int (nI (100 * (k / 16) + k % 16))), (7, .int (-1000000)), (0, .ref (ad 5)), (1, .ref (ad (80 + 4 + i))), (2, .ref (ad (80 + 4 + j))), (3, .int (nI (n + 1))), (6, .int (nI k))]) hx hb dX8_tryDuel_58 hl (by decide) rfl (fun ls hl => ?_)
              refine lv_iinc (v := nI (k + 1)) (lv' := [(6, .int (nI (k + 1))), (5, .int (-1000000)), (4, .int (nI (100 * (k / 16) + k % 16))), (7, .int (-1000000)), (0, .ref (ad 5)), (1, .ref (ad (80 + 4 + i))), (2, .ref (ad (80 + 4 + j))), (3, .int (nI (n + 1)))]) hx hb dX8_tryDuel_60 hl (k := 7) rfl (m_inc k 1) (by decide) rfl (fun ls hl => ?_)
              refine lv_goto (tgt := 16) hx hb dX8_tryDuel_63 (by decide) ?_
              exact ih_16  (nI (100 * (k / 16) + k % 16)) (-1000000) (k + 1) V_11 _ _ _ (by omega) (by rw [eV_11]; exact hf) (by rw [zDfold_s hq (if_neg nc_14), if_pos (Int32.not_le.mp c_17)]) (by omega) hW (lv_sub hl [4, 5, 6, 7, 2, 1, 0] rfl)
          · skip
            refine lv_istore (lv' := [(7, .int (zGa ask z i (k / 16) (k % 16) - (zDuel ask ng n (zBi ask z i (k / 16) (k % 16)) j i).1)), (0, .ref (ad 5)), (1, .ref (ad (80 + 4 + i))), (2, .ref (ad (80 + 4 + j))), (3, .int (nI (n + 1))), (4, .int fd), (5, .int mo), (6, .int (nI k))]) hx hb dX8_tryDuel_40 hl (by decide) rfl (fun ls hl => ?_)
            refine lv_iload hx hb dX8_tryDuel_42 (lv_at hl 0 rfl) ?_
            refine lv_iload hx hb dX8_tryDuel_44 (lv_at hl 6 rfl) ?_
            refine lv_icmp_le (tgt := 60) hx hb dX8_tryDuel_46 (by decide) (fun c_18 => ?_) (fun c_18 => ?_)
            · skip
              refine lv_iinc (v := nI (k + 1)) (lv' := [(6, .int (nI (k + 1))), (7, .int (zGa ask z i (k / 16) (k % 16) - (zDuel ask ng n (zBi ask z i (k / 16) (k % 16)) j i).1)), (0, .ref (ad 5)), (1, .ref (ad (80 + 4 + i))), (2, .ref (ad (80 + 4 + j))), (3, .int (nI (n + 1))), (4, .int fd), (5, .int mo)]) hx hb dX8_tryDuel_60 hl (k := 7) rfl (m_inc k 1) (by decide) rfl (fun ls hl => ?_)
              refine lv_goto (tgt := 16) hx hb dX8_tryDuel_63 (by decide) ?_
              exact ih_16  fd mo (k + 1) V_11 _ _ _ (by omega) (by exact hf.trans hf_16) (by rw [zDfold_s hq (if_pos yc_15), if_neg (Int32.not_lt.mpr c_18)]) (by omega) hW (lv_sub hl [2, 3, 4, 5, 6, 7, 0] rfl)
            · skip
              refine lv_iload hx hb dX8_tryDuel_49 (lv_at hl 7 rfl) ?_
              refine m_cie (m_rS S hW (c_X4_tellBite l G ad sh V_11 k (by omega)) (va_cwS 1 hts (gCall [.methodLink RX8 90 yX4_tellBite, .static yX4_tellBite, .initialized RX4] (List.forall_mem_cons.mpr ⟨(wa_29 _ (List.mem_of_getElem? (i := 6) (by decide +kernel))), (List.forall_mem_cons.mpr ⟨(wa_33 _ (List.mem_of_getElem? (i := 15) (by decide +kernel))), (List.forall_mem_cons.mpr ⟨(wa_29 _ (List.mem_of_getElem? (i := 5) (by decide +kernel))), (List.forall_mem_cons.mpr ⟨(wa_2 _ (List.mem_of_getElem? (i := 7) (by decide +kernel))), (fun _ h => absurd h List.not_mem_nil)⟩)⟩)⟩)⟩)) rfl rfl rfl (by decide +kernel) ⟨by dsimp only; omega, by dsimp only; omega⟩) rfl hl.1 rfl (Nat.le_of_ble_eq_true rfl) dX8_tryDuel_51 ⟨Nat.le_of_ble_eq_true rfl, Nat.le_of_ble_eq_true rfl⟩) hW (fun H locs hW => ?_)
              refine lv_istore (lv' := [(4, .int (nI (100 * (k / 16) + k % 16))), (7, .int (zGa ask z i (k / 16) (k % 16) - (zDuel ask ng n (zBi ask z i (k / 16) (k % 16)) j i).1)), (0, .ref (ad 5)), (1, .ref (ad (80 + 4 + i))), (2, .ref (ad (80 + 4 + j))), (3, .int (nI (n + 1))), (5, .int mo), (6, .int (nI k))]) hx hb dX8_tryDuel_54 hl (by decide) rfl (fun ls hl => ?_)
              refine lv_iload hx hb dX8_tryDuel_56 (lv_at hl 1 rfl) ?_
              refine lv_istore (lv' := [(5, .int (zGa ask z i (k / 16) (k % 16) - (zDuel ask ng n (zBi ask z i (k / 16) (k % 16)) j i).1)), (4, .int (nI (100 * (k / 16) + k % 16))), (7, .int (zGa ask z i (k / 16) (k % 16) - (zDuel ask ng n (zBi ask z i (k / 16) (k % 16)) j i).1)), (0, .ref (ad 5)), (1, .ref (ad (80 + 4 + i))), (2, .ref (ad (80 + 4 + j))), (3, .int (nI (n + 1))), (6, .int (nI k))]) hx hb dX8_tryDuel_58 hl (by decide) rfl (fun ls hl => ?_)
              refine lv_iinc (v := nI (k + 1)) (lv' := [(6, .int (nI (k + 1))), (5, .int (zGa ask z i (k / 16) (k % 16) - (zDuel ask ng n (zBi ask z i (k / 16) (k % 16)) j i).1)), (4, .int (nI (100 * (k / 16) + k % 16))), (7, .int (zGa ask z i (k / 16) (k % 16) - (zDuel ask ng n (zBi ask z i (k / 16) (k % 16)) j i).1)), (0, .ref (ad 5)), (1, .ref (ad (80 + 4 + i))), (2, .ref (ad (80 + 4 + j))), (3, .int (nI (n + 1)))]) hx hb dX8_tryDuel_60 hl (k := 7) rfl (m_inc k 1) (by decide) rfl (fun ls hl => ?_)
              refine lv_goto (tgt := 16) hx hb dX8_tryDuel_63 (by decide) ?_
              exact ih_16  (nI (100 * (k / 16) + k % 16)) (zGa ask z i (k / 16) (k % 16) - (zDuel ask ng n (zBi ask z i (k / 16) (k % 16)) j i).1) (k + 1) V_11 _ _ _ (by omega) (by exact hf.trans hf_16) (by rw [zDfold_s hq (if_pos yc_15), if_pos (Int32.not_le.mp c_18)]) (by omega) hW (lv_sub hl [4, 5, 6, 7, 2, 1, 0] rfl)
    exact loop_16 (ng * 16 - 0 + 1) (-1) (-1000000) 0 V _ _ _ (by omega) (by exact ThFr.rfl V) (by rfl) (by omega) hW (lv_sub hl [3, 4, 5, 6, 2, 1, 0] rfl)
  · skip
    have c_1 : ¬ 0 < (n + 1) := mt (nI_ltI (by omega) (by omega)).mpr c_1
    exfalso; omega
