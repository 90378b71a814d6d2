/-! the first text -/
def tx0 : List Int32 := mByt.getD 0 []
def z00 : fZ := fun _ _ => 0
def q01 : Sg := ((z00, 0, 0, 0), [], tx0, (false, (z00, 0, 0, 0)), fun _ => (-1, 0, fun _ => 0))
def qs0 : pS := (0, 0, 0, 0, -1, [])
def x00 : sT := nwT q01 qs0
/-- the state of a new object -/
def q00 : Sg := ((z00, 0, 0, 0), [x00], [], (false, (z00, 0, 0, 0)), fun _ => (-1, 0, fun _ => 0))
theorem qs0_ok : QsOk qs0 := ⟨rfl, rfl, rfl⟩
set_option maxHeartbeats 4000000 in
theorem fl00 : flt (gTq q01 qs0) = -1 := by decide +kernel
theorem zv_00 {V : mV} {b : Nat} (h : V b 4 = 0) : zv V b 0 0 = z00 := by
  funext a k
  rw [zv]
  by_cases h0 : a = 0 ∧ k = 4
  · rw [if_pos (Or.inl h0), h0.1, h0.2]
    exact h
  · rw [if_neg (fun z => by omega)]
    rfl
theorem mv_00 {V : mV} (h : V 200 6 = 0) : mv V 0 0 = z00 := by
  funext a k
  by_cases h0 : a = 0 ∧ k = 4
  · rw [h0.1, h0.2, mv_day]
    exact h
  · rw [mv, if_neg (fun z => by unfold zM at z; omega)]
    rfl
theorem x00_wf : WfT x00 ∧ x00.2.1 ≤ x00.2.2 ∧ x00.2.2 ≤ x00.1.length ∧ x00.1.length ≤ 160 := by
  have h160 : (gTp q01).length ≤ 160 := by decide +kernel
  have h1 := tq_yes h160 qs0_ok fl00 (by decide +kernel)
  rcases tq_all h160 qs0_ok with ⟨b, hb, -⟩ | ⟨-, h2⟩
  · exact absurd fl00 hb.n1
  · have hw := h2.wf
    have e := nwT_e q01 qs0
    refine ⟨?_, h1.2.1, h1.2.2, ?_⟩
    · show WfT (nwT q01 qs0)
      rw [e]
      exact hw.1
    · show (nwT q01 qs0).1.length ≤ 160
      rw [nwT_1]
      exact Nat.le_trans hw.2.2.2 h160
set_option maxHeartbeats 4000000 in
set_option maxRecDepth 100000 in
theorem c_X6_write (l : Launch) (G : mG) (ad : Nat → Nat) (sh : Nat → Option mSh) (V : mV)  (h1 : sh 1 = some sTape) (h2 : sh 2 = some (mI 160)) (h3 : sh 3 = some (mI 160)) (hsz : V 1 1 = nI 0) : mM l yX6_write wsX6_write ({ frames := 6, cells := 0, slots := 0, locals := 224 } : Room) G ad sh V [.ref (ad 1), .ref (G.2.2.2.1 0)] 0 0 (mPv ad sh (fun V' => (V' 1 1 = nI 40) ∧ (∀ k, k < 40 → V' 2 k = mB 0 k) ∧ (∀ a, (a ≠ 1 ∧ a ≠ 2) → V' a = V a) ∧ (∀ k, k ≠ 1 → V' 1 k = V 1 k))) := by
  refine mM.of (cc := cX6_write) (maxL := 3) (ret := none) (by decide) rfl (Nat.le_of_ble_eq_true rfl) ?_
  intro p e s m below meth c S hr hlk hnm hW ls hl
  obtain ⟨hx, hb, hml, hown, hts⟩ := id S
  have hl : lv_has ls 3 [(0, .ref (ad 1)), (1, .ref (G.2.2.2.1 0))] := hl
  have hS0 : True := trivial
  have h40 : mLen.getD 0 0 = 40 := rfl
  refine lv_iconst (v := nI 0) hx hb dX6_write_0 (by decide) ?_
  refine lv_istore_n (lv' := [(2, .int (nI 0)), (0, .ref (ad 1)), (1, .ref (G.2.2.2.1 0))]) hx hb dX6_write_1 rfl hl (by decide) rfl (fun ls hl => ?_)
  have loop_2 : ∀ (n_2 : Nat) (k : Nat) (V1 : mV) (H : Heap) (locs : List Loc) (ls : Array Slot), (k ≤ 40) → (V1 1 1 = nI k) → (∀ j, j < k → V1 2 j = mB 0 j) → (∀ a, (a ≠ 1 ∧ a ≠ 2) → V1 a = V a) → (∀ k, k ≠ 1 → V1 1 k = V 1 k) → (40 - k) < n_2 → mC (mA ad sh s.heap.size) s.heap s G ad sh V1 H locs → lv_has ls 3 [(0, .ref (ad 1)), (1, .ref (G.2.2.2.1 0)), (2, .int (nI k))] → W p l e ({ frames := 6, cells := 0, slots := 0, locals := 224 } : Room) s m ([.ref (ad 1), .ref (G.2.2.2.1 0)] : List Value).toArray below meth c H locs 0 0 (MQ below (mPost G ad sh s.heap.size (mPv ad sh (fun V' => (V' 1 1 = nI 40) ∧ (∀ k, k < 40 → V' 2 k = mB 0 k) ∧ (∀ a, (a ≠ 1 ∧ a ≠ 2) → V' a = V a) ∧ (∀ k, k ≠ 1 → V' 1 k = V 1 k)))) ([.ref (ad 1), .ref (G.2.2.2.1 0)] : List Value).toArray s 0 0 (mA ad sh s.heap.size)) (F0 m 2 ls []) := by
    intro n_2
    induction n_2 with
    | zero => intro k V1 H locs ls hk4 hs hbs hf hkr hM_ hW hl; omega
    | succ n_2 ih_2 =>
      intro k V1 H locs ls hk4 hs hbs hf hkr hM_ hW hl
      refine lv_iload_n hx hb dX6_write_2 rfl (lv_at hl 2 rfl) ?_
      refine lv_aload_n hx hb dX6_write_3 rfl (lv_at hl 1 rfl) ?_
      refine m_cie (m_rVs S hW (c_J0_length_8abf5 l G ad sh V1 0 (by decide)) (cwV 0 hts (gCall [.methodLink RX6 22 yJ0_length_8abf5, .instanceMethod yJ0_length_8abf5, .selects RJ0 yJ0_length_8abf5 yJ0_length_8abf5, .initialized RJ0] (List.forall_mem_cons.mpr ⟨(wa_3 _ (List.mem_of_getElem? (i := 20) (by decide +kernel))), (List.forall_mem_cons.mpr ⟨(wa_3 _ (List.mem_of_getElem? (i := 16) (by decide +kernel))), (List.forall_mem_cons.mpr ⟨(wa_3 _ (List.mem_of_getElem? (i := 17) (by decide +kernel))), (List.forall_mem_cons.mpr ⟨(wa_3 _ (List.mem_of_getElem? (i := 18) (by decide +kernel))), (List.forall_mem_cons.mpr ⟨(wa_3 _ (List.mem_of_getElem? (i := 19) (by decide +kernel))), (fun _ h => absurd h List.not_mem_nil)⟩)⟩)⟩)⟩)⟩)) rfl rfl rfl (by decide +kernel) ⟨by dsimp only; omega, by dsimp only; omega⟩) (by decide) rfl hl.1 rfl (Nat.le_of_ble_eq_true rfl) dX6_write_4 ⟨Nat.le_of_ble_eq_true rfl, Nat.le_of_ble_eq_true rfl⟩) hW (fun H locs hW => ?_)
      refine lv_icmp_ge (tgt := 25) hx hb dX6_write_7 (by decide) (fun c_1 => ?_) (fun c_1 => ?_)
      · skip
        have c_1 : (mLen.getD 0 0) ≤ k := (nI_leI (by omega) (by omega)).mp c_1
        exact m_vret S hr hlk hW dX6_write_25 (by have hk40 : k = 40 := (by omega); subst hk40; exact ⟨hs, hbs, hf, hkr⟩)
      · skip
        have c_1 : ¬ (mLen.getD 0 0) ≤ k := mt (nI_leI (by omega) (by omega)).mpr c_1
        refine lv_aload_n hx hb dX6_write_10 rfl (lv_at hl 0 rfl) ?_
        refine lv_aload_n hx hb dX6_write_11 rfl (lv_at hl 1 rfl) ?_
        refine lv_iload_n hx hb dX6_write_12 rfl (lv_at hl 2 rfl) ?_
        refine m_cie (m_rVs S hW (c_J0_charAt_5068e l G ad sh V1 0 k (by decide) (by first | assumption | omega)) (cwV 1 hts (gCall [.methodLink RX6 28 yJ0_charAt_5068e, .instanceMethod yJ0_charAt_5068e, .selects RJ0 yJ0_charAt_5068e yJ0_charAt_5068e, .initialized RJ0] (List.forall_mem_cons.mpr ⟨(wa_4 _ (List.mem_of_getElem? (i := 7) (by decide +kernel))), (List.forall_mem_cons.mpr ⟨(wa_4 _ (List.mem_of_getElem? (i := 4) (by decide +kernel))), (List.forall_mem_cons.mpr ⟨(wa_4 _ (List.mem_of_getElem? (i := 5) (by decide +kernel))), (List.forall_mem_cons.mpr ⟨(wa_4 _ (List.mem_of_getElem? (i := 6) (by decide +kernel))), (List.forall_mem_cons.mpr ⟨(wa_3 _ (List.mem_of_getElem? (i := 19) (by decide +kernel))), (fun _ h => absurd h List.not_mem_nil)⟩)⟩)⟩)⟩)⟩)) rfl rfl rfl (by decide +kernel) ⟨by dsimp only; omega, by dsimp only; omega⟩) (by decide) rfl hl.1 rfl (Nat.le_of_ble_eq_true rfl) dX6_write_13 ⟨Nat.le_of_ble_eq_true rfl, Nat.le_of_ble_eq_true rfl⟩) hW (fun H locs hW => ?_)
        refine m_cv (m_rV S hW (c_X6_add l G ad sh V1 k (mB 0 k) h1 h2 h3 (by first | assumption | omega) (by first | assumption | omega)) (cwV 1 hts (gCall [.methodLink RX6 32 yX6_add, .instanceMethod yX6_add, .selects RX6 yX6_add yX6_add, .initialized RX6] (List.forall_mem_cons.mpr ⟨(wa_5 _ (List.mem_of_getElem? (i := 20) (by decide +kernel))), (List.forall_mem_cons.mpr ⟨(wa_5 _ (List.mem_of_getElem? (i := 17) (by decide +kernel))), (List.forall_mem_cons.mpr ⟨(wa_5 _ (List.mem_of_getElem? (i := 18) (by decide +kernel))), (List.forall_mem_cons.mpr ⟨(wa_5 _ (List.mem_of_getElem? (i := 19) (by decide +kernel))), (List.forall_mem_cons.mpr ⟨(wa_1 _ (List.mem_of_getElem? (i := 14) (by decide +kernel))), (fun _ h => absurd h List.not_mem_nil)⟩)⟩)⟩)⟩)⟩)) rfl rfl rfl (by decide +kernel) ⟨Nat.le_of_ble_eq_true rfl, Nat.le_of_ble_eq_true rfl⟩) h1 kX6 rfl hl.1 rfl (Nat.le_of_ble_eq_true rfl) dX6_write_16 ⟨Nat.le_of_ble_eq_true rfl, Nat.le_of_ble_eq_true rfl⟩) hW (fun V_2 H locs hp_3 hW => ?_)
        have eV_2 : V_2 = mU (mU V1 1 1 (nI (k + 1))) 2 k (mB 0 k) := hp_3
        refine lv_iinc (v := nI (k + 1)) (lv' := [(2, .int (nI (k + 1))), (0, .ref (ad 1)), (1, .ref (G.2.2.2.1 0))]) hx hb dX6_write_19 hl (k := 2) rfl (m_inc k 1) (by decide) rfl (fun ls hl => ?_)
        refine lv_goto (tgt := 2) hx hb dX6_write_22 (by decide) ?_
        exact ih_2  (k + 1) V_2 _ _ _ (by omega) (by rw [eV_2, mU_no _ _ (by decide), mU_eq]) (by intro j hj; rw [eV_2]; exact if hjk : j = k then (by rw [hjk, mU_eq]) else (by rw [mU_ne _ _ (by omega), mU_no _ _ (by decide)]; exact hbs j (by omega))) (by intro a ha; rw [eV_2, mU_no _ _ ha.2, mU_no _ _ ha.1]; exact hf a ha) (by intro k hk; rw [eV_2, mU_no _ _ (by decide), mU_ne _ _ (by omega)]; exact hkr k hk) (by omega) hW (lv_sub hl [1, 2, 0] rfl)
  exact loop_2 (40 - 0 + 1) 0 V _ _ _ (by omega) (by exact hsz) (by intro j hj; omega) (by intro a ha; rfl) (by intro k hk; rfl) (by omega) hW (lv_sub hl [1, 2, 0] rfl)
