/-! the reference: what needs no state -/
theorem mb_pos {k p0 : Nat} (hk : k < 11) (hp : p0 < 16) (h : p0 ≤ k + 6) : nI k - nI p0 + nI 6 = nI (k + 6 - p0) := by
  apply Int32.toInt_inj.mp
  rw [nI_toInt (by omega), Int32.toInt_add, pk_sub_toInt (by omega) (by omega), show (nI 6).toInt = 6 by decide]
  rw [Int.bmod_eq_of_le (by omega) (by omega)]
  omega
theorem mb_neg {k p0 : Nat} (hk : k < 11) (hp : p0 < 16) (h : ¬ p0 ≤ k + 6) : nI k - nI p0 + nI 6 < nI 0 := by
  rw [Int32.lt_iff_toInt_lt, Int32.toInt_add, pk_sub_toInt (by omega) (by omega), show (nI 6).toInt = 6 by decide, show (nI 0).toInt = 0 by decide]
  rw [Int.bmod_eq_of_le (by omega) (by omega)]
  omega
theorem mb_pow {k : Nat} (h : k < 11) : 1 * 2 ^ k < 2 ^ 32 := by
  have : 2 ^ k ≤ 2 ^ 11 := Nat.pow_le_pow_right (by decide) (by omega)
  omega
set_option maxHeartbeats 4000000 in
set_option maxRecDepth 100000 in
theorem c_X11_in_m (l : Launch) (G : mG) (ad : Nat → Nat) (sh : Nat → Option mSh) (V : mV) (x : Int32) (hi : Nat) (hhi : hi < 2 ^ 31) : mM l yX11_in wsX11_in ({ frames := 0, cells := 0, slots := 0, locals := 0 } : Room) G ad sh V [.int x, .int (-1), .int (nI hi)] 0 0 (mPip ad sh V (fun r => (nI 1 = r ∧ (x = -1 ∨ mIn x 0 (hi + 1))) ∨ (nI 0 = r ∧ (¬ x = -1 ∧ ¬ mIn x 0 (hi + 1))))) := by
  refine mM.of (cc := cX11_in) (maxL := 3) (ret := (some .boolean)) (by decide) rfl (Nat.le_of_ble_eq_true rfl) ?_
  intro p e s m below meth c S hr hlk hnm hW ls hl
  obtain ⟨hx, hb, hml, hown, hts⟩ := id S
  have hl : lv_has ls 3 [(0, .int x), (1, .int (-1)), (2, .int (nI hi))] := hl
  have hS0 : True := trivial
  refine lv_iload_n hx hb dX11_in_0 rfl (lv_at hl 0 rfl) ?_
  refine lv_iload_n hx hb dX11_in_1 rfl (lv_at hl 1 rfl) ?_
  refine lv_icmp_lt (tgt := 14) hx hb dX11_in_2 (by decide) (fun c_1 => ?_) (fun c_1 => ?_)
  · skip
    refine lv_iconst (v := nI 0) hx hb dX11_in_14 (by decide) ?_
    exact m_zret S hr hlk hW rfl dX11_in_15 ⟨rfl, (by have a2 := nI_toInt hhi; have a1 : (-1 : Int32).toInt = -1 := (by decide); simp only [Int32.lt_iff_toInt_lt, Int32.not_lt, Int32.le_iff_toInt_le, a1, a2] at c_1; first | exact Or.inl ⟨rfl, by simp only [← Int32.toInt_inj, a1, mIn]; omega⟩ | exact Or.inr ⟨rfl, by simp only [← Int32.toInt_inj, a1, mIn]; omega⟩)⟩
  · skip
    refine lv_iload_n hx hb dX11_in_5 rfl (lv_at hl 0 rfl) ?_
    refine lv_iload_n hx hb dX11_in_6 rfl (lv_at hl 2 rfl) ?_
    refine lv_icmp_gt (tgt := 14) hx hb dX11_in_7 (by decide) (fun c_2 => ?_) (fun c_2 => ?_)
    · skip
      refine lv_iconst (v := nI 0) hx hb dX11_in_14 (by decide) ?_
      exact m_zret S hr hlk hW rfl dX11_in_15 ⟨rfl, (by have a2 := nI_toInt hhi; have a1 : (-1 : Int32).toInt = -1 := (by decide); simp only [Int32.lt_iff_toInt_lt, Int32.not_lt, Int32.le_iff_toInt_le, a1, a2] at c_1 c_2; first | exact Or.inl ⟨rfl, by simp only [← Int32.toInt_inj, a1, mIn]; omega⟩ | exact Or.inr ⟨rfl, by simp only [← Int32.toInt_inj, a1, mIn]; omega⟩)⟩
    · skip
      refine lv_iconst (v := nI 1) hx hb dX11_in_10 (by decide) ?_
      refine lv_goto (tgt := 15) hx hb dX11_in_11 (by decide) ?_
      exact m_zret S hr hlk hW rfl dX11_in_15 ⟨rfl, (by have a2 := nI_toInt hhi; have a1 : (-1 : Int32).toInt = -1 := (by decide); simp only [Int32.lt_iff_toInt_lt, Int32.not_lt, Int32.le_iff_toInt_le, a1, a2] at c_1 c_2; first | exact Or.inl ⟨rfl, by simp only [← Int32.toInt_inj, a1, mIn]; omega⟩ | exact Or.inr ⟨rfl, by simp only [← Int32.toInt_inj, a1, mIn]; omega⟩)⟩
set_option maxHeartbeats 4000000 in
set_option maxRecDepth 100000 in
theorem c_X11_in (l : Launch) (G : mG) (ad : Nat → Nat) (sh : Nat → Option mSh) (V : mV) (x : Int32) (lo hi : Nat) (hlo : lo < 2 ^ 31) (hhi : hi < 2 ^ 31) : mM l yX11_in wsX11_in ({ frames := 0, cells := 0, slots := 0, locals := 0 } : Room) G ad sh V [.int x, .int (nI lo), .int (nI hi)] 0 0 (mPip ad sh V (fun r => (nI 1 = r ∧ (mIn x lo (hi + 1))) ∨ (nI 0 = r ∧ (¬ mIn x lo (hi + 1))))) := by
  refine mM.of (cc := cX11_in) (maxL := 3) (ret := (some .boolean)) (by decide) rfl (Nat.le_of_ble_eq_true rfl) ?_
  intro p e s m below meth c S hr hlk hnm hW ls hl
  obtain ⟨hx, hb, hml, hown, hts⟩ := id S
  have hl : lv_has ls 3 [(0, .int x), (1, .int (nI lo)), (2, .int (nI hi))] := hl
  have hS0 : True := trivial
  refine lv_iload_n hx hb dX11_in_0 rfl (lv_at hl 0 rfl) ?_
  refine lv_iload_n hx hb dX11_in_1 rfl (lv_at hl 1 rfl) ?_
  refine lv_icmp_lt (tgt := 14) hx hb dX11_in_2 (by decide) (fun c_1 => ?_) (fun c_1 => ?_)
  · skip
    refine lv_iconst (v := nI 0) hx hb dX11_in_14 (by decide) ?_
    exact m_zret S hr hlk hW rfl dX11_in_15 ⟨rfl, (by have a1 := nI_toInt hlo; have a2 := nI_toInt hhi; simp only [Int32.lt_iff_toInt_lt, Int32.not_lt, Int32.le_iff_toInt_le, a1, a2] at c_1; first | exact Or.inl ⟨rfl, by omega, by omega⟩ | exact Or.inr ⟨rfl, fun h => by obtain ⟨h1, h2⟩ := h; omega⟩)⟩
  · skip
    refine lv_iload_n hx hb dX11_in_5 rfl (lv_at hl 0 rfl) ?_
    refine lv_iload_n hx hb dX11_in_6 rfl (lv_at hl 2 rfl) ?_
    refine lv_icmp_gt (tgt := 14) hx hb dX11_in_7 (by decide) (fun c_2 => ?_) (fun c_2 => ?_)
    · skip
      refine lv_iconst (v := nI 0) hx hb dX11_in_14 (by decide) ?_
      exact m_zret S hr hlk hW rfl dX11_in_15 ⟨rfl, (by have a1 := nI_toInt hlo; have a2 := nI_toInt hhi; simp only [Int32.lt_iff_toInt_lt, Int32.not_lt, Int32.le_iff_toInt_le, a1, a2] at c_1 c_2; first | exact Or.inl ⟨rfl, by omega, by omega⟩ | exact Or.inr ⟨rfl, fun h => by obtain ⟨h1, h2⟩ := h; omega⟩)⟩
    · skip
      refine lv_iconst (v := nI 1) hx hb dX11_in_10 (by decide) ?_
      refine lv_goto (tgt := 15) hx hb dX11_in_11 (by decide) ?_
      exact m_zret S hr hlk hW rfl dX11_in_15 ⟨rfl, (by have a1 := nI_toInt hlo; have a2 := nI_toInt hhi; simp only [Int32.lt_iff_toInt_lt, Int32.not_lt, Int32.le_iff_toInt_le, a1, a2] at c_1 c_2; first | exact Or.inl ⟨rfl, by omega, by omega⟩ | exact Or.inr ⟨rfl, fun h => by obtain ⟨h1, h2⟩ := h; omega⟩)⟩
set_option maxHeartbeats 4000000 in
set_option maxRecDepth 100000 in
theorem c_X11_in_c (l : Launch) (G : mG) (ad : Nat → Nat) (sh : Nat → Option mSh) (V : mV) (x b : Int32) (nc : Nat) (hb9 : b.toInt = (nc : Int) - ((1 : Nat) : Int)) : mM l yX11_in wsX11_in ({ frames := 0, cells := 0, slots := 0, locals := 0 } : Room) G ad sh V [.int x, .int (nI 0), .int b] 0 0 (mPip ad sh V (fun r => (nI 1 = r ∧ (mIn x 0 nc)) ∨ (nI 0 = r ∧ (¬ mIn x 0 nc)))) := by
  refine mM.of (cc := cX11_in) (maxL := 3) (ret := (some .boolean)) (by decide) rfl (Nat.le_of_ble_eq_true rfl) ?_
  intro p e s m below meth c S hr hlk hnm hW ls hl
  obtain ⟨hx, hb, hml, hown, hts⟩ := id S
  have hl : lv_has ls 3 [(0, .int x), (1, .int (nI 0)), (2, .int b)] := hl
  have hS0 : True := trivial
  refine lv_iload_n hx hb dX11_in_0 rfl (lv_at hl 0 rfl) ?_
  refine lv_iload_n hx hb dX11_in_1 rfl (lv_at hl 1 rfl) ?_
  refine lv_icmp_lt (tgt := 14) hx hb dX11_in_2 (by decide) (fun c_1 => ?_) (fun c_1 => ?_)
  · skip
    refine lv_iconst (v := nI 0) hx hb dX11_in_14 (by decide) ?_
    exact m_zret S hr hlk hW rfl dX11_in_15 ⟨rfl, (by have a1 : (nI 0).toInt = 0 := (by decide); simp only [Int32.lt_iff_toInt_lt, Int32.not_lt, Int32.le_iff_toInt_le, a1, hb9] at c_1; first | exact Or.inl ⟨rfl, by omega, by omega⟩ | exact Or.inr ⟨rfl, fun h => by obtain ⟨h1, h2⟩ := h; omega⟩)⟩
  · skip
    refine lv_iload_n hx hb dX11_in_5 rfl (lv_at hl 0 rfl) ?_
    refine lv_iload_n hx hb dX11_in_6 rfl (lv_at hl 2 rfl) ?_
    refine lv_icmp_gt (tgt := 14) hx hb dX11_in_7 (by decide) (fun c_2 => ?_) (fun c_2 => ?_)
    · skip
      refine lv_iconst (v := nI 0) hx hb dX11_in_14 (by decide) ?_
      exact m_zret S hr hlk hW rfl dX11_in_15 ⟨rfl, (by have a1 : (nI 0).toInt = 0 := (by decide); simp only [Int32.lt_iff_toInt_lt, Int32.not_lt, Int32.le_iff_toInt_le, a1, hb9] at c_1 c_2; first | exact Or.inl ⟨rfl, by omega, by omega⟩ | exact Or.inr ⟨rfl, fun h => by obtain ⟨h1, h2⟩ := h; omega⟩)⟩
    · skip
      refine lv_iconst (v := nI 1) hx hb dX11_in_10 (by decide) ?_
      refine lv_goto (tgt := 15) hx hb dX11_in_11 (by decide) ?_
      exact m_zret S hr hlk hW rfl dX11_in_15 ⟨rfl, (by have a1 : (nI 0).toInt = 0 := (by decide); simp only [Int32.lt_iff_toInt_lt, Int32.not_lt, Int32.le_iff_toInt_le, a1, hb9] at c_1 c_2; first | exact Or.inl ⟨rfl, by omega, by omega⟩ | exact Or.inr ⟨rfl, fun h => by obtain ⟨h1, h2⟩ := h; omega⟩)⟩
set_option maxHeartbeats 4000000 in
set_option maxRecDepth 100000 in
theorem c_X11_isByte (l : Launch) (G : mG) (ad : Nat → Nat) (sh : Nat → Option mSh) (V : mV) (x : Int32) : mM l yX11_isByte wsX11_isByte ({ frames := 1, cells := 0, slots := 0, locals := 22 } : Room) G ad sh V [.int x] 0 0 (mPip ad sh V (fun r => (nI 1 = r ∧ (mIn x 0 256)) ∨ (nI 0 = r ∧ (¬ mIn x 0 256)))) := by
  refine mM.of (cc := cX11_isByte) (maxL := 1) (ret := (some .boolean)) (by decide) rfl (Nat.le_of_ble_eq_true rfl) ?_
  intro p e s m below meth c S hr hlk hnm hW ls hl
  obtain ⟨hx, hb, hml, hown, hts⟩ := id S
  have hl : lv_has ls 1 [(0, .int x)] := hl
  have hS0 : True := trivial
  refine lv_iload_n hx hb dX11_isByte_0 rfl (lv_at hl 0 rfl) ?_
  refine lv_iconst (v := nI 0) hx hb dX11_isByte_1 (by decide) ?_
  refine lv_sipush (v := nI 255) hx hb dX11_isByte_2 (by decide) ?_
  refine m_cip (m_rS S hW (c_X11_in l G ad sh V x 0 255 (by first | assumption | omega) (by first | assumption | omega)) (va_cwS 3 hts (gCall [.methodLink RX11 84 yX11_in, .static yX11_in, .initialized RX11] (List.forall_mem_cons.mpr ⟨(wa_12 _ (List.mem_of_getElem? (i := 16) (by decide +kernel))), (List.forall_mem_cons.mpr ⟨(wa_12 _ (List.mem_of_getElem? (i := 14) (by decide +kernel))), (List.forall_mem_cons.mpr ⟨(wa_12 _ (List.mem_of_getElem? (i := 15) (by decide +kernel))), (List.forall_mem_cons.mpr ⟨(wa_1 _ (List.mem_of_getElem? (i := 5) (by decide +kernel))), (fun _ h => absurd h List.not_mem_nil)⟩)⟩)⟩)⟩)) rfl rfl rfl (by decide +kernel) ⟨Nat.le_of_ble_eq_true rfl, Nat.le_of_ble_eq_true rfl⟩) rfl hl.1 rfl (Nat.le_of_ble_eq_true rfl) dX11_isByte_5 ⟨Nat.le_of_ble_eq_true rfl, Nat.le_of_ble_eq_true rfl⟩) hW (fun r_2 H locs hp_1 hW => ?_)
  rcases hp_1 with ⟨rfl, w_3⟩ | ⟨rfl, w_4⟩
  · skip
    exact m_zret S hr hlk hW rfl dX11_isByte_8 ⟨rfl, (by first | exact Or.inl ⟨rfl, w_3⟩ | exact Or.inr ⟨rfl, w_3⟩)⟩
  · skip
    exact m_zret S hr hlk hW rfl dX11_isByte_8 ⟨rfl, (by first | exact Or.inl ⟨rfl, w_4⟩ | exact Or.inr ⟨rfl, w_4⟩)⟩
set_option maxHeartbeats 4000000 in
set_option maxRecDepth 100000 in
theorem c_X11_isPlace (l : Launch) (G : mG) (ad : Nat → Nat) (sh : Nat → Option mSh) (V : mV) (x : Int32) : mM l yX11_isPlace wsX11_isPlace ({ frames := 1, cells := 0, slots := 0, locals := 22 } : Room) G ad sh V [.int x] 0 0 (mPip ad sh V (fun r => (nI 1 = r ∧ (mIn x 0 16)) ∨ (nI 0 = r ∧ (¬ mIn x 0 16)))) := by
  refine mM.of (cc := cX11_isPlace) (maxL := 1) (ret := (some .boolean)) (by decide) rfl (Nat.le_of_ble_eq_true rfl) ?_
  intro p e s m below meth c S hr hlk hnm hW ls hl
  obtain ⟨hx, hb, hml, hown, hts⟩ := id S
  have hl : lv_has ls 1 [(0, .int x)] := hl
  have hS0 : True := trivial
  refine lv_iload_n hx hb dX11_isPlace_0 rfl (lv_at hl 0 rfl) ?_
  refine lv_iconst (v := nI 0) hx hb dX11_isPlace_1 (by decide) ?_
  refine lv_bipush (v := nI 15) hx hb dX11_isPlace_2 (by decide) ?_
  refine m_cip (m_rS S hW (c_X11_in l G ad sh V x 0 15 (by first | assumption | omega) (by first | assumption | omega)) (va_cwS 3 hts (gCall [.methodLink RX11 84 yX11_in, .static yX11_in, .initialized RX11] (List.forall_mem_cons.mpr ⟨(wa_12 _ (List.mem_of_getElem? (i := 16) (by decide +kernel))), (List.forall_mem_cons.mpr ⟨(wa_12 _ (List.mem_of_getElem? (i := 14) (by decide +kernel))), (List.forall_mem_cons.mpr ⟨(wa_12 _ (List.mem_of_getElem? (i := 15) (by decide +kernel))), (List.forall_mem_cons.mpr ⟨(wa_1 _ (List.mem_of_getElem? (i := 5) (by decide +kernel))), (fun _ h => absurd h List.not_mem_nil)⟩)⟩)⟩)⟩)) rfl rfl rfl (by decide +kernel) ⟨Nat.le_of_ble_eq_true rfl, Nat.le_of_ble_eq_true rfl⟩) rfl hl.1 rfl (Nat.le_of_ble_eq_true rfl) dX11_isPlace_4 ⟨Nat.le_of_ble_eq_true rfl, Nat.le_of_ble_eq_true rfl⟩) hW (fun r_2 H locs hp_1 hW => ?_)
  rcases hp_1 with ⟨rfl, w_3⟩ | ⟨rfl, w_4⟩
  · skip
    exact m_zret S hr hlk hW rfl dX11_isPlace_7 ⟨rfl, (by first | exact Or.inl ⟨rfl, w_3⟩ | exact Or.inr ⟨rfl, w_3⟩)⟩
  · skip
    exact m_zret S hr hlk hW rfl dX11_isPlace_7 ⟨rfl, (by first | exact Or.inl ⟨rfl, w_4⟩ | exact Or.inr ⟨rfl, w_4⟩)⟩
set_option maxHeartbeats 4000000 in
set_option maxRecDepth 100000 in
theorem c_X11_within_n (l : Launch) (G : mG) (ad : Nat → Nat) (sh : Nat → Option mSh) (V : mV) (n hi : Nat) (hnh : n ≤ hi) (hhi : hi < 2 ^ 31) : mM l yX11_within wsX11_within ({ frames := 0, cells := 0, slots := 0, locals := 0 } : Room) G ad sh V [.int (nI n), .int (nI 0), .int (nI hi)] 0 0 (mPe ad sh V (nI n)) := by
  refine mM.of (cc := cX11_within) (maxL := 3) (ret := (some .int)) (by decide) rfl (Nat.le_of_ble_eq_true rfl) ?_
  intro p e s m below meth c S hr hlk hnm hW ls hl
  obtain ⟨hx, hb, hml, hown, hts⟩ := id S
  have hl : lv_has ls 3 [(0, .int (nI n)), (1, .int (nI 0)), (2, .int (nI hi))] := hl
  have hS0 : True := trivial
  refine lv_iload_n hx hb dX11_within_0 rfl (lv_at hl 0 rfl) ?_
  refine lv_iload_n hx hb dX11_within_1 rfl (lv_at hl 1 rfl) ?_
  refine lv_icmp_ge (tgt := 9) hx hb dX11_within_2 (by decide) (fun c_1 => ?_) (fun c_1 => ?_)
  · skip
    refine lv_iload_n hx hb dX11_within_9 rfl (lv_at hl 0 rfl) ?_
    refine lv_iload_n hx hb dX11_within_10 rfl (lv_at hl 2 rfl) ?_
    refine lv_icmp_le (tgt := 18) hx hb dX11_within_11 (by decide) (fun c_2 => ?_) (fun c_2 => ?_)
    · skip
      have c_2 : n ≤ hi := (nI_leI (by omega) (by omega)).mp c_2
      refine lv_iload_n hx hb dX11_within_18 rfl (lv_at hl 0 rfl) ?_
      exact m_iret S hr hlk hW dX11_within_19 ⟨rfl, (by first | rfl | omega)⟩
    · skip
      have c_2 : ¬ n ≤ hi := mt (nI_leI (by omega) (by omega)).mpr c_2
      refine lv_iload_n hx hb dX11_within_14 rfl (lv_at hl 2 rfl) ?_
      refine lv_goto (tgt := 19) hx hb dX11_within_15 (by decide) ?_
      exact m_iret S hr hlk hW dX11_within_19 ⟨rfl, (by first | rfl | omega)⟩
  · exact absurd (nI_pos' (by omega)) c_1
set_option maxHeartbeats 4000000 in
set_option maxRecDepth 100000 in
theorem c_X11_within (l : Launch) (G : mG) (ad : Nat → Nat) (sh : Nat → Option mSh) (V : mV) (x : Int32) (lo hi : Nat) : mM l yX11_within wsX11_within ({ frames := 0, cells := 0, slots := 0, locals := 0 } : Room) G ad sh V [.int x, .int (nI lo), .int (nI hi)] 0 0 (mPe ad sh V (fCl lo hi x)) := by
  refine mM.of (cc := cX11_within) (maxL := 3) (ret := (some .int)) (by decide) rfl (Nat.le_of_ble_eq_true rfl) ?_
  intro p e s m below meth c S hr hlk hnm hW ls hl
  obtain ⟨hx, hb, hml, hown, hts⟩ := id S
  have hl : lv_has ls 3 [(0, .int x), (1, .int (nI lo)), (2, .int (nI hi))] := hl
  have hS0 : True := trivial
  refine lv_iload_n hx hb dX11_within_0 rfl (lv_at hl 0 rfl) ?_
  refine lv_iload_n hx hb dX11_within_1 rfl (lv_at hl 1 rfl) ?_
  refine lv_icmp_ge (tgt := 9) hx hb dX11_within_2 (by decide) (fun c_1 => ?_) (fun c_1 => ?_)
  · skip
    refine lv_iload_n hx hb dX11_within_9 rfl (lv_at hl 0 rfl) ?_
    refine lv_iload_n hx hb dX11_within_10 rfl (lv_at hl 2 rfl) ?_
    refine lv_icmp_le (tgt := 18) hx hb dX11_within_11 (by decide) (fun c_2 => ?_) (fun c_2 => ?_)
    · skip
      refine lv_iload_n hx hb dX11_within_18 rfl (lv_at hl 0 rfl) ?_
      exact m_iret S hr hlk hW dX11_within_19 ⟨rfl, (by simp only [fCl]; first | (rw [if_pos (Int32.not_le.mp c_2)]; done) | (rw [if_neg (Int32.not_lt.mpr c_1), if_pos c_2]; done) | (rw [if_neg (Int32.not_lt.mpr c_1), if_neg c_2]; done) | simp_all)⟩
    · skip
      refine lv_iload_n hx hb dX11_within_14 rfl (lv_at hl 2 rfl) ?_
      refine lv_goto (tgt := 19) hx hb dX11_within_15 (by decide) ?_
      exact m_iret S hr hlk hW dX11_within_19 ⟨rfl, (by simp only [fCl]; first | (rw [if_pos (Int32.not_le.mp c_2)]; done) | (rw [if_neg (Int32.not_lt.mpr c_1), if_pos c_2]; done) | (rw [if_neg (Int32.not_lt.mpr c_1), if_neg c_2]; done) | simp_all)⟩
  · skip
    refine lv_iload_n hx hb dX11_within_5 rfl (lv_at hl 1 rfl) ?_
    refine lv_goto (tgt := 19) hx hb dX11_within_6 (by decide) ?_
    exact m_iret S hr hlk hW dX11_within_19 ⟨rfl, (by simp only [fCl]; first | (rw [if_pos (Int32.not_le.mp c_1)]; done) | (rw [if_neg (Int32.not_lt.mpr c_1), if_pos c_1]; done) | (rw [if_neg (Int32.not_lt.mpr c_1), if_neg c_1]; done) | simp_all)⟩
set_option maxHeartbeats 4000000 in
set_option maxRecDepth 100000 in
theorem c_X11_ones (l : Launch) (G : mG) (ad : Nat → Nat) (sh : Nat → Option mSh) (V : mV) (n : Nat) (hn : n < 1024) : mM l yX11_ones wsX11_ones ({ frames := 0, cells := 0, slots := 0, locals := 0 } : Room) G ad sh V [.int (nI n)] 0 0 (mPe ad sh V (nI (fOnes n))) := by
  refine mM.of (cc := cX11_ones) (maxL := 3) (ret := (some .int)) (by decide) rfl (Nat.le_of_ble_eq_true rfl) ?_
  intro p e s m below meth c S hr hlk hnm hW ls hl
  obtain ⟨hx, hb, hml, hown, hts⟩ := id S
  have hl : lv_has ls 3 [(0, .int (nI n))] := hl
  have hS0 : True := trivial
  refine lv_iconst (v := nI 0) hx hb dX11_ones_0 (by decide) ?_
  refine lv_istore_n (lv' := [(1, .int (nI 0)), (0, .int (nI n))]) hx hb dX11_ones_1 rfl hl (by decide) rfl (fun ls hl => ?_)
  refine lv_iconst (v := nI 0) hx hb dX11_ones_2 (by decide) ?_
  refine lv_istore_n (lv' := [(2, .int (nI 0)), (1, .int (nI 0)), (0, .int (nI n))]) hx hb dX11_ones_3 rfl hl (by decide) rfl (fun ls hl => ?_)
  have loop_4 : ∀ (n_4 : Nat) (sm k : Nat) (H : Heap) (locs : List Loc) (ls : Array Slot), (k ≤ 10) → (sm = fOn n k) → (10 - k) < n_4 → mC (mA ad sh s.heap.size) s.heap s G ad sh V H locs → lv_has ls 3 [(0, .int (nI n)), (1, .int (nI sm)), (2, .int (nI k))] → W p l e ({ frames := 0, cells := 0, slots := 0, locals := 0 } : Room) s m ([.int (nI n)] : List Value).toArray below meth c H locs 0 0 (MQ below (mPost G ad sh s.heap.size (mPe ad sh V (nI (fOnes n)))) ([.int (nI n)] : List Value).toArray s 0 0 (mA ad sh s.heap.size)) (F0 m 4 ls []) := by
    intro n_4
    induction n_4 with
    | zero => intro sm k H locs ls hk hs hM_ hW hl; omega
    | succ n_4 ih_4 =>
      intro sm k H locs ls hk hs hM_ hW hl
      refine lv_iload_n hx hb dX11_ones_4 rfl (lv_at hl 2 rfl) ?_
      refine lv_bipush (v := nI 10) hx hb dX11_ones_5 (by decide) ?_
      refine lv_icmp_ge (tgt := 24) hx hb dX11_ones_7 (by decide) (fun c_1 => ?_) (fun c_1 => ?_)
      · skip
        have c_1 : 10 ≤ k := (nI_leI (by omega) (by omega)).mp c_1
        refine lv_iload_n hx hb dX11_ones_24 rfl (lv_at hl 1 rfl) ?_
        exact m_iret S hr hlk hW dX11_ones_25 ⟨rfl, (by rw [hs, show k = 10 by omega, fOn_10])⟩
      · skip
        have c_1 : ¬ 10 ≤ k := mt (nI_leI (by omega) (by omega)).mpr c_1
        refine lv_iload_n hx hb dX11_ones_10 rfl (lv_at hl 1 rfl) ?_
        refine lv_iload_n hx hb dX11_ones_11 rfl (lv_at hl 0 rfl) ?_
        refine lv_iload_n hx hb dX11_ones_12 rfl (lv_at hl 2 rfl) ?_
        refine lv_ishr hx hb dX11_ones_13 ?_
        refine lv_iconst (v := nI 1) hx hb dX11_ones_14 (by decide) ?_
        refine lv_iand hx hb dX11_ones_15 ?_
        refine m_top (y := nI (n / 2 ^ k % 2)) (m_bit (by omega) (by omega)) ?_
        refine lv_iadd hx hb dX11_ones_16 ?_
        refine m_top (y := nI (sm + (n / 2 ^ k % 2))) (nI_add sm (n / 2 ^ k % 2)) ?_
        refine lv_istore_n (lv' := [(1, .int (nI (sm + (n / 2 ^ k % 2)))), (0, .int (nI n)), (2, .int (nI k))]) hx hb dX11_ones_17 rfl hl (by decide) rfl (fun ls hl => ?_)
        refine lv_iinc (v := nI (k + 1)) (lv' := [(2, .int (nI (k + 1))), (1, .int (nI (sm + (n / 2 ^ k % 2)))), (0, .int (nI n))]) hx hb dX11_ones_18 hl (k := 2) rfl (m_inc k 1) (by decide) rfl (fun ls hl => ?_)
        refine lv_goto (tgt := 4) hx hb dX11_ones_21 (by decide) ?_
        exact ih_4  (sm + (n / 2 ^ k % 2)) (k + 1)  _ _ _ (by omega) (by rw [fOn, ← hs]) (by omega) hW (lv_sub hl [2, 1, 0] rfl)
  exact loop_4 (10 - 0 + 1) 0 0  _ _ _ (by omega) (by rfl) (by omega) hW (lv_sub hl [2, 1, 0] rfl)
set_option maxHeartbeats 4000000 in
set_option maxRecDepth 100000 in
theorem c_X11_two (l : Launch) (G : mG) (ad : Nat → Nat) (sh : Nat → Option mSh) (V : mV) (x a b : Int32) : mM l yX11_two wsX11_two ({ frames := 0, cells := 0, slots := 0, locals := 0 } : Room) G ad sh V [.int x, .int a, .int b] 0 0 (mPe ad sh V (fTwo x a b)) := by
  refine mM.of (cc := cX11_two) (maxL := 3) (ret := (some .int)) (by decide) rfl (Nat.le_of_ble_eq_true rfl) ?_
  intro p e s m below meth c S hr hlk hnm hW ls hl
  obtain ⟨hx, hb, hml, hown, hts⟩ := id S
  have hl : lv_has ls 3 [(0, .int x), (1, .int a), (2, .int b)] := hl
  have hS0 : True := trivial
  refine lv_iload_n hx hb dX11_two_0 rfl (lv_at hl 0 rfl) ?_
  by_cases c_1 : x = nI 11
  · skip
    refine lv_tableIn (off := 43) (tgt := 44) hx hb dX11_two_1 (by rw [c_1]; decide) (by rw [c_1]; decide) (by rw [c_1]; decide +kernel) (by decide) ?_
    refine lv_iload_n hx hb dX11_two_44 rfl (lv_at hl 1 rfl) ?_
    refine m_if_ne (tgt := 52) hx hb dX11_two_45 (by decide) (fun c_2 => ?_) (fun c_2 => ?_)
    · skip
      refine lv_iconst (v := nI 1) hx hb dX11_two_52 (by decide) ?_
      refine lv_goto (tgt := 57) hx hb dX11_two_53 (by decide) ?_
      exact m_iret S hr hlk hW dX11_two_57 ⟨rfl, (by simp only [fTwo, c_1, c_2]; first | rfl | simp [c_1, c_2, nI_lit] | simp_all [nI_lit])⟩
    · skip
      refine lv_iload_n hx hb dX11_two_48 rfl (lv_at hl 2 rfl) ?_
      refine m_if_eq (tgt := 56) hx hb dX11_two_49 (by decide) (fun c_3 => ?_) (fun c_3 => ?_)
      · skip
        refine lv_iconst (v := nI 0) hx hb dX11_two_56 (by decide) ?_
        exact m_iret S hr hlk hW dX11_two_57 ⟨rfl, (by simp only [fTwo, c_1, c_2, c_3]; first | rfl | simp [c_1, c_2, c_3, nI_lit] | simp_all [nI_lit])⟩
      · skip
        refine lv_iconst (v := nI 1) hx hb dX11_two_52 (by decide) ?_
        refine lv_goto (tgt := 57) hx hb dX11_two_53 (by decide) ?_
        exact m_iret S hr hlk hW dX11_two_57 ⟨rfl, (by simp only [fTwo, c_1, c_2, c_3]; first | rfl | simp [c_1, c_2, c_3, nI_lit] | simp_all [nI_lit])⟩
  by_cases c_4 : x = nI 12
  · skip
    refine lv_tableIn (off := 57) (tgt := 58) hx hb dX11_two_1 (by rw [c_4]; decide) (by rw [c_4]; decide) (by rw [c_4]; decide +kernel) (by decide) ?_
    refine lv_iload_n hx hb dX11_two_58 rfl (lv_at hl 1 rfl) ?_
    refine m_if_eq (tgt := 70) hx hb dX11_two_59 (by decide) (fun c_5 => ?_) (fun c_5 => ?_)
    · skip
      refine lv_iconst (v := nI 0) hx hb dX11_two_70 (by decide) ?_
      exact m_iret S hr hlk hW dX11_two_71 ⟨rfl, (by simp only [fTwo, c_1, c_4, c_5]; first | rfl | simp [c_1, c_4, c_5, nI_lit] | simp_all [nI_lit])⟩
    · skip
      refine lv_iload_n hx hb dX11_two_62 rfl (lv_at hl 2 rfl) ?_
      refine m_if_eq (tgt := 70) hx hb dX11_two_63 (by decide) (fun c_6 => ?_) (fun c_6 => ?_)
      · skip
        refine lv_iconst (v := nI 0) hx hb dX11_two_70 (by decide) ?_
        exact m_iret S hr hlk hW dX11_two_71 ⟨rfl, (by simp only [fTwo, c_1, c_4, c_5, c_6]; first | rfl | simp [c_1, c_4, c_5, c_6, nI_lit] | simp_all [nI_lit])⟩
      · skip
        refine lv_iconst (v := nI 1) hx hb dX11_two_66 (by decide) ?_
        refine lv_goto (tgt := 71) hx hb dX11_two_67 (by decide) ?_
        exact m_iret S hr hlk hW dX11_two_71 ⟨rfl, (by simp only [fTwo, c_1, c_4, c_5, c_6]; first | rfl | simp [c_1, c_4, c_5, c_6, nI_lit] | simp_all [nI_lit])⟩
  by_cases c_7 : x = nI 13
  · skip
    refine lv_tableIn (off := 101) (tgt := 102) hx hb dX11_two_1 (by rw [c_7]; decide) (by rw [c_7]; decide) (by rw [c_7]; decide +kernel) (by decide) ?_
    refine lv_iload_n hx hb dX11_two_102 rfl (lv_at hl 1 rfl) ?_
    refine lv_iload_n hx hb dX11_two_103 rfl (lv_at hl 2 rfl) ?_
    refine lv_imul hx hb dX11_two_104 ?_
    exact m_iret S hr hlk hW dX11_two_105 ⟨rfl, (by simp only [fTwo, c_1, c_4, c_7]; first | rfl | simp [c_1, c_4, c_7, nI_lit] | simp_all [nI_lit])⟩
  by_cases c_8 : x = nI 14
  · skip
    refine lv_tableIn (off := 71) (tgt := 72) hx hb dX11_two_1 (by rw [c_8]; decide) (by rw [c_8]; decide) (by rw [c_8]; decide +kernel) (by decide) ?_
    refine lv_iload_n hx hb dX11_two_72 rfl (lv_at hl 1 rfl) ?_
    refine lv_iload_n hx hb dX11_two_73 rfl (lv_at hl 2 rfl) ?_
    refine lv_icmp_ge (tgt := 81) hx hb dX11_two_74 (by decide) (fun c_9 => ?_) (fun c_9 => ?_)
    · skip
      refine lv_iconst (v := nI 0) hx hb dX11_two_81 (by decide) ?_
      exact m_iret S hr hlk hW dX11_two_82 ⟨rfl, (by simp only [fTwo, c_1, c_4, c_7, c_8, c_9]; first | rfl | simp [c_1, c_4, c_7, c_8, c_9, nI_lit] | simp_all [nI_lit])⟩
    · skip
      refine lv_iconst (v := nI 1) hx hb dX11_two_77 (by decide) ?_
      refine lv_goto (tgt := 82) hx hb dX11_two_78 (by decide) ?_
      exact m_iret S hr hlk hW dX11_two_82 ⟨rfl, (by simp only [fTwo, c_1, c_4, c_7, c_8, c_9]; first | rfl | simp [c_1, c_4, c_7, c_8, c_9, nI_lit] | simp_all [nI_lit])⟩
  by_cases c_10 : x = nI 15
  · skip
    refine lv_tableIn (off := 82) (tgt := 83) hx hb dX11_two_1 (by rw [c_10]; decide) (by rw [c_10]; decide) (by rw [c_10]; decide +kernel) (by decide) ?_
    refine lv_iload_n hx hb dX11_two_83 rfl (lv_at hl 1 rfl) ?_
    refine lv_iload_n hx hb dX11_two_84 rfl (lv_at hl 2 rfl) ?_
    refine lv_icmp_ne (tgt := 92) hx hb dX11_two_85 (by decide) (fun c_11 => ?_) (fun c_11 => ?_)
    · skip
      refine lv_iconst (v := nI 0) hx hb dX11_two_92 (by decide) ?_
      exact m_iret S hr hlk hW dX11_two_93 ⟨rfl, (by simp only [fTwo, c_1, c_4, c_7, c_8, c_10, c_11]; first | rfl | simp [c_1, c_4, c_7, c_8, c_10, c_11, nI_lit] | simp_all [nI_lit])⟩
    · skip
      refine lv_iconst (v := nI 1) hx hb dX11_two_88 (by decide) ?_
      refine lv_goto (tgt := 93) hx hb dX11_two_89 (by decide) ?_
      exact m_iret S hr hlk hW dX11_two_93 ⟨rfl, (by simp only [fTwo, c_1, c_4, c_7, c_8, c_10, c_11]; first | rfl | simp [c_1, c_4, c_7, c_8, c_10, c_11, nI_lit] | simp_all [nI_lit])⟩
  by_cases c_12 : x = nI 16
  · skip
    refine lv_tableIn (off := 93) (tgt := 94) hx hb dX11_two_1 (by rw [c_12]; decide) (by rw [c_12]; decide) (by rw [c_12]; decide +kernel) (by decide) ?_
    refine lv_iload_n hx hb dX11_two_94 rfl (lv_at hl 1 rfl) ?_
    refine lv_iload_n hx hb dX11_two_95 rfl (lv_at hl 2 rfl) ?_
    refine lv_iadd hx hb dX11_two_96 ?_
    exact m_iret S hr hlk hW dX11_two_97 ⟨rfl, (by simp only [fTwo, c_1, c_4, c_7, c_8, c_10, c_12]; first | rfl | simp [c_1, c_4, c_7, c_8, c_10, c_12, nI_lit] | simp_all [nI_lit])⟩
  by_cases c_13 : x = nI 17
  · skip
    refine lv_tableIn (off := 97) (tgt := 98) hx hb dX11_two_1 (by rw [c_13]; decide) (by rw [c_13]; decide) (by rw [c_13]; decide +kernel) (by decide) ?_
    refine lv_iload_n hx hb dX11_two_98 rfl (lv_at hl 1 rfl) ?_
    refine lv_iload_n hx hb dX11_two_99 rfl (lv_at hl 2 rfl) ?_
    refine lv_isub hx hb dX11_two_100 ?_
    exact m_iret S hr hlk hW dX11_two_101 ⟨rfl, (by simp only [fTwo, c_1, c_4, c_7, c_8, c_10, c_12, c_13]; first | rfl | simp [c_1, c_4, c_7, c_8, c_10, c_12, c_13, nI_lit] | simp_all [nI_lit])⟩
  refine lv_tableOut (tgt := 102) hx hb dX11_two_1 (by have a0 := lv_neT c_1 (show (nI 11 : Int32).toInt = 11 by decide); have a1 := lv_neT c_4 (show (nI 12 : Int32).toInt = 12 by decide); have a2 := lv_neT c_7 (show (nI 13 : Int32).toInt = 13 by decide); have a3 := lv_neT c_8 (show (nI 14 : Int32).toInt = 14 by decide); have a4 := lv_neT c_10 (show (nI 15 : Int32).toInt = 15 by decide); have a5 := lv_neT c_12 (show (nI 16 : Int32).toInt = 16 by decide); have a6 := lv_neT c_13 (show (nI 17 : Int32).toInt = 17 by decide); omega) (by decide) ?_
  refine lv_iload_n hx hb dX11_two_102 rfl (lv_at hl 1 rfl) ?_
  refine lv_iload_n hx hb dX11_two_103 rfl (lv_at hl 2 rfl) ?_
  refine lv_imul hx hb dX11_two_104 ?_
  exact m_iret S hr hlk hW dX11_two_105 ⟨rfl, (by simp only [fTwo, c_1, c_4, c_7, c_8, c_10, c_12, c_13]; first | rfl | simp [c_1, c_4, c_7, c_8, c_10, c_12, c_13, nI_lit] | simp_all [nI_lit])⟩
set_option maxHeartbeats 4000000 in
set_option maxRecDepth 100000 in
theorem c_X11_isUnder (l : Launch) (G : mG) (ad : Nat → Nat) (sh : Nat → Option mSh) (V : mV) (k x : Int32) : mM l yX11_isUnder wsX11_isUnder ({ frames := 0, cells := 0, slots := 0, locals := 0 } : Room) G ad sh V [.int k, .int x] 0 0 (mPe ad sh V (if fUnder k x = true then nI 1 else nI 0)) := by
  refine mM.of (cc := cX11_isUnder) (maxL := 2) (ret := (some .boolean)) (by decide) rfl (Nat.le_of_ble_eq_true rfl) ?_
  intro p e s m below meth c S hr hlk hnm hW ls hl
  obtain ⟨hx, hb, hml, hown, hts⟩ := id S
  have hl : lv_has ls 2 [(0, .int k), (1, .int x)] := hl
  have hS0 : True := trivial
  refine lv_iload_n hx hb dX11_isUnder_0 rfl (lv_at hl 1 rfl) ?_
  refine m_if_eq (tgt := 29) hx hb dX11_isUnder_1 (by decide) (fun c_1 => ?_) (fun c_1 => ?_)
  · skip
    refine lv_iconst (v := nI 1) hx hb dX11_isUnder_29 (by decide) ?_
    refine lv_goto (tgt := 34) hx hb dX11_isUnder_30 (by decide) ?_
    exact m_zret S hr hlk hW rfl dX11_isUnder_34 ⟨rfl, (by have hkx : (x = k) = (k = x) := propext eq_comm; simp only [fUnder, hkx]; simp_all)⟩
  · skip
    refine lv_iload_n hx hb dX11_isUnder_4 rfl (lv_at hl 0 rfl) ?_
    refine lv_iload_n hx hb dX11_isUnder_5 rfl (lv_at hl 1 rfl) ?_
    refine lv_icmp_eq (tgt := 29) hx hb dX11_isUnder_6 (by decide) (fun c_2 => ?_) (fun c_2 => ?_)
    · skip
      refine lv_iconst (v := nI 1) hx hb dX11_isUnder_29 (by decide) ?_
      refine lv_goto (tgt := 34) hx hb dX11_isUnder_30 (by decide) ?_
      exact m_zret S hr hlk hW rfl dX11_isUnder_34 ⟨rfl, (by have hkx : (x = k) = (k = x) := propext eq_comm; simp only [fUnder, hkx]; simp_all)⟩
    · skip
      refine lv_iload_n hx hb dX11_isUnder_9 rfl (lv_at hl 1 rfl) ?_
      refine lv_iconst (v := nI 1) hx hb dX11_isUnder_10 (by decide) ?_
      refine lv_icmp_ne (tgt := 19) hx hb dX11_isUnder_11 (by decide) (fun c_3 => ?_) (fun c_3 => ?_)
      · skip
        refine lv_iload_n hx hb dX11_isUnder_19 rfl (lv_at hl 1 rfl) ?_
        refine lv_iconst (v := nI 2) hx hb dX11_isUnder_20 (by decide) ?_
        refine lv_icmp_ne (tgt := 33) hx hb dX11_isUnder_21 (by decide) (fun c_4 => ?_) (fun c_4 => ?_)
        · skip
          refine lv_iconst (v := nI 0) hx hb dX11_isUnder_33 (by decide) ?_
          exact m_zret S hr hlk hW rfl dX11_isUnder_34 ⟨rfl, (by have hkx : (x = k) = (k = x) := propext eq_comm; simp only [fUnder, hkx]; simp_all)⟩
        · skip
          refine lv_iload_n hx hb dX11_isUnder_24 rfl (lv_at hl 0 rfl) ?_
          refine lv_iconst (v := nI 4) hx hb dX11_isUnder_25 (by decide) ?_
          refine lv_icmp_ne (tgt := 33) hx hb dX11_isUnder_26 (by decide) (fun c_5 => ?_) (fun c_5 => ?_)
          · skip
            refine lv_iconst (v := nI 0) hx hb dX11_isUnder_33 (by decide) ?_
            exact m_zret S hr hlk hW rfl dX11_isUnder_34 ⟨rfl, (by have hkx : (x = k) = (k = x) := propext eq_comm; simp only [fUnder, hkx]; simp_all)⟩
          · skip
            refine lv_iconst (v := nI 1) hx hb dX11_isUnder_29 (by decide) ?_
            refine lv_goto (tgt := 34) hx hb dX11_isUnder_30 (by decide) ?_
            exact m_zret S hr hlk hW rfl dX11_isUnder_34 ⟨rfl, (by have hkx : (x = k) = (k = x) := propext eq_comm; simp only [fUnder, hkx]; simp_all)⟩
      · skip
        refine lv_iload_n hx hb dX11_isUnder_14 rfl (lv_at hl 0 rfl) ?_
        refine lv_iconst (v := nI 3) hx hb dX11_isUnder_15 (by decide) ?_
        refine lv_icmp_eq (tgt := 29) hx hb dX11_isUnder_16 (by decide) (fun c_6 => ?_) (fun c_6 => ?_)
        · skip
          refine lv_iconst (v := nI 1) hx hb dX11_isUnder_29 (by decide) ?_
          refine lv_goto (tgt := 34) hx hb dX11_isUnder_30 (by decide) ?_
          exact m_zret S hr hlk hW rfl dX11_isUnder_34 ⟨rfl, (by have hkx : (x = k) = (k = x) := propext eq_comm; simp only [fUnder, hkx]; simp_all)⟩
        · skip
          refine lv_iload_n hx hb dX11_isUnder_19 rfl (lv_at hl 1 rfl) ?_
          refine lv_iconst (v := nI 2) hx hb dX11_isUnder_20 (by decide) ?_
          refine lv_icmp_ne (tgt := 33) hx hb dX11_isUnder_21 (by decide) (fun c_7 => ?_) (fun c_7 => ?_)
          · skip
            refine lv_iconst (v := nI 0) hx hb dX11_isUnder_33 (by decide) ?_
            exact m_zret S hr hlk hW rfl dX11_isUnder_34 ⟨rfl, (by have hkx : (x = k) = (k = x) := propext eq_comm; simp only [fUnder, hkx]; simp_all)⟩
          · skip
            refine lv_iload_n hx hb dX11_isUnder_24 rfl (lv_at hl 0 rfl) ?_
            refine lv_iconst (v := nI 4) hx hb dX11_isUnder_25 (by decide) ?_
            refine lv_icmp_ne (tgt := 33) hx hb dX11_isUnder_26 (by decide) (fun c_8 => ?_) (fun c_8 => ?_)
            · skip
              refine lv_iconst (v := nI 0) hx hb dX11_isUnder_33 (by decide) ?_
              exact m_zret S hr hlk hW rfl dX11_isUnder_34 ⟨rfl, (by have hkx : (x = k) = (k = x) := propext eq_comm; simp only [fUnder, hkx]; simp_all)⟩
            · skip
              refine lv_iconst (v := nI 1) hx hb dX11_isUnder_29 (by decide) ?_
              refine lv_goto (tgt := 34) hx hb dX11_isUnder_30 (by decide) ?_
              exact m_zret S hr hlk hW rfl dX11_isUnder_34 ⟨rfl, (by have hkx : (x = k) = (k = x) := propext eq_comm; simp only [fUnder, hkx]; simp_all)⟩
set_option maxHeartbeats 4000000 in
set_option maxRecDepth 100000 in
theorem c_X11_markBy (l : Launch) (G : mG) (ad : Nat → Nat) (sh : Nat → Option mSh) (V : mV) (sp le p0 : Nat) (hsp : sp < 128) (hle : le < 1024) (hp0 : p0 < 16) : mM l yX11_markBy wsX11_markBy ({ frames := 1, cells := 0, slots := 0, locals := 22 } : Room) G ad sh V [.int (nI sp), .int (nI le), .int (nI p0)] 0 0 (mPe ad sh V (nI (mkN sp le p0))) := by
  refine mM.of (cc := cX11_markBy) (maxL := 7) (ret := (some .int)) (by decide) rfl (Nat.le_of_ble_eq_true rfl) ?_
  intro p e s m below meth c S hr hlk hnm hW ls hl
  obtain ⟨hx, hb, hml, hown, hts⟩ := id S
  have hl : lv_has ls 7 [(0, .int (nI sp)), (1, .int (nI le)), (2, .int (nI p0))] := hl
  have hS0 : True := trivial
  refine lv_iconst (v := nI 0) hx hb dX11_markBy_0 (by decide) ?_
  refine lv_istore_n (lv' := [(3, .int (nI 0)), (0, .int (nI sp)), (1, .int (nI le)), (2, .int (nI p0))]) hx hb dX11_markBy_1 rfl hl (by decide) rfl (fun ls hl => ?_)
  refine lv_iconst (v := nI 0) hx hb dX11_markBy_2 (by decide) ?_
  refine lv_istore (lv' := [(4, .int (nI 0)), (3, .int (nI 0)), (0, .int (nI sp)), (1, .int (nI le)), (2, .int (nI p0))]) hx hb dX11_markBy_3 hl (by decide) rfl (fun ls hl => ?_)
  have loop_5 : ∀ (n_5 : Nat) (sm k : Nat) (H : Heap) (locs : List Loc) (ls : Array Slot), (k ≤ 10) → (sm = mkP sp le p0 k) → (10 - k) < n_5 → mC (mA ad sh s.heap.size) s.heap s G ad sh V H locs → lv_has ls 7 [(0, .int (nI sp)), (1, .int (nI le)), (2, .int (nI p0)), (3, .int (nI sm)), (4, .int (nI k))] → W p l e ({ frames := 1, cells := 0, slots := 0, locals := 22 } : Room) s m ([.int (nI sp), .int (nI le), .int (nI p0)] : List Value).toArray below meth c H locs 0 0 (MQ below (mPost G ad sh s.heap.size (mPe ad sh V (nI (mkN sp le p0)))) ([.int (nI sp), .int (nI le), .int (nI p0)] : List Value).toArray s 0 0 (mA ad sh s.heap.size)) (F0 m 5 ls []) := by
    intro n_5
    induction n_5 with
    | zero => intro sm k H locs ls hk hs hM_ hW hl; omega
    | succ n_5 ih_5 =>
      intro sm k H locs ls hk hs hM_ hW hl
      refine lv_iload hx hb dX11_markBy_5 (lv_at hl 4 rfl) ?_
      refine lv_bipush (v := nI 10) hx hb dX11_markBy_7 (by decide) ?_
      refine lv_icmp_ge (tgt := 73) hx hb dX11_markBy_9 (by decide) (fun c_1 => ?_) (fun c_1 => ?_)
      · skip
        have c_1 : 10 ≤ k := (nI_leI (by omega) (by omega)).mp c_1
        refine lv_iload_n hx hb dX11_markBy_73 rfl (lv_at hl 3 rfl) ?_
        exact m_iret S hr hlk hW dX11_markBy_74 ⟨rfl, (by rw [hs, show k = 10 by omega, mkP_10 hle])⟩
      · skip
        have c_1 : ¬ 10 ≤ k := mt (nI_leI (by omega) (by omega)).mpr c_1
        by_cases hpc : p0 ≤ k + 6
        · skip
          refine lv_iload hx hb dX11_markBy_12 (lv_at hl 4 rfl) ?_
          refine lv_iload_n hx hb dX11_markBy_14 rfl (lv_at hl 2 rfl) ?_
          refine lv_isub hx hb dX11_markBy_15 ?_
          refine lv_bipush (v := nI 6) hx hb dX11_markBy_16 (by decide) ?_
          refine lv_iadd hx hb dX11_markBy_18 ?_
          refine m_top (y := nI (k + 6 - p0)) (mb_pos (by omega) (by omega) hpc) ?_
          refine lv_istore (lv' := [(5, .int (nI (k + 6 - p0))), (0, .int (nI sp)), (1, .int (nI le)), (2, .int (nI p0)), (3, .int (nI sm)), (4, .int (nI k))]) hx hb dX11_markBy_19 hl (by decide) rfl (fun ls hl => ?_)
          refine lv_iload hx hb dX11_markBy_21 (lv_at hl 0 rfl) ?_
          refine m_if_lt (tgt := 46) hx hb dX11_markBy_23 (by decide) (fun c_2 => ?_) (fun c_2 => ?_)
          · exact absurd c_2 (nI_pos (by omega))
          · skip
            refine lv_iload_n hx hb dX11_markBy_26 rfl (lv_at hl 1 rfl) ?_
            refine lv_iload hx hb dX11_markBy_27 (lv_at hl 0 rfl) ?_
            refine lv_iconst (v := nI 0) hx hb dX11_markBy_29 (by decide) ?_
            refine lv_bipush (v := nI 30) hx hb dX11_markBy_30 (by decide) ?_
            refine m_cie (m_rS S hW (c_X11_within_n l G ad sh V (k + 6 - p0) 30 (by first | assumption | omega) (by first | assumption | omega)) (va_cwS 3 hts (gCall [.methodLink RX11 176 yX11_within, .static yX11_within, .initialized RX11] (List.forall_mem_cons.mpr ⟨(wa_20 _ (List.mem_of_getElem? (i := 8) (by decide +kernel))), (List.forall_mem_cons.mpr ⟨(wa_20 _ (List.mem_of_getElem? (i := 6) (by decide +kernel))), (List.forall_mem_cons.mpr ⟨(wa_20 _ (List.mem_of_getElem? (i := 7) (by decide +kernel))), (List.forall_mem_cons.mpr ⟨(wa_1 _ (List.mem_of_getElem? (i := 5) (by decide +kernel))), (fun _ h => absurd h List.not_mem_nil)⟩)⟩)⟩)⟩)) rfl rfl rfl (by decide +kernel) ⟨Nat.le_of_ble_eq_true rfl, Nat.le_of_ble_eq_true rfl⟩) rfl hl.1 rfl (Nat.le_of_ble_eq_true rfl) dX11_markBy_32 ⟨Nat.le_of_ble_eq_true rfl, Nat.le_of_ble_eq_true rfl⟩) hW (fun H locs hW => ?_)
            refine lv_ishr hx hb dX11_markBy_35 ?_
            refine lv_iconst (v := nI 1) hx hb dX11_markBy_36 (by decide) ?_
            refine lv_iand hx hb dX11_markBy_37 ?_
            refine m_top (y := nI (sp / 2 ^ (k + 6 - p0) % 2)) (m_bit (by omega) (by omega)) ?_
            refine lv_iconst (v := nI 1) hx hb dX11_markBy_38 (by decide) ?_
            refine lv_icmp_ne (tgt := 46) hx hb dX11_markBy_39 (by decide) (fun c_3 => ?_) (fun c_3 => ?_)
            · skip
              have c_3 : ¬ (sp / 2 ^ (k + 6 - p0) % 2) = 1 := mt (nI_eq (by omega) (by omega)).mpr c_3
              refine lv_iconst (v := nI 0) hx hb dX11_markBy_46 (by decide) ?_
              refine lv_istore (lv' := [(6, .int (nI 0)), (5, .int (nI (k + 6 - p0))), (0, .int (nI sp)), (1, .int (nI le)), (2, .int (nI p0)), (3, .int (nI sm)), (4, .int (nI k))]) hx hb dX11_markBy_47 hl (by decide) rfl (fun ls hl => ?_)
              refine lv_iload_n hx hb dX11_markBy_49 rfl (lv_at hl 5 rfl) ?_
              refine lv_iload hx hb dX11_markBy_50 (lv_at hl 0 rfl) ?_
              refine m_if_eq (tgt := 64) hx hb dX11_markBy_52 (by decide) (fun c_4 => ?_) (fun c_4 => ?_)
              · skip
                refine lv_iconst (v := nI 0) hx hb dX11_markBy_64 (by decide) ?_
                refine lv_ior hx hb dX11_markBy_65 ?_
                refine m_top (y := nI (sm ||| 0)) (by rw [m_or]) ?_
                refine lv_istore_n (lv' := [(3, .int (nI (sm ||| 0))), (6, .int (nI 0)), (5, .int (nI (k + 6 - p0))), (0, .int (nI sp)), (1, .int (nI le)), (2, .int (nI p0)), (4, .int (nI k))]) hx hb dX11_markBy_66 rfl hl (by decide) rfl (fun ls hl => ?_)
                refine lv_iinc (v := nI (k + 1)) (lv' := [(4, .int (nI (k + 1))), (3, .int (nI (sm ||| 0))), (6, .int (nI 0)), (5, .int (nI (k + 6 - p0))), (0, .int (nI sp)), (1, .int (nI le)), (2, .int (nI p0))]) hx hb dX11_markBy_67 hl (k := 6) rfl (m_inc k 1) (by decide) rfl (fun ls hl => ?_)
                refine lv_goto (tgt := 5) hx hb dX11_markBy_70 (by decide) ?_
                exact ih_5  (sm ||| 0) (k + 1)  _ _ _ (by omega) (by rw [mkP_f (fun _ => c_3), ← hs, Nat.or_zero]) (by omega) hW (lv_sub hl [4, 5, 6, 1, 0] rfl)
              · exact absurd c_4 (by decide)
            · skip
              have c_3 : (sp / 2 ^ (k + 6 - p0) % 2) = 1 := (nI_eq (by omega) (by omega)).mp c_3
              refine lv_iconst (v := nI 1) hx hb dX11_markBy_42 (by decide) ?_
              refine lv_goto (tgt := 47) hx hb dX11_markBy_43 (by decide) ?_
              refine lv_istore (lv' := [(6, .int (nI 1)), (5, .int (nI (k + 6 - p0))), (0, .int (nI sp)), (1, .int (nI le)), (2, .int (nI p0)), (3, .int (nI sm)), (4, .int (nI k))]) hx hb dX11_markBy_47 hl (by decide) rfl (fun ls hl => ?_)
              refine lv_iload_n hx hb dX11_markBy_49 rfl (lv_at hl 5 rfl) ?_
              refine lv_iload hx hb dX11_markBy_50 (lv_at hl 0 rfl) ?_
              refine m_if_eq (tgt := 64) hx hb dX11_markBy_52 (by decide) (fun c_5 => ?_) (fun c_5 => ?_)
              · exact absurd c_5 (by decide)
              · skip
                refine lv_iload_n hx hb dX11_markBy_55 rfl (lv_at hl 3 rfl) ?_
                refine lv_iconst (v := nI 1) hx hb dX11_markBy_56 (by decide) ?_
                refine lv_iload hx hb dX11_markBy_57 (lv_at hl 6 rfl) ?_
                refine lv_ishl hx hb dX11_markBy_59 ?_
                refine m_top (y := nI (1 * 2 ^ k)) (m_shl (by omega) (mb_pow (by omega))) ?_
                refine lv_iand hx hb dX11_markBy_60 ?_
                refine m_top (y := nI (le &&& 2 ^ k)) (by rw [m_and, Nat.one_mul]) ?_
                refine lv_goto (tgt := 65) hx hb dX11_markBy_61 (by decide) ?_
                refine lv_ior hx hb dX11_markBy_65 ?_
                refine m_top (y := nI (sm ||| (le &&& 2 ^ k))) (m_or) ?_
                refine lv_istore_n (lv' := [(3, .int (nI (sm ||| (le &&& 2 ^ k)))), (6, .int (nI 1)), (5, .int (nI (k + 6 - p0))), (0, .int (nI sp)), (1, .int (nI le)), (2, .int (nI p0)), (4, .int (nI k))]) hx hb dX11_markBy_66 rfl hl (by decide) rfl (fun ls hl => ?_)
                refine lv_iinc (v := nI (k + 1)) (lv' := [(4, .int (nI (k + 1))), (3, .int (nI (sm ||| (le &&& 2 ^ k)))), (6, .int (nI 1)), (5, .int (nI (k + 6 - p0))), (0, .int (nI sp)), (1, .int (nI le)), (2, .int (nI p0))]) hx hb dX11_markBy_67 hl (k := 6) rfl (m_inc k 1) (by decide) rfl (fun ls hl => ?_)
                refine lv_goto (tgt := 5) hx hb dX11_markBy_70 (by decide) ?_
                exact ih_5  (sm ||| (le &&& 2 ^ k)) (k + 1)  _ _ _ (by omega) (by rw [mkP_t hpc c_3, ← hs]) (by omega) hW (lv_sub hl [4, 5, 6, 1, 0] rfl)
        · skip
          refine lv_iload hx hb dX11_markBy_12 (lv_at hl 4 rfl) ?_
          refine lv_iload_n hx hb dX11_markBy_14 rfl (lv_at hl 2 rfl) ?_
          refine lv_isub hx hb dX11_markBy_15 ?_
          refine lv_bipush (v := nI 6) hx hb dX11_markBy_16 (by decide) ?_
          refine lv_iadd hx hb dX11_markBy_18 ?_
          refine lv_istore (lv' := [(5, .int (((nI k) - (nI p0)) + (nI 6))), (0, .int (nI sp)), (1, .int (nI le)), (2, .int (nI p0)), (3, .int (nI sm)), (4, .int (nI k))]) hx hb dX11_markBy_19 hl (by decide) rfl (fun ls hl => ?_)
          refine lv_iload hx hb dX11_markBy_21 (lv_at hl 0 rfl) ?_
          refine m_if_lt (tgt := 46) hx hb dX11_markBy_23 (by decide) (fun c_6 => ?_) (fun c_6 => ?_)
          · skip
            refine lv_iconst (v := nI 0) hx hb dX11_markBy_46 (by decide) ?_
            refine lv_istore (lv' := [(6, .int (nI 0)), (5, .int (((nI k) - (nI p0)) + (nI 6))), (0, .int (nI sp)), (1, .int (nI le)), (2, .int (nI p0)), (3, .int (nI sm)), (4, .int (nI k))]) hx hb dX11_markBy_47 hl (by decide) rfl (fun ls hl => ?_)
            refine lv_iload_n hx hb dX11_markBy_49 rfl (lv_at hl 5 rfl) ?_
            refine lv_iload hx hb dX11_markBy_50 (lv_at hl 0 rfl) ?_
            refine m_if_eq (tgt := 64) hx hb dX11_markBy_52 (by decide) (fun c_7 => ?_) (fun c_7 => ?_)
            · skip
              refine lv_iconst (v := nI 0) hx hb dX11_markBy_64 (by decide) ?_
              refine lv_ior hx hb dX11_markBy_65 ?_
              refine m_top (y := nI (sm ||| 0)) (by rw [m_or]) ?_
              refine lv_istore_n (lv' := [(3, .int (nI (sm ||| 0))), (6, .int (nI 0)), (5, .int (((nI k) - (nI p0)) + (nI 6))), (0, .int (nI sp)), (1, .int (nI le)), (2, .int (nI p0)), (4, .int (nI k))]) hx hb dX11_markBy_66 rfl hl (by decide) rfl (fun ls hl => ?_)
              refine lv_iinc (v := nI (k + 1)) (lv' := [(4, .int (nI (k + 1))), (3, .int (nI (sm ||| 0))), (6, .int (nI 0)), (5, .int (((nI k) - (nI p0)) + (nI 6))), (0, .int (nI sp)), (1, .int (nI le)), (2, .int (nI p0))]) hx hb dX11_markBy_67 hl (k := 6) rfl (m_inc k 1) (by decide) rfl (fun ls hl => ?_)
              refine lv_goto (tgt := 5) hx hb dX11_markBy_70 (by decide) ?_
              exact ih_5  (sm ||| 0) (k + 1)  _ _ _ (by omega) (by rw [mkP_f (fun z => absurd z hpc), ← hs, Nat.or_zero]) (by omega) hW (lv_sub hl [4, 5, 6, 1, 0] rfl)
            · exact absurd c_7 (by decide)
          · skip
            exact absurd (mb_neg (by omega) (by omega) hpc) c_6
  exact loop_5 (10 - 0 + 1) 0 0  _ _ _ (by omega) (by rw [mkP_0]) (by omega) hW (lv_sub hl [2, 3, 4, 1, 0] rfl)
