/-! within; eaters; goods -/
/-- the bits of a bite -/
def fShape (k mo j so : Int32) : Int32 :=
  if k = nI 1 then j ||| (j <<< (nI 1 &&& 31))
  else if k = nI 2 then (if so < nI 5 then nI 0 else j)
  else if k = nI 3 then (j ||| (j <<< (nI 1 &&& 31))) &&& (-(j ||| (j <<< (nI 1 &&& 31))))
  else if k = nI 4 then (if so < nI 5 then nI 0 else j)
  else if k = nI 5 then (nI 2 <<< ((mo / nI 2) &&& 31)) - nI 1
  else j
set_option maxHeartbeats 4000000 in
set_option maxRecDepth 100000 in
theorem c_X10_within (l : Launch) (G : mG) (ad : Nat → Nat) (sh : Nat → Option mSh) (V : mV) (x a b : Int32) : mM l yX10_within wsX10_within ({ frames := 0, cells := 0, slots := 0, locals := 0 } : Room) G ad sh V [.int x, .int a, .int b] 0 0 (mPip ad sh V (fun r => (nI 1 = r ∧ (a ≤ x) ∧ (x ≤ b)) ∨ (nI 0 = r ∧ (¬ (a ≤ x ∧ x ≤ b))))) := by
  refine mM.of (cc := cX10_within) (maxL := 3) (ret := (some .boolean)) (by decide) rfl (Nat.le_of_ble_eq_true rfl) ?_
  intro p e s m below meth c S hr hlk hnm hW ls hl
  obtain ⟨hx, hb, hml, hown, hts⟩ := id S
  have hl : lv_has ls 3 [(0, .int x), (1, .int a), (2, .int b)] := hl
  have hS0 : True := trivial
  refine lv_iload_n hx hb dX10_within_0 rfl (lv_at hl 0 rfl) ?_
  refine lv_iload_n hx hb dX10_within_1 rfl (lv_at hl 1 rfl) ?_
  refine lv_icmp_lt (tgt := 14) hx hb dX10_within_2 (by decide) (fun c_1 => ?_) (fun c_1 => ?_)
  · skip
    refine lv_iconst (v := nI 0) hx hb dX10_within_14 (by decide) ?_
    exact m_zret S hr hlk hW rfl dX10_within_15 ⟨rfl, (by simp only [Int32.lt_iff_toInt_lt, Int32.le_iff_toInt_le, Int32.not_lt] at c_1 ⊢; first | exact Or.inl ⟨rfl, by omega, by omega⟩ | exact Or.inr ⟨rfl, by omega⟩)⟩
  · skip
    refine lv_iload_n hx hb dX10_within_5 rfl (lv_at hl 0 rfl) ?_
    refine lv_iload_n hx hb dX10_within_6 rfl (lv_at hl 2 rfl) ?_
    refine lv_icmp_gt (tgt := 14) hx hb dX10_within_7 (by decide) (fun c_2 => ?_) (fun c_2 => ?_)
    · skip
      refine lv_iconst (v := nI 0) hx hb dX10_within_14 (by decide) ?_
      exact m_zret S hr hlk hW rfl dX10_within_15 ⟨rfl, (by simp only [Int32.lt_iff_toInt_lt, Int32.le_iff_toInt_le, Int32.not_lt] at c_1 c_2 ⊢; first | exact Or.inl ⟨rfl, by omega, by omega⟩ | exact Or.inr ⟨rfl, by omega⟩)⟩
    · skip
      refine lv_iconst (v := nI 1) hx hb dX10_within_10 (by decide) ?_
      refine lv_goto (tgt := 15) hx hb dX10_within_11 (by decide) ?_
      exact m_zret S hr hlk hW rfl dX10_within_15 ⟨rfl, (by simp only [Int32.lt_iff_toInt_lt, Int32.le_iff_toInt_le, Int32.not_lt] at c_1 c_2 ⊢; first | exact Or.inl ⟨rfl, by omega, by omega⟩ | exact Or.inr ⟨rfl, by omega⟩)⟩
theorem iX1_shapeIn_X1 : ∀ w ∈ u_ws RX1 TX1 5, w ∈ wsX1_shapeIn := fun _ h => List.mem_cons_of_mem _ (List.mem_append_left _ (List.mem_append_right _ h))
theorem iX1_shapeIn_X3 : ∀ w ∈ u_ws RX3 TX3 3, w ∈ wsX1_shapeIn := fun _ h => List.mem_cons_of_mem _ (List.mem_append_right _ h)
set_option maxHeartbeats 4000000 in
set_option maxRecDepth 100000 in
theorem c_X1_shapeIn (l : Launch) (G : mG) (ad : Nat → Nat) (sh : Nat → Option mSh) (V : mV) (i g : Nat) (hi : sh i = some sEater) (hg : sh g = some (sGood g)) (hg' : sh (g + 1) = some (mI 10)) : mM l yX1_shapeIn wsX1_shapeIn ({ frames := 0, cells := 0, slots := 0, locals := 0 } : Room) G ad sh V [.ref (ad i), .ref (ad g)] 0 0 (mPe ad sh V (fShape (V i 0) (V i 1) (V i 2) (V g 1))) := by
  refine mM.of (cc := cX1_shapeIn) (maxL := 3) (ret := (some .int)) (by decide) rfl (Nat.le_of_ble_eq_true rfl) ?_
  intro p e s m below meth c S hr hlk hnm hW ls hl
  obtain ⟨hx, hb, hml, hown, hts⟩ := id S
  have hl : lv_has ls 3 [(0, .ref (ad i)), (1, .ref (ad g))] := hl
  have hS0 : True := trivial
  refine lv_aload_n hx hb dX1_shapeIn_0 rfl (lv_at hl 0 rfl) ?_
  refine m_geti S hW hi 2 rfl kX1 iX1_shapeIn_X1 (by decide) (List.mem_of_getElem? (i := 1) (by decide +kernel)) dX1_shapeIn_1 ?_
  refine lv_aload_n hx hb dX1_shapeIn_4 rfl (lv_at hl 0 rfl) ?_
  refine m_geti S hW hi 2 rfl kX1 iX1_shapeIn_X1 (by decide) (List.mem_of_getElem? (i := 1) (by decide +kernel)) dX1_shapeIn_5 ?_
  refine lv_iconst (v := nI 1) hx hb dX1_shapeIn_8 (by decide) ?_
  refine lv_ishl hx hb dX1_shapeIn_9 ?_
  refine lv_ior hx hb dX1_shapeIn_10 ?_
  refine lv_topi (fun x_1 ex_1 => ?_)
  refine lv_istore_n (lv' := [(2, .int x_1), (0, .ref (ad i)), (1, .ref (ad g))]) hx hb dX1_shapeIn_11 rfl hl (by decide) rfl (fun ls hl => ?_)
  refine lv_aload_n hx hb dX1_shapeIn_12 rfl (lv_at hl 1 rfl) ?_
  refine m_geti S hW hi 0 rfl kX1 iX1_shapeIn_X1 (by decide) (List.mem_of_getElem? (i := 2) (by decide +kernel)) dX1_shapeIn_13 ?_
  by_cases c_2 : V i 0 = nI 1
  · skip
    refine lv_tableIn (off := 36) (tgt := 52) hx hb dX1_shapeIn_16 (by rw [c_2]; decide) (by rw [c_2]; decide) (by rw [c_2]; decide +kernel) (by decide) ?_
    refine lv_iload_n hx hb dX1_shapeIn_52 rfl (lv_at hl 0 rfl) ?_
    exact m_iret S hr hlk hW dX1_shapeIn_53 ⟨rfl, (by simp only [fShape, ex_1, c_2]; first | rfl | simp [ex_1, c_2])⟩
  by_cases c_3 : V i 0 = nI 2
  · skip
    refine lv_tableIn (off := 43) (tgt := 59) hx hb dX1_shapeIn_16 (by rw [c_3]; decide) (by rw [c_3]; decide) (by rw [c_3]; decide +kernel) (by decide) ?_
    refine lv_aload_n hx hb dX1_shapeIn_59 rfl (lv_at hl 2 rfl) ?_
    refine m_geti S hW hg 1 rfl kX3 iX1_shapeIn_X3 (by decide) (List.mem_of_getElem? (i := 3) (by decide +kernel)) dX1_shapeIn_60 ?_
    refine lv_iconst (v := nI 5) hx hb dX1_shapeIn_63 (by decide) ?_
    refine lv_icmp_ge (tgt := 71) hx hb dX1_shapeIn_64 (by decide) (fun c_4 => ?_) (fun c_4 => ?_)
    · skip
      refine lv_aload_n hx hb dX1_shapeIn_71 rfl (lv_at hl 1 rfl) ?_
      refine m_geti S hW hi 2 rfl kX1 iX1_shapeIn_X1 (by decide) (List.mem_of_getElem? (i := 1) (by decide +kernel)) dX1_shapeIn_72 ?_
      exact m_iret S hr hlk hW dX1_shapeIn_75 ⟨rfl, (by simp only [fShape, ex_1, c_2, c_3, c_4]; first | rfl | simp [ex_1, c_2, c_3, c_4])⟩
    · skip
      refine lv_iconst (v := nI 0) hx hb dX1_shapeIn_67 (by decide) ?_
      refine lv_goto (tgt := 75) hx hb dX1_shapeIn_68 (by decide) ?_
      exact m_iret S hr hlk hW dX1_shapeIn_75 ⟨rfl, (by simp only [fShape, ex_1, c_2, c_3, c_4]; first | rfl | simp [ex_1, c_2, c_3, c_4])⟩
  by_cases c_5 : V i 0 = nI 3
  · skip
    refine lv_tableIn (off := 38) (tgt := 54) hx hb dX1_shapeIn_16 (by rw [c_5]; decide) (by rw [c_5]; decide) (by rw [c_5]; decide +kernel) (by decide) ?_
    refine lv_iload_n hx hb dX1_shapeIn_54 rfl (lv_at hl 0 rfl) ?_
    refine lv_iload_n hx hb dX1_shapeIn_55 rfl (lv_at hl 0 rfl) ?_
    refine lv_ineg hx hb dX1_shapeIn_56 ?_
    refine lv_iand hx hb dX1_shapeIn_57 ?_
    exact m_iret S hr hlk hW dX1_shapeIn_58 ⟨rfl, (by simp only [fShape, ex_1, c_2, c_3, c_5]; first | rfl | simp [ex_1, c_2, c_3, c_5])⟩
  by_cases c_6 : V i 0 = nI 4
  · skip
    refine lv_tableIn (off := 43) (tgt := 59) hx hb dX1_shapeIn_16 (by rw [c_6]; decide) (by rw [c_6]; decide) (by rw [c_6]; decide +kernel) (by decide) ?_
    refine lv_aload_n hx hb dX1_shapeIn_59 rfl (lv_at hl 2 rfl) ?_
    refine m_geti S hW hg 1 rfl kX3 iX1_shapeIn_X3 (by decide) (List.mem_of_getElem? (i := 3) (by decide +kernel)) dX1_shapeIn_60 ?_
    refine lv_iconst (v := nI 5) hx hb dX1_shapeIn_63 (by decide) ?_
    refine lv_icmp_ge (tgt := 71) hx hb dX1_shapeIn_64 (by decide) (fun c_7 => ?_) (fun c_7 => ?_)
    · skip
      refine lv_aload_n hx hb dX1_shapeIn_71 rfl (lv_at hl 1 rfl) ?_
      refine m_geti S hW hi 2 rfl kX1 iX1_shapeIn_X1 (by decide) (List.mem_of_getElem? (i := 1) (by decide +kernel)) dX1_shapeIn_72 ?_
      exact m_iret S hr hlk hW dX1_shapeIn_75 ⟨rfl, (by simp only [fShape, ex_1, c_2, c_3, c_5, c_6, c_7]; first | rfl | simp [ex_1, c_2, c_3, c_5, c_6, c_7])⟩
    · skip
      refine lv_iconst (v := nI 0) hx hb dX1_shapeIn_67 (by decide) ?_
      refine lv_goto (tgt := 75) hx hb dX1_shapeIn_68 (by decide) ?_
      exact m_iret S hr hlk hW dX1_shapeIn_75 ⟨rfl, (by simp only [fShape, ex_1, c_2, c_3, c_5, c_6, c_7]; first | rfl | simp [ex_1, c_2, c_3, c_5, c_6, c_7])⟩
  by_cases c_8 : V i 0 = nI 5
  · skip
    refine lv_tableIn (off := 60) (tgt := 76) hx hb dX1_shapeIn_16 (by rw [c_8]; decide) (by rw [c_8]; decide) (by rw [c_8]; decide +kernel) (by decide) ?_
    refine lv_iconst (v := nI 2) hx hb dX1_shapeIn_76 (by decide) ?_
    refine lv_aload_n hx hb dX1_shapeIn_77 rfl (lv_at hl 1 rfl) ?_
    refine m_geti S hW hi 1 rfl kX1 iX1_shapeIn_X1 (by decide) (List.mem_of_getElem? (i := 4) (by decide +kernel)) dX1_shapeIn_78 ?_
    refine lv_iconst (v := nI 2) hx hb dX1_shapeIn_81 (by decide) ?_
    refine lv_idiv hx hb dX1_shapeIn_82 (by decide) ?_
    refine lv_ishl hx hb dX1_shapeIn_83 ?_
    refine lv_iconst (v := nI 1) hx hb dX1_shapeIn_84 (by decide) ?_
    refine lv_isub hx hb dX1_shapeIn_85 ?_
    exact m_iret S hr hlk hW dX1_shapeIn_86 ⟨rfl, (by simp only [fShape, ex_1, c_2, c_3, c_5, c_6, c_8]; first | rfl | simp [ex_1, c_2, c_3, c_5, c_6, c_8])⟩
  refine lv_tableOut (tgt := 87) hx hb dX1_shapeIn_16 (by have a0 := lv_neT c_2 (show (nI 1 : Int32).toInt = 1 by decide); have a1 := lv_neT c_3 (show (nI 2 : Int32).toInt = 2 by decide); have a2 := lv_neT c_5 (show (nI 3 : Int32).toInt = 3 by decide); have a3 := lv_neT c_6 (show (nI 4 : Int32).toInt = 4 by decide); have a4 := lv_neT c_8 (show (nI 5 : Int32).toInt = 5 by decide); omega) (by decide) ?_
  refine lv_aload_n hx hb dX1_shapeIn_87 rfl (lv_at hl 1 rfl) ?_
  refine m_geti S hW hi 2 rfl kX1 iX1_shapeIn_X1 (by decide) (List.mem_of_getElem? (i := 1) (by decide +kernel)) dX1_shapeIn_88 ?_
  exact m_iret S hr hlk hW dX1_shapeIn_91 ⟨rfl, (by simp only [fShape, ex_1, c_2, c_3, c_5, c_6, c_8]; first | rfl | simp [ex_1, c_2, c_3, c_5, c_6, c_8])⟩
