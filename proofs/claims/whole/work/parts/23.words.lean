/-! String constants: their length, their chars -/
def mB (i k : Nat) : Int32 := (mByt.getD i []).getD k 0
theorem m_clB (i : Nat) {k : Nat} (h : k < 2 ^ 31) : (mByt.getD i []).getD (nI k).toNatClampNeg 0 = mB i k := by rw [nI_clamp h, mB]
theorem mLen_le : ∀ i, i < 13 → mLen.getD i 0 ≤ 40 := by decide +kernel
theorem mB_255 : ∀ i, i < 13 → ∀ k, k < mLen.getD i 0 → mB i k &&& nI 255 = mB i k := by decide +kernel
theorem mB_i2c : ∀ i, i < 13 → ∀ k, k < mLen.getD i 0 → ((mB i k).toUInt32 % 65536).toInt32 = mB i k := by decide +kernel
theorem mB_lt : ∀ i, i < 13 → ∀ k, k < mLen.getD i 0 → nI 0 ≤ mB i k ∧ mB i k < nI 256 := by decide +kernel
theorem mB_nar {i k : Nat} (hi : i < 13) (hk : k < mLen.getD i 0) : narrow .char (.int (mB i k)) = .int (mB i k) := congrArg Value.int (mB_i2c i hi k hk)
section MStr
variable {p : Program} {l : Launch} {e : Env} {R : Room} {s : State} {m : MethodId} {args : Array Value} {below : List Frame} {meth : Method} {c : Code} {H : Heap} {locs : List Loc} {cells slots : Nat} {Q : State → Prop}
variable {cc : ByteArray} {pc nL : Nat} {ls : Array Slot} {rest st0 : List Value} {A : Nat → Prop} {G : mG} {ad : Nat → Nat} {sh : Nat → Option mSh} {V : mV} {Ts : List Cond} {own : String}
theorem m_preVs (hW : mC A s.heap s G ad sh V H locs) {i : Nat} (hi : i < 13) {As : List Value} : PreV s H "java/lang/String" (G.2.2.2.1 i) (mPre G ad sh V (.ref (G.2.2.2.1 i) :: As) H.size) As :=
  ⟨mPre.blind, vk_recv hW.2.2.2.2.2.2.1 hi hW.2.2.1, fun U hU hWm => ⟨rfl, by rw [hU], by rw [hU]; exact hW.1, va_K.moved hWm.alike hW.2.2.2.1, hW.env hU hWm⟩⟩
variable {y : MethodName} {bytes : ByteArray} {maxL mc ms n index : Nat} {ret : Option FieldType} {ws : List Cond} {rm : Room} {As : List Value} {P : mQ}
theorem m_rVs (S : CallFix p m c cc nL s args Ts own) (hW : mC A s.heap s G ad sh V H locs) {i : Nat} (hM : mM l y ws rm G ad sh V (.ref (G.2.2.2.1 i) :: As) mc ms P) (cw : CallW R s args own "java/lang/String" index y bytes maxL ret ws rm mc ms n) (hi : i < 13) (hn : As.length = n) (hl : ls.size = nL) (hst : st0 = As.reverse ++ .ref (G.2.2.2.1 i) :: rest) (hroom : (rest.map fun v => v.category).sum ≤ 8) (hdg : decode cc pc = .ok (.invokevirtual index, 3)) (hf : cells + mc ≤ R.cells ∧ slots + ms ≤ R.slots) : va_Run p l e R s m args below meth c H locs cells slots mc ms (F0 m pc ls st0) rest (mPost G ad sh H.size P (Value.ref (G.2.2.2.1 i) :: As).toArray) (mA ad sh H.size) :=
  va_runV (g := F0 m pc ls st0) S (hM H.size) cw (m_preVs hW hi) rfl hn hl hst (lv_room hroom) hdg hf
theorem m_nret (S : CallFix p m c cc nL s args Ts own) {ty : FieldType} (hr : meth.sig.returnType = some ty) (hlk : meth.locks = false) {P : Int32 → mV → Prop} {r : Int32} (hW : mC (mA ad sh s.heap.size) s.heap s G ad sh V H locs) (hn : narrow ty (.int r) = .int r) (hdg : decode cc pc = .ok (.ireturn, 1)) (hp : P r V) : W p l e R s m args below meth c H locs cells slots (MQ below (mPost G ad sh s.heap.size (mPi ad sh P)) args s cells slots (mA ad sh s.heap.size)) (F0 m pc ls [.int r]) :=
  W.zret S.1 S.2.1 hr hn (m_post hW ⟨rfl, rfl, r, rfl, hp⟩) hW.2.2.1.2.2 hdg hlk
end MStr
/-- whether the word i stands from a to b -/
def fIsW (i : Nat) (B : Nat → Int32) (a b : Nat) : Bool := decide (b - a = mLen.getD i 0 ∧ ∀ k, k < mLen.getD i 0 → B (a + k) = mB i k)
/-- the token of a word -/
def fWordT (B : Nat → Int32) (a b : Nat) : Int32 :=
  if fIsW 1 B a b then nI 2 else if fIsW 2 B a b then nI 3 else if fIsW 3 B a b then nI 4 else if fIsW 4 B a b then nI 5 else if fIsW 5 B a b then nI 6 else if fIsW 6 B a b then nI 7 else if fIsW 7 B a b then nI 8 else if fIsW 8 B a b then nI 9 else if fIsW 9 B a b then nI 10 else if fIsW 10 B a b then nI 11 else if fIsW 11 B a b then nI 12 else if fIsW 12 B a b then nI 13 else -1
set_option maxHeartbeats 4000000 in
set_option maxRecDepth 100000 in
theorem c_J0_coder_7d493 (l : Launch) (G : mG) (ad : Nat → Nat) (sh : Nat → Option mSh) (V : mV) (i : Nat) (hi : i < 13) : mM l yJ0_coder_7d493 wsJ0_coder_7d493 ({ frames := 0, cells := 0, slots := 0, locals := 0 } : Room) G ad sh V [.ref (G.2.2.2.1 i)] 0 0 (mPe ad sh V (nI 0)) := by
  refine mM.of (cc := cJ0_coder_7d493) (maxL := 1) (ret := (some .byte)) (by decide) rfl (Nat.le_of_ble_eq_true rfl) ?_
  intro p e s m below meth c S hr hlk hnm hW ls hl
  obtain ⟨hx, hb, hml, hown, hts⟩ := id S
  have hl : lv_has ls 1 [(0, .ref (G.2.2.2.1 i))] := hl
  have hS0 : True := trivial
  refine va_gets hx hb hW.2.2.2.2.2.2.2.2.1 hW.2.2.1 hown (hts (.fieldLink RJ0 38 "java/lang/String" "COMPACT_STRINGS" "Z") (List.mem_cons_of_mem _ (wa_4 _ (List.mem_of_getElem? (i := 2) (by decide +kernel))))) (fun _ h => h) dJ0_coder_7d493_0 ?_
  refine m_top (y := nI 1) rfl ?_
  refine m_if_eq (tgt := 13) hx hb dJ0_coder_7d493_3 (by decide) (fun c_1 => ?_) (fun c_1 => ?_)
  · exact absurd c_1 (by decide)
  · skip
    refine lv_aload_n hx hb dJ0_coder_7d493_6 rfl (lv_at hl 0 rfl) ?_
    refine vk_getf hx hb ((hW.2.2.2.2.2.2.1.1 i hi).2.1) hW.2.2.1 hown (hts (.fieldLink RJ0 15 "java/lang/String" "coder" "B") (List.mem_cons_of_mem _ (wa_4 _ (List.mem_of_getElem? (i := 3) (by decide +kernel))))) (fun _ h => h) dJ0_coder_7d493_7 ?_
    refine m_top (y := nI 0) rfl ?_
    refine lv_goto (tgt := 14) hx hb dJ0_coder_7d493_10 (by decide) ?_
    exact m_nret S hr hlk hW (by decide) dJ0_coder_7d493_14 ⟨rfl, (by rfl)⟩
set_option maxHeartbeats 4000000 in
set_option maxRecDepth 100000 in
theorem c_J0_isLatin1_aae02 (l : Launch) (G : mG) (ad : Nat → Nat) (sh : Nat → Option mSh) (V : mV) (i : Nat) (hi : i < 13) : mM l yJ0_isLatin1_aae02 wsJ0_isLatin1_aae02 ({ frames := 0, cells := 0, slots := 0, locals := 0 } : Room) G ad sh V [.ref (G.2.2.2.1 i)] 0 0 (mPe ad sh V (nI 1)) := by
  refine mM.of (cc := cJ0_isLatin1_aae02) (maxL := 1) (ret := (some .boolean)) (by decide) rfl (Nat.le_of_ble_eq_true rfl) ?_
  intro p e s m below meth c S hr hlk hnm hW ls hl
  obtain ⟨hx, hb, hml, hown, hts⟩ := id S
  have hl : lv_has ls 1 [(0, .ref (G.2.2.2.1 i))] := hl
  have hS0 : True := trivial
  refine va_gets hx hb hW.2.2.2.2.2.2.2.2.1 hW.2.2.1 hown (hts (.fieldLink RJ0 38 "java/lang/String" "COMPACT_STRINGS" "Z") (List.mem_cons_of_mem _ (wa_4 _ (List.mem_of_getElem? (i := 2) (by decide +kernel))))) (fun _ h => h) dJ0_isLatin1_aae02_0 ?_
  refine m_top (y := nI 1) rfl ?_
  refine m_if_eq (tgt := 17) hx hb dJ0_isLatin1_aae02_3 (by decide) (fun c_1 => ?_) (fun c_1 => ?_)
  · exact absurd c_1 (by decide)
  · skip
    refine lv_aload_n hx hb dJ0_isLatin1_aae02_6 rfl (lv_at hl 0 rfl) ?_
    refine vk_getf hx hb ((hW.2.2.2.2.2.2.1.1 i hi).2.1) hW.2.2.1 hown (hts (.fieldLink RJ0 15 "java/lang/String" "coder" "B") (List.mem_cons_of_mem _ (wa_4 _ (List.mem_of_getElem? (i := 3) (by decide +kernel))))) (fun _ h => h) dJ0_isLatin1_aae02_7 ?_
    refine m_top (y := nI 0) rfl ?_
    refine m_if_ne (tgt := 17) hx hb dJ0_isLatin1_aae02_10 (by decide) (fun c_2 => ?_) (fun c_2 => ?_)
    · exact absurd c_2 (by decide)
    · skip
      refine lv_iconst (v := nI 1) hx hb dJ0_isLatin1_aae02_13 (by decide) ?_
      refine lv_goto (tgt := 18) hx hb dJ0_isLatin1_aae02_14 (by decide) ?_
      exact m_zret S hr hlk hW rfl dJ0_isLatin1_aae02_18 ⟨rfl, (by rfl)⟩
set_option maxHeartbeats 4000000 in
set_option maxRecDepth 100000 in
theorem c_J0_length_8abf5 (l : Launch) (G : mG) (ad : Nat → Nat) (sh : Nat → Option mSh) (V : mV) (i : Nat) (hi : i < 13) : mM l yJ0_length_8abf5 wsJ0_length_8abf5 ({ frames := 1, cells := 0, slots := 0, locals := 30 } : Room) G ad sh V [.ref (G.2.2.2.1 i)] 0 0 (mPe ad sh V (nI (mLen.getD i 0))) := by
  refine mM.of (cc := cJ0_length_8abf5) (maxL := 1) (ret := (some .int)) (by decide) rfl (Nat.le_of_ble_eq_true rfl) ?_
  intro p e s m below meth c S hr hlk hnm hW ls hl
  obtain ⟨hx, hb, hml, hown, hts⟩ := id S
  have hl : lv_has ls 1 [(0, .ref (G.2.2.2.1 i))] := hl
  have hS0 : True := trivial
  have hL := mLen_le i hi
  refine lv_aload_n hx hb dJ0_length_8abf5_0 rfl (lv_at hl 0 rfl) ?_
  refine vk_getf hx hb ((hW.2.2.2.2.2.2.1.1 i hi).2.2.1) hW.2.2.1 hown (hts (.fieldLink RJ0 9 "java/lang/String" "value" "[B") (List.mem_cons_of_mem _ (wa_3 _ (List.mem_of_getElem? (i := 21) (by decide +kernel))))) (fun _ h => h) dJ0_length_8abf5_1 ?_
  refine va_tlen (v := nI (mLen.getD i 0)) hx hb (hW.2.2.2.2.2.2.1.1 i hi).2.2.2 hW.2.2.1 rfl dJ0_length_8abf5_4 ?_
  refine lv_aload_n hx hb dJ0_length_8abf5_5 rfl (lv_at hl 0 rfl) ?_
  refine m_cie (m_rVs S hW (c_J0_coder_7d493 l G ad sh V i hi) (cwV 0 hts (gCall [.methodLink RJ0 335 yJ0_coder_7d493, .instanceMethod yJ0_coder_7d493, .selects RJ0 yJ0_coder_7d493 yJ0_coder_7d493, .initialized RJ0] (List.forall_mem_cons.mpr ⟨(wa_4 _ (List.mem_of_getElem? (i := 1) (by decide +kernel))), (List.forall_mem_cons.mpr ⟨(wa_3 _ (List.mem_of_getElem? (i := 22) (by decide +kernel))), (List.forall_mem_cons.mpr ⟨(wa_3 _ (List.mem_of_getElem? (i := 23) (by decide +kernel))), (List.forall_mem_cons.mpr ⟨(wa_4 _ (List.mem_of_getElem? (i := 0) (by decide +kernel))), (List.forall_mem_cons.mpr ⟨(wa_3 _ (List.mem_of_getElem? (i := 19) (by decide +kernel))), (fun _ h => absurd h List.not_mem_nil)⟩)⟩)⟩)⟩)⟩)) rfl rfl rfl (by decide +kernel) ⟨by dsimp only; omega, by dsimp only; omega⟩) hi rfl hl.1 rfl (Nat.le_of_ble_eq_true rfl) dJ0_length_8abf5_6 ⟨Nat.le_of_ble_eq_true rfl, Nat.le_of_ble_eq_true rfl⟩) hW (fun H locs hW => ?_)
  refine lv_ishr hx hb dJ0_length_8abf5_9 ?_
  refine m_top (y := nI (mLen.getD i 0)) (by rw [m_shr (by omega) (by omega)]; congr 1; omega) ?_
  exact m_iret S hr hlk hW dJ0_length_8abf5_10 ⟨rfl, (by rfl)⟩
set_option maxHeartbeats 4000000 in
set_option maxRecDepth 100000 in
theorem c_J3_checkIndex_n (l : Launch) (G : mG) (ad : Nat → Nat) (sh : Nat → Option mSh) (V : mV) (x y : Nat) (hxy : x < y) (hy : y < 1000) : mM l yJ3_checkIndex_8e157 wsJ3_checkIndex_8e157 ({ frames := 0, cells := 0, slots := 0, locals := 0 } : Room) G ad sh V [.int (nI x), .int (nI y), .null] 0 0 (mPe ad sh V (nI x)) := by
  refine mM.of (cc := cJ3_checkIndex_8e157) (maxL := 3) (ret := (some .int)) (by decide) rfl (Nat.le_of_ble_eq_true rfl) ?_
  intro p e s m below meth c S hr hlk hnm hW ls hl
  obtain ⟨hx, hb, hml, hown, hts⟩ := id S
  have hl : lv_has ls 3 [(0, .int (nI x)), (1, .int (nI y)), (2, .null)] := hl
  have hS0 : True := trivial
  refine lv_iload_n hx hb dJ3_checkIndex_8e157_0 rfl (lv_at hl 0 rfl) ?_
  refine m_if_lt (tgt := 9) hx hb dJ3_checkIndex_8e157_1 (by decide) (fun c_1 => ?_) (fun c_1 => ?_)
  · exact absurd c_1 (nI_pos (by omega))
  · skip
    refine lv_iload_n hx hb dJ3_checkIndex_8e157_4 rfl (lv_at hl 0 rfl) ?_
    refine lv_iload_n hx hb dJ3_checkIndex_8e157_5 rfl (lv_at hl 1 rfl) ?_
    refine lv_icmp_lt (tgt := 16) hx hb dJ3_checkIndex_8e157_6 (by decide) (fun c_2 => ?_) (fun c_2 => ?_)
    · skip
      have c_2 : x < y := (nI_ltI (by omega) (by omega)).mp c_2
      refine lv_iload_n hx hb dJ3_checkIndex_8e157_16 rfl (lv_at hl 0 rfl) ?_
      exact m_iret S hr hlk hW dJ3_checkIndex_8e157_17 ⟨rfl, (by rfl)⟩
    · skip
      have c_2 : ¬ x < y := mt (nI_ltI (by omega) (by omega)).mpr c_2
      exfalso; omega
set_option maxHeartbeats 4000000 in
set_option maxRecDepth 100000 in
theorem c_J3_checkIndex_r (l : Launch) (G : mG) (ad : Nat → Nat) (sh : Nat → Option mSh) (V : mV) (x y : Nat) (f : Nat) (hxy : x < y) (hy : y < 1000) : mM l yJ3_checkIndex_8e157 wsJ3_checkIndex_8e157 ({ frames := 0, cells := 0, slots := 0, locals := 0 } : Room) G ad sh V [.int (nI x), .int (nI y), .ref f] 0 0 (mPe ad sh V (nI x)) := by
  refine mM.of (cc := cJ3_checkIndex_8e157) (maxL := 3) (ret := (some .int)) (by decide) rfl (Nat.le_of_ble_eq_true rfl) ?_
  intro p e s m below meth c S hr hlk hnm hW ls hl
  obtain ⟨hx, hb, hml, hown, hts⟩ := id S
  have hl : lv_has ls 3 [(0, .int (nI x)), (1, .int (nI y)), (2, .ref f)] := hl
  have hS0 : True := trivial
  refine lv_iload_n hx hb dJ3_checkIndex_8e157_0 rfl (lv_at hl 0 rfl) ?_
  refine m_if_lt (tgt := 9) hx hb dJ3_checkIndex_8e157_1 (by decide) (fun c_1 => ?_) (fun c_1 => ?_)
  · exact absurd c_1 (nI_pos (by omega))
  · skip
    refine lv_iload_n hx hb dJ3_checkIndex_8e157_4 rfl (lv_at hl 0 rfl) ?_
    refine lv_iload_n hx hb dJ3_checkIndex_8e157_5 rfl (lv_at hl 1 rfl) ?_
    refine lv_icmp_lt (tgt := 16) hx hb dJ3_checkIndex_8e157_6 (by decide) (fun c_2 => ?_) (fun c_2 => ?_)
    · skip
      have c_2 : x < y := (nI_ltI (by omega) (by omega)).mp c_2
      refine lv_iload_n hx hb dJ3_checkIndex_8e157_16 rfl (lv_at hl 0 rfl) ?_
      exact m_iret S hr hlk hW dJ3_checkIndex_8e157_17 ⟨rfl, (by rfl)⟩
    · skip
      have c_2 : ¬ x < y := mt (nI_ltI (by omega) (by omega)).mpr c_2
      exfalso; omega
set_option maxHeartbeats 4000000 in
set_option maxRecDepth 100000 in
theorem c_J0_checkIndex_df160 (l : Launch) (G : mG) (ad : Nat → Nat) (sh : Nat → Option mSh) (V : mV) (x y : Nat) (hxy : x < y) (hy : y < 1000) : mM l yJ0_checkIndex_df160 wsJ0_checkIndex_df160 ({ frames := 1, cells := 0, slots := 0, locals := 30 } : Room) G ad sh V [.int (nI x), .int (nI y)] 0 0 (mPv ad sh (fun V' => V' = V)) := by
  refine mM.of (cc := cJ0_checkIndex_df160) (maxL := 2) (ret := none) (by decide) rfl (Nat.le_of_ble_eq_true rfl) ?_
  intro p e s m below meth c S hr hlk hnm hW ls hl
  obtain ⟨hx, hb, hml, hown, hts⟩ := id S
  have hl : lv_has ls 2 [(0, .int (nI x)), (1, .int (nI y))] := hl
  have hS0 : True := trivial
  refine lv_iload_n hx hb dJ0_checkIndex_df160_0 rfl (lv_at hl 0 rfl) ?_
  refine lv_iload_n hx hb dJ0_checkIndex_df160_1 rfl (lv_at hl 1 rfl) ?_
  rcases hW.2.2.2.2.2.2.2.2.2.1 with hsi | ⟨tf, hsi⟩
  · skip
    refine va_gets hx hb hsi hW.2.2.1 hown (hts (.fieldLink RJ0 1053 "jdk/internal/util/Preconditions" "SIOOBE_FORMATTER" "Ljava/util/function/BiFunction;") (List.mem_cons_of_mem _ (wa_4 _ (List.mem_of_getElem? (i := 19) (by decide +kernel))))) (fun _ h => h) dJ0_checkIndex_df160_2 ?_
    refine m_cie (m_rS S hW (c_J3_checkIndex_n l G ad sh V x y (by first | assumption | omega) (by first | assumption | omega)) (va_cwS 3 hts (gCall [.methodLink RJ0 1059 yJ3_checkIndex_8e157, .static yJ3_checkIndex_8e157, .initialized RJ3] (List.forall_mem_cons.mpr ⟨(wa_4 _ (List.mem_of_getElem? (i := 23) (by decide +kernel))), (List.forall_mem_cons.mpr ⟨(wa_4 _ (List.mem_of_getElem? (i := 20) (by decide +kernel))), (List.forall_mem_cons.mpr ⟨(wa_4 _ (List.mem_of_getElem? (i := 21) (by decide +kernel))), (List.forall_mem_cons.mpr ⟨(wa_4 _ (List.mem_of_getElem? (i := 22) (by decide +kernel))), (fun _ h => absurd h List.not_mem_nil)⟩)⟩)⟩)⟩)) rfl rfl rfl (by decide +kernel) ⟨by dsimp only; omega, by dsimp only; omega⟩) rfl hl.1 rfl (Nat.le_of_ble_eq_true rfl) dJ0_checkIndex_df160_5 ⟨Nat.le_of_ble_eq_true rfl, Nat.le_of_ble_eq_true rfl⟩) hW (fun H locs hW => ?_)
    refine lv_pop hx hb dJ0_checkIndex_df160_8 rfl ?_
    exact m_vret S hr hlk hW dJ0_checkIndex_df160_9 (by first | rfl | assumption)
  · skip
    refine va_gets hx hb hsi hW.2.2.1 hown (hts (.fieldLink RJ0 1053 "jdk/internal/util/Preconditions" "SIOOBE_FORMATTER" "Ljava/util/function/BiFunction;") (List.mem_cons_of_mem _ (wa_4 _ (List.mem_of_getElem? (i := 19) (by decide +kernel))))) (fun _ h => h) dJ0_checkIndex_df160_2 ?_
    refine m_cie (m_rS S hW (c_J3_checkIndex_r l G ad sh V x y tf (by first | assumption | omega) (by first | assumption | omega)) (va_cwS 3 hts (gCall [.methodLink RJ0 1059 yJ3_checkIndex_8e157, .static yJ3_checkIndex_8e157, .initialized RJ3] (List.forall_mem_cons.mpr ⟨(wa_4 _ (List.mem_of_getElem? (i := 23) (by decide +kernel))), (List.forall_mem_cons.mpr ⟨(wa_4 _ (List.mem_of_getElem? (i := 20) (by decide +kernel))), (List.forall_mem_cons.mpr ⟨(wa_4 _ (List.mem_of_getElem? (i := 21) (by decide +kernel))), (List.forall_mem_cons.mpr ⟨(wa_4 _ (List.mem_of_getElem? (i := 22) (by decide +kernel))), (fun _ h => absurd h List.not_mem_nil)⟩)⟩)⟩)⟩)) rfl rfl rfl (by decide +kernel) ⟨by dsimp only; omega, by dsimp only; omega⟩) rfl hl.1 rfl (Nat.le_of_ble_eq_true rfl) dJ0_checkIndex_df160_5 ⟨Nat.le_of_ble_eq_true rfl, Nat.le_of_ble_eq_true rfl⟩) hW (fun H locs hW => ?_)
    refine lv_pop hx hb dJ0_checkIndex_df160_8 rfl ?_
    exact m_vret S hr hlk hW dJ0_checkIndex_df160_9 (by first | rfl | assumption)
set_option maxHeartbeats 4000000 in
set_option maxRecDepth 100000 in
theorem c_J1_charAt_3b067 (l : Launch) (G : mG) (ad : Nat → Nat) (sh : Nat → Option mSh) (V : mV) (i k : Nat) (hi : i < 13) (hk : k < mLen.getD i 0) : mM l yJ1_charAt_3b067 wsJ1_charAt_3b067 ({ frames := 2, cells := 0, slots := 0, locals := 60 } : Room) G ad sh V [.ref (G.2.2.2.2 i), .int (nI k)] 0 0 (mPe ad sh V (mB i k)) := by
  refine mM.of (cc := cJ1_charAt_3b067) (maxL := 2) (ret := (some .char)) (by decide) rfl (Nat.le_of_ble_eq_true rfl) ?_
  intro p e s m below meth c S hr hlk hnm hW ls hl
  obtain ⟨hx, hb, hml, hown, hts⟩ := id S
  have hl : lv_has ls 2 [(0, .ref (G.2.2.2.2 i)), (1, .int (nI k))] := hl
  have hS0 : True := trivial
  have hL := mLen_le i hi
  refine lv_iload_n hx hb dJ1_charAt_3b067_0 rfl (lv_at hl 1 rfl) ?_
  refine lv_aload_n hx hb dJ1_charAt_3b067_1 rfl (lv_at hl 0 rfl) ?_
  refine va_tlen (v := nI (mLen.getD i 0)) hx hb (hW.2.2.2.2.2.2.1.1 i hi).2.2.2 hW.2.2.1 rfl dJ1_charAt_3b067_2 ?_
  refine m_cv (m_rS S hW (c_J0_checkIndex_df160 l G ad sh V k (mLen.getD i 0) (by first | assumption | omega) (by first | assumption | omega)) (va_cwS 2 hts (gCall [.methodLink RJ1 9 yJ0_checkIndex_df160, .static yJ0_checkIndex_df160, .initialized RJ0] (List.forall_mem_cons.mpr ⟨(wa_4 _ (List.mem_of_getElem? (i := 18) (by decide +kernel))), (List.forall_mem_cons.mpr ⟨(wa_4 _ (List.mem_of_getElem? (i := 16) (by decide +kernel))), (List.forall_mem_cons.mpr ⟨(wa_4 _ (List.mem_of_getElem? (i := 17) (by decide +kernel))), (List.forall_mem_cons.mpr ⟨(wa_3 _ (List.mem_of_getElem? (i := 19) (by decide +kernel))), (fun _ h => absurd h List.not_mem_nil)⟩)⟩)⟩)⟩)) rfl rfl rfl (by decide +kernel) ⟨by dsimp only; omega, by dsimp only; omega⟩) rfl hl.1 rfl (Nat.le_of_ble_eq_true rfl) dJ1_charAt_3b067_3 ⟨Nat.le_of_ble_eq_true rfl, Nat.le_of_ble_eq_true rfl⟩) hW (fun V_1 H locs hp_2 hW => ?_)
  have eV_1 : V_1 = V := hp_2
  rw [eV_1] at hW
  refine lv_aload_n hx hb dJ1_charAt_3b067_6 rfl (lv_at hl 0 rfl) ?_
  refine lv_iload_n hx hb dJ1_charAt_3b067_7 rfl (lv_at hl 1 rfl) ?_
  refine va_tb hx hb (hW.2.2.2.2.2.2.1.1 i hi).2.2.2 hW.2.2.1 (vp_in_nI (n := k) (by omega) (by omega)) rfl dJ1_charAt_3b067_8 ?_
  refine m_top (y := mB i k) (m_clB _ (by omega)) ?_
  refine lv_sipush (v := nI 255) hx hb dJ1_charAt_3b067_9 (by decide) ?_
  refine lv_iand hx hb dJ1_charAt_3b067_12 ?_
  refine m_top (y := (mB i k)) (mB_255 i hi k hk) ?_
  refine lv_i2c (v := (mB i k)) hx hb dJ1_charAt_3b067_13 (mB_i2c i hi k hk) ?_
  exact m_nret S hr hlk hW (mB_nar hi hk) dJ1_charAt_3b067_14 ⟨rfl, (by rfl)⟩
set_option maxHeartbeats 4000000 in
set_option maxRecDepth 100000 in
theorem c_J0_charAt_5068e (l : Launch) (G : mG) (ad : Nat → Nat) (sh : Nat → Option mSh) (V : mV) (i k : Nat) (hi : i < 13) (hk : k < mLen.getD i 0) : mM l yJ0_charAt_5068e wsJ0_charAt_5068e ({ frames := 3, cells := 0, slots := 0, locals := 90 } : Room) G ad sh V [.ref (G.2.2.2.1 i), .int (nI k)] 0 0 (mPe ad sh V (mB i k)) := by
  refine mM.of (cc := cJ0_charAt_5068e) (maxL := 2) (ret := (some .char)) (by decide) rfl (Nat.le_of_ble_eq_true rfl) ?_
  intro p e s m below meth c S hr hlk hnm hW ls hl
  obtain ⟨hx, hb, hml, hown, hts⟩ := id S
  have hl : lv_has ls 2 [(0, .ref (G.2.2.2.1 i)), (1, .int (nI k))] := hl
  have hS0 : True := trivial
  have hL := mLen_le i hi
  refine lv_aload_n hx hb dJ0_charAt_5068e_0 rfl (lv_at hl 0 rfl) ?_
  refine m_cie (m_rVs S hW (c_J0_isLatin1_aae02 l G ad sh V i hi) (cwV 0 hts (gCall [.methodLink RJ0 492 yJ0_isLatin1_aae02, .instanceMethod yJ0_isLatin1_aae02, .selects RJ0 yJ0_isLatin1_aae02 yJ0_isLatin1_aae02, .initialized RJ0] (List.forall_mem_cons.mpr ⟨(wa_4 _ (List.mem_of_getElem? (i := 11) (by decide +kernel))), (List.forall_mem_cons.mpr ⟨(wa_4 _ (List.mem_of_getElem? (i := 8) (by decide +kernel))), (List.forall_mem_cons.mpr ⟨(wa_4 _ (List.mem_of_getElem? (i := 9) (by decide +kernel))), (List.forall_mem_cons.mpr ⟨(wa_4 _ (List.mem_of_getElem? (i := 10) (by decide +kernel))), (List.forall_mem_cons.mpr ⟨(wa_3 _ (List.mem_of_getElem? (i := 19) (by decide +kernel))), (fun _ h => absurd h List.not_mem_nil)⟩)⟩)⟩)⟩)⟩)) rfl rfl rfl (by decide +kernel) ⟨by dsimp only; omega, by dsimp only; omega⟩) hi rfl hl.1 rfl (Nat.le_of_ble_eq_true rfl) dJ0_charAt_5068e_1 ⟨Nat.le_of_ble_eq_true rfl, Nat.le_of_ble_eq_true rfl⟩) hW (fun H locs hW => ?_)
  refine m_if_eq (tgt := 16) hx hb dJ0_charAt_5068e_4 (by decide) (fun c_1 => ?_) (fun c_1 => ?_)
  · exact absurd c_1 (by decide)
  · skip
    refine lv_aload_n hx hb dJ0_charAt_5068e_7 rfl (lv_at hl 0 rfl) ?_
    refine vk_getf hx hb ((hW.2.2.2.2.2.2.1.1 i hi).2.2.1) hW.2.2.1 hown (hts (.fieldLink RJ0 9 "java/lang/String" "value" "[B") (List.mem_cons_of_mem _ (wa_3 _ (List.mem_of_getElem? (i := 21) (by decide +kernel))))) (fun _ h => h) dJ0_charAt_5068e_8 ?_
    refine lv_iload_n hx hb dJ0_charAt_5068e_11 rfl (lv_at hl 1 rfl) ?_
    refine m_cie (m_rS S hW (c_J1_charAt_3b067 l G ad sh V i k hi (by first | assumption | omega)) (va_cwS 2 hts (gCall [.methodLink RJ0 495 yJ1_charAt_3b067, .static yJ1_charAt_3b067, .initialized RJ1] (List.forall_mem_cons.mpr ⟨(wa_4 _ (List.mem_of_getElem? (i := 15) (by decide +kernel))), (List.forall_mem_cons.mpr ⟨(wa_4 _ (List.mem_of_getElem? (i := 12) (by decide +kernel))), (List.forall_mem_cons.mpr ⟨(wa_4 _ (List.mem_of_getElem? (i := 13) (by decide +kernel))), (List.forall_mem_cons.mpr ⟨(wa_4 _ (List.mem_of_getElem? (i := 14) (by decide +kernel))), (fun _ h => absurd h List.not_mem_nil)⟩)⟩)⟩)⟩)) rfl rfl rfl (by decide +kernel) ⟨by dsimp only; omega, by dsimp only; omega⟩) rfl hl.1 rfl (Nat.le_of_ble_eq_true rfl) dJ0_charAt_5068e_12 ⟨Nat.le_of_ble_eq_true rfl, Nat.le_of_ble_eq_true rfl⟩) hW (fun H locs hW => ?_)
    exact m_nret S hr hlk hW (mB_nar hi hk) dJ0_charAt_5068e_15 ⟨rfl, (by rfl)⟩
set_option maxHeartbeats 4000000 in
set_option maxRecDepth 100000 in
theorem c_X6_isWord (l : Launch) (G : mG) (ad : Nat → Nat) (sh : Nat → Option mSh) (V : mV) (sz : Nat) (B : Nat → Int32) (q : pS) (i : Nat) (hT : TpOk sh V sz B q) (hi : i < 13) (hna : q.2.2.1 ≤ q.1) : mM l yX6_isWord wsX6_isWord ({ frames := 6, cells := 0, slots := 0, locals := 224 } : Room) G ad sh V [.ref (ad 1), .ref (G.2.2.2.1 i)] 0 0 (mPip ad sh V (fun r => (nI 1 = r ∧ (fIsW i B q.2.2.1 q.1 = true)) ∨ (nI 0 = r ∧ (fIsW i B q.2.2.1 q.1 = false)))) := by
  refine mM.of (cc := cX6_isWord) (maxL := 3) (ret := (some .boolean)) (by decide) rfl (Nat.le_of_ble_eq_true rfl) ?_
  intro p e s m below meth c S hr hlk hnm hW ls hl
  obtain ⟨hx, hb, hml, hown, hts⟩ := id S
  have hl : lv_has ls 3 [(0, .ref (ad 1)), (1, .ref (G.2.2.2.1 i))] := hl
  have hS0 : True := trivial
  have hs1 := hT.s160
  have hn1 := hT.nxl
  have ha1 := hT.tal
  have hc1 := hT.scl
  have hL := mLen_le i hi
  refine lv_aload_n hx hb dX6_isWord_0 rfl (lv_at hl 0 rfl) ?_
  refine m_geti S hW hT.h1 2 rfl kX6 (iW6 _) (by decide) (List.mem_cons_of_mem _ (wa_6 _ (List.mem_of_getElem? (i := 2) (by decide +kernel)))) dX6_isWord_1 ?_
  refine m_top (y := nI q.1) hT.nx ?_
  refine lv_aload_n hx hb dX6_isWord_4 rfl (lv_at hl 0 rfl) ?_
  refine m_geti S hW hT.h1 4 rfl kX6 (iW6 _) (by decide) (List.mem_cons_of_mem _ (wa_6 _ (List.mem_of_getElem? (i := 12) (by decide +kernel)))) dX6_isWord_5 ?_
  refine m_top (y := nI q.2.2.1) hT.ta ?_
  refine lv_isub hx hb dX6_isWord_8 ?_
  refine m_top (y := nI (q.1 - q.2.2.1)) (pk_sub (by omega)) ?_
  refine lv_aload_n hx hb dX6_isWord_9 rfl (lv_at hl 1 rfl) ?_
  refine m_cie (m_rVs S hW (c_J0_length_8abf5 l G ad sh V i hi) (cwV 0 hts (gCall [.methodLink RX6 22 yJ0_length_8abf5, .instanceMethod yJ0_length_8abf5, .selects RJ0 yJ0_length_8abf5 yJ0_length_8abf5, .initialized RJ0] (List.forall_mem_cons.mpr ⟨(wa_3 _ (List.mem_of_getElem? (i := 20) (by decide +kernel))), (List.forall_mem_cons.mpr ⟨(wa_3 _ (List.mem_of_getElem? (i := 16) (by decide +kernel))), (List.forall_mem_cons.mpr ⟨(wa_3 _ (List.mem_of_getElem? (i := 17) (by decide +kernel))), (List.forall_mem_cons.mpr ⟨(wa_3 _ (List.mem_of_getElem? (i := 18) (by decide +kernel))), (List.forall_mem_cons.mpr ⟨(wa_3 _ (List.mem_of_getElem? (i := 19) (by decide +kernel))), (fun _ h => absurd h List.not_mem_nil)⟩)⟩)⟩)⟩)⟩)) rfl rfl rfl (by decide +kernel) ⟨by dsimp only; omega, by dsimp only; omega⟩) hi rfl hl.1 rfl (Nat.le_of_ble_eq_true rfl) dX6_isWord_10 ⟨Nat.le_of_ble_eq_true rfl, Nat.le_of_ble_eq_true rfl⟩) hW (fun H locs hW => ?_)
  refine lv_icmp_eq (tgt := 18) hx hb dX6_isWord_13 (by decide) (fun c_1 => ?_) (fun c_1 => ?_)
  · skip
    have c_1 : (q.1 - q.2.2.1) = (mLen.getD i 0) := (nI_eq (by omega) (by omega)).mp c_1
    refine lv_iconst (v := nI 0) hx hb dX6_isWord_18 (by decide) ?_
    refine lv_istore_n (lv' := [(2, .int (nI 0)), (0, .ref (ad 1)), (1, .ref (G.2.2.2.1 i))]) hx hb dX6_isWord_19 rfl hl (by decide) rfl (fun ls hl => ?_)
    have loop_20 : ∀ (n_20 : Nat) (k : Nat) (H : Heap) (locs : List Loc) (ls : Array Slot), (k ≤ mLen.getD i 0) → (∀ j, j < k → B (q.2.2.1 + j) = mB i j) → (mLen.getD i 0 - k) < n_20 → mC (mA ad sh s.heap.size) s.heap s G ad sh V H locs → lv_has ls 3 [(0, .ref (ad 1)), (1, .ref (G.2.2.2.1 i)), (2, .int (nI k))] → W p l e ({ frames := 6, cells := 0, slots := 0, locals := 224 } : Room) s m ([.ref (ad 1), .ref (G.2.2.2.1 i)] : List Value).toArray below meth c H locs 0 0 (MQ below (mPost G ad sh s.heap.size (mPip ad sh V (fun r => (nI 1 = r ∧ (fIsW i B q.2.2.1 q.1 = true)) ∨ (nI 0 = r ∧ (fIsW i B q.2.2.1 q.1 = false))))) ([.ref (ad 1), .ref (G.2.2.2.1 i)] : List Value).toArray s 0 0 (mA ad sh s.heap.size)) (F0 m 20 ls []) := by
      intro n_20
      induction n_20 with
      | zero => intro k H locs ls hk hal hM_ hW hl; omega
      | succ n_20 ih_20 =>
        intro k H locs ls hk hal hM_ hW hl
        refine lv_iload_n hx hb dX6_isWord_20 rfl (lv_at hl 2 rfl) ?_
        refine lv_aload_n hx hb dX6_isWord_21 rfl (lv_at hl 1 rfl) ?_
        refine m_cie (m_rVs S hW (c_J0_length_8abf5 l G ad sh V i hi) (cwV 0 hts (gCall [.methodLink RX6 22 yJ0_length_8abf5, .instanceMethod yJ0_length_8abf5, .selects RJ0 yJ0_length_8abf5 yJ0_length_8abf5, .initialized RJ0] (List.forall_mem_cons.mpr ⟨(wa_3 _ (List.mem_of_getElem? (i := 20) (by decide +kernel))), (List.forall_mem_cons.mpr ⟨(wa_3 _ (List.mem_of_getElem? (i := 16) (by decide +kernel))), (List.forall_mem_cons.mpr ⟨(wa_3 _ (List.mem_of_getElem? (i := 17) (by decide +kernel))), (List.forall_mem_cons.mpr ⟨(wa_3 _ (List.mem_of_getElem? (i := 18) (by decide +kernel))), (List.forall_mem_cons.mpr ⟨(wa_3 _ (List.mem_of_getElem? (i := 19) (by decide +kernel))), (fun _ h => absurd h List.not_mem_nil)⟩)⟩)⟩)⟩)⟩)) rfl rfl rfl (by decide +kernel) ⟨by dsimp only; omega, by dsimp only; omega⟩) hi rfl hl.1 rfl (Nat.le_of_ble_eq_true rfl) dX6_isWord_22 ⟨Nat.le_of_ble_eq_true rfl, Nat.le_of_ble_eq_true rfl⟩) hW (fun H locs hW => ?_)
        refine lv_icmp_ge (tgt := 55) hx hb dX6_isWord_25 (by decide) (fun c_2 => ?_) (fun c_2 => ?_)
        · skip
          have c_2 : (mLen.getD i 0) ≤ k := (nI_leI (by omega) (by omega)).mp c_2
          refine lv_iconst (v := nI 1) hx hb dX6_isWord_55 (by decide) ?_
          exact m_zret S hr hlk hW rfl dX6_isWord_56 ⟨rfl, (by exact Or.inl ⟨rfl, decide_eq_true ⟨by assumption, fun j hj => hal j (by omega)⟩⟩)⟩
        · skip
          have c_2 : ¬ (mLen.getD i 0) ≤ k := mt (nI_leI (by omega) (by omega)).mpr c_2
          refine lv_aload_n hx hb dX6_isWord_28 rfl (lv_at hl 0 rfl) ?_
          refine m_getr S hW hT.h1 0 rfl (j := 2) rfl kX6 (iW6 _) (by decide) (List.mem_cons_of_mem _ (wa_2 _ (List.mem_of_getElem? (i := 20) (by decide +kernel)))) dX6_isWord_29 ?_
          refine lv_aload_n hx hb dX6_isWord_32 rfl (lv_at hl 0 rfl) ?_
          refine m_geti S hW hT.h1 4 rfl kX6 (iW6 _) (by decide) (List.mem_cons_of_mem _ (wa_6 _ (List.mem_of_getElem? (i := 12) (by decide +kernel)))) dX6_isWord_33 ?_
          refine m_top (y := nI q.2.2.1) hT.ta ?_
          refine lv_iload_n hx hb dX6_isWord_36 rfl (lv_at hl 2 rfl) ?_
          refine lv_iadd hx hb dX6_isWord_37 ?_
          refine m_top (y := nI (q.2.2.1 + k)) (nI_add q.2.2.1 k) ?_
          refine m_iald S hW hT.h2 (q.2.2.1 + k) rfl (by omega) (by decide) dX6_isWord_38 ?_
          refine lv_aload_n hx hb dX6_isWord_39 rfl (lv_at hl 1 rfl) ?_
          refine lv_iload_n hx hb dX6_isWord_40 rfl (lv_at hl 2 rfl) ?_
          refine m_cie (m_rVs S hW (c_J0_charAt_5068e l G ad sh V i k hi (by first | assumption | omega)) (cwV 1 hts (gCall [.methodLink RX6 28 yJ0_charAt_5068e, .instanceMethod yJ0_charAt_5068e, .selects RJ0 yJ0_charAt_5068e yJ0_charAt_5068e, .initialized RJ0] (List.forall_mem_cons.mpr ⟨(wa_4 _ (List.mem_of_getElem? (i := 7) (by decide +kernel))), (List.forall_mem_cons.mpr ⟨(wa_4 _ (List.mem_of_getElem? (i := 4) (by decide +kernel))), (List.forall_mem_cons.mpr ⟨(wa_4 _ (List.mem_of_getElem? (i := 5) (by decide +kernel))), (List.forall_mem_cons.mpr ⟨(wa_4 _ (List.mem_of_getElem? (i := 6) (by decide +kernel))), (List.forall_mem_cons.mpr ⟨(wa_3 _ (List.mem_of_getElem? (i := 19) (by decide +kernel))), (fun _ h => absurd h List.not_mem_nil)⟩)⟩)⟩)⟩)⟩)) rfl rfl rfl (by decide +kernel) ⟨by dsimp only; omega, by dsimp only; omega⟩) hi rfl hl.1 rfl (Nat.le_of_ble_eq_true rfl) dX6_isWord_41 ⟨Nat.le_of_ble_eq_true rfl, Nat.le_of_ble_eq_true rfl⟩) hW (fun H locs hW => ?_)
          refine lv_icmp_eq (tgt := 49) hx hb dX6_isWord_44 (by decide) (fun c_3 => ?_) (fun c_3 => ?_)
          · skip
            refine lv_iinc (v := nI (k + 1)) (lv' := [(2, .int (nI (k + 1))), (0, .ref (ad 1)), (1, .ref (G.2.2.2.1 i))]) hx hb dX6_isWord_49 hl (k := 2) rfl (m_inc k 1) (by decide) rfl (fun ls hl => ?_)
            refine lv_goto (tgt := 20) hx hb dX6_isWord_52 (by decide) ?_
            exact ih_20  (k + 1)  _ _ _ (by omega) (by intro j hj; exact if hjk : j = k then (by rw [hjk, ← hT.by_]; exact c_3) else hal j (by omega)) (by omega) hW (lv_sub hl [1, 2, 0] rfl)
          · skip
            refine lv_iconst (v := nI 0) hx hb dX6_isWord_47 (by decide) ?_
            exact m_zret S hr hlk hW rfl dX6_isWord_48 ⟨rfl, (by exact Or.inr ⟨rfl, decide_eq_false (fun z => c_3 (by rw [hT.by_]; exact z.2 k (by omega)))⟩)⟩
    exact loop_20 (mLen.getD i 0 - 0 + 1) 0  _ _ _ (by omega) (by intro j hj; omega) (by omega) hW (lv_sub hl [1, 2, 0] rfl)
  · skip
    have c_1 : ¬ (q.1 - q.2.2.1) = (mLen.getD i 0) := mt (nI_eq (by omega) (by omega)).mpr c_1
    refine lv_iconst (v := nI 0) hx hb dX6_isWord_16 (by decide) ?_
    exact m_zret S hr hlk hW rfl dX6_isWord_17 ⟨rfl, (by exact Or.inr ⟨rfl, decide_eq_false (fun z => c_1 z.1)⟩)⟩
