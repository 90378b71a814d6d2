/-! within; eaters; goods -/
theorem m_dec (a n : Nat) (h : n ≤ a) : nI a + Int32.ofInt (-(n : Int)) = nI (a - n) := by
  rw [← pk_sub h, Int32.sub_eq_add_neg]
  congr 1
  rw [Int32.ofInt_neg]
  rfl
def fUsh (x y : Int32) : Int32 := (x.toUInt32 >>> (y.toUInt32 &&& Int32.toUInt32 31)).toInt32
abbrev mIn (x : Int32) (lo hi : Nat) : Prop := (lo : Int) ≤ x.toInt ∧ x.toInt < (hi : Int)
theorem mIn.ex {x : Int32} {lo hi : Nat} (h : mIn x lo hi) : ∃ n : Nat, x = nI n ∧ lo ≤ n ∧ n < hi := by
  obtain ⟨h1, h2⟩ := h
  have h0 : (0 : Int) ≤ x.toInt := by omega
  refine ⟨x.toInt.toNat, ?_, by omega, by omega⟩
  apply Int32.toInt_inj.mp
  have hb := x.toInt_lt
  rw [nI_toInt (by omega)]
  omega
theorem mIn_nI {n lo hi : Nat} (hn : n < 2 ^ 31) : mIn (nI n) lo hi ↔ lo ≤ n ∧ n < hi := by
  simp only [mIn]
  rw [nI_toInt hn]
  omega
theorem nI_lit {a b : Nat} (ha : a < 2 ^ 31) (hb : b < 2 ^ 31) : (nI a = nI b) = (a = b) := propext (nI_eq ha hb)
/-- the bits of a bite -/
def fShape (k mo j so : Int32) : Int32 :=
  if k = nI 1 then j ||| (j <<< (nI 1 &&& 31))
  else if k = nI 2 then (if nI 5 ≤ so then j else nI 0)
  else if k = nI 3 then (j ||| (j <<< (nI 1 &&& 31))) &&& (-(j ||| (j <<< (nI 1 &&& 31))))
  else if k = nI 4 then (if nI 5 ≤ so then j else nI 0)
  else if k = nI 5 then (nI 2 <<< ((mo / nI 2) &&& 31)) - nI 1
  else j
def fMark (sp le p : Int32) : Int32 := (if nI 0 ≤ p - nI 6 then sp <<< ((p - nI 6) &&& 31) else sp >>> ((-(p - nI 6)) &&& 31)) &&& le
/-- what a KIND pays, the text saying x -/
def fPays (k mo so x : Int32) : Int32 :=
  if k = nI 2 then (if so ≤ nI 6 then x else nI 0)
  else if k = nI 4 then (if so ≤ nI 6 then x else nI 0) + mo / nI 3
  else if k = nI 5 then x + nI 3
  else x
def fLike (k mo x : Int32) : Int32 := if k = nI 3 then x + mo else if k = nI 4 then nI 2 * x else x
def fUnder (k x : Int32) : Bool := decide (x = nI 0) || decide (x = k) || (decide (x = nI 1) && decide (k = nI 3)) || (decide (x = nI 2) && decide (k = nI 4))
def fMost (x : Int32) : Int32 := if x = nI 10 then nI 9 else if x = nI 11 then nI 1023 else nI 99
/-- bit c of x, as an int -/
def fBit (x : Int32) (c : Nat) : Int32 := (x >>> (nI c &&& 31)) &&& nI 1
def fWorth (w : Nat → Int32) (x : Int32) : Nat → Int32
  | 0 => nI 0
  | c + 1 => if fBit x c = nI 0 then fWorth w x c else fWorth w x c + w c
def fPart (V : mV) (g k : Nat) : Int32 := if k = 10 then V g 1 else if k = 11 then V g 2 else V (g + 1) k
def fPut (V : mV) (g k : Nat) (x : Int32) : mV := if k = 10 then mU V g 1 x else if k = 11 then mU V g 2 x else mU V (g + 1) k x
/-- the first n slots of j come to i -/
def mCp (V : mV) (i j n : Nat) : mV := fun a b => if a = i ∧ b < n then V j b else V a b
theorem mCp_5 (V : mV) (i j : Nat) : mU (mU (mU (mU (mU V i 0 (V j 0)) i 1 (mU V i 0 (V j 0) j 1)) i 2 (mU (mU V i 0 (V j 0)) i 1 (mU V i 0 (V j 0) j 1) j 2)) i 3 (mU (mU (mU V i 0 (V j 0)) i 1 (mU V i 0 (V j 0) j 1)) i 2 (mU (mU V i 0 (V j 0)) i 1 (mU V i 0 (V j 0) j 1) j 2) j 3)) i 4 (mU (mU (mU (mU V i 0 (V j 0)) i 1 (mU V i 0 (V j 0) j 1)) i 2 (mU (mU V i 0 (V j 0)) i 1 (mU V i 0 (V j 0) j 1) j 2)) i 3 (mU (mU (mU V i 0 (V j 0)) i 1 (mU V i 0 (V j 0) j 1)) i 2 (mU (mU V i 0 (V j 0)) i 1 (mU V i 0 (V j 0) j 1) j 2) j 3) j 4) = mCp V i j 5 := by
  funext a b
  by_cases ha : a = i
  · subst ha
    match b with
    | 0 => simp [mU, mCp]
    | 1 => simp [mU, mCp]
    | 2 => simp [mU, mCp]
    | 3 => simp [mU, mCp]
    | 4 => simp [mU, mCp]
    | b + 5 => simp [mU, mCp, show ¬ (b + 5 < 5) by omega]
  · simp [mU, mCp, ha]
/-- places lo .. lo + n - 1 of row i become x -/
def mFill (V : mV) (i lo n : Nat) (x : Int32) : mV := fun a b => if a = i ∧ lo ≤ b ∧ b < lo + n then x else V a b
theorem mFill_0 (V : mV) (i lo : Nat) (x : Int32) : V = mFill V i lo 0 x := by
  funext a b
  have : ¬ (a = i ∧ lo ≤ b ∧ b < lo + 0) := by omega
  simp only [mFill, if_neg this]
theorem mFill_1 (V : mV) (i lo n k : Nat) (x : Int32) (hk : k = lo + n) : mU (mFill V i lo n x) i k x = mFill V i lo (n + 1) x := by
  funext a b
  simp only [mU, mFill]
  by_cases h1 : a = i ∧ b = k
  · rw [if_pos h1, if_pos (by omega)]
  · rw [if_neg h1]
    by_cases h2 : a = i ∧ lo ≤ b ∧ b < lo + n
    · rw [if_pos h2, if_pos (by omega)]
    · rw [if_neg h2, if_neg (by omega)]
theorem mFill_no (V : mV) {i lo n a : Nat} (x : Int32) (h : a ≠ i) : mFill V i lo n x a = V a := by
  funext b
  simp [mFill, h]
set_option maxHeartbeats 4000000 in
set_option maxRecDepth 100000 in
theorem c_X10_within (l : Launch) (G : mG) (ad : Nat → Nat) (sh : Nat → Option mSh) (V : mV) (x : Int32) (lo hi : Nat) (hlo : lo < 2 ^ 31) (hhi : hi < 2 ^ 31) : mM l yX10_within wsX10_within ({ frames := 0, cells := 0, slots := 0, locals := 0 } : Room) G ad sh V [.int x, .int (nI lo), .int (nI hi)] 0 0 (mPip ad sh V (fun r => (nI 1 = r ∧ (mIn x lo (hi + 1))) ∨ (nI 0 = r ∧ (¬ mIn x lo (hi + 1))))) := by
  refine mM.of (cc := cX10_within) (maxL := 3) (ret := (some .boolean)) (by decide) rfl (Nat.le_of_ble_eq_true rfl) ?_
  intro p e s m below meth c S hr hlk hnm hW ls hl
  obtain ⟨hx, hb, hml, hown, hts⟩ := id S
  have hl : lv_has ls 3 [(0, .int x), (1, .int (nI lo)), (2, .int (nI hi))] := hl
  have hS0 : True := trivial
  refine lv_iload_n hx hb dX10_within_0 rfl (lv_at hl 0 rfl) ?_
  refine lv_iload_n hx hb dX10_within_1 rfl (lv_at hl 1 rfl) ?_
  refine lv_icmp_lt (tgt := 14) hx hb dX10_within_2 (by decide) (fun c_1 => ?_) (fun c_1 => ?_)
  · skip
    refine lv_iconst (v := nI 0) hx hb dX10_within_14 (by decide) ?_
    exact m_zret S hr hlk hW rfl dX10_within_15 ⟨rfl, (by have a1 := nI_toInt hlo; have a2 := nI_toInt hhi; simp only [Int32.lt_iff_toInt_lt, Int32.not_lt, Int32.le_iff_toInt_le, a1, a2] at c_1; first | exact Or.inl ⟨rfl, by omega, by omega⟩ | exact Or.inr ⟨rfl, fun h => by obtain ⟨h1, h2⟩ := h; omega⟩)⟩
  · skip
    refine lv_iload_n hx hb dX10_within_5 rfl (lv_at hl 0 rfl) ?_
    refine lv_iload_n hx hb dX10_within_6 rfl (lv_at hl 2 rfl) ?_
    refine lv_icmp_gt (tgt := 14) hx hb dX10_within_7 (by decide) (fun c_2 => ?_) (fun c_2 => ?_)
    · skip
      refine lv_iconst (v := nI 0) hx hb dX10_within_14 (by decide) ?_
      exact m_zret S hr hlk hW rfl dX10_within_15 ⟨rfl, (by have a1 := nI_toInt hlo; have a2 := nI_toInt hhi; simp only [Int32.lt_iff_toInt_lt, Int32.not_lt, Int32.le_iff_toInt_le, a1, a2] at c_1 c_2; first | exact Or.inl ⟨rfl, by omega, by omega⟩ | exact Or.inr ⟨rfl, fun h => by obtain ⟨h1, h2⟩ := h; omega⟩)⟩
    · skip
      refine lv_iconst (v := nI 1) hx hb dX10_within_10 (by decide) ?_
      refine lv_goto (tgt := 15) hx hb dX10_within_11 (by decide) ?_
      exact m_zret S hr hlk hW rfl dX10_within_15 ⟨rfl, (by have a1 := nI_toInt hlo; have a2 := nI_toInt hhi; simp only [Int32.lt_iff_toInt_lt, Int32.not_lt, Int32.le_iff_toInt_le, a1, a2] at c_1 c_2; first | exact Or.inl ⟨rfl, by omega, by omega⟩ | exact Or.inr ⟨rfl, fun h => by obtain ⟨h1, h2⟩ := h; omega⟩)⟩
set_option maxHeartbeats 4000000 in
set_option maxRecDepth 100000 in
theorem c_X10_within_c (l : Launch) (G : mG) (ad : Nat → Nat) (sh : Nat → Option mSh) (V : mV) (x b : Int32) (nc : Nat) (hb9 : b.toInt = (nc : Int) - ((1 : Nat) : Int)) : mM l yX10_within wsX10_within ({ frames := 0, cells := 0, slots := 0, locals := 0 } : Room) G ad sh V [.int x, .int (nI 0), .int b] 0 0 (mPip ad sh V (fun r => (nI 1 = r ∧ (mIn x 0 nc)) ∨ (nI 0 = r ∧ (¬ mIn x 0 nc)))) := by
  refine mM.of (cc := cX10_within) (maxL := 3) (ret := (some .boolean)) (by decide) rfl (Nat.le_of_ble_eq_true rfl) ?_
  intro p e s m below meth c S hr hlk hnm hW ls hl
  obtain ⟨hx, hb, hml, hown, hts⟩ := id S
  have hl : lv_has ls 3 [(0, .int x), (1, .int (nI 0)), (2, .int b)] := hl
  have hS0 : True := trivial
  refine lv_iload_n hx hb dX10_within_0 rfl (lv_at hl 0 rfl) ?_
  refine lv_iload_n hx hb dX10_within_1 rfl (lv_at hl 1 rfl) ?_
  refine lv_icmp_lt (tgt := 14) hx hb dX10_within_2 (by decide) (fun c_1 => ?_) (fun c_1 => ?_)
  · skip
    refine lv_iconst (v := nI 0) hx hb dX10_within_14 (by decide) ?_
    exact m_zret S hr hlk hW rfl dX10_within_15 ⟨rfl, (by have a1 : (nI 0).toInt = 0 := (by decide); simp only [Int32.lt_iff_toInt_lt, Int32.not_lt, Int32.le_iff_toInt_le, a1, hb9] at c_1; first | exact Or.inl ⟨rfl, by omega, by omega⟩ | exact Or.inr ⟨rfl, fun h => by obtain ⟨h1, h2⟩ := h; omega⟩)⟩
  · skip
    refine lv_iload_n hx hb dX10_within_5 rfl (lv_at hl 0 rfl) ?_
    refine lv_iload_n hx hb dX10_within_6 rfl (lv_at hl 2 rfl) ?_
    refine lv_icmp_gt (tgt := 14) hx hb dX10_within_7 (by decide) (fun c_2 => ?_) (fun c_2 => ?_)
    · skip
      refine lv_iconst (v := nI 0) hx hb dX10_within_14 (by decide) ?_
      exact m_zret S hr hlk hW rfl dX10_within_15 ⟨rfl, (by have a1 : (nI 0).toInt = 0 := (by decide); simp only [Int32.lt_iff_toInt_lt, Int32.not_lt, Int32.le_iff_toInt_le, a1, hb9] at c_1 c_2; first | exact Or.inl ⟨rfl, by omega, by omega⟩ | exact Or.inr ⟨rfl, fun h => by obtain ⟨h1, h2⟩ := h; omega⟩)⟩
    · skip
      refine lv_iconst (v := nI 1) hx hb dX10_within_10 (by decide) ?_
      refine lv_goto (tgt := 15) hx hb dX10_within_11 (by decide) ?_
      exact m_zret S hr hlk hW rfl dX10_within_15 ⟨rfl, (by have a1 : (nI 0).toInt = 0 := (by decide); simp only [Int32.lt_iff_toInt_lt, Int32.not_lt, Int32.le_iff_toInt_le, a1, hb9] at c_1 c_2; first | exact Or.inl ⟨rfl, by omega, by omega⟩ | exact Or.inr ⟨rfl, fun h => by obtain ⟨h1, h2⟩ := h; omega⟩)⟩
set_option maxHeartbeats 4000000 in
set_option maxRecDepth 100000 in
theorem c_X10_isByte (l : Launch) (G : mG) (ad : Nat → Nat) (sh : Nat → Option mSh) (V : mV) (x : Int32) : mM l yX10_isByte wsX10_isByte ({ frames := 1, cells := 0, slots := 0, locals := 22 } : Room) G ad sh V [.int x] 0 0 (mPip ad sh V (fun r => (nI 1 = r ∧ (mIn x 0 256)) ∨ (nI 0 = r ∧ (¬ mIn x 0 256)))) := by
  refine mM.of (cc := cX10_isByte) (maxL := 1) (ret := (some .boolean)) (by decide) rfl (Nat.le_of_ble_eq_true rfl) ?_
  intro p e s m below meth c S hr hlk hnm hW ls hl
  obtain ⟨hx, hb, hml, hown, hts⟩ := id S
  have hl : lv_has ls 1 [(0, .int x)] := hl
  have hS0 : True := trivial
  refine lv_iload_n hx hb dX10_isByte_0 rfl (lv_at hl 0 rfl) ?_
  refine lv_iconst (v := nI 0) hx hb dX10_isByte_1 (by decide) ?_
  refine lv_sipush (v := nI 255) hx hb dX10_isByte_2 (by decide) ?_
  refine m_cip (m_rS S hW (c_X10_within l G ad sh V x 0 255 (by first | assumption | omega) (by first | assumption | omega)) (va_cwS 3 hts (gCall [.methodLink RX10 102 yX10_within, .static yX10_within, .initialized RX10] (List.forall_mem_cons.mpr ⟨(wa_8 _ (List.mem_of_getElem? (i := 17) (by decide +kernel))), (List.forall_mem_cons.mpr ⟨(wa_15 _ (List.mem_of_getElem? (i := 8) (by decide +kernel))), (List.forall_mem_cons.mpr ⟨(wa_8 _ (List.mem_of_getElem? (i := 16) (by decide +kernel))), (List.forall_mem_cons.mpr ⟨(wa_1 _ (List.mem_of_getElem? (i := 2) (by decide +kernel))), (fun _ h => absurd h List.not_mem_nil)⟩)⟩)⟩)⟩)) rfl rfl rfl (by decide +kernel) ⟨Nat.le_of_ble_eq_true rfl, Nat.le_of_ble_eq_true rfl⟩) rfl hl.1 rfl (Nat.le_of_ble_eq_true rfl) dX10_isByte_5 ⟨Nat.le_of_ble_eq_true rfl, Nat.le_of_ble_eq_true rfl⟩) hW (fun r_2 H locs hp_1 hW => ?_)
  rcases hp_1 with ⟨rfl, w_3⟩ | ⟨rfl, w_4⟩
  · skip
    exact m_zret S hr hlk hW rfl dX10_isByte_8 ⟨rfl, (by first | exact Or.inl ⟨rfl, w_3⟩ | exact Or.inr ⟨rfl, w_3⟩)⟩
  · skip
    exact m_zret S hr hlk hW rfl dX10_isByte_8 ⟨rfl, (by first | exact Or.inl ⟨rfl, w_4⟩ | exact Or.inr ⟨rfl, w_4⟩)⟩
set_option maxHeartbeats 4000000 in
set_option maxRecDepth 100000 in
theorem c_X10_isPlace (l : Launch) (G : mG) (ad : Nat → Nat) (sh : Nat → Option mSh) (V : mV) (x : Int32) : mM l yX10_isPlace wsX10_isPlace ({ frames := 1, cells := 0, slots := 0, locals := 22 } : Room) G ad sh V [.int x] 0 0 (mPip ad sh V (fun r => (nI 1 = r ∧ (mIn x 0 16)) ∨ (nI 0 = r ∧ (¬ mIn x 0 16)))) := by
  refine mM.of (cc := cX10_isPlace) (maxL := 1) (ret := (some .boolean)) (by decide) rfl (Nat.le_of_ble_eq_true rfl) ?_
  intro p e s m below meth c S hr hlk hnm hW ls hl
  obtain ⟨hx, hb, hml, hown, hts⟩ := id S
  have hl : lv_has ls 1 [(0, .int x)] := hl
  have hS0 : True := trivial
  refine lv_iload_n hx hb dX10_isPlace_0 rfl (lv_at hl 0 rfl) ?_
  refine lv_iconst (v := nI 0) hx hb dX10_isPlace_1 (by decide) ?_
  refine lv_bipush (v := nI 15) hx hb dX10_isPlace_2 (by decide) ?_
  refine m_cip (m_rS S hW (c_X10_within l G ad sh V x 0 15 (by first | assumption | omega) (by first | assumption | omega)) (va_cwS 3 hts (gCall [.methodLink RX10 102 yX10_within, .static yX10_within, .initialized RX10] (List.forall_mem_cons.mpr ⟨(wa_8 _ (List.mem_of_getElem? (i := 17) (by decide +kernel))), (List.forall_mem_cons.mpr ⟨(wa_15 _ (List.mem_of_getElem? (i := 8) (by decide +kernel))), (List.forall_mem_cons.mpr ⟨(wa_8 _ (List.mem_of_getElem? (i := 16) (by decide +kernel))), (List.forall_mem_cons.mpr ⟨(wa_1 _ (List.mem_of_getElem? (i := 2) (by decide +kernel))), (fun _ h => absurd h List.not_mem_nil)⟩)⟩)⟩)⟩)) rfl rfl rfl (by decide +kernel) ⟨Nat.le_of_ble_eq_true rfl, Nat.le_of_ble_eq_true rfl⟩) rfl hl.1 rfl (Nat.le_of_ble_eq_true rfl) dX10_isPlace_4 ⟨Nat.le_of_ble_eq_true rfl, Nat.le_of_ble_eq_true rfl⟩) hW (fun r_2 H locs hp_1 hW => ?_)
  rcases hp_1 with ⟨rfl, w_3⟩ | ⟨rfl, w_4⟩
  · skip
    exact m_zret S hr hlk hW rfl dX10_isPlace_7 ⟨rfl, (by first | exact Or.inl ⟨rfl, w_3⟩ | exact Or.inr ⟨rfl, w_3⟩)⟩
  · skip
    exact m_zret S hr hlk hW rfl dX10_isPlace_7 ⟨rfl, (by first | exact Or.inl ⟨rfl, w_4⟩ | exact Or.inr ⟨rfl, w_4⟩)⟩
set_option maxHeartbeats 4000000 in
set_option maxRecDepth 100000 in
theorem c_X1_shapeIn (l : Launch) (G : mG) (ad : Nat → Nat) (sh : Nat → Option mSh) (V : mV) (i g : Nat) (hi : sh i = some sEater) (hg : sh g = some (sGood g)) (hg' : sh (g + 1) = some (mI 10)) : mM l yX1_shapeIn wsX1_shapeIn ({ frames := 0, cells := 0, slots := 0, locals := 0 } : Room) G ad sh V [.ref (ad i), .ref (ad g)] 0 0 (mPe ad sh V (fShape (V i 0) (V i 1) (V i 2) (V g 1))) := by
  refine mM.of (cc := cX1_shapeIn) (maxL := 3) (ret := (some .int)) (by decide) rfl (Nat.le_of_ble_eq_true rfl) ?_
  intro p e s m below meth c S hr hlk hnm hW ls hl
  obtain ⟨hx, hb, hml, hown, hts⟩ := id S
  have hl : lv_has ls 3 [(0, .ref (ad i)), (1, .ref (ad g))] := hl
  have hS0 : True := trivial
  refine lv_aload_n hx hb dX1_shapeIn_0 rfl (lv_at hl 0 rfl) ?_
  refine m_geti S hW hi 2 rfl kX1 (iW1 _) (by decide) (List.mem_cons_of_mem _ (wa_23 _ (List.mem_of_getElem? (i := 0) (by decide +kernel)))) dX1_shapeIn_1 ?_
  refine lv_aload_n hx hb dX1_shapeIn_4 rfl (lv_at hl 0 rfl) ?_
  refine m_geti S hW hi 2 rfl kX1 (iW1 _) (by decide) (List.mem_cons_of_mem _ (wa_23 _ (List.mem_of_getElem? (i := 0) (by decide +kernel)))) dX1_shapeIn_5 ?_
  refine lv_iconst (v := nI 1) hx hb dX1_shapeIn_8 (by decide) ?_
  refine lv_ishl hx hb dX1_shapeIn_9 ?_
  refine lv_ior hx hb dX1_shapeIn_10 ?_
  refine lv_topi (fun x_1 ex_1 => ?_)
  refine lv_istore_n (lv' := [(2, .int x_1), (0, .ref (ad i)), (1, .ref (ad g))]) hx hb dX1_shapeIn_11 rfl hl (by decide) rfl (fun ls hl => ?_)
  refine lv_aload_n hx hb dX1_shapeIn_12 rfl (lv_at hl 1 rfl) ?_
  refine m_geti S hW hi 0 rfl kX1 (iW1 _) (by decide) (List.mem_cons_of_mem _ (wa_22 _ (List.mem_of_getElem? (i := 22) (by decide +kernel)))) dX1_shapeIn_13 ?_
  by_cases c_2 : V i 0 = nI 1
  · skip
    refine lv_tableIn (off := 36) (tgt := 52) hx hb dX1_shapeIn_16 (by rw [c_2]; decide) (by rw [c_2]; decide) (by rw [c_2]; decide +kernel) (by decide) ?_
    refine lv_iload_n hx hb dX1_shapeIn_52 rfl (lv_at hl 0 rfl) ?_
    exact m_iret S hr hlk hW dX1_shapeIn_53 ⟨rfl, (by simp only [fShape, ex_1, c_2]; first | rfl | simp [ex_1, c_2, nI_lit])⟩
  by_cases c_3 : V i 0 = nI 2
  · skip
    refine lv_tableIn (off := 43) (tgt := 59) hx hb dX1_shapeIn_16 (by rw [c_3]; decide) (by rw [c_3]; decide) (by rw [c_3]; decide +kernel) (by decide) ?_
    refine lv_aload_n hx hb dX1_shapeIn_59 rfl (lv_at hl 2 rfl) ?_
    refine m_geti S hW hg 1 rfl kX3 (iW3 _) (by decide) (List.mem_cons_of_mem _ (wa_24 _ (List.mem_of_getElem? (i := 12) (by decide +kernel)))) dX1_shapeIn_60 ?_
    refine lv_iconst (v := nI 5) hx hb dX1_shapeIn_63 (by decide) ?_
    refine lv_icmp_ge (tgt := 71) hx hb dX1_shapeIn_64 (by decide) (fun c_4 => ?_) (fun c_4 => ?_)
    · skip
      refine lv_aload_n hx hb dX1_shapeIn_71 rfl (lv_at hl 1 rfl) ?_
      refine m_geti S hW hi 2 rfl kX1 (iW1 _) (by decide) (List.mem_cons_of_mem _ (wa_23 _ (List.mem_of_getElem? (i := 0) (by decide +kernel)))) dX1_shapeIn_72 ?_
      exact m_iret S hr hlk hW dX1_shapeIn_75 ⟨rfl, (by simp only [fShape, ex_1, c_2, c_3, c_4]; first | rfl | simp [ex_1, c_2, c_3, c_4, nI_lit])⟩
    · skip
      refine lv_iconst (v := nI 0) hx hb dX1_shapeIn_67 (by decide) ?_
      refine lv_goto (tgt := 75) hx hb dX1_shapeIn_68 (by decide) ?_
      exact m_iret S hr hlk hW dX1_shapeIn_75 ⟨rfl, (by simp only [fShape, ex_1, c_2, c_3, c_4]; first | rfl | simp [ex_1, c_2, c_3, c_4, nI_lit])⟩
  by_cases c_5 : V i 0 = nI 3
  · skip
    refine lv_tableIn (off := 38) (tgt := 54) hx hb dX1_shapeIn_16 (by rw [c_5]; decide) (by rw [c_5]; decide) (by rw [c_5]; decide +kernel) (by decide) ?_
    refine lv_iload_n hx hb dX1_shapeIn_54 rfl (lv_at hl 0 rfl) ?_
    refine lv_iload_n hx hb dX1_shapeIn_55 rfl (lv_at hl 0 rfl) ?_
    refine lv_ineg hx hb dX1_shapeIn_56 ?_
    refine lv_iand hx hb dX1_shapeIn_57 ?_
    exact m_iret S hr hlk hW dX1_shapeIn_58 ⟨rfl, (by simp only [fShape, ex_1, c_2, c_3, c_5]; first | rfl | simp [ex_1, c_2, c_3, c_5, nI_lit])⟩
  by_cases c_6 : V i 0 = nI 4
  · skip
    refine lv_tableIn (off := 43) (tgt := 59) hx hb dX1_shapeIn_16 (by rw [c_6]; decide) (by rw [c_6]; decide) (by rw [c_6]; decide +kernel) (by decide) ?_
    refine lv_aload_n hx hb dX1_shapeIn_59 rfl (lv_at hl 2 rfl) ?_
    refine m_geti S hW hg 1 rfl kX3 (iW3 _) (by decide) (List.mem_cons_of_mem _ (wa_24 _ (List.mem_of_getElem? (i := 12) (by decide +kernel)))) dX1_shapeIn_60 ?_
    refine lv_iconst (v := nI 5) hx hb dX1_shapeIn_63 (by decide) ?_
    refine lv_icmp_ge (tgt := 71) hx hb dX1_shapeIn_64 (by decide) (fun c_7 => ?_) (fun c_7 => ?_)
    · skip
      refine lv_aload_n hx hb dX1_shapeIn_71 rfl (lv_at hl 1 rfl) ?_
      refine m_geti S hW hi 2 rfl kX1 (iW1 _) (by decide) (List.mem_cons_of_mem _ (wa_23 _ (List.mem_of_getElem? (i := 0) (by decide +kernel)))) dX1_shapeIn_72 ?_
      exact m_iret S hr hlk hW dX1_shapeIn_75 ⟨rfl, (by simp only [fShape, ex_1, c_2, c_3, c_5, c_6, c_7]; first | rfl | simp [ex_1, c_2, c_3, c_5, c_6, c_7, nI_lit])⟩
    · skip
      refine lv_iconst (v := nI 0) hx hb dX1_shapeIn_67 (by decide) ?_
      refine lv_goto (tgt := 75) hx hb dX1_shapeIn_68 (by decide) ?_
      exact m_iret S hr hlk hW dX1_shapeIn_75 ⟨rfl, (by simp only [fShape, ex_1, c_2, c_3, c_5, c_6, c_7]; first | rfl | simp [ex_1, c_2, c_3, c_5, c_6, c_7, nI_lit])⟩
  by_cases c_8 : V i 0 = nI 5
  · skip
    refine lv_tableIn (off := 60) (tgt := 76) hx hb dX1_shapeIn_16 (by rw [c_8]; decide) (by rw [c_8]; decide) (by rw [c_8]; decide +kernel) (by decide) ?_
    refine lv_iconst (v := nI 2) hx hb dX1_shapeIn_76 (by decide) ?_
    refine lv_aload_n hx hb dX1_shapeIn_77 rfl (lv_at hl 1 rfl) ?_
    refine m_geti S hW hi 1 rfl kX1 (iW1 _) (by decide) (List.mem_cons_of_mem _ (wa_22 _ (List.mem_of_getElem? (i := 23) (by decide +kernel)))) dX1_shapeIn_78 ?_
    refine lv_iconst (v := nI 2) hx hb dX1_shapeIn_81 (by decide) ?_
    refine lv_idiv hx hb dX1_shapeIn_82 (by decide) ?_
    refine lv_ishl hx hb dX1_shapeIn_83 ?_
    refine lv_iconst (v := nI 1) hx hb dX1_shapeIn_84 (by decide) ?_
    refine lv_isub hx hb dX1_shapeIn_85 ?_
    exact m_iret S hr hlk hW dX1_shapeIn_86 ⟨rfl, (by simp only [fShape, ex_1, c_2, c_3, c_5, c_6, c_8]; first | rfl | simp [ex_1, c_2, c_3, c_5, c_6, c_8, nI_lit])⟩
  refine lv_tableOut (tgt := 87) hx hb dX1_shapeIn_16 (by have a0 := lv_neT c_2 (show (nI 1 : Int32).toInt = 1 by decide); have a1 := lv_neT c_3 (show (nI 2 : Int32).toInt = 2 by decide); have a2 := lv_neT c_5 (show (nI 3 : Int32).toInt = 3 by decide); have a3 := lv_neT c_6 (show (nI 4 : Int32).toInt = 4 by decide); have a4 := lv_neT c_8 (show (nI 5 : Int32).toInt = 5 by decide); omega) (by decide) ?_
  refine lv_aload_n hx hb dX1_shapeIn_87 rfl (lv_at hl 1 rfl) ?_
  refine m_geti S hW hi 2 rfl kX1 (iW1 _) (by decide) (List.mem_cons_of_mem _ (wa_23 _ (List.mem_of_getElem? (i := 0) (by decide +kernel)))) dX1_shapeIn_88 ?_
  exact m_iret S hr hlk hW dX1_shapeIn_91 ⟨rfl, (by simp only [fShape, ex_1, c_2, c_3, c_5, c_6, c_8]; first | rfl | simp [ex_1, c_2, c_3, c_5, c_6, c_8, nI_lit])⟩
set_option maxHeartbeats 4000000 in
set_option maxRecDepth 100000 in
theorem c_X1_markOf (l : Launch) (G : mG) (ad : Nat → Nat) (sh : Nat → Option mSh) (V : mV) (i g : Nat) (x : Int32) (hi : sh i = some sEater) (hg : sh g = some (sGood g)) (hg' : sh (g + 1) = some (mI 10)) : mM l yX1_markOf wsX1_markOf ({ frames := 1, cells := 0, slots := 0, locals := 22 } : Room) G ad sh V [.ref (ad i), .ref (ad g), .int x] 0 0 (mPe ad sh V (fMark (fShape (V i 0) (V i 1) (V i 2) (V g 1)) (V g 2) x)) := by
  refine mM.of (cc := cX1_markOf) (maxL := 5) (ret := (some .int)) (by decide) rfl (Nat.le_of_ble_eq_true rfl) ?_
  intro p e s m below meth c S hr hlk hnm hW ls hl
  obtain ⟨hx, hb, hml, hown, hts⟩ := id S
  have hl : lv_has ls 5 [(0, .ref (ad i)), (1, .ref (ad g)), (2, .int x)] := hl
  have hS0 : True := trivial
  refine lv_aload_n hx hb dX1_markOf_0 rfl (lv_at hl 0 rfl) ?_
  refine lv_aload_n hx hb dX1_markOf_1 rfl (lv_at hl 1 rfl) ?_
  refine m_cie (m_rV S hW (c_X1_shapeIn l G ad sh V i g hi (by first | assumption | omega) (by first | assumption | omega)) (cwV 1 hts (gCall [.methodLink RX1 27 yX1_shapeIn, .instanceMethod yX1_shapeIn, .selects RX1 yX1_shapeIn yX1_shapeIn, .initialized RX1] (List.forall_mem_cons.mpr ⟨(wa_24 _ (List.mem_of_getElem? (i := 11) (by decide +kernel))), (List.forall_mem_cons.mpr ⟨(wa_25 _ (List.mem_of_getElem? (i := 9) (by decide +kernel))), (List.forall_mem_cons.mpr ⟨(wa_24 _ (List.mem_of_getElem? (i := 9) (by decide +kernel))), (List.forall_mem_cons.mpr ⟨(wa_24 _ (List.mem_of_getElem? (i := 10) (by decide +kernel))), (List.forall_mem_cons.mpr ⟨(wa_3 _ (List.mem_of_getElem? (i := 3) (by decide +kernel))), (fun _ h => absurd h List.not_mem_nil)⟩)⟩)⟩)⟩)⟩)) rfl rfl rfl (by decide +kernel) ⟨Nat.le_of_ble_eq_true rfl, Nat.le_of_ble_eq_true rfl⟩) hi kX1 rfl hl.1 rfl (Nat.le_of_ble_eq_true rfl) dX1_markOf_2 ⟨Nat.le_of_ble_eq_true rfl, Nat.le_of_ble_eq_true rfl⟩) hW (fun H locs hW => ?_)
  refine lv_istore_n (lv' := [(3, .int (fShape (V i 0) (V i 1) (V i 2) (V g 1))), (0, .ref (ad i)), (1, .ref (ad g)), (2, .int x)]) hx hb dX1_markOf_5 rfl hl (by decide) rfl (fun ls hl => ?_)
  refine lv_iload_n hx hb dX1_markOf_6 rfl (lv_at hl 3 rfl) ?_
  refine lv_bipush (v := nI 6) hx hb dX1_markOf_7 (by decide) ?_
  refine lv_isub hx hb dX1_markOf_9 ?_
  refine lv_istore (lv' := [(4, .int (x - (nI 6))), (3, .int (fShape (V i 0) (V i 1) (V i 2) (V g 1))), (0, .ref (ad i)), (1, .ref (ad g)), (2, .int x)]) hx hb dX1_markOf_10 hl (by decide) rfl (fun ls hl => ?_)
  refine lv_iload hx hb dX1_markOf_12 (lv_at hl 0 rfl) ?_
  refine m_if_lt (tgt := 24) hx hb dX1_markOf_14 (by decide) (fun c_1 => ?_) (fun c_1 => ?_)
  · skip
    refine lv_iload_n hx hb dX1_markOf_24 rfl (lv_at hl 1 rfl) ?_
    refine lv_iload hx hb dX1_markOf_25 (lv_at hl 0 rfl) ?_
    refine lv_ineg hx hb dX1_markOf_27 ?_
    refine lv_ishr hx hb dX1_markOf_28 ?_
    refine lv_aload_n hx hb dX1_markOf_29 rfl (lv_at hl 3 rfl) ?_
    refine m_geti S hW hg 2 rfl kX3 (iW3 _) (by decide) (List.mem_cons_of_mem _ (wa_25 _ (List.mem_of_getElem? (i := 8) (by decide +kernel)))) dX1_markOf_30 ?_
    refine lv_iand hx hb dX1_markOf_33 ?_
    exact m_iret S hr hlk hW dX1_markOf_34 ⟨rfl, (by simp only [fMark]; first | rw [if_pos (Int32.not_lt.mp c_1)] | rw [if_neg (Int32.not_le.mpr c_1)])⟩
  · skip
    refine lv_iload_n hx hb dX1_markOf_17 rfl (lv_at hl 1 rfl) ?_
    refine lv_iload hx hb dX1_markOf_18 (lv_at hl 0 rfl) ?_
    refine lv_ishl hx hb dX1_markOf_20 ?_
    refine lv_goto (tgt := 29) hx hb dX1_markOf_21 (by decide) ?_
    refine lv_aload_n hx hb dX1_markOf_29 rfl (lv_at hl 3 rfl) ?_
    refine m_geti S hW hg 2 rfl kX3 (iW3 _) (by decide) (List.mem_cons_of_mem _ (wa_25 _ (List.mem_of_getElem? (i := 8) (by decide +kernel)))) dX1_markOf_30 ?_
    refine lv_iand hx hb dX1_markOf_33 ?_
    exact m_iret S hr hlk hW dX1_markOf_34 ⟨rfl, (by simp only [fMark]; first | rw [if_pos (Int32.not_lt.mp c_1)] | rw [if_neg (Int32.not_le.mpr c_1)])⟩
set_option maxHeartbeats 4000000 in
set_option maxRecDepth 100000 in
theorem c_X1_canLeave (l : Launch) (G : mG) (ad : Nat → Nat) (sh : Nat → Option mSh) (V : mV) (i g : Nat) (x : Int32) (hi : sh i = some sEater) (hg : sh g = some (sGood g)) (hg' : sh (g + 1) = some (mI 10)) : mM l yX1_canLeave wsX1_canLeave ({ frames := 2, cells := 0, slots := 0, locals := 46 } : Room) G ad sh V [.ref (ad i), .ref (ad g), .int x] 0 0 (mPip ad sh V (fun r => (nI 1 = r ∧ (∃ n, n < 16 ∧ fMark (fShape (V i 0) (V i 1) (V i 2) (V g 1)) (V g 2) (nI n) = x)) ∨ (nI 0 = r ∧ (∀ n, n < 16 → ¬ fMark (fShape (V i 0) (V i 1) (V i 2) (V g 1)) (V g 2) (nI n) = x)))) := by
  refine mM.of (cc := cX1_canLeave) (maxL := 4) (ret := (some .boolean)) (by decide) rfl (Nat.le_of_ble_eq_true rfl) ?_
  intro p e s m below meth c S hr hlk hnm hW ls hl
  obtain ⟨hx, hb, hml, hown, hts⟩ := id S
  have hl : lv_has ls 4 [(0, .ref (ad i)), (1, .ref (ad g)), (2, .int x)] := hl
  have hS0 : True := trivial
  refine lv_iconst (v := nI 0) hx hb dX1_canLeave_0 (by decide) ?_
  refine lv_istore_n (lv' := [(3, .int (nI 0)), (0, .ref (ad i)), (1, .ref (ad g)), (2, .int x)]) hx hb dX1_canLeave_1 rfl hl (by decide) rfl (fun ls hl => ?_)
  have loop_2 : ∀ (n_2 : Nat) (k : Nat) (H : Heap) (locs : List Loc) (ls : Array Slot), (k ≤ 16) → (∀ n, n < k → ¬ fMark (fShape (V i 0) (V i 1) (V i 2) (V g 1)) (V g 2) (nI n) = x) → (16 - k) < n_2 → mC (mA ad sh s.heap.size) s.heap s G ad sh V H locs → lv_has ls 4 [(0, .ref (ad i)), (1, .ref (ad g)), (2, .int x), (3, .int (nI k))] → W p l e ({ frames := 2, cells := 0, slots := 0, locals := 46 } : Room) s m ([.ref (ad i), .ref (ad g), .int x] : List Value).toArray below meth c H locs 0 0 (MQ below (mPost G ad sh s.heap.size (mPip ad sh V (fun r => (nI 1 = r ∧ (∃ n, n < 16 ∧ fMark (fShape (V i 0) (V i 1) (V i 2) (V g 1)) (V g 2) (nI n) = x)) ∨ (nI 0 = r ∧ (∀ n, n < 16 → ¬ fMark (fShape (V i 0) (V i 1) (V i 2) (V g 1)) (V g 2) (nI n) = x))))) ([.ref (ad i), .ref (ad g), .int x] : List Value).toArray s 0 0 (mA ad sh s.heap.size)) (F0 m 2 ls []) := by
    intro n_2
    induction n_2 with
    | zero => intro k H locs ls hk hno hM_ hW hl; omega
    | succ n_2 ih_2 =>
      intro k H locs ls hk hno hM_ hW hl
      refine lv_iload_n hx hb dX1_canLeave_2 rfl (lv_at hl 3 rfl) ?_
      refine lv_bipush (v := nI 16) hx hb dX1_canLeave_3 (by decide) ?_
      refine lv_icmp_ge (tgt := 26) hx hb dX1_canLeave_5 (by decide) (fun c_1 => ?_) (fun c_1 => ?_)
      · skip
        have c_1 : 16 ≤ k := (nI_leI (by omega) (by omega)).mp c_1
        refine lv_iconst (v := nI 0) hx hb dX1_canLeave_26 (by decide) ?_
        exact m_zret S hr hlk hW rfl dX1_canLeave_27 ⟨rfl, (by first | exact Or.inl ⟨rfl, k, by omega, c_1⟩ | exact Or.inr ⟨rfl, fun n hn => hno n (by omega)⟩)⟩
      · skip
        have c_1 : ¬ 16 ≤ k := mt (nI_leI (by omega) (by omega)).mpr c_1
        refine lv_aload_n hx hb dX1_canLeave_8 rfl (lv_at hl 0 rfl) ?_
        refine lv_aload_n hx hb dX1_canLeave_9 rfl (lv_at hl 1 rfl) ?_
        refine lv_iload_n hx hb dX1_canLeave_10 rfl (lv_at hl 3 rfl) ?_
        refine m_cie (m_rV S hW (c_X1_markOf l G ad sh V i g (nI k) hi (by first | assumption | omega) (by first | assumption | omega)) (cwV 2 hts (gCall [.methodLink RX1 36 yX1_markOf, .instanceMethod yX1_markOf, .selects RX1 yX1_markOf yX1_markOf, .initialized RX1] (List.forall_mem_cons.mpr ⟨(wa_25 _ (List.mem_of_getElem? (i := 7) (by decide +kernel))), (List.forall_mem_cons.mpr ⟨(wa_36 _ (List.mem_of_getElem? (i := 15) (by decide +kernel))), (List.forall_mem_cons.mpr ⟨(wa_25 _ (List.mem_of_getElem? (i := 5) (by decide +kernel))), (List.forall_mem_cons.mpr ⟨(wa_25 _ (List.mem_of_getElem? (i := 6) (by decide +kernel))), (List.forall_mem_cons.mpr ⟨(wa_3 _ (List.mem_of_getElem? (i := 3) (by decide +kernel))), (fun _ h => absurd h List.not_mem_nil)⟩)⟩)⟩)⟩)⟩)) rfl rfl rfl (by decide +kernel) ⟨Nat.le_of_ble_eq_true rfl, Nat.le_of_ble_eq_true rfl⟩) hi kX1 rfl hl.1 rfl (Nat.le_of_ble_eq_true rfl) dX1_canLeave_11 ⟨Nat.le_of_ble_eq_true rfl, Nat.le_of_ble_eq_true rfl⟩) hW (fun H locs hW => ?_)
        refine lv_iload_n hx hb dX1_canLeave_14 rfl (lv_at hl 2 rfl) ?_
        refine lv_icmp_ne (tgt := 20) hx hb dX1_canLeave_15 (by decide) (fun c_2 => ?_) (fun c_2 => ?_)
        · skip
          refine lv_iinc (v := nI (k + 1)) (lv' := [(3, .int (nI (k + 1))), (0, .ref (ad i)), (1, .ref (ad g)), (2, .int x)]) hx hb dX1_canLeave_20 hl (k := 3) rfl (m_inc k 1) (by decide) rfl (fun ls hl => ?_)
          refine lv_goto (tgt := 2) hx hb dX1_canLeave_23 (by decide) ?_
          exact ih_2  (k + 1)  _ _ _ (by omega) (by exact fun n hn => (Nat.lt_succ_iff_lt_or_eq.mp hn).elim (fun h => hno n h) (fun h => by rw [h]; exact c_2)) (by omega) hW (lv_sub hl [1, 2, 3, 0] rfl)
        · skip
          refine lv_iconst (v := nI 1) hx hb dX1_canLeave_18 (by decide) ?_
          exact m_zret S hr hlk hW rfl dX1_canLeave_19 ⟨rfl, (by first | exact Or.inl ⟨rfl, k, by omega, c_2⟩ | exact Or.inr ⟨rfl, fun n hn => hno n (by omega)⟩)⟩
  exact loop_2 (16 - 0 + 1) 0  _ _ _ (by omega) (by intro n hn; omega) (by omega) hW (lv_sub hl [1, 2, 3, 0] rfl)
set_option maxHeartbeats 4000000 in
set_option maxRecDepth 100000 in
theorem c_X1_come (l : Launch) (G : mG) (ad : Nat → Nat) (sh : Nat → Option mSh) (V : mV) (i : Nat) (a b d : Int32) (hi : sh i = some sEater) : mM l yX1_come wsX1_come ({ frames := 0, cells := 0, slots := 0, locals := 0 } : Room) G ad sh V [.ref (ad i), .int a, .int b, .int d] 0 0 (mPv ad sh (fun V' => V' = mU (mU (mU (mU (mU V i 0 a) i 1 b) i 2 d) i 3 (nI 100)) i 4 (nI 0))) := by
  refine mM.of (cc := cX1_come) (maxL := 4) (ret := none) (by decide) rfl (Nat.le_of_ble_eq_true rfl) ?_
  intro p e s m below meth c S hr hlk hnm hW ls hl
  obtain ⟨hx, hb, hml, hown, hts⟩ := id S
  have hl : lv_has ls 4 [(0, .ref (ad i)), (1, .int a), (2, .int b), (3, .int d)] := hl
  have hS0 : True := trivial
  refine lv_aload_n hx hb dX1_come_0 rfl (lv_at hl 0 rfl) ?_
  refine lv_iload_n hx hb dX1_come_1 rfl (lv_at hl 1 rfl) ?_
  refine m_puti S hW hi 0 rfl kX1 (iW1 _) tyX1 tyX1_ok nmX1 (by decide) (List.mem_cons_of_mem _ (wa_22 _ (List.mem_of_getElem? (i := 22) (by decide +kernel)))) (Or.inl rfl) rfl rfl dX1_come_2 (fun H locs hW => ?_)
  obtain ⟨V_1, eV_1⟩ : ∃ z : mV, z = mU V i 0 (a) := ⟨_, rfl⟩
  rw [← eV_1] at hW
  refine lv_aload_n hx hb dX1_come_5 rfl (lv_at hl 0 rfl) ?_
  refine lv_iload_n hx hb dX1_come_6 rfl (lv_at hl 2 rfl) ?_
  refine m_puti S hW hi 1 rfl kX1 (iW1 _) tyX1 tyX1_ok nmX1 (by decide) (List.mem_cons_of_mem _ (wa_22 _ (List.mem_of_getElem? (i := 23) (by decide +kernel)))) (Or.inl rfl) rfl rfl dX1_come_7 (fun H locs hW => ?_)
  obtain ⟨V_2, eV_2⟩ : ∃ z : mV, z = mU V_1 i 1 (b) := ⟨_, rfl⟩
  rw [← eV_2] at hW
  refine lv_aload_n hx hb dX1_come_10 rfl (lv_at hl 0 rfl) ?_
  refine lv_iload_n hx hb dX1_come_11 rfl (lv_at hl 3 rfl) ?_
  refine m_puti S hW hi 2 rfl kX1 (iW1 _) tyX1 tyX1_ok nmX1 (by decide) (List.mem_cons_of_mem _ (wa_23 _ (List.mem_of_getElem? (i := 0) (by decide +kernel)))) (Or.inl rfl) rfl rfl dX1_come_12 (fun H locs hW => ?_)
  obtain ⟨V_3, eV_3⟩ : ∃ z : mV, z = mU V_2 i 2 (d) := ⟨_, rfl⟩
  rw [← eV_3] at hW
  refine lv_aload_n hx hb dX1_come_15 rfl (lv_at hl 0 rfl) ?_
  refine lv_bipush (v := nI 100) hx hb dX1_come_16 (by decide) ?_
  refine m_puti S hW hi 3 rfl kX1 (iW1 _) tyX1 tyX1_ok nmX1 (by decide) (List.mem_cons_of_mem _ (wa_23 _ (List.mem_of_getElem? (i := 1) (by decide +kernel)))) (Or.inl rfl) rfl rfl dX1_come_18 (fun H locs hW => ?_)
  obtain ⟨V_4, eV_4⟩ : ∃ z : mV, z = mU V_3 i 3 (nI 100) := ⟨_, rfl⟩
  rw [← eV_4] at hW
  refine lv_aload_n hx hb dX1_come_21 rfl (lv_at hl 0 rfl) ?_
  refine lv_iconst (v := nI 0) hx hb dX1_come_22 (by decide) ?_
  refine m_puti S hW hi 4 rfl kX1 (iW1 _) tyX1 tyX1_ok nmX1 (by decide) (List.mem_cons_of_mem _ (wa_23 _ (List.mem_of_getElem? (i := 2) (by decide +kernel)))) (Or.inl rfl) rfl rfl dX1_come_23 (fun H locs hW => ?_)
  obtain ⟨V_5, eV_5⟩ : ∃ z : mV, z = mU V_4 i 4 (nI 0) := ⟨_, rfl⟩
  rw [← eV_5] at hW
  exact m_vret S hr hlk hW dX1_come_26 (by simp only [eV_1, eV_2, eV_3, eV_4, eV_5])
set_option maxHeartbeats 4000000 in
set_option maxRecDepth 100000 in
theorem c_X1_become (l : Launch) (G : mG) (ad : Nat → Nat) (sh : Nat → Option mSh) (V : mV) (i j : Nat) (hi : sh i = some sEater) (hj : sh j = some sEater) : mM l yX1_become wsX1_become ({ frames := 0, cells := 0, slots := 0, locals := 0 } : Room) G ad sh V [.ref (ad i), .ref (ad j)] 0 0 (mPv ad sh (fun V' => V' = mCp V i j 5)) := by
  refine mM.of (cc := cX1_become) (maxL := 2) (ret := none) (by decide) rfl (Nat.le_of_ble_eq_true rfl) ?_
  intro p e s m below meth c S hr hlk hnm hW ls hl
  obtain ⟨hx, hb, hml, hown, hts⟩ := id S
  have hl : lv_has ls 2 [(0, .ref (ad i)), (1, .ref (ad j))] := hl
  have hS0 : True := trivial
  refine lv_aload_n hx hb dX1_become_0 rfl (lv_at hl 0 rfl) ?_
  refine lv_aload_n hx hb dX1_become_1 rfl (lv_at hl 1 rfl) ?_
  refine m_geti S hW hj 0 rfl kX1 (iW1 _) (by decide) (List.mem_cons_of_mem _ (wa_22 _ (List.mem_of_getElem? (i := 22) (by decide +kernel)))) dX1_become_2 ?_
  refine m_puti S hW hi 0 rfl kX1 (iW1 _) tyX1 tyX1_ok nmX1 (by decide) (List.mem_cons_of_mem _ (wa_22 _ (List.mem_of_getElem? (i := 22) (by decide +kernel)))) (Or.inl rfl) rfl rfl dX1_become_5 (fun H locs hW => ?_)
  obtain ⟨V_1, eV_1⟩ : ∃ z : mV, z = mU V i 0 (V j 0) := ⟨_, rfl⟩
  rw [← eV_1] at hW
  refine lv_aload_n hx hb dX1_become_8 rfl (lv_at hl 0 rfl) ?_
  refine lv_aload_n hx hb dX1_become_9 rfl (lv_at hl 1 rfl) ?_
  refine m_geti S hW hj 1 rfl kX1 (iW1 _) (by decide) (List.mem_cons_of_mem _ (wa_22 _ (List.mem_of_getElem? (i := 23) (by decide +kernel)))) dX1_become_10 ?_
  refine m_puti S hW hi 1 rfl kX1 (iW1 _) tyX1 tyX1_ok nmX1 (by decide) (List.mem_cons_of_mem _ (wa_22 _ (List.mem_of_getElem? (i := 23) (by decide +kernel)))) (Or.inl rfl) rfl rfl dX1_become_13 (fun H locs hW => ?_)
  obtain ⟨V_2, eV_2⟩ : ∃ z : mV, z = mU V_1 i 1 (V_1 j 1) := ⟨_, rfl⟩
  rw [← eV_2] at hW
  refine lv_aload_n hx hb dX1_become_16 rfl (lv_at hl 0 rfl) ?_
  refine lv_aload_n hx hb dX1_become_17 rfl (lv_at hl 1 rfl) ?_
  refine m_geti S hW hj 2 rfl kX1 (iW1 _) (by decide) (List.mem_cons_of_mem _ (wa_23 _ (List.mem_of_getElem? (i := 0) (by decide +kernel)))) dX1_become_18 ?_
  refine m_puti S hW hi 2 rfl kX1 (iW1 _) tyX1 tyX1_ok nmX1 (by decide) (List.mem_cons_of_mem _ (wa_23 _ (List.mem_of_getElem? (i := 0) (by decide +kernel)))) (Or.inl rfl) rfl rfl dX1_become_21 (fun H locs hW => ?_)
  obtain ⟨V_3, eV_3⟩ : ∃ z : mV, z = mU V_2 i 2 (V_2 j 2) := ⟨_, rfl⟩
  rw [← eV_3] at hW
  refine lv_aload_n hx hb dX1_become_24 rfl (lv_at hl 0 rfl) ?_
  refine lv_aload_n hx hb dX1_become_25 rfl (lv_at hl 1 rfl) ?_
  refine m_geti S hW hj 3 rfl kX1 (iW1 _) (by decide) (List.mem_cons_of_mem _ (wa_23 _ (List.mem_of_getElem? (i := 1) (by decide +kernel)))) dX1_become_26 ?_
  refine m_puti S hW hi 3 rfl kX1 (iW1 _) tyX1 tyX1_ok nmX1 (by decide) (List.mem_cons_of_mem _ (wa_23 _ (List.mem_of_getElem? (i := 1) (by decide +kernel)))) (Or.inl rfl) rfl rfl dX1_become_29 (fun H locs hW => ?_)
  obtain ⟨V_4, eV_4⟩ : ∃ z : mV, z = mU V_3 i 3 (V_3 j 3) := ⟨_, rfl⟩
  rw [← eV_4] at hW
  refine lv_aload_n hx hb dX1_become_32 rfl (lv_at hl 0 rfl) ?_
  refine lv_aload_n hx hb dX1_become_33 rfl (lv_at hl 1 rfl) ?_
  refine m_geti S hW hj 4 rfl kX1 (iW1 _) (by decide) (List.mem_cons_of_mem _ (wa_23 _ (List.mem_of_getElem? (i := 2) (by decide +kernel)))) dX1_become_34 ?_
  refine m_puti S hW hi 4 rfl kX1 (iW1 _) tyX1 tyX1_ok nmX1 (by decide) (List.mem_cons_of_mem _ (wa_23 _ (List.mem_of_getElem? (i := 2) (by decide +kernel)))) (Or.inl rfl) rfl rfl dX1_become_37 (fun H locs hW => ?_)
  obtain ⟨V_5, eV_5⟩ : ∃ z : mV, z = mU V_4 i 4 (V_4 j 4) := ⟨_, rfl⟩
  rw [← eV_5] at hW
  exact m_vret S hr hlk hW dX1_become_40 (by subst_vars; exact mCp_5 V i j)
set_option maxHeartbeats 4000000 in
set_option maxRecDepth 100000 in
theorem c_X1_isOf (l : Launch) (G : mG) (ad : Nat → Nat) (sh : Nat → Option mSh) (V : mV) (i : Nat) (x : Int32) (hi : sh i = some sEater) : mM l yX1_isOf wsX1_isOf ({ frames := 0, cells := 0, slots := 0, locals := 0 } : Room) G ad sh V [.ref (ad i), .int x] 0 0 (mPe ad sh V (if fUnder (V i 0) x then nI 1 else nI 0)) := by
  refine mM.of (cc := cX1_isOf) (maxL := 2) (ret := (some .boolean)) (by decide) rfl (Nat.le_of_ble_eq_true rfl) ?_
  intro p e s m below meth c S hr hlk hnm hW ls hl
  obtain ⟨hx, hb, hml, hown, hts⟩ := id S
  have hl : lv_has ls 2 [(0, .ref (ad i)), (1, .int x)] := hl
  have hS0 : True := trivial
  refine lv_iload_n hx hb dX1_isOf_0 rfl (lv_at hl 1 rfl) ?_
  refine m_if_eq (tgt := 38) hx hb dX1_isOf_1 (by decide) (fun c_1 => ?_) (fun c_1 => ?_)
  · skip
    refine lv_iconst (v := nI 1) hx hb dX1_isOf_38 (by decide) ?_
    refine lv_goto (tgt := 43) hx hb dX1_isOf_39 (by decide) ?_
    exact m_zret S hr hlk hW rfl dX1_isOf_43 ⟨rfl, (by simp only [fUnder]; simp_all)⟩
  · skip
    refine lv_iload_n hx hb dX1_isOf_4 rfl (lv_at hl 1 rfl) ?_
    refine lv_aload_n hx hb dX1_isOf_5 rfl (lv_at hl 0 rfl) ?_
    refine m_geti S hW hi 0 rfl kX1 (iW1 _) (by decide) (List.mem_cons_of_mem _ (wa_22 _ (List.mem_of_getElem? (i := 22) (by decide +kernel)))) dX1_isOf_6 ?_
    refine lv_icmp_eq (tgt := 38) hx hb dX1_isOf_9 (by decide) (fun c_2 => ?_) (fun c_2 => ?_)
    · skip
      refine lv_iconst (v := nI 1) hx hb dX1_isOf_38 (by decide) ?_
      refine lv_goto (tgt := 43) hx hb dX1_isOf_39 (by decide) ?_
      exact m_zret S hr hlk hW rfl dX1_isOf_43 ⟨rfl, (by simp only [fUnder]; simp_all)⟩
    · skip
      refine lv_iload_n hx hb dX1_isOf_12 rfl (lv_at hl 1 rfl) ?_
      refine lv_iconst (v := nI 1) hx hb dX1_isOf_13 (by decide) ?_
      refine lv_icmp_ne (tgt := 25) hx hb dX1_isOf_14 (by decide) (fun c_3 => ?_) (fun c_3 => ?_)
      · skip
        refine lv_iload_n hx hb dX1_isOf_25 rfl (lv_at hl 1 rfl) ?_
        refine lv_iconst (v := nI 2) hx hb dX1_isOf_26 (by decide) ?_
        refine lv_icmp_ne (tgt := 42) hx hb dX1_isOf_27 (by decide) (fun c_4 => ?_) (fun c_4 => ?_)
        · skip
          refine lv_iconst (v := nI 0) hx hb dX1_isOf_42 (by decide) ?_
          exact m_zret S hr hlk hW rfl dX1_isOf_43 ⟨rfl, (by simp only [fUnder]; simp_all)⟩
        · skip
          refine lv_aload_n hx hb dX1_isOf_30 rfl (lv_at hl 0 rfl) ?_
          refine m_geti S hW hi 0 rfl kX1 (iW1 _) (by decide) (List.mem_cons_of_mem _ (wa_22 _ (List.mem_of_getElem? (i := 22) (by decide +kernel)))) dX1_isOf_31 ?_
          refine lv_iconst (v := nI 4) hx hb dX1_isOf_34 (by decide) ?_
          refine lv_icmp_ne (tgt := 42) hx hb dX1_isOf_35 (by decide) (fun c_5 => ?_) (fun c_5 => ?_)
          · skip
            refine lv_iconst (v := nI 0) hx hb dX1_isOf_42 (by decide) ?_
            exact m_zret S hr hlk hW rfl dX1_isOf_43 ⟨rfl, (by simp only [fUnder]; simp_all)⟩
          · skip
            refine lv_iconst (v := nI 1) hx hb dX1_isOf_38 (by decide) ?_
            refine lv_goto (tgt := 43) hx hb dX1_isOf_39 (by decide) ?_
            exact m_zret S hr hlk hW rfl dX1_isOf_43 ⟨rfl, (by simp only [fUnder]; simp_all)⟩
      · skip
        refine lv_aload_n hx hb dX1_isOf_17 rfl (lv_at hl 0 rfl) ?_
        refine m_geti S hW hi 0 rfl kX1 (iW1 _) (by decide) (List.mem_cons_of_mem _ (wa_22 _ (List.mem_of_getElem? (i := 22) (by decide +kernel)))) dX1_isOf_18 ?_
        refine lv_iconst (v := nI 3) hx hb dX1_isOf_21 (by decide) ?_
        refine lv_icmp_eq (tgt := 38) hx hb dX1_isOf_22 (by decide) (fun c_6 => ?_) (fun c_6 => ?_)
        · skip
          refine lv_iconst (v := nI 1) hx hb dX1_isOf_38 (by decide) ?_
          refine lv_goto (tgt := 43) hx hb dX1_isOf_39 (by decide) ?_
          exact m_zret S hr hlk hW rfl dX1_isOf_43 ⟨rfl, (by simp only [fUnder]; simp_all)⟩
        · skip
          refine lv_iload_n hx hb dX1_isOf_25 rfl (lv_at hl 1 rfl) ?_
          refine lv_iconst (v := nI 2) hx hb dX1_isOf_26 (by decide) ?_
          refine lv_icmp_ne (tgt := 42) hx hb dX1_isOf_27 (by decide) (fun c_7 => ?_) (fun c_7 => ?_)
          · skip
            refine lv_iconst (v := nI 0) hx hb dX1_isOf_42 (by decide) ?_
            exact m_zret S hr hlk hW rfl dX1_isOf_43 ⟨rfl, (by simp only [fUnder]; simp_all)⟩
          · skip
            refine lv_aload_n hx hb dX1_isOf_30 rfl (lv_at hl 0 rfl) ?_
            refine m_geti S hW hi 0 rfl kX1 (iW1 _) (by decide) (List.mem_cons_of_mem _ (wa_22 _ (List.mem_of_getElem? (i := 22) (by decide +kernel)))) dX1_isOf_31 ?_
            refine lv_iconst (v := nI 4) hx hb dX1_isOf_34 (by decide) ?_
            refine lv_icmp_ne (tgt := 42) hx hb dX1_isOf_35 (by decide) (fun c_8 => ?_) (fun c_8 => ?_)
            · skip
              refine lv_iconst (v := nI 0) hx hb dX1_isOf_42 (by decide) ?_
              exact m_zret S hr hlk hW rfl dX1_isOf_43 ⟨rfl, (by simp only [fUnder]; simp_all)⟩
            · skip
              refine lv_iconst (v := nI 1) hx hb dX1_isOf_38 (by decide) ?_
              refine lv_goto (tgt := 43) hx hb dX1_isOf_39 (by decide) ?_
              exact m_zret S hr hlk hW rfl dX1_isOf_43 ⟨rfl, (by simp only [fUnder]; simp_all)⟩
set_option maxHeartbeats 4000000 in
set_option maxRecDepth 100000 in
theorem c_X1_paysFor (l : Launch) (G : mG) (ad : Nat → Nat) (sh : Nat → Option mSh) (V : mV) (i g : Nat) (x : Int32) (hi : sh i = some sEater) (hg : sh g = some (sGood g)) (hg' : sh (g + 1) = some (mI 10)) : mM l yX1_paysFor wsX1_paysFor ({ frames := 0, cells := 0, slots := 0, locals := 0 } : Room) G ad sh V [.ref (ad i), .ref (ad g), .int x] 0 0 (mPe ad sh V (fPays (V i 0) (V i 1) (V g 1) x)) := by
  refine mM.of (cc := cX1_paysFor) (maxL := 4) (ret := (some .int)) (by decide) rfl (Nat.le_of_ble_eq_true rfl) ?_
  intro p e s m below meth c S hr hlk hnm hW ls hl
  obtain ⟨hx, hb, hml, hown, hts⟩ := id S
  have hl : lv_has ls 4 [(0, .ref (ad i)), (1, .ref (ad g)), (2, .int x)] := hl
  have hS0 : True := trivial
  refine lv_aload_n hx hb dX1_paysFor_0 rfl (lv_at hl 1 rfl) ?_
  refine m_geti S hW hg 1 rfl kX3 (iW3 _) (by decide) (List.mem_cons_of_mem _ (wa_24 _ (List.mem_of_getElem? (i := 12) (by decide +kernel)))) dX1_paysFor_1 ?_
  refine lv_bipush (v := nI 6) hx hb dX1_paysFor_4 (by decide) ?_
  refine lv_icmp_le (tgt := 13) hx hb dX1_paysFor_6 (by decide) (fun c_1 => ?_) (fun c_1 => ?_)
  · skip
    refine lv_iload_n hx hb dX1_paysFor_13 rfl (lv_at hl 2 rfl) ?_
    refine lv_istore_n (lv' := [(3, .int x), (0, .ref (ad i)), (1, .ref (ad g)), (2, .int x)]) hx hb dX1_paysFor_14 rfl hl (by decide) rfl (fun ls hl => ?_)
    refine lv_aload_n hx hb dX1_paysFor_15 rfl (lv_at hl 1 rfl) ?_
    refine m_geti S hW hi 0 rfl kX1 (iW1 _) (by decide) (List.mem_cons_of_mem _ (wa_22 _ (List.mem_of_getElem? (i := 22) (by decide +kernel)))) dX1_paysFor_16 ?_
    by_cases c_2 : V i 0 = nI 2
    · skip
      refine lv_tableIn (off := 29) (tgt := 48) hx hb dX1_paysFor_19 (by rw [c_2]; decide) (by rw [c_2]; decide) (by rw [c_2]; decide +kernel) (by decide) ?_
      refine lv_iload_n hx hb dX1_paysFor_48 rfl (lv_at hl 0 rfl) ?_
      exact m_iret S hr hlk hW dX1_paysFor_49 ⟨rfl, (by simp only [fPays, c_1, c_2]; first | rfl | simp [c_1, c_2, nI_lit])⟩
    by_cases c_3 : V i 0 = nI 3
    · skip
      refine lv_tableIn (off := 44) (tgt := 63) hx hb dX1_paysFor_19 (by rw [c_3]; decide) (by rw [c_3]; decide) (by rw [c_3]; decide +kernel) (by decide) ?_
      refine lv_iload_n hx hb dX1_paysFor_63 rfl (lv_at hl 3 rfl) ?_
      exact m_iret S hr hlk hW dX1_paysFor_64 ⟨rfl, (by simp only [fPays, c_1, c_2, c_3]; first | rfl | simp [c_1, c_2, c_3, nI_lit])⟩
    by_cases c_4 : V i 0 = nI 4
    · skip
      refine lv_tableIn (off := 31) (tgt := 50) hx hb dX1_paysFor_19 (by rw [c_4]; decide) (by rw [c_4]; decide) (by rw [c_4]; decide +kernel) (by decide) ?_
      refine lv_iload_n hx hb dX1_paysFor_50 rfl (lv_at hl 0 rfl) ?_
      refine lv_aload_n hx hb dX1_paysFor_51 rfl (lv_at hl 1 rfl) ?_
      refine m_geti S hW hi 1 rfl kX1 (iW1 _) (by decide) (List.mem_cons_of_mem _ (wa_22 _ (List.mem_of_getElem? (i := 23) (by decide +kernel)))) dX1_paysFor_52 ?_
      refine lv_iconst (v := nI 3) hx hb dX1_paysFor_55 (by decide) ?_
      refine lv_idiv hx hb dX1_paysFor_56 (by decide) ?_
      refine lv_iadd hx hb dX1_paysFor_57 ?_
      exact m_iret S hr hlk hW dX1_paysFor_58 ⟨rfl, (by simp only [fPays, c_1, c_2, c_3, c_4]; first | rfl | simp [c_1, c_2, c_3, c_4, nI_lit])⟩
    by_cases c_5 : V i 0 = nI 5
    · skip
      refine lv_tableIn (off := 40) (tgt := 59) hx hb dX1_paysFor_19 (by rw [c_5]; decide) (by rw [c_5]; decide) (by rw [c_5]; decide +kernel) (by decide) ?_
      refine lv_iload_n hx hb dX1_paysFor_59 rfl (lv_at hl 3 rfl) ?_
      refine lv_iconst (v := nI 3) hx hb dX1_paysFor_60 (by decide) ?_
      refine lv_iadd hx hb dX1_paysFor_61 ?_
      exact m_iret S hr hlk hW dX1_paysFor_62 ⟨rfl, (by simp only [fPays, c_1, c_2, c_3, c_4, c_5]; first | rfl | simp [c_1, c_2, c_3, c_4, c_5, nI_lit])⟩
    refine lv_tableOut (tgt := 63) hx hb dX1_paysFor_19 (by have a0 := lv_neT c_2 (show (nI 2 : Int32).toInt = 2 by decide); have a1 := lv_neT c_3 (show (nI 3 : Int32).toInt = 3 by decide); have a2 := lv_neT c_4 (show (nI 4 : Int32).toInt = 4 by decide); have a3 := lv_neT c_5 (show (nI 5 : Int32).toInt = 5 by decide); omega) (by decide) ?_
    refine lv_iload_n hx hb dX1_paysFor_63 rfl (lv_at hl 3 rfl) ?_
    exact m_iret S hr hlk hW dX1_paysFor_64 ⟨rfl, (by simp only [fPays, c_1, c_2, c_3, c_4, c_5]; first | rfl | simp [c_1, c_2, c_3, c_4, c_5, nI_lit])⟩
  · skip
    refine lv_iconst (v := nI 0) hx hb dX1_paysFor_9 (by decide) ?_
    refine lv_goto (tgt := 14) hx hb dX1_paysFor_10 (by decide) ?_
    refine lv_istore_n (lv' := [(3, .int (nI 0)), (0, .ref (ad i)), (1, .ref (ad g)), (2, .int x)]) hx hb dX1_paysFor_14 rfl hl (by decide) rfl (fun ls hl => ?_)
    refine lv_aload_n hx hb dX1_paysFor_15 rfl (lv_at hl 1 rfl) ?_
    refine m_geti S hW hi 0 rfl kX1 (iW1 _) (by decide) (List.mem_cons_of_mem _ (wa_22 _ (List.mem_of_getElem? (i := 22) (by decide +kernel)))) dX1_paysFor_16 ?_
    by_cases c_6 : V i 0 = nI 2
    · skip
      refine lv_tableIn (off := 29) (tgt := 48) hx hb dX1_paysFor_19 (by rw [c_6]; decide) (by rw [c_6]; decide) (by rw [c_6]; decide +kernel) (by decide) ?_
      refine lv_iload_n hx hb dX1_paysFor_48 rfl (lv_at hl 0 rfl) ?_
      exact m_iret S hr hlk hW dX1_paysFor_49 ⟨rfl, (by simp only [fPays, c_1, c_6]; first | rfl | simp [c_1, c_6, nI_lit])⟩
    by_cases c_7 : V i 0 = nI 3
    · skip
      refine lv_tableIn (off := 44) (tgt := 63) hx hb dX1_paysFor_19 (by rw [c_7]; decide) (by rw [c_7]; decide) (by rw [c_7]; decide +kernel) (by decide) ?_
      refine lv_iload_n hx hb dX1_paysFor_63 rfl (lv_at hl 3 rfl) ?_
      exact m_iret S hr hlk hW dX1_paysFor_64 ⟨rfl, (by simp only [fPays, c_1, c_6, c_7]; first | rfl | simp [c_1, c_6, c_7, nI_lit])⟩
    by_cases c_8 : V i 0 = nI 4
    · skip
      refine lv_tableIn (off := 31) (tgt := 50) hx hb dX1_paysFor_19 (by rw [c_8]; decide) (by rw [c_8]; decide) (by rw [c_8]; decide +kernel) (by decide) ?_
      refine lv_iload_n hx hb dX1_paysFor_50 rfl (lv_at hl 0 rfl) ?_
      refine lv_aload_n hx hb dX1_paysFor_51 rfl (lv_at hl 1 rfl) ?_
      refine m_geti S hW hi 1 rfl kX1 (iW1 _) (by decide) (List.mem_cons_of_mem _ (wa_22 _ (List.mem_of_getElem? (i := 23) (by decide +kernel)))) dX1_paysFor_52 ?_
      refine lv_iconst (v := nI 3) hx hb dX1_paysFor_55 (by decide) ?_
      refine lv_idiv hx hb dX1_paysFor_56 (by decide) ?_
      refine lv_iadd hx hb dX1_paysFor_57 ?_
      exact m_iret S hr hlk hW dX1_paysFor_58 ⟨rfl, (by simp only [fPays, c_1, c_6, c_7, c_8]; first | rfl | simp [c_1, c_6, c_7, c_8, nI_lit])⟩
    by_cases c_9 : V i 0 = nI 5
    · skip
      refine lv_tableIn (off := 40) (tgt := 59) hx hb dX1_paysFor_19 (by rw [c_9]; decide) (by rw [c_9]; decide) (by rw [c_9]; decide +kernel) (by decide) ?_
      refine lv_iload_n hx hb dX1_paysFor_59 rfl (lv_at hl 3 rfl) ?_
      refine lv_iconst (v := nI 3) hx hb dX1_paysFor_60 (by decide) ?_
      refine lv_iadd hx hb dX1_paysFor_61 ?_
      exact m_iret S hr hlk hW dX1_paysFor_62 ⟨rfl, (by simp only [fPays, c_1, c_6, c_7, c_8, c_9]; first | rfl | simp [c_1, c_6, c_7, c_8, c_9, nI_lit])⟩
    refine lv_tableOut (tgt := 63) hx hb dX1_paysFor_19 (by have a0 := lv_neT c_6 (show (nI 2 : Int32).toInt = 2 by decide); have a1 := lv_neT c_7 (show (nI 3 : Int32).toInt = 3 by decide); have a2 := lv_neT c_8 (show (nI 4 : Int32).toInt = 4 by decide); have a3 := lv_neT c_9 (show (nI 5 : Int32).toInt = 5 by decide); omega) (by decide) ?_
    refine lv_iload_n hx hb dX1_paysFor_63 rfl (lv_at hl 3 rfl) ?_
    exact m_iret S hr hlk hW dX1_paysFor_64 ⟨rfl, (by simp only [fPays, c_1, c_6, c_7, c_8, c_9]; first | rfl | simp [c_1, c_6, c_7, c_8, c_9, nI_lit])⟩
set_option maxHeartbeats 4000000 in
set_option maxRecDepth 100000 in
theorem c_X1_likesCell (l : Launch) (G : mG) (ad : Nat → Nat) (sh : Nat → Option mSh) (V : mV) (i : Nat) (x : Int32) (hi : sh i = some sEater) : mM l yX1_likesCell wsX1_likesCell ({ frames := 0, cells := 0, slots := 0, locals := 0 } : Room) G ad sh V [.ref (ad i), .int x] 0 0 (mPe ad sh V (fLike (V i 0) (V i 1) x)) := by
  refine mM.of (cc := cX1_likesCell) (maxL := 2) (ret := (some .int)) (by decide) rfl (Nat.le_of_ble_eq_true rfl) ?_
  intro p e s m below meth c S hr hlk hnm hW ls hl
  obtain ⟨hx, hb, hml, hown, hts⟩ := id S
  have hl : lv_has ls 2 [(0, .ref (ad i)), (1, .int x)] := hl
  have hS0 : True := trivial
  refine lv_aload_n hx hb dX1_likesCell_0 rfl (lv_at hl 0 rfl) ?_
  refine m_geti S hW hi 0 rfl kX1 (iW1 _) (by decide) (List.mem_cons_of_mem _ (wa_22 _ (List.mem_of_getElem? (i := 22) (by decide +kernel)))) dX1_likesCell_1 ?_
  by_cases c_1 : V i 0 = nI 3
  · skip
    refine lv_lookup (off := 28) (tgt := 32) hx hb dX1_likesCell_4 (by decide) (by rw [c_1]; decide +kernel) (by decide) ?_
    refine lv_iload_n hx hb dX1_likesCell_32 rfl (lv_at hl 1 rfl) ?_
    refine lv_aload_n hx hb dX1_likesCell_33 rfl (lv_at hl 0 rfl) ?_
    refine m_geti S hW hi 1 rfl kX1 (iW1 _) (by decide) (List.mem_cons_of_mem _ (wa_22 _ (List.mem_of_getElem? (i := 23) (by decide +kernel)))) dX1_likesCell_34 ?_
    refine lv_iadd hx hb dX1_likesCell_37 ?_
    exact m_iret S hr hlk hW dX1_likesCell_38 ⟨rfl, (by simp only [fLike, c_1]; first | rfl | simp [c_1, nI_lit])⟩
  by_cases c_2 : V i 0 = nI 4
  · skip
    refine lv_lookup (off := 35) (tgt := 39) hx hb dX1_likesCell_4 (by decide) (by rw [c_2]; decide +kernel) (by decide) ?_
    refine lv_iconst (v := nI 2) hx hb dX1_likesCell_39 (by decide) ?_
    refine lv_iload_n hx hb dX1_likesCell_40 rfl (lv_at hl 1 rfl) ?_
    refine lv_imul hx hb dX1_likesCell_41 ?_
    exact m_iret S hr hlk hW dX1_likesCell_42 ⟨rfl, (by simp only [fLike, c_1, c_2]; first | rfl | simp [c_1, c_2, nI_lit])⟩
  refine lv_lookup (off := 39) (tgt := 43) hx hb dX1_likesCell_4 (by decide) (by rw [show (#[(3, 28), (4, 35)] : Array (Int × Int)).toList = [(3, 28), (4, 35)] from rfl]; rw [lv_osw c_1 (show (nI 3).toInt = 3 by decide)]; rw [lv_osw c_2 (show (nI 4).toInt = 4 by decide)]; rfl) (by decide) ?_
  refine lv_iload_n hx hb dX1_likesCell_43 rfl (lv_at hl 1 rfl) ?_
  exact m_iret S hr hlk hW dX1_likesCell_44 ⟨rfl, (by simp only [fLike, c_1, c_2]; first | rfl | simp [c_1, c_2, nI_lit])⟩
set_option maxHeartbeats 4000000 in
set_option maxRecDepth 100000 in
theorem c_X1_swallow (l : Launch) (G : mG) (ad : Nat → Nat) (sh : Nat → Option mSh) (V : mV) (i g : Nat) (a b d : Int32) (hi : sh i = some sEater) (hg : sh g = some (sGood g)) (hg' : sh (g + 1) = some (mI 10)) (hig : i ≠ g) : mM l yX1_swallow wsX1_swallow ({ frames := 1, cells := 0, slots := 0, locals := 61 } : Room) G ad sh V [.ref (ad i), .ref (ad g), .int a, .int b, .int d] 0 0 (mPv ad sh (fun V' => V' = mU (mU (mU V i 4 (if nI 9999 < V i 4 + b then nI 9999 else V i 4 + b)) i 3 (V i 3 - d)) g 2 (V g 2 &&& (a ^^^ -1)))) := by
  refine mM.of (cc := cX1_swallow) (maxL := 5) (ret := none) (by decide) rfl (Nat.le_of_ble_eq_true rfl) ?_
  intro p e s m below meth c S hr hlk hnm hW ls hl
  obtain ⟨hx, hb, hml, hown, hts⟩ := id S
  have hl : lv_has ls 5 [(0, .ref (ad i)), (1, .ref (ad g)), (2, .int a), (3, .int b), (4, .int d)] := hl
  have hS0 : True := trivial
  refine lv_aload_n hx hb dX1_swallow_0 rfl (lv_at hl 0 rfl) ?_
  refine lv_aload_n hx hb dX1_swallow_1 rfl (lv_at hl 0 rfl) ?_
  refine m_geti S hW hi 4 rfl kX1 (iW1 _) (by decide) (List.mem_cons_of_mem _ (wa_23 _ (List.mem_of_getElem? (i := 2) (by decide +kernel)))) dX1_swallow_2 ?_
  refine lv_iload_n hx hb dX1_swallow_5 rfl (lv_at hl 3 rfl) ?_
  refine lv_iadd hx hb dX1_swallow_6 ?_
  refine lv_sipush (v := nI 9999) hx hb dX1_swallow_7 (by decide) ?_
  refine va_mmin hx hb (hml.trans hl.1.symm) hown (hts (.methodLink RX1 43 Lib.Math.min.name) (List.mem_cons_of_mem _ (wa_28 _ (List.mem_of_getElem? (i := 3) (by decide +kernel))))) (hts (.static Lib.Math.min.name) (List.mem_cons_of_mem _ (wa_18 _ (List.mem_of_getElem? (i := 11) (by decide +kernel))))) (hts (.initialized "java/lang/Math") (List.mem_cons_of_mem _ (wa_18 _ (List.mem_of_getElem? (i := 12) (by decide +kernel))))) (hts (.code Lib.Math.min.name Lib.Math.min.code 2 (some .int)) (List.mem_cons_of_mem _ (wa_18 _ (List.mem_of_getElem? (i := 13) (by decide +kernel))))) (Nat.le_of_ble_eq_true rfl) (Nat.le_of_ble_eq_true rfl) (Nat.le_of_ble_eq_true rfl) (Nat.le_of_ble_eq_true rfl) dX1_swallow_10 ?_
  refine m_puti S hW hi 4 rfl kX1 (iW1 _) tyX1 tyX1_ok nmX1 (by decide) (List.mem_cons_of_mem _ (wa_23 _ (List.mem_of_getElem? (i := 2) (by decide +kernel)))) (Or.inl rfl) rfl rfl dX1_swallow_13 (fun H locs hW => ?_)
  obtain ⟨V_1, eV_1⟩ : ∃ z : mV, z = mU V i 4 ((if (nI 9999) < ((V i 4) + b) then (nI 9999) else ((V i 4) + b))) := ⟨_, rfl⟩
  rw [← eV_1] at hW
  refine lv_aload_n hx hb dX1_swallow_16 rfl (lv_at hl 0 rfl) ?_
  refine lv_dup hx hb dX1_swallow_17 rfl ?_
  refine m_geti S hW hi 3 rfl kX1 (iW1 _) (by decide) (List.mem_cons_of_mem _ (wa_23 _ (List.mem_of_getElem? (i := 1) (by decide +kernel)))) dX1_swallow_18 ?_
  refine lv_iload hx hb dX1_swallow_21 (lv_at hl 4 rfl) ?_
  refine lv_isub hx hb dX1_swallow_23 ?_
  refine m_puti S hW hi 3 rfl kX1 (iW1 _) tyX1 tyX1_ok nmX1 (by decide) (List.mem_cons_of_mem _ (wa_23 _ (List.mem_of_getElem? (i := 1) (by decide +kernel)))) (Or.inl rfl) rfl rfl dX1_swallow_24 (fun H locs hW => ?_)
  obtain ⟨V_2, eV_2⟩ : ∃ z : mV, z = mU V_1 i 3 (((V_1 i 3) - d)) := ⟨_, rfl⟩
  rw [← eV_2] at hW
  refine lv_aload_n hx hb dX1_swallow_27 rfl (lv_at hl 1 rfl) ?_
  refine lv_dup hx hb dX1_swallow_28 rfl ?_
  refine m_geti S hW hg 2 rfl kX3 (iW3 _) (by decide) (List.mem_cons_of_mem _ (wa_25 _ (List.mem_of_getElem? (i := 8) (by decide +kernel)))) dX1_swallow_29 ?_
  refine lv_iload_n hx hb dX1_swallow_32 rfl (lv_at hl 2 rfl) ?_
  refine lv_iconst (v := -1) hx hb dX1_swallow_33 (by decide) ?_
  refine lv_ixor hx hb dX1_swallow_34 ?_
  refine lv_iand hx hb dX1_swallow_35 ?_
  refine m_puti S hW hg 2 rfl kX3 (iW3 _) tyX3 tyX3_ok nmX3 (by decide) (List.mem_cons_of_mem _ (wa_25 _ (List.mem_of_getElem? (i := 8) (by decide +kernel)))) (Or.inl rfl) rfl rfl dX1_swallow_36 (fun H locs hW => ?_)
  obtain ⟨V_3, eV_3⟩ : ∃ z : mV, z = mU V_2 g 2 (((V_2 g 2) &&& (a ^^^ (-1)))) := ⟨_, rfl⟩
  rw [← eV_3] at hW
  exact m_vret S hr hlk hW dX1_swallow_39 (by simp only [eV_1, eV_2, eV_3]; rw [mU_no _ _ (Ne.symm hig), mU_no _ _ (Ne.symm hig)]; rw [mU_ne _ _ (show ¬ (i = i ∧ 3 = 4) by simp)])
set_option maxHeartbeats 4000000 in
set_option maxRecDepth 100000 in
theorem c_X1_giveBack (l : Launch) (G : mG) (ad : Nat → Nat) (sh : Nat → Option mSh) (V : mV) (i g : Nat) (a b d : Int32) (hi : sh i = some sEater) (hg : sh g = some (sGood g)) (hg' : sh (g + 1) = some (mI 10)) : mM l yX1_giveBack wsX1_giveBack ({ frames := 0, cells := 0, slots := 0, locals := 0 } : Room) G ad sh V [.ref (ad i), .ref (ad g), .int a, .int b, .int d] 0 0 (mPv ad sh (fun V' => V' = mU (mU (mU V g 2 a) i 3 b) i 4 d)) := by
  refine mM.of (cc := cX1_giveBack) (maxL := 5) (ret := none) (by decide) rfl (Nat.le_of_ble_eq_true rfl) ?_
  intro p e s m below meth c S hr hlk hnm hW ls hl
  obtain ⟨hx, hb, hml, hown, hts⟩ := id S
  have hl : lv_has ls 5 [(0, .ref (ad i)), (1, .ref (ad g)), (2, .int a), (3, .int b), (4, .int d)] := hl
  have hS0 : True := trivial
  refine lv_aload_n hx hb dX1_giveBack_0 rfl (lv_at hl 1 rfl) ?_
  refine lv_iload_n hx hb dX1_giveBack_1 rfl (lv_at hl 2 rfl) ?_
  refine m_puti S hW hg 2 rfl kX3 (iW3 _) tyX3 tyX3_ok nmX3 (by decide) (List.mem_cons_of_mem _ (wa_25 _ (List.mem_of_getElem? (i := 8) (by decide +kernel)))) (Or.inl rfl) rfl rfl dX1_giveBack_2 (fun H locs hW => ?_)
  obtain ⟨V_1, eV_1⟩ : ∃ z : mV, z = mU V g 2 (a) := ⟨_, rfl⟩
  rw [← eV_1] at hW
  refine lv_aload_n hx hb dX1_giveBack_5 rfl (lv_at hl 0 rfl) ?_
  refine lv_iload_n hx hb dX1_giveBack_6 rfl (lv_at hl 3 rfl) ?_
  refine m_puti S hW hi 3 rfl kX1 (iW1 _) tyX1 tyX1_ok nmX1 (by decide) (List.mem_cons_of_mem _ (wa_23 _ (List.mem_of_getElem? (i := 1) (by decide +kernel)))) (Or.inl rfl) rfl rfl dX1_giveBack_7 (fun H locs hW => ?_)
  obtain ⟨V_2, eV_2⟩ : ∃ z : mV, z = mU V_1 i 3 (b) := ⟨_, rfl⟩
  rw [← eV_2] at hW
  refine lv_aload_n hx hb dX1_giveBack_10 rfl (lv_at hl 0 rfl) ?_
  refine lv_iload hx hb dX1_giveBack_11 (lv_at hl 4 rfl) ?_
  refine m_puti S hW hi 4 rfl kX1 (iW1 _) tyX1 tyX1_ok nmX1 (by decide) (List.mem_cons_of_mem _ (wa_23 _ (List.mem_of_getElem? (i := 2) (by decide +kernel)))) (Or.inl rfl) rfl rfl dX1_giveBack_13 (fun H locs hW => ?_)
  obtain ⟨V_3, eV_3⟩ : ∃ z : mV, z = mU V_2 i 4 (d) := ⟨_, rfl⟩
  rw [← eV_3] at hW
  exact m_vret S hr hlk hW dX1_giveBack_16 (by simp only [eV_1, eV_2, eV_3])
set_option maxHeartbeats 4000000 in
set_option maxRecDepth 100000 in
theorem c_X3_mostOf (l : Launch) (G : mG) (ad : Nat → Nat) (sh : Nat → Option mSh) (V : mV) (x : Int32) : mM l yX3_mostOf wsX3_mostOf ({ frames := 0, cells := 0, slots := 0, locals := 0 } : Room) G ad sh V [.int x] 0 0 (mPe ad sh V (fMost x)) := by
  refine mM.of (cc := cX3_mostOf) (maxL := 1) (ret := (some .int)) (by decide) rfl (Nat.le_of_ble_eq_true rfl) ?_
  intro p e s m below meth c S hr hlk hnm hW ls hl
  obtain ⟨hx, hb, hml, hown, hts⟩ := id S
  have hl : lv_has ls 1 [(0, .int x)] := hl
  have hS0 : True := trivial
  refine lv_iload_n hx hb dX3_mostOf_0 rfl (lv_at hl 0 rfl) ?_
  refine lv_bipush (v := nI 10) hx hb dX3_mostOf_1 (by decide) ?_
  refine lv_icmp_ne (tgt := 9) hx hb dX3_mostOf_3 (by decide) (fun c_1 => ?_) (fun c_1 => ?_)
  · skip
    refine lv_iload_n hx hb dX3_mostOf_9 rfl (lv_at hl 0 rfl) ?_
    refine lv_bipush (v := nI 11) hx hb dX3_mostOf_10 (by decide) ?_
    refine lv_icmp_ne (tgt := 21) hx hb dX3_mostOf_12 (by decide) (fun c_2 => ?_) (fun c_2 => ?_)
    · skip
      refine lv_bipush (v := nI 99) hx hb dX3_mostOf_21 (by decide) ?_
      exact m_iret S hr hlk hW dX3_mostOf_23 ⟨rfl, (by simp only [fMost, c_1, c_2]; first | rfl | simp [c_1, c_2, nI_lit])⟩
    · skip
      refine lv_sipush (v := nI 1023) hx hb dX3_mostOf_15 (by decide) ?_
      refine lv_goto (tgt := 23) hx hb dX3_mostOf_18 (by decide) ?_
      exact m_iret S hr hlk hW dX3_mostOf_23 ⟨rfl, (by simp only [fMost, c_1, c_2]; first | rfl | simp [c_1, c_2, nI_lit])⟩
  · skip
    refine lv_bipush (v := nI 9) hx hb dX3_mostOf_6 (by decide) ?_
    exact m_iret S hr hlk hW dX3_mostOf_8 ⟨rfl, (by simp only [fMost, c_1]; first | rfl | simp [c_1, nI_lit])⟩
set_option maxHeartbeats 4000000 in
set_option maxRecDepth 100000 in
theorem c_X3_come (l : Launch) (G : mG) (ad : Nat → Nat) (sh : Nat → Option mSh) (V : mV) (g : Nat) (a b : Int32) (hg : sh g = some (sGood g)) (hg' : sh (g + 1) = some (mI 10)) : mM l yX3_come wsX3_come ({ frames := 0, cells := 0, slots := 0, locals := 0 } : Room) G ad sh V [.ref (ad g), .int a, .int b] 0 0 (mPv ad sh (fun V' => V' = mU (mU (mFill V (g + 1) 0 10 b) g 1 a) g 2 (nI 1023))) := by
  refine mM.of (cc := cX3_come) (maxL := 4) (ret := none) (by decide) rfl (Nat.le_of_ble_eq_true rfl) ?_
  intro p e s m below meth c S hr hlk hnm hW ls hl
  obtain ⟨hx, hb, hml, hown, hts⟩ := id S
  have hl : lv_has ls 4 [(0, .ref (ad g)), (1, .int a), (2, .int b)] := hl
  have hS0 : True := trivial
  refine lv_iconst (v := nI 0) hx hb dX3_come_0 (by decide) ?_
  refine lv_istore_n (lv' := [(3, .int (nI 0)), (0, .ref (ad g)), (1, .int a), (2, .int b)]) hx hb dX3_come_1 rfl hl (by decide) rfl (fun ls hl => ?_)
  have loop_2 : ∀ (n_2 : Nat) (k : Nat) (V1 : mV) (H : Heap) (locs : List Loc) (ls : Array Slot), (k ≤ 10) → (V1 = mFill V (g + 1) 0 k b) → (10 - k) < n_2 → mC (mA ad sh s.heap.size) s.heap s G ad sh V1 H locs → lv_has ls 4 [(0, .ref (ad g)), (1, .int a), (2, .int b), (3, .int (nI k))] → W p l e ({ frames := 0, cells := 0, slots := 0, locals := 0 } : Room) s m ([.ref (ad g), .int a, .int b] : List Value).toArray below meth c H locs 0 0 (MQ below (mPost G ad sh s.heap.size (mPv ad sh (fun V' => V' = mU (mU (mFill V (g + 1) 0 10 b) g 1 a) g 2 (nI 1023)))) ([.ref (ad g), .int a, .int b] : List Value).toArray s 0 0 (mA ad sh s.heap.size)) (F0 m 2 ls []) := by
    intro n_2
    induction n_2 with
    | zero => intro k V1 H locs ls hk hv hM_ hW hl; omega
    | succ n_2 ih_2 =>
      intro k V1 H locs ls hk hv hM_ hW hl
      refine lv_iload_n hx hb dX3_come_2 rfl (lv_at hl 3 rfl) ?_
      refine lv_bipush (v := nI 10) hx hb dX3_come_3 (by decide) ?_
      refine lv_icmp_ge (tgt := 21) hx hb dX3_come_5 (by decide) (fun c_1 => ?_) (fun c_1 => ?_)
      · skip
        have c_1 : 10 ≤ k := (nI_leI (by omega) (by omega)).mp c_1
        refine lv_aload_n hx hb dX3_come_21 rfl (lv_at hl 0 rfl) ?_
        refine lv_iload_n hx hb dX3_come_22 rfl (lv_at hl 1 rfl) ?_
        refine m_puti S hW hg 1 rfl kX3 (iW3 _) tyX3 tyX3_ok nmX3 (by decide) (List.mem_cons_of_mem _ (wa_20 _ (List.mem_of_getElem? (i := 21) (by decide +kernel)))) (Or.inl rfl) rfl rfl dX3_come_23 (fun H locs hW => ?_)
        obtain ⟨V_2, eV_2⟩ : ∃ z : mV, z = mU V1 g 1 (a) := ⟨_, rfl⟩
        rw [← eV_2] at hW
        refine lv_aload_n hx hb dX3_come_26 rfl (lv_at hl 0 rfl) ?_
        refine lv_sipush (v := nI 1023) hx hb dX3_come_27 (by decide) ?_
        refine m_puti S hW hg 2 rfl kX3 (iW3 _) tyX3 tyX3_ok nmX3 (by decide) (List.mem_cons_of_mem _ (wa_20 _ (List.mem_of_getElem? (i := 22) (by decide +kernel)))) (Or.inl rfl) rfl rfl dX3_come_30 (fun H locs hW => ?_)
        obtain ⟨V_3, eV_3⟩ : ∃ z : mV, z = mU V_2 g 2 (nI 1023) := ⟨_, rfl⟩
        rw [← eV_3] at hW
        exact m_vret S hr hlk hW dX3_come_33 (by rw [show k = 10 by omega] at hv; simp only [hk, hv, c_1, eV_2, eV_3])
      · skip
        have c_1 : ¬ 10 ≤ k := mt (nI_leI (by omega) (by omega)).mpr c_1
        refine lv_aload_n hx hb dX3_come_8 rfl (lv_at hl 0 rfl) ?_
        refine m_getr S hW hg 0 rfl (j := (g + 1)) rfl kX3 (iW3 _) (by decide) (List.mem_cons_of_mem _ (wa_10 _ (List.mem_of_getElem? (i := 9) (by decide +kernel)))) dX3_come_9 ?_
        refine lv_iload_n hx hb dX3_come_12 rfl (lv_at hl 3 rfl) ?_
        refine lv_iload_n hx hb dX3_come_13 rfl (lv_at hl 2 rfl) ?_
        refine m_iast S hW hg' k rfl (by omega) (by decide) dX3_come_14 (fun H locs hW => ?_)
        obtain ⟨V_4, eV_4⟩ : ∃ z : mV, z = mU V1 (g + 1) k (b) := ⟨_, rfl⟩
        rw [← eV_4] at hW
        refine lv_iinc (v := nI (k + 1)) (lv' := [(3, .int (nI (k + 1))), (0, .ref (ad g)), (1, .int a), (2, .int b)]) hx hb dX3_come_15 hl (k := 3) rfl (m_inc k 1) (by decide) rfl (fun ls hl => ?_)
        refine lv_goto (tgt := 2) hx hb dX3_come_18 (by decide) ?_
        exact ih_2  (k + 1) V_4 _ _ _ (by omega) (by rw [eV_4, hv, mFill_1]; omega) (by omega) hW (lv_sub hl [1, 2, 3, 0] rfl)
  exact loop_2 (10 - 0 + 1) 0 V _ _ _ (by omega) (by exact mFill_0 _ _ _ _) (by omega) hW (lv_sub hl [1, 2, 3, 0] rfl)
set_option maxHeartbeats 4000000 in
set_option maxRecDepth 100000 in
theorem c_X3_become (l : Launch) (G : mG) (ad : Nat → Nat) (sh : Nat → Option mSh) (V : mV) (g j : Nat) (hg : sh g = some (sGood g)) (hg' : sh (g + 1) = some (mI 10)) (hj : sh j = some (sGood j)) (hj' : sh (j + 1) = some (mI 10)) (hgj : g ≠ j + 1) (hjg : j ≠ g + 1) : mM l yX3_become wsX3_become ({ frames := 1, cells := 0, slots := 0, locals := 61 } : Room) G ad sh V [.ref (ad g), .ref (ad j)] 0 0 (mPv ad sh (fun V' => V' = mU (mU (mCpy V (j + 1) 0 (g + 1) 0 10) g 1 (V j 1)) g 2 (V j 2))) := by
  refine mM.of (cc := cX3_become) (maxL := 2) (ret := none) (by decide) rfl (Nat.le_of_ble_eq_true rfl) ?_
  intro p e s m below meth c S hr hlk hnm hW ls hl
  obtain ⟨hx, hb, hml, hown, hts⟩ := id S
  have hl : lv_has ls 2 [(0, .ref (ad g)), (1, .ref (ad j))] := hl
  have hS0 : True := trivial
  refine lv_aload_n hx hb dX3_become_0 rfl (lv_at hl 1 rfl) ?_
  refine m_getr S hW hj 0 rfl (j := (j + 1)) rfl kX3 (iW3 _) (by decide) (List.mem_cons_of_mem _ (wa_10 _ (List.mem_of_getElem? (i := 9) (by decide +kernel)))) dX3_become_1 ?_
  refine lv_iconst (v := nI 0) hx hb dX3_become_4 (by decide) ?_
  refine lv_aload_n hx hb dX3_become_5 rfl (lv_at hl 0 rfl) ?_
  refine m_getr S hW hg 0 rfl (j := (g + 1)) rfl kX3 (iW3 _) (by decide) (List.mem_cons_of_mem _ (wa_10 _ (List.mem_of_getElem? (i := 9) (by decide +kernel)))) dX3_become_6 ?_
  refine lv_iconst (v := nI 0) hx hb dX3_become_9 (by decide) ?_
  refine lv_bipush (v := nI 10) hx hb dX3_become_10 (by decide) ?_
  refine m_copy S hW hl.1 hj' hg' (List.mem_cons_of_mem _ (wa_30 _ (List.mem_of_getElem? (i := 20) (by decide +kernel)))) (List.mem_cons_of_mem _ (wa_8 _ (List.mem_of_getElem? (i := 23) (by decide +kernel)))) (List.mem_cons_of_mem _ (wa_9 _ (List.mem_of_getElem? (i := 0) (by decide +kernel)))) (List.mem_cons_of_mem _ (wa_9 _ (List.mem_of_getElem? (i := 1) (by decide +kernel)))) 0 0 10 rfl rfl rfl (by omega) (by omega) (by decide) (by decide) (Nat.le_of_ble_eq_true rfl) (Nat.le_of_ble_eq_true rfl) dX3_become_12 (fun H locs hW => ?_)
  obtain ⟨V_1, eV_1⟩ : ∃ z : mV, z = mCpy V (j + 1) 0 (g + 1) 0 10 := ⟨_, rfl⟩
  rw [← eV_1] at hW
  refine lv_aload_n hx hb dX3_become_15 rfl (lv_at hl 0 rfl) ?_
  refine lv_aload_n hx hb dX3_become_16 rfl (lv_at hl 1 rfl) ?_
  refine m_geti S hW hj 1 rfl kX3 (iW3 _) (by decide) (List.mem_cons_of_mem _ (wa_20 _ (List.mem_of_getElem? (i := 21) (by decide +kernel)))) dX3_become_17 ?_
  refine m_puti S hW hg 1 rfl kX3 (iW3 _) tyX3 tyX3_ok nmX3 (by decide) (List.mem_cons_of_mem _ (wa_20 _ (List.mem_of_getElem? (i := 21) (by decide +kernel)))) (Or.inl rfl) rfl rfl dX3_become_20 (fun H locs hW => ?_)
  obtain ⟨V_2, eV_2⟩ : ∃ z : mV, z = mU V_1 g 1 (V_1 j 1) := ⟨_, rfl⟩
  rw [← eV_2] at hW
  refine lv_aload_n hx hb dX3_become_23 rfl (lv_at hl 0 rfl) ?_
  refine lv_aload_n hx hb dX3_become_24 rfl (lv_at hl 1 rfl) ?_
  refine m_geti S hW hj 2 rfl kX3 (iW3 _) (by decide) (List.mem_cons_of_mem _ (wa_20 _ (List.mem_of_getElem? (i := 22) (by decide +kernel)))) dX3_become_25 ?_
  refine m_puti S hW hg 2 rfl kX3 (iW3 _) tyX3 tyX3_ok nmX3 (by decide) (List.mem_cons_of_mem _ (wa_20 _ (List.mem_of_getElem? (i := 22) (by decide +kernel)))) (Or.inl rfl) rfl rfl dX3_become_28 (fun H locs hW => ?_)
  obtain ⟨V_3, eV_3⟩ : ∃ z : mV, z = mU V_2 g 2 (V_2 j 2) := ⟨_, rfl⟩
  rw [← eV_3] at hW
  exact m_vret S hr hlk hW dX3_become_31 (by simp only [eV_1, eV_2, eV_3]; rw [mU_ne _ _ (show ¬ (j = g ∧ 2 = 1) by simp), mCpy_no _ hjg])
set_option maxHeartbeats 4000000 in
set_option maxRecDepth 100000 in
theorem c_X3_readPart (l : Launch) (G : mG) (ad : Nat → Nat) (sh : Nat → Option mSh) (V : mV) (g k : Nat) (hg : sh g = some (sGood g)) (hg' : sh (g + 1) = some (mI 10)) (hk : k < 12) : mM l yX3_readPart wsX3_readPart ({ frames := 1, cells := 0, slots := 0, locals := 22 } : Room) G ad sh V [.ref (ad g), .int (nI k)] 0 0 (mPe ad sh V (fPart V g k)) := by
  refine mM.of (cc := cX3_readPart) (maxL := 2) (ret := (some .int)) (by decide) rfl (Nat.le_of_ble_eq_true rfl) ?_
  intro p e s m below meth c S hr hlk hnm hW ls hl
  obtain ⟨hx, hb, hml, hown, hts⟩ := id S
  have hl : lv_has ls 2 [(0, .ref (ad g)), (1, .int (nI k))] := hl
  have hS0 : True := trivial
  refine lv_iload_n hx hb dX3_readPart_0 rfl (lv_at hl 1 rfl) ?_
  refine lv_bipush (v := nI 10) hx hb dX3_readPart_1 (by decide) ?_
  refine lv_icmp_ne (tgt := 11) hx hb dX3_readPart_3 (by decide) (fun c_1 => ?_) (fun c_1 => ?_)
  · skip
    have c_1 : ¬ k = 10 := mt (nI_eq (by omega) (by omega)).mpr c_1
    refine lv_iload_n hx hb dX3_readPart_11 rfl (lv_at hl 1 rfl) ?_
    refine lv_bipush (v := nI 11) hx hb dX3_readPart_12 (by decide) ?_
    refine lv_icmp_ne (tgt := 22) hx hb dX3_readPart_14 (by decide) (fun c_2 => ?_) (fun c_2 => ?_)
    · skip
      have c_2 : ¬ k = 11 := mt (nI_eq (by omega) (by omega)).mpr c_2
      refine lv_iload_n hx hb dX3_readPart_22 rfl (lv_at hl 1 rfl) ?_
      refine lv_iconst (v := nI 0) hx hb dX3_readPart_23 (by decide) ?_
      refine lv_bipush (v := nI 9) hx hb dX3_readPart_24 (by decide) ?_
      refine m_cip (m_rSN S hW (c_X10_within l G ad sh V (nI k) 0 9 (by first | assumption | omega) (by first | assumption | omega)) ⟨va_cnB 3 hts (gCall [] (List.forall_mem_cons.mpr ⟨(wa_8 _ (List.mem_of_getElem? (i := 17) (by decide +kernel))), (fun _ h => absurd h List.not_mem_nil)⟩)) rfl rfl rfl (hW.2.2.2.2.2.1 _ (List.mem_of_getElem? (i := 10) rfl)) (hts (.initialized RX10) (List.mem_cons_of_mem _ (wa_1 _ (List.mem_of_getElem? (i := 2) (by decide +kernel))))) (by decide +kernel) ⟨Nat.le_of_ble_eq_true rfl, Nat.le_of_ble_eq_true rfl⟩, hts (.static yX10_within) (List.mem_cons_of_mem _ (wa_8 _ (List.mem_of_getElem? (i := 16) (by decide +kernel)))), trivial⟩ rfl hl.1 rfl (Nat.le_of_ble_eq_true rfl) dX3_readPart_26 ⟨Nat.le_of_ble_eq_true rfl, Nat.le_of_ble_eq_true rfl⟩) hW (fun r_4 H locs hp_3 hW => ?_)
      rcases hp_3 with ⟨rfl, w_5⟩ | ⟨rfl, w_6⟩
      · skip
        refine m_if_eq (tgt := 41) hx hb dX3_readPart_29 (by decide) (fun c_7 => ?_) (fun c_7 => ?_)
        · exact absurd c_7 (by decide)
        · skip
          refine lv_aload_n hx hb dX3_readPart_32 rfl (lv_at hl 0 rfl) ?_
          refine m_getr S hW hg 0 rfl (j := (g + 1)) rfl kX3 (iW3 _) (by decide) (List.mem_cons_of_mem _ (wa_10 _ (List.mem_of_getElem? (i := 9) (by decide +kernel)))) dX3_readPart_33 ?_
          refine lv_iload_n hx hb dX3_readPart_36 rfl (lv_at hl 1 rfl) ?_
          refine m_iald S hW hg' k rfl (by omega) (by decide) dX3_readPart_37 ?_
          refine lv_goto (tgt := 42) hx hb dX3_readPart_38 (by decide) ?_
          exact m_iret S hr hlk hW dX3_readPart_42 ⟨rfl, (by simp only [fPart]; first | (rw [if_pos (by omega)]; done) | (rw [if_neg (by omega), if_pos (by omega)]; done) | (rw [if_neg (by omega), if_neg (by omega)]; done) | (exfalso; revert w_5; simp only [mIn]; rw [nI_toInt (by omega)]; omega))⟩
      · skip
        refine m_if_eq (tgt := 41) hx hb dX3_readPart_29 (by decide) (fun c_8 => ?_) (fun c_8 => ?_)
        · skip
          refine lv_iconst (v := nI 0) hx hb dX3_readPart_41 (by decide) ?_
          exact m_iret S hr hlk hW dX3_readPart_42 ⟨rfl, (by simp only [fPart]; first | (rw [if_pos (by omega)]; done) | (rw [if_neg (by omega), if_pos (by omega)]; done) | (rw [if_neg (by omega), if_neg (by omega)]; done) | (exfalso; revert w_6; simp only [mIn]; rw [nI_toInt (by omega)]; omega))⟩
        · exact absurd c_8 (by decide)
    · skip
      have c_2 : k = 11 := (nI_eq (by omega) (by omega)).mp c_2
      refine lv_aload_n hx hb dX3_readPart_17 rfl (lv_at hl 0 rfl) ?_
      refine m_geti S hW hg 2 rfl kX3 (iW3 _) (by decide) (List.mem_cons_of_mem _ (wa_20 _ (List.mem_of_getElem? (i := 22) (by decide +kernel)))) dX3_readPart_18 ?_
      exact m_iret S hr hlk hW dX3_readPart_21 ⟨rfl, (by simp only [fPart]; first | (rw [if_pos (by omega)]; done) | (rw [if_neg (by omega), if_pos (by omega)]; done) | (rw [if_neg (by omega), if_neg (by omega)]; done) | (exfalso; revert c_2; simp only [mIn]; rw [nI_toInt (by omega)]; omega))⟩
  · skip
    have c_1 : k = 10 := (nI_eq (by omega) (by omega)).mp c_1
    refine lv_aload_n hx hb dX3_readPart_6 rfl (lv_at hl 0 rfl) ?_
    refine m_geti S hW hg 1 rfl kX3 (iW3 _) (by decide) (List.mem_cons_of_mem _ (wa_20 _ (List.mem_of_getElem? (i := 21) (by decide +kernel)))) dX3_readPart_7 ?_
    exact m_iret S hr hlk hW dX3_readPart_10 ⟨rfl, (by simp only [fPart]; first | (rw [if_pos (by omega)]; done) | (rw [if_neg (by omega), if_pos (by omega)]; done) | (rw [if_neg (by omega), if_neg (by omega)]; done) | (exfalso; revert c_1; simp only [mIn]; rw [nI_toInt (by omega)]; omega))⟩
set_option maxHeartbeats 4000000 in
set_option maxRecDepth 100000 in
theorem c_X3_writePart (l : Launch) (G : mG) (ad : Nat → Nat) (sh : Nat → Option mSh) (V : mV) (g k : Nat) (x : Int32) (hg : sh g = some (sGood g)) (hg' : sh (g + 1) = some (mI 10)) (hk : k < 12) : mM l yX3_writePart wsX3_writePart ({ frames := 1, cells := 0, slots := 0, locals := 22 } : Room) G ad sh V [.ref (ad g), .int (nI k), .int x] 0 0 (mPv ad sh (fun V' => V' = fPut V g k x)) := by
  refine mM.of (cc := cX3_writePart) (maxL := 3) (ret := none) (by decide) rfl (Nat.le_of_ble_eq_true rfl) ?_
  intro p e s m below meth c S hr hlk hnm hW ls hl
  obtain ⟨hx, hb, hml, hown, hts⟩ := id S
  have hl : lv_has ls 3 [(0, .ref (ad g)), (1, .int (nI k)), (2, .int x)] := hl
  have hS0 : True := trivial
  refine lv_iload_n hx hb dX3_writePart_0 rfl (lv_at hl 1 rfl) ?_
  refine lv_bipush (v := nI 10) hx hb dX3_writePart_1 (by decide) ?_
  refine lv_icmp_ne (tgt := 14) hx hb dX3_writePart_3 (by decide) (fun c_1 => ?_) (fun c_1 => ?_)
  · skip
    have c_1 : ¬ k = 10 := mt (nI_eq (by omega) (by omega)).mpr c_1
    refine lv_iload_n hx hb dX3_writePart_14 rfl (lv_at hl 1 rfl) ?_
    refine lv_bipush (v := nI 11) hx hb dX3_writePart_15 (by decide) ?_
    refine lv_icmp_ne (tgt := 28) hx hb dX3_writePart_17 (by decide) (fun c_2 => ?_) (fun c_2 => ?_)
    · skip
      have c_2 : ¬ k = 11 := mt (nI_eq (by omega) (by omega)).mpr c_2
      refine lv_iload_n hx hb dX3_writePart_28 rfl (lv_at hl 1 rfl) ?_
      refine lv_iconst (v := nI 0) hx hb dX3_writePart_29 (by decide) ?_
      refine lv_bipush (v := nI 9) hx hb dX3_writePart_30 (by decide) ?_
      refine m_cip (m_rSN S hW (c_X10_within l G ad sh V (nI k) 0 9 (by first | assumption | omega) (by first | assumption | omega)) ⟨va_cnB 3 hts (gCall [] (List.forall_mem_cons.mpr ⟨(wa_8 _ (List.mem_of_getElem? (i := 17) (by decide +kernel))), (fun _ h => absurd h List.not_mem_nil)⟩)) rfl rfl rfl (hW.2.2.2.2.2.1 _ (List.mem_of_getElem? (i := 10) rfl)) (hts (.initialized RX10) (List.mem_cons_of_mem _ (wa_1 _ (List.mem_of_getElem? (i := 2) (by decide +kernel))))) (by decide +kernel) ⟨Nat.le_of_ble_eq_true rfl, Nat.le_of_ble_eq_true rfl⟩, hts (.static yX10_within) (List.mem_cons_of_mem _ (wa_8 _ (List.mem_of_getElem? (i := 16) (by decide +kernel)))), trivial⟩ rfl hl.1 rfl (Nat.le_of_ble_eq_true rfl) dX3_writePart_32 ⟨Nat.le_of_ble_eq_true rfl, Nat.le_of_ble_eq_true rfl⟩) hW (fun r_4 H locs hp_3 hW => ?_)
      rcases hp_3 with ⟨rfl, w_5⟩ | ⟨rfl, w_6⟩
      · skip
        refine m_if_eq (tgt := 45) hx hb dX3_writePart_35 (by decide) (fun c_7 => ?_) (fun c_7 => ?_)
        · exact absurd c_7 (by decide)
        · skip
          refine lv_aload_n hx hb dX3_writePart_38 rfl (lv_at hl 0 rfl) ?_
          refine m_getr S hW hg 0 rfl (j := (g + 1)) rfl kX3 (iW3 _) (by decide) (List.mem_cons_of_mem _ (wa_10 _ (List.mem_of_getElem? (i := 9) (by decide +kernel)))) dX3_writePart_39 ?_
          refine lv_iload_n hx hb dX3_writePart_42 rfl (lv_at hl 1 rfl) ?_
          refine lv_iload_n hx hb dX3_writePart_43 rfl (lv_at hl 2 rfl) ?_
          refine m_iast S hW hg' k rfl (by omega) (by decide) dX3_writePart_44 (fun H locs hW => ?_)
          obtain ⟨V_8, eV_8⟩ : ∃ z : mV, z = mU V (g + 1) k (x) := ⟨_, rfl⟩
          rw [← eV_8] at hW
          exact m_vret S hr hlk hW dX3_writePart_45 (by simp only [fPut, eV_8]; first | (rw [if_pos (by omega)]; done) | (rw [if_neg (by omega), if_pos (by omega)]; done) | (rw [if_neg (by omega), if_neg (by omega)]; done) | (exfalso; revert eV_8; simp only [mIn]; rw [nI_toInt (by omega)]; omega))
      · skip
        refine m_if_eq (tgt := 45) hx hb dX3_writePart_35 (by decide) (fun c_9 => ?_) (fun c_9 => ?_)
        · skip
          exact m_vret S hr hlk hW dX3_writePart_45 (by simp only [fPut, ]; first | (rw [if_pos (by omega)]; done) | (rw [if_neg (by omega), if_pos (by omega)]; done) | (rw [if_neg (by omega), if_neg (by omega)]; done) | (exfalso; revert w_6; simp only [mIn]; rw [nI_toInt (by omega)]; omega))
        · exact absurd c_9 (by decide)
    · skip
      have c_2 : k = 11 := (nI_eq (by omega) (by omega)).mp c_2
      refine lv_aload_n hx hb dX3_writePart_20 rfl (lv_at hl 0 rfl) ?_
      refine lv_iload_n hx hb dX3_writePart_21 rfl (lv_at hl 2 rfl) ?_
      refine m_puti S hW hg 2 rfl kX3 (iW3 _) tyX3 tyX3_ok nmX3 (by decide) (List.mem_cons_of_mem _ (wa_20 _ (List.mem_of_getElem? (i := 22) (by decide +kernel)))) (Or.inl rfl) rfl rfl dX3_writePart_22 (fun H locs hW => ?_)
      obtain ⟨V_10, eV_10⟩ : ∃ z : mV, z = mU V g 2 (x) := ⟨_, rfl⟩
      rw [← eV_10] at hW
      refine lv_goto (tgt := 45) hx hb dX3_writePart_25 (by decide) ?_
      exact m_vret S hr hlk hW dX3_writePart_45 (by simp only [fPut, eV_10]; first | (rw [if_pos (by omega)]; done) | (rw [if_neg (by omega), if_pos (by omega)]; done) | (rw [if_neg (by omega), if_neg (by omega)]; done) | (exfalso; revert eV_10; simp only [mIn]; rw [nI_toInt (by omega)]; omega))
  · skip
    have c_1 : k = 10 := (nI_eq (by omega) (by omega)).mp c_1
    refine lv_aload_n hx hb dX3_writePart_6 rfl (lv_at hl 0 rfl) ?_
    refine lv_iload_n hx hb dX3_writePart_7 rfl (lv_at hl 2 rfl) ?_
    refine m_puti S hW hg 1 rfl kX3 (iW3 _) tyX3 tyX3_ok nmX3 (by decide) (List.mem_cons_of_mem _ (wa_20 _ (List.mem_of_getElem? (i := 21) (by decide +kernel)))) (Or.inl rfl) rfl rfl dX3_writePart_8 (fun H locs hW => ?_)
    obtain ⟨V_11, eV_11⟩ : ∃ z : mV, z = mU V g 1 (x) := ⟨_, rfl⟩
    rw [← eV_11] at hW
    refine lv_goto (tgt := 45) hx hb dX3_writePart_11 (by decide) ?_
    exact m_vret S hr hlk hW dX3_writePart_45 (by simp only [fPut, eV_11]; first | (rw [if_pos (by omega)]; done) | (rw [if_neg (by omega), if_pos (by omega)]; done) | (rw [if_neg (by omega), if_neg (by omega)]; done) | (exfalso; revert eV_11; simp only [mIn]; rw [nI_toInt (by omega)]; omega))
set_option maxHeartbeats 4000000 in
set_option maxRecDepth 100000 in
theorem c_X3_worthOfCells (l : Launch) (G : mG) (ad : Nat → Nat) (sh : Nat → Option mSh) (V : mV) (g : Nat) (x : Int32) (hg : sh g = some (sGood g)) (hg' : sh (g + 1) = some (mI 10)) : mM l yX3_worthOfCells wsX3_worthOfCells ({ frames := 0, cells := 0, slots := 0, locals := 0 } : Room) G ad sh V [.ref (ad g), .int x] 0 0 (mPe ad sh V (fWorth (V (g + 1)) x 10)) := by
  refine mM.of (cc := cX3_worthOfCells) (maxL := 4) (ret := (some .int)) (by decide) rfl (Nat.le_of_ble_eq_true rfl) ?_
  intro p e s m below meth c S hr hlk hnm hW ls hl
  obtain ⟨hx, hb, hml, hown, hts⟩ := id S
  have hl : lv_has ls 4 [(0, .ref (ad g)), (1, .int x)] := hl
  have hS0 : True := trivial
  refine lv_iconst (v := nI 0) hx hb dX3_worthOfCells_0 (by decide) ?_
  refine lv_istore_n (lv' := [(2, .int (nI 0)), (0, .ref (ad g)), (1, .int x)]) hx hb dX3_worthOfCells_1 rfl hl (by decide) rfl (fun ls hl => ?_)
  refine lv_iconst (v := nI 0) hx hb dX3_worthOfCells_2 (by decide) ?_
  refine lv_istore_n (lv' := [(3, .int (nI 0)), (2, .int (nI 0)), (0, .ref (ad g)), (1, .int x)]) hx hb dX3_worthOfCells_3 rfl hl (by decide) rfl (fun ls hl => ?_)
  have loop_4 : ∀ (n_4 : Nat) (sm : Int32) (k : Nat) (H : Heap) (locs : List Loc) (ls : Array Slot), (k ≤ 10) → (sm = fWorth (V (g + 1)) x k) → (10 - k) < n_4 → mC (mA ad sh s.heap.size) s.heap s G ad sh V H locs → lv_has ls 4 [(0, .ref (ad g)), (1, .int x), (2, .int sm), (3, .int (nI k))] → W p l e ({ frames := 0, cells := 0, slots := 0, locals := 0 } : Room) s m ([.ref (ad g), .int x] : List Value).toArray below meth c H locs 0 0 (MQ below (mPost G ad sh s.heap.size (mPe ad sh V (fWorth (V (g + 1)) x 10))) ([.ref (ad g), .int x] : List Value).toArray s 0 0 (mA ad sh s.heap.size)) (F0 m 4 ls []) := by
    intro n_4
    induction n_4 with
    | zero => intro sm k H locs ls hk hs hM_ hW hl; omega
    | succ n_4 ih_4 =>
      intro sm k H locs ls hk hs hM_ hW hl
      refine lv_iload_n hx hb dX3_worthOfCells_4 rfl (lv_at hl 3 rfl) ?_
      refine lv_bipush (v := nI 10) hx hb dX3_worthOfCells_5 (by decide) ?_
      refine lv_icmp_ge (tgt := 33) hx hb dX3_worthOfCells_7 (by decide) (fun c_1 => ?_) (fun c_1 => ?_)
      · skip
        have c_1 : 10 ≤ k := (nI_leI (by omega) (by omega)).mp c_1
        refine lv_iload_n hx hb dX3_worthOfCells_33 rfl (lv_at hl 2 rfl) ?_
        exact m_iret S hr hlk hW dX3_worthOfCells_34 ⟨rfl, (by rw [hs, show k = 10 by omega])⟩
      · skip
        have c_1 : ¬ 10 ≤ k := mt (nI_leI (by omega) (by omega)).mpr c_1
        refine lv_iload_n hx hb dX3_worthOfCells_10 rfl (lv_at hl 1 rfl) ?_
        refine lv_iload_n hx hb dX3_worthOfCells_11 rfl (lv_at hl 3 rfl) ?_
        refine lv_ishr hx hb dX3_worthOfCells_12 ?_
        refine lv_iconst (v := nI 1) hx hb dX3_worthOfCells_13 (by decide) ?_
        refine lv_iand hx hb dX3_worthOfCells_14 ?_
        refine m_top (y := fBit x k) rfl ?_
        refine m_if_eq (tgt := 27) hx hb dX3_worthOfCells_15 (by decide) (fun c_2 => ?_) (fun c_2 => ?_)
        · skip
          refine lv_iinc (v := nI (k + 1)) (lv' := [(3, .int (nI (k + 1))), (0, .ref (ad g)), (1, .int x), (2, .int sm)]) hx hb dX3_worthOfCells_27 hl (k := 3) rfl (m_inc k 1) (by decide) rfl (fun ls hl => ?_)
          refine lv_goto (tgt := 4) hx hb dX3_worthOfCells_30 (by decide) ?_
          exact ih_4  sm (k + 1)  _ _ _ (by omega) (by simp only [fWorth]; first | rw [if_pos c_2, ← hs] | rw [if_neg c_2, ← hs]) (by omega) hW (lv_sub hl [1, 2, 3, 0] rfl)
        · skip
          refine lv_iload_n hx hb dX3_worthOfCells_18 rfl (lv_at hl 2 rfl) ?_
          refine lv_aload_n hx hb dX3_worthOfCells_19 rfl (lv_at hl 0 rfl) ?_
          refine m_getr S hW hg 0 rfl (j := (g + 1)) rfl kX3 (iW3 _) (by decide) (List.mem_cons_of_mem _ (wa_10 _ (List.mem_of_getElem? (i := 9) (by decide +kernel)))) dX3_worthOfCells_20 ?_
          refine lv_iload_n hx hb dX3_worthOfCells_23 rfl (lv_at hl 3 rfl) ?_
          refine m_iald S hW hg' k rfl (by omega) (by decide) dX3_worthOfCells_24 ?_
          refine lv_iadd hx hb dX3_worthOfCells_25 ?_
          refine lv_istore_n (lv' := [(2, .int (sm + (V (g + 1) k))), (0, .ref (ad g)), (1, .int x), (3, .int (nI k))]) hx hb dX3_worthOfCells_26 rfl hl (by decide) rfl (fun ls hl => ?_)
          refine lv_iinc (v := nI (k + 1)) (lv' := [(3, .int (nI (k + 1))), (2, .int (sm + (V (g + 1) k))), (0, .ref (ad g)), (1, .int x)]) hx hb dX3_worthOfCells_27 hl (k := 3) rfl (m_inc k 1) (by decide) rfl (fun ls hl => ?_)
          refine lv_goto (tgt := 4) hx hb dX3_worthOfCells_30 (by decide) ?_
          exact ih_4  (sm + (V (g + 1) k)) (k + 1)  _ _ _ (by omega) (by simp only [fWorth]; first | rw [if_pos c_2, ← hs] | rw [if_neg c_2, ← hs]) (by omega) hW (lv_sub hl [2, 3, 1, 0] rfl)
  exact loop_4 (10 - 0 + 1) (nI 0) 0  _ _ _ (by omega) (by rfl) (by omega) hW (lv_sub hl [2, 3, 1, 0] rfl)
