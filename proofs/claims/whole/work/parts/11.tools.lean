/-! bit counts, cover, tokens, sheets -/
def fBits (x : Int32) : Int32 :=
  let a := x - (fUsh x (nI 1) &&& nI 1431655765)
  let b := (a &&& nI 858993459) + (fUsh a (nI 2) &&& nI 858993459)
  let d := (b + fUsh b (nI 4)) &&& nI 252645135
  let f := d + fUsh d (nI 8)
  let g := f + fUsh f (nI 16)
  g &&& nI 63
def fOnes (n : Nat) : Nat := n % 2 + n / 2 % 2 + n / 4 % 2 + n / 8 % 2 + n / 16 % 2 + n / 32 % 2 + n / 64 % 2 + n / 128 % 2 + n / 256 % 2 + n / 512 % 2
theorem fBits_all : ∀ n, n < 1024 → fBits (nI n) = nI (fOnes n) := by decide +kernel
theorem fBits_nI (n : Nat) (h : n < 1024) : fBits (nI n) = nI (fOnes n) := fBits_all n h
def fJoin (x a b : Int32) : Int32 :=
  if -x = nI 11 then (if a = nI 0 then (if b = nI 0 then nI 0 else nI 1) else nI 1)
  else if -x = nI 12 then (if a = nI 0 then nI 0 else (if b = nI 0 then nI 0 else nI 1))
  else if -x = nI 43 then a + b
  else if -x = nI 45 then a - b
  else if -x = nI 60 then (if b ≤ a then nI 0 else nI 1)
  else if -x = nI 61 then (if a = b then nI 1 else nI 0)
  else a * b
def fRank (x : Int32) : Int32 :=
  if x = nI 11 then nI 0 else if x = nI 12 then nI 1 else if x = nI 42 then nI 4 else if x = nI 43 then nI 3 else if x = nI 45 then nI 3 else if x = nI 60 then nI 2 else if x = nI 61 then nI 2 else -1
def fNar (t x : Int32) : Int32 := if t = nI 0 then x.toInt8.toInt32 else if t = nI 1 then x.toInt16.toInt32 else x
def fDiv (a b : Nat) : Nat → Nat
  | 0 => 1
  | d + 1 => if d = 0 then 1 else if a % (d + 1) = 0 ∧ b % (d + 1) = 0 then d + 1 else fDiv a b d
theorem fDiv_one {a b d : Nat} (h : d ≤ 1) : fDiv a b d = 1 := by
  match d, h with
  | 0, _ => rfl
  | 1, _ => rfl
theorem fDiv_hit {a b d : Nat} (h : 1 < d) (h1 : a % d = 0) (h2 : b % d = 0) : fDiv a b d = d := by
  obtain ⟨k, rfl⟩ : ∃ k, d = k + 1 := ⟨d - 1, by omega⟩
  rw [fDiv, if_neg (by omega), if_pos ⟨h1, h2⟩]
theorem fDiv_miss {a b d : Nat} (h : 1 < d) (h1 : ¬ (a % d = 0 ∧ b % d = 0)) : fDiv a b d = fDiv a b (d - 1) := by
  obtain ⟨k, rfl⟩ : ∃ k, d = k + 1 := ⟨d - 1, by omega⟩
  rw [fDiv, if_neg (by omega), if_neg h1]
  rfl
/-! the cover: by the cells yet to be taken, the fewest bites; the lowest cell is taken by some bit of the shape -/
def fLow (c : Nat) : Nat := if c % 2 = 1 then 0 else if c / 2 % 2 = 1 then 1 else if c / 4 % 2 = 1 then 2 else if c / 8 % 2 = 1 then 3 else if c / 16 % 2 = 1 then 4 else if c / 32 % 2 = 1 then 5 else if c / 64 % 2 = 1 then 6 else if c / 128 % 2 = 1 then 7 else if c / 256 % 2 = 1 then 8 else 9
theorem fLow_all : ∀ c, c < 1024 → 0 < c → (nI c &&& -nI c) - nI 1 = nI (2 ^ fLow c - 1) ∧ fOnes (2 ^ fLow c - 1) = fLow c ∧ c.testBit (fLow c) = true ∧ 2 ^ fLow c - 1 < 1024 := by decide +kernel
theorem fLow_bits {c : Nat} (h : c < 1024) (h0 : 0 < c) : fBits ((nI c &&& -nI c) - nI 1) = nI (fLow c) := by
  obtain ⟨h1, h2, -, h4⟩ := fLow_all c h h0
  rw [h1, fBits_nI _ h4, h2]
theorem fLow_lt (c : Nat) : fLow c ≤ 9 := by
  unfold fLow
  repeat' split
  all_goals omega
def fTake (sp lo b : Nat) : Nat := if b ≤ lo then sp * 2 ^ (lo - b) else sp / 2 ^ (b - lo)
theorem fTake_shl {sp lo b : Nat} (hsp : sp < 128) (hlo : lo ≤ 9) (hb : b ≤ lo) : nI sp <<< (nI (lo - b) &&& 31) = nI (fTake sp lo b) := by
  rw [fTake, if_pos hb]
  refine m_shl (by omega) ?_
  have : 2 ^ (lo - b) ≤ 2 ^ 9 := Nat.pow_le_pow_right (by decide) (by omega)
  have h2 : sp * 2 ^ (lo - b) ≤ 127 * 2 ^ 9 := Nat.mul_le_mul (by omega) this
  omega
theorem fTake_shr {sp lo b : Nat} (hsp : sp < 128) (hb : lo < b) (hb7 : b < 7) : nI sp >>> (nI (b - lo) &&& 31) = nI (fTake sp lo b) := by
  rw [fTake, if_neg (by omega)]
  exact m_shr (by omega) (by omega)
def fRest (c t : Nat) : Nat := c &&& (1023 ^^^ (t % 1024))
theorem fTake_bit {sp lo b : Nat} (hb : sp / 2 ^ b % 2 = 1) : (fTake sp lo b).testBit lo = true := by
  have h : sp.testBit b = true := by rw [Nat.testBit_eq_decide_div_mod_eq]; simpa using hb
  unfold fTake
  split
  · rename_i hle
    rw [Nat.testBit_mul_two_pow]
    simp [hle, show lo - (lo - b) = b by omega, h]
  · rename_i hle
    rw [Nat.testBit_div_two_pow]
    rw [show lo + (b - lo) = b by omega]
    exact h
theorem fRest_lt {c sp b : Nat} (h : c < 1024) (h0 : 0 < c) (hb : sp / 2 ^ b % 2 = 1) : fRest c (fTake sp (fLow c) b) < c := by
  have hle : fRest c (fTake sp (fLow c) b) ≤ c := Nat.and_le_left
  refine Nat.lt_of_le_of_ne hle (fun e => ?_)
  have h1 := (fLow_all c h h0).2.2.1
  have h9 := fLow_lt c
  have h2 : (fRest c (fTake sp (fLow c) b)).testBit (fLow c) = false := by
    unfold fRest
    rw [Nat.testBit_and, Nat.testBit_xor, Nat.testBit_mod_two_pow (j := 10), fTake_bit hb]
    have : (1023 : Nat).testBit (fLow c) = true := by
      have : ∀ k, k ≤ 9 → (1023 : Nat).testBit k = true := by decide
      exact this _ h9
    simp [this]
    omega
  rw [e, h1] at h2
  cases h2
/-- the least over bits 0 .. n - 1 of the shape -/
def fewB (sp c : Nat) (t : Nat → Nat) : Nat → Nat
  | 0 => 1023
  | b + 1 => if sp / 2 ^ b % 2 = 0 then fewB sp c t b else min (fewB sp c t b) (1 + t (fRest c (fTake sp (fLow c) b)))
/-- the table, of what is below c -/
def fewT (sp : Nat) : Nat → Nat → Nat
  | 0 => fun _ => 0
  | c + 1 => fun j => if j = c then (if c = 0 then 0 else fewB sp c (fewT sp c) 7) else fewT sp c j
def fFew (sp le : Nat) : Int32 := if le = 0 then nI 0 else if sp = 0 then -1 else nI (fewT sp (le + 1) le)
theorem fewB_le (sp c : Nat) (t : Nat → Nat) : ∀ b, fewB sp c t b ≤ 1023
  | 0 => Nat.le_refl _
  | b + 1 => by
    have := fewB_le sp c t b
    unfold fewB
    split
    · exact this
    · omega
theorem fewT_le (sp : Nat) : ∀ c j, fewT sp c j ≤ 1023
  | 0, j => Nat.zero_le _
  | c + 1, j => by
    unfold fewT
    split
    · split
      · omega
      · exact fewB_le _ _ _ _
    · exact fewT_le sp c j
theorem m_min {a b : Nat} (ha : a < 2 ^ 31) (hb : b < 2 ^ 31) : (if nI b < nI a then nI b else nI a) = nI (min a b) := by
  by_cases h : b < a
  · rw [if_pos ((nI_ltI hb ha).mpr h), Nat.min_eq_right (by omega)]
  · rw [if_neg (fun z => h ((nI_ltI hb ha).mp z)), Nat.min_eq_left (by omega)]
theorem fewT_zero (sp : Nat) : ∀ c, fewT sp c 0 = 0
  | 0 => rfl
  | c + 1 => by
    unfold fewT
    by_cases h : 0 = c
    · rw [if_pos h, if_pos h.symm]
    · rw [if_neg h]; exact fewT_zero sp c
theorem fewT_step {sp ce fw : Nat} {V : mV} (h0 : 0 < ce) (ht : ∀ j, j < ce → V 9 j = nI (fewT sp ce j)) (hf : fw = fewB sp ce (fewT sp ce) 7) (j : Nat) (hj : j < ce + 1) : mU V 9 ce (nI fw) 9 j = nI (fewT sp (ce + 1) j) := by
  simp only [fewT]
  by_cases h : j = ce
  · subst h
    rw [mU_eq, if_pos rfl, if_neg (by omega), hf]
  · rw [mU_ne _ _ (by omega), if_neg h]
    exact ht j (by omega)
set_option maxHeartbeats 4000000 in
set_option maxRecDepth 100000 in
theorem c_J6_bitCount_n (l : Launch) (G : mG) (ad : Nat → Nat) (sh : Nat → Option mSh) (V : mV) (n : Nat) (hn : n < 1024) : mM l yJ6_bitCount_0f7a4 wsJ6_bitCount_0f7a4 ({ frames := 0, cells := 0, slots := 0, locals := 0 } : Room) G ad sh V [.int (nI n)] 0 0 (mPe ad sh V (nI (fOnes n))) := by
  refine mM.of (cc := cJ6_bitCount_0f7a4) (maxL := 1) (ret := (some .int)) (by decide) rfl (Nat.le_of_ble_eq_true rfl) ?_
  intro p e s m below meth c S hr hlk hnm hW ls hl
  obtain ⟨hx, hb, hml, hown, hts⟩ := id S
  have hl : lv_has ls 1 [(0, .int (nI n))] := hl
  have hS0 : True := trivial
  refine lv_iload_n hx hb dJ6_bitCount_0f7a4_0 rfl (lv_at hl 0 rfl) ?_
  refine lv_iload_n hx hb dJ6_bitCount_0f7a4_1 rfl (lv_at hl 0 rfl) ?_
  refine lv_iconst (v := nI 1) hx hb dJ6_bitCount_0f7a4_2 (by decide) ?_
  refine lv_iushr (v := (fUsh (nI n) (nI 1))) hx hb dJ6_bitCount_0f7a4_3 rfl ?_
  refine lv_ldcw (v := nI 1431655765) hx hb hown (hts (.constant RJ6 265 (1431655765)) (List.mem_cons_of_mem _ (wa_18 _ (List.mem_of_getElem? (i := 3) (by decide +kernel))))) dJ6_bitCount_0f7a4_4 ?_
  refine lv_iand hx hb dJ6_bitCount_0f7a4_7 ?_
  refine lv_isub hx hb dJ6_bitCount_0f7a4_8 ?_
  refine lv_topi (fun x_1 ex_1 => ?_)
  refine lv_istore_n (lv' := [(0, .int x_1)]) hx hb dJ6_bitCount_0f7a4_9 rfl hl (by decide) rfl (fun ls hl => ?_)
  refine lv_iload_n hx hb dJ6_bitCount_0f7a4_10 rfl (lv_at hl 0 rfl) ?_
  refine lv_ldcw (v := nI 858993459) hx hb hown (hts (.constant RJ6 266 (858993459)) (List.mem_cons_of_mem _ (wa_18 _ (List.mem_of_getElem? (i := 4) (by decide +kernel))))) dJ6_bitCount_0f7a4_11 ?_
  refine lv_iand hx hb dJ6_bitCount_0f7a4_14 ?_
  refine lv_iload_n hx hb dJ6_bitCount_0f7a4_15 rfl (lv_at hl 0 rfl) ?_
  refine lv_iconst (v := nI 2) hx hb dJ6_bitCount_0f7a4_16 (by decide) ?_
  refine lv_iushr (v := (fUsh x_1 (nI 2))) hx hb dJ6_bitCount_0f7a4_17 rfl ?_
  refine lv_ldcw (v := nI 858993459) hx hb hown (hts (.constant RJ6 266 (858993459)) (List.mem_cons_of_mem _ (wa_18 _ (List.mem_of_getElem? (i := 4) (by decide +kernel))))) dJ6_bitCount_0f7a4_18 ?_
  refine lv_iand hx hb dJ6_bitCount_0f7a4_21 ?_
  refine lv_iadd hx hb dJ6_bitCount_0f7a4_22 ?_
  refine lv_topi (fun x_2 ex_2 => ?_)
  refine lv_istore_n (lv' := [(0, .int x_2)]) hx hb dJ6_bitCount_0f7a4_23 rfl hl (by decide) rfl (fun ls hl => ?_)
  refine lv_iload_n hx hb dJ6_bitCount_0f7a4_24 rfl (lv_at hl 0 rfl) ?_
  refine lv_iload_n hx hb dJ6_bitCount_0f7a4_25 rfl (lv_at hl 0 rfl) ?_
  refine lv_iconst (v := nI 4) hx hb dJ6_bitCount_0f7a4_26 (by decide) ?_
  refine lv_iushr (v := (fUsh x_2 (nI 4))) hx hb dJ6_bitCount_0f7a4_27 rfl ?_
  refine lv_iadd hx hb dJ6_bitCount_0f7a4_28 ?_
  refine lv_ldcw (v := nI 252645135) hx hb hown (hts (.constant RJ6 267 (252645135)) (List.mem_cons_of_mem _ (wa_18 _ (List.mem_of_getElem? (i := 5) (by decide +kernel))))) dJ6_bitCount_0f7a4_29 ?_
  refine lv_iand hx hb dJ6_bitCount_0f7a4_32 ?_
  refine lv_topi (fun x_3 ex_3 => ?_)
  refine lv_istore_n (lv' := [(0, .int x_3)]) hx hb dJ6_bitCount_0f7a4_33 rfl hl (by decide) rfl (fun ls hl => ?_)
  refine lv_iload_n hx hb dJ6_bitCount_0f7a4_34 rfl (lv_at hl 0 rfl) ?_
  refine lv_iload_n hx hb dJ6_bitCount_0f7a4_35 rfl (lv_at hl 0 rfl) ?_
  refine lv_bipush (v := nI 8) hx hb dJ6_bitCount_0f7a4_36 (by decide) ?_
  refine lv_iushr (v := (fUsh x_3 (nI 8))) hx hb dJ6_bitCount_0f7a4_38 rfl ?_
  refine lv_iadd hx hb dJ6_bitCount_0f7a4_39 ?_
  refine lv_istore_n (lv' := [(0, .int (x_3 + (fUsh x_3 (nI 8))))]) hx hb dJ6_bitCount_0f7a4_40 rfl hl (by decide) rfl (fun ls hl => ?_)
  refine lv_iload_n hx hb dJ6_bitCount_0f7a4_41 rfl (lv_at hl 0 rfl) ?_
  refine lv_iload_n hx hb dJ6_bitCount_0f7a4_42 rfl (lv_at hl 0 rfl) ?_
  refine lv_bipush (v := nI 16) hx hb dJ6_bitCount_0f7a4_43 (by decide) ?_
  refine lv_iushr (v := (fUsh (x_3 + (fUsh x_3 (nI 8))) (nI 16))) hx hb dJ6_bitCount_0f7a4_45 rfl ?_
  refine lv_iadd hx hb dJ6_bitCount_0f7a4_46 ?_
  refine lv_topi (fun x_4 ex_4 => ?_)
  refine lv_istore_n (lv' := [(0, .int x_4)]) hx hb dJ6_bitCount_0f7a4_47 rfl hl (by decide) rfl (fun ls hl => ?_)
  refine lv_iload_n hx hb dJ6_bitCount_0f7a4_48 rfl (lv_at hl 0 rfl) ?_
  refine lv_bipush (v := nI 63) hx hb dJ6_bitCount_0f7a4_49 (by decide) ?_
  refine lv_iand hx hb dJ6_bitCount_0f7a4_51 ?_
  exact m_iret S hr hlk hW dJ6_bitCount_0f7a4_52 ⟨rfl, (by rw [← fBits_nI n hn]; subst_vars; rfl)⟩
set_option maxHeartbeats 4000000 in
set_option maxRecDepth 100000 in
theorem c_J6_bitCount_0f7a4 (l : Launch) (G : mG) (ad : Nat → Nat) (sh : Nat → Option mSh) (V : mV) (x : Int32) : mM l yJ6_bitCount_0f7a4 wsJ6_bitCount_0f7a4 ({ frames := 0, cells := 0, slots := 0, locals := 0 } : Room) G ad sh V [.int x] 0 0 (mPe ad sh V (fBits x)) := by
  refine mM.of (cc := cJ6_bitCount_0f7a4) (maxL := 1) (ret := (some .int)) (by decide) rfl (Nat.le_of_ble_eq_true rfl) ?_
  intro p e s m below meth c S hr hlk hnm hW ls hl
  obtain ⟨hx, hb, hml, hown, hts⟩ := id S
  have hl : lv_has ls 1 [(0, .int x)] := hl
  have hS0 : True := trivial
  refine lv_iload_n hx hb dJ6_bitCount_0f7a4_0 rfl (lv_at hl 0 rfl) ?_
  refine lv_iload_n hx hb dJ6_bitCount_0f7a4_1 rfl (lv_at hl 0 rfl) ?_
  refine lv_iconst (v := nI 1) hx hb dJ6_bitCount_0f7a4_2 (by decide) ?_
  refine lv_iushr (v := (fUsh x (nI 1))) hx hb dJ6_bitCount_0f7a4_3 rfl ?_
  refine lv_ldcw (v := nI 1431655765) hx hb hown (hts (.constant RJ6 265 (1431655765)) (List.mem_cons_of_mem _ (wa_18 _ (List.mem_of_getElem? (i := 3) (by decide +kernel))))) dJ6_bitCount_0f7a4_4 ?_
  refine lv_iand hx hb dJ6_bitCount_0f7a4_7 ?_
  refine lv_isub hx hb dJ6_bitCount_0f7a4_8 ?_
  refine lv_topi (fun x_1 ex_1 => ?_)
  refine lv_istore_n (lv' := [(0, .int x_1)]) hx hb dJ6_bitCount_0f7a4_9 rfl hl (by decide) rfl (fun ls hl => ?_)
  refine lv_iload_n hx hb dJ6_bitCount_0f7a4_10 rfl (lv_at hl 0 rfl) ?_
  refine lv_ldcw (v := nI 858993459) hx hb hown (hts (.constant RJ6 266 (858993459)) (List.mem_cons_of_mem _ (wa_18 _ (List.mem_of_getElem? (i := 4) (by decide +kernel))))) dJ6_bitCount_0f7a4_11 ?_
  refine lv_iand hx hb dJ6_bitCount_0f7a4_14 ?_
  refine lv_iload_n hx hb dJ6_bitCount_0f7a4_15 rfl (lv_at hl 0 rfl) ?_
  refine lv_iconst (v := nI 2) hx hb dJ6_bitCount_0f7a4_16 (by decide) ?_
  refine lv_iushr (v := (fUsh x_1 (nI 2))) hx hb dJ6_bitCount_0f7a4_17 rfl ?_
  refine lv_ldcw (v := nI 858993459) hx hb hown (hts (.constant RJ6 266 (858993459)) (List.mem_cons_of_mem _ (wa_18 _ (List.mem_of_getElem? (i := 4) (by decide +kernel))))) dJ6_bitCount_0f7a4_18 ?_
  refine lv_iand hx hb dJ6_bitCount_0f7a4_21 ?_
  refine lv_iadd hx hb dJ6_bitCount_0f7a4_22 ?_
  refine lv_topi (fun x_2 ex_2 => ?_)
  refine lv_istore_n (lv' := [(0, .int x_2)]) hx hb dJ6_bitCount_0f7a4_23 rfl hl (by decide) rfl (fun ls hl => ?_)
  refine lv_iload_n hx hb dJ6_bitCount_0f7a4_24 rfl (lv_at hl 0 rfl) ?_
  refine lv_iload_n hx hb dJ6_bitCount_0f7a4_25 rfl (lv_at hl 0 rfl) ?_
  refine lv_iconst (v := nI 4) hx hb dJ6_bitCount_0f7a4_26 (by decide) ?_
  refine lv_iushr (v := (fUsh x_2 (nI 4))) hx hb dJ6_bitCount_0f7a4_27 rfl ?_
  refine lv_iadd hx hb dJ6_bitCount_0f7a4_28 ?_
  refine lv_ldcw (v := nI 252645135) hx hb hown (hts (.constant RJ6 267 (252645135)) (List.mem_cons_of_mem _ (wa_18 _ (List.mem_of_getElem? (i := 5) (by decide +kernel))))) dJ6_bitCount_0f7a4_29 ?_
  refine lv_iand hx hb dJ6_bitCount_0f7a4_32 ?_
  refine lv_topi (fun x_3 ex_3 => ?_)
  refine lv_istore_n (lv' := [(0, .int x_3)]) hx hb dJ6_bitCount_0f7a4_33 rfl hl (by decide) rfl (fun ls hl => ?_)
  refine lv_iload_n hx hb dJ6_bitCount_0f7a4_34 rfl (lv_at hl 0 rfl) ?_
  refine lv_iload_n hx hb dJ6_bitCount_0f7a4_35 rfl (lv_at hl 0 rfl) ?_
  refine lv_bipush (v := nI 8) hx hb dJ6_bitCount_0f7a4_36 (by decide) ?_
  refine lv_iushr (v := (fUsh x_3 (nI 8))) hx hb dJ6_bitCount_0f7a4_38 rfl ?_
  refine lv_iadd hx hb dJ6_bitCount_0f7a4_39 ?_
  refine lv_istore_n (lv' := [(0, .int (x_3 + (fUsh x_3 (nI 8))))]) hx hb dJ6_bitCount_0f7a4_40 rfl hl (by decide) rfl (fun ls hl => ?_)
  refine lv_iload_n hx hb dJ6_bitCount_0f7a4_41 rfl (lv_at hl 0 rfl) ?_
  refine lv_iload_n hx hb dJ6_bitCount_0f7a4_42 rfl (lv_at hl 0 rfl) ?_
  refine lv_bipush (v := nI 16) hx hb dJ6_bitCount_0f7a4_43 (by decide) ?_
  refine lv_iushr (v := (fUsh (x_3 + (fUsh x_3 (nI 8))) (nI 16))) hx hb dJ6_bitCount_0f7a4_45 rfl ?_
  refine lv_iadd hx hb dJ6_bitCount_0f7a4_46 ?_
  refine lv_topi (fun x_4 ex_4 => ?_)
  refine lv_istore_n (lv' := [(0, .int x_4)]) hx hb dJ6_bitCount_0f7a4_47 rfl hl (by decide) rfl (fun ls hl => ?_)
  refine lv_iload_n hx hb dJ6_bitCount_0f7a4_48 rfl (lv_at hl 0 rfl) ?_
  refine lv_bipush (v := nI 63) hx hb dJ6_bitCount_0f7a4_49 (by decide) ?_
  refine lv_iand hx hb dJ6_bitCount_0f7a4_51 ?_
  exact m_iret S hr hlk hW dJ6_bitCount_0f7a4_52 ⟨rfl, (by subst_vars; rfl)⟩
set_option maxHeartbeats 4000000 in
set_option maxRecDepth 100000 in
theorem c_X7_join (l : Launch) (G : mG) (ad : Nat → Nat) (sh : Nat → Option mSh) (V : mV) (x a b : Int32) : mM l yX7_join wsX7_join ({ frames := 0, cells := 0, slots := 0, locals := 0 } : Room) G ad sh V [.int x, .int a, .int b] 0 0 (mPe ad sh V (fJoin x a b)) := by
  refine mM.of (cc := cX7_join) (maxL := 3) (ret := (some .int)) (by decide) rfl (Nat.le_of_ble_eq_true rfl) ?_
  intro p e s m below meth c S hr hlk hnm hW ls hl
  obtain ⟨hx, hb, hml, hown, hts⟩ := id S
  have hl : lv_has ls 3 [(0, .int x), (1, .int a), (2, .int b)] := hl
  have hS0 : True := trivial
  refine lv_iload_n hx hb dX7_join_0 rfl (lv_at hl 0 rfl) ?_
  refine lv_ineg hx hb dX7_join_1 ?_
  by_cases c_1 : (-x) = nI 11
  · skip
    refine lv_lookup (off := 58) (tgt := 60) hx hb dX7_join_2 (by decide) (by rw [c_1]; decide +kernel) (by decide) ?_
    refine lv_iload_n hx hb dX7_join_60 rfl (lv_at hl 1 rfl) ?_
    refine m_if_ne (tgt := 68) hx hb dX7_join_61 (by decide) (fun c_2 => ?_) (fun c_2 => ?_)
    · skip
      refine lv_iconst (v := nI 1) hx hb dX7_join_68 (by decide) ?_
      refine lv_goto (tgt := 73) hx hb dX7_join_69 (by decide) ?_
      exact m_iret S hr hlk hW dX7_join_73 ⟨rfl, (by simp only [fJoin, c_1, c_2]; first | rfl | simp [c_1, c_2, nI_lit] | simp_all [nI_lit])⟩
    · skip
      refine lv_iload_n hx hb dX7_join_64 rfl (lv_at hl 2 rfl) ?_
      refine m_if_eq (tgt := 72) hx hb dX7_join_65 (by decide) (fun c_3 => ?_) (fun c_3 => ?_)
      · skip
        refine lv_iconst (v := nI 0) hx hb dX7_join_72 (by decide) ?_
        exact m_iret S hr hlk hW dX7_join_73 ⟨rfl, (by simp only [fJoin, c_1, c_2, c_3]; first | rfl | simp [c_1, c_2, c_3, nI_lit] | simp_all [nI_lit])⟩
      · skip
        refine lv_iconst (v := nI 1) hx hb dX7_join_68 (by decide) ?_
        refine lv_goto (tgt := 73) hx hb dX7_join_69 (by decide) ?_
        exact m_iret S hr hlk hW dX7_join_73 ⟨rfl, (by simp only [fJoin, c_1, c_2, c_3]; first | rfl | simp [c_1, c_2, c_3, nI_lit] | simp_all [nI_lit])⟩
  by_cases c_4 : (-x) = nI 12
  · skip
    refine lv_lookup (off := 72) (tgt := 74) hx hb dX7_join_2 (by decide) (by rw [c_4]; decide +kernel) (by decide) ?_
    refine lv_iload_n hx hb dX7_join_74 rfl (lv_at hl 1 rfl) ?_
    refine m_if_eq (tgt := 86) hx hb dX7_join_75 (by decide) (fun c_5 => ?_) (fun c_5 => ?_)
    · skip
      refine lv_iconst (v := nI 0) hx hb dX7_join_86 (by decide) ?_
      exact m_iret S hr hlk hW dX7_join_87 ⟨rfl, (by simp only [fJoin, c_1, c_4, c_5]; first | rfl | simp [c_1, c_4, c_5, nI_lit] | simp_all [nI_lit])⟩
    · skip
      refine lv_iload_n hx hb dX7_join_78 rfl (lv_at hl 2 rfl) ?_
      refine m_if_eq (tgt := 86) hx hb dX7_join_79 (by decide) (fun c_6 => ?_) (fun c_6 => ?_)
      · skip
        refine lv_iconst (v := nI 0) hx hb dX7_join_86 (by decide) ?_
        exact m_iret S hr hlk hW dX7_join_87 ⟨rfl, (by simp only [fJoin, c_1, c_4, c_5, c_6]; first | rfl | simp [c_1, c_4, c_5, c_6, nI_lit] | simp_all [nI_lit])⟩
      · skip
        refine lv_iconst (v := nI 1) hx hb dX7_join_82 (by decide) ?_
        refine lv_goto (tgt := 87) hx hb dX7_join_83 (by decide) ?_
        exact m_iret S hr hlk hW dX7_join_87 ⟨rfl, (by simp only [fJoin, c_1, c_4, c_5, c_6]; first | rfl | simp [c_1, c_4, c_5, c_6, nI_lit] | simp_all [nI_lit])⟩
  by_cases c_7 : (-x) = nI 43
  · skip
    refine lv_lookup (off := 108) (tgt := 110) hx hb dX7_join_2 (by decide) (by rw [c_7]; decide +kernel) (by decide) ?_
    refine lv_iload_n hx hb dX7_join_110 rfl (lv_at hl 1 rfl) ?_
    refine lv_iload_n hx hb dX7_join_111 rfl (lv_at hl 2 rfl) ?_
    refine lv_iadd hx hb dX7_join_112 ?_
    exact m_iret S hr hlk hW dX7_join_113 ⟨rfl, (by simp only [fJoin, c_1, c_4, c_7]; first | rfl | simp [c_1, c_4, c_7, nI_lit] | simp_all [nI_lit])⟩
  by_cases c_8 : (-x) = nI 45
  · skip
    refine lv_lookup (off := 112) (tgt := 114) hx hb dX7_join_2 (by decide) (by rw [c_8]; decide +kernel) (by decide) ?_
    refine lv_iload_n hx hb dX7_join_114 rfl (lv_at hl 1 rfl) ?_
    refine lv_iload_n hx hb dX7_join_115 rfl (lv_at hl 2 rfl) ?_
    refine lv_isub hx hb dX7_join_116 ?_
    exact m_iret S hr hlk hW dX7_join_117 ⟨rfl, (by simp only [fJoin, c_1, c_4, c_7, c_8]; first | rfl | simp [c_1, c_4, c_7, c_8, nI_lit] | simp_all [nI_lit])⟩
  by_cases c_9 : (-x) = nI 60
  · skip
    refine lv_lookup (off := 86) (tgt := 88) hx hb dX7_join_2 (by decide) (by rw [c_9]; decide +kernel) (by decide) ?_
    refine lv_iload_n hx hb dX7_join_88 rfl (lv_at hl 1 rfl) ?_
    refine lv_iload_n hx hb dX7_join_89 rfl (lv_at hl 2 rfl) ?_
    refine lv_icmp_ge (tgt := 97) hx hb dX7_join_90 (by decide) (fun c_10 => ?_) (fun c_10 => ?_)
    · skip
      refine lv_iconst (v := nI 0) hx hb dX7_join_97 (by decide) ?_
      exact m_iret S hr hlk hW dX7_join_98 ⟨rfl, (by simp only [fJoin, c_1, c_4, c_7, c_8, c_9, c_10]; first | rfl | simp [c_1, c_4, c_7, c_8, c_9, c_10, nI_lit] | simp_all [nI_lit])⟩
    · skip
      refine lv_iconst (v := nI 1) hx hb dX7_join_93 (by decide) ?_
      refine lv_goto (tgt := 98) hx hb dX7_join_94 (by decide) ?_
      exact m_iret S hr hlk hW dX7_join_98 ⟨rfl, (by simp only [fJoin, c_1, c_4, c_7, c_8, c_9, c_10]; first | rfl | simp [c_1, c_4, c_7, c_8, c_9, c_10, nI_lit] | simp_all [nI_lit])⟩
  by_cases c_11 : (-x) = nI 61
  · skip
    refine lv_lookup (off := 97) (tgt := 99) hx hb dX7_join_2 (by decide) (by rw [c_11]; decide +kernel) (by decide) ?_
    refine lv_iload_n hx hb dX7_join_99 rfl (lv_at hl 1 rfl) ?_
    refine lv_iload_n hx hb dX7_join_100 rfl (lv_at hl 2 rfl) ?_
    refine lv_icmp_ne (tgt := 108) hx hb dX7_join_101 (by decide) (fun c_12 => ?_) (fun c_12 => ?_)
    · skip
      refine lv_iconst (v := nI 0) hx hb dX7_join_108 (by decide) ?_
      exact m_iret S hr hlk hW dX7_join_109 ⟨rfl, (by simp only [fJoin, c_1, c_4, c_7, c_8, c_9, c_11, c_12]; first | rfl | simp [c_1, c_4, c_7, c_8, c_9, c_11, c_12, nI_lit] | simp_all [nI_lit])⟩
    · skip
      refine lv_iconst (v := nI 1) hx hb dX7_join_104 (by decide) ?_
      refine lv_goto (tgt := 109) hx hb dX7_join_105 (by decide) ?_
      exact m_iret S hr hlk hW dX7_join_109 ⟨rfl, (by simp only [fJoin, c_1, c_4, c_7, c_8, c_9, c_11, c_12]; first | rfl | simp [c_1, c_4, c_7, c_8, c_9, c_11, c_12, nI_lit] | simp_all [nI_lit])⟩
  refine lv_lookup (off := 116) (tgt := 118) hx hb dX7_join_2 (by decide) (by rw [show (#[(11, 58), (12, 72), (43, 108), (45, 112), (60, 86), (61, 97)] : Array (Int × Int)).toList = [(11, 58), (12, 72), (43, 108), (45, 112), (60, 86), (61, 97)] from rfl]; rw [lv_osw c_1 (show (nI 11).toInt = 11 by decide)]; rw [lv_osw c_4 (show (nI 12).toInt = 12 by decide)]; rw [lv_osw c_7 (show (nI 43).toInt = 43 by decide)]; rw [lv_osw c_8 (show (nI 45).toInt = 45 by decide)]; rw [lv_osw c_9 (show (nI 60).toInt = 60 by decide)]; rw [lv_osw c_11 (show (nI 61).toInt = 61 by decide)]; rfl) (by decide) ?_
  refine lv_iload_n hx hb dX7_join_118 rfl (lv_at hl 1 rfl) ?_
  refine lv_iload_n hx hb dX7_join_119 rfl (lv_at hl 2 rfl) ?_
  refine lv_imul hx hb dX7_join_120 ?_
  exact m_iret S hr hlk hW dX7_join_121 ⟨rfl, (by simp only [fJoin, c_1, c_4, c_7, c_8, c_9, c_11]; first | rfl | simp [c_1, c_4, c_7, c_8, c_9, c_11, nI_lit] | simp_all [nI_lit])⟩
set_option maxHeartbeats 4000000 in
set_option maxRecDepth 100000 in
theorem c_X9_rankOf (l : Launch) (G : mG) (ad : Nat → Nat) (sh : Nat → Option mSh) (V : mV) (x : Int32) : mM l yX9_rankOf wsX9_rankOf ({ frames := 0, cells := 0, slots := 0, locals := 0 } : Room) G ad sh V [.int x] 0 0 (mPe ad sh V (fRank x)) := by
  refine mM.of (cc := cX9_rankOf) (maxL := 1) (ret := (some .int)) (by decide) rfl (Nat.le_of_ble_eq_true rfl) ?_
  intro p e s m below meth c S hr hlk hnm hW ls hl
  obtain ⟨hx, hb, hml, hown, hts⟩ := id S
  have hl : lv_has ls 1 [(0, .int x)] := hl
  have hS0 : True := trivial
  refine lv_iload_n hx hb dX9_rankOf_0 rfl (lv_at hl 0 rfl) ?_
  by_cases c_1 : x = nI 11
  · skip
    refine lv_lookup (off := 67) (tgt := 68) hx hb dX9_rankOf_1 (by decide) (by rw [c_1]; decide +kernel) (by decide) ?_
    refine lv_iconst (v := nI 0) hx hb dX9_rankOf_68 (by decide) ?_
    exact m_iret S hr hlk hW dX9_rankOf_69 ⟨rfl, (by simp only [fRank, c_1]; first | rfl | simp [c_1, nI_lit])⟩
  by_cases c_2 : x = nI 12
  · skip
    refine lv_lookup (off := 69) (tgt := 70) hx hb dX9_rankOf_1 (by decide) (by rw [c_2]; decide +kernel) (by decide) ?_
    refine lv_iconst (v := nI 1) hx hb dX9_rankOf_70 (by decide) ?_
    exact m_iret S hr hlk hW dX9_rankOf_71 ⟨rfl, (by simp only [fRank, c_1, c_2]; first | rfl | simp [c_1, c_2, nI_lit])⟩
  by_cases c_3 : x = nI 42
  · skip
    refine lv_lookup (off := 75) (tgt := 76) hx hb dX9_rankOf_1 (by decide) (by rw [c_3]; decide +kernel) (by decide) ?_
    refine lv_iconst (v := nI 4) hx hb dX9_rankOf_76 (by decide) ?_
    exact m_iret S hr hlk hW dX9_rankOf_77 ⟨rfl, (by simp only [fRank, c_1, c_2, c_3]; first | rfl | simp [c_1, c_2, c_3, nI_lit])⟩
  by_cases c_4 : x = nI 43
  · skip
    refine lv_lookup (off := 73) (tgt := 74) hx hb dX9_rankOf_1 (by decide) (by rw [c_4]; decide +kernel) (by decide) ?_
    refine lv_iconst (v := nI 3) hx hb dX9_rankOf_74 (by decide) ?_
    exact m_iret S hr hlk hW dX9_rankOf_75 ⟨rfl, (by simp only [fRank, c_1, c_2, c_3, c_4]; first | rfl | simp [c_1, c_2, c_3, c_4, nI_lit])⟩
  by_cases c_5 : x = nI 45
  · skip
    refine lv_lookup (off := 73) (tgt := 74) hx hb dX9_rankOf_1 (by decide) (by rw [c_5]; decide +kernel) (by decide) ?_
    refine lv_iconst (v := nI 3) hx hb dX9_rankOf_74 (by decide) ?_
    exact m_iret S hr hlk hW dX9_rankOf_75 ⟨rfl, (by simp only [fRank, c_1, c_2, c_3, c_4, c_5]; first | rfl | simp [c_1, c_2, c_3, c_4, c_5, nI_lit])⟩
  by_cases c_6 : x = nI 60
  · skip
    refine lv_lookup (off := 71) (tgt := 72) hx hb dX9_rankOf_1 (by decide) (by rw [c_6]; decide +kernel) (by decide) ?_
    refine lv_iconst (v := nI 2) hx hb dX9_rankOf_72 (by decide) ?_
    exact m_iret S hr hlk hW dX9_rankOf_73 ⟨rfl, (by simp only [fRank, c_1, c_2, c_3, c_4, c_5, c_6]; first | rfl | simp [c_1, c_2, c_3, c_4, c_5, c_6, nI_lit])⟩
  by_cases c_7 : x = nI 61
  · skip
    refine lv_lookup (off := 71) (tgt := 72) hx hb dX9_rankOf_1 (by decide) (by rw [c_7]; decide +kernel) (by decide) ?_
    refine lv_iconst (v := nI 2) hx hb dX9_rankOf_72 (by decide) ?_
    exact m_iret S hr hlk hW dX9_rankOf_73 ⟨rfl, (by simp only [fRank, c_1, c_2, c_3, c_4, c_5, c_6, c_7]; first | rfl | simp [c_1, c_2, c_3, c_4, c_5, c_6, c_7, nI_lit])⟩
  refine lv_lookup (off := 77) (tgt := 78) hx hb dX9_rankOf_1 (by decide) (by rw [show (#[(11, 67), (12, 69), (42, 75), (43, 73), (45, 73), (60, 71), (61, 71)] : Array (Int × Int)).toList = [(11, 67), (12, 69), (42, 75), (43, 73), (45, 73), (60, 71), (61, 71)] from rfl]; rw [lv_osw c_1 (show (nI 11).toInt = 11 by decide)]; rw [lv_osw c_2 (show (nI 12).toInt = 12 by decide)]; rw [lv_osw c_3 (show (nI 42).toInt = 42 by decide)]; rw [lv_osw c_4 (show (nI 43).toInt = 43 by decide)]; rw [lv_osw c_5 (show (nI 45).toInt = 45 by decide)]; rw [lv_osw c_6 (show (nI 60).toInt = 60 by decide)]; rw [lv_osw c_7 (show (nI 61).toInt = 61 by decide)]; rfl) (by decide) ?_
  refine lv_iconst (v := -1) hx hb dX9_rankOf_78 (by decide) ?_
  exact m_iret S hr hlk hW dX9_rankOf_79 ⟨rfl, (by simp only [fRank, c_1, c_2, c_3, c_4, c_5, c_6, c_7]; first | rfl | simp [c_1, c_2, c_3, c_4, c_5, c_6, c_7, nI_lit])⟩
set_option maxHeartbeats 4000000 in
set_option maxRecDepth 100000 in
theorem c_X9_isSign (l : Launch) (G : mG) (ad : Nat → Nat) (sh : Nat → Option mSh) (V : mV) (x : Int32) : mM l yX9_isSign wsX9_isSign ({ frames := 1, cells := 0, slots := 0, locals := 20 } : Room) G ad sh V [.int x] 0 0 (mPe ad sh V (if x = nI 40 ∨ x = nI 41 ∨ x = nI 59 ∨ nI 2 ≤ fRank x then nI 1 else nI 0)) := by
  refine mM.of (cc := cX9_isSign) (maxL := 1) (ret := (some .boolean)) (by decide) rfl (Nat.le_of_ble_eq_true rfl) ?_
  intro p e s m below meth c S hr hlk hnm hW ls hl
  obtain ⟨hx, hb, hml, hown, hts⟩ := id S
  have hl : lv_has ls 1 [(0, .int x)] := hl
  have hS0 : True := trivial
  refine lv_iload_n hx hb dX9_isSign_0 rfl (lv_at hl 0 rfl) ?_
  refine lv_bipush (v := nI 40) hx hb dX9_isSign_1 (by decide) ?_
  refine lv_icmp_eq (tgt := 26) hx hb dX9_isSign_3 (by decide) (fun c_1 => ?_) (fun c_1 => ?_)
  · skip
    refine lv_iconst (v := nI 1) hx hb dX9_isSign_26 (by decide) ?_
    refine lv_goto (tgt := 31) hx hb dX9_isSign_27 (by decide) ?_
    exact m_zret S hr hlk hW rfl dX9_isSign_31 ⟨rfl, (by first | (rw [if_pos (Or.inl c_1)]; done) | (rw [if_pos (Or.inr (Or.inl c_1))]; done) | (rw [if_pos (Or.inr (Or.inr (Or.inl c_1)))]; done) | (rw [if_pos (Or.inr (Or.inr (Or.inr (Int32.not_lt.mp c_1))))]; done) | (rw [if_neg (by simp only [not_or]; exact ⟨by assumption, by assumption, by assumption, Int32.not_le.mpr c_1⟩)]; done))⟩
  · skip
    refine lv_iload_n hx hb dX9_isSign_6 rfl (lv_at hl 0 rfl) ?_
    refine lv_bipush (v := nI 41) hx hb dX9_isSign_7 (by decide) ?_
    refine lv_icmp_eq (tgt := 26) hx hb dX9_isSign_9 (by decide) (fun c_2 => ?_) (fun c_2 => ?_)
    · skip
      refine lv_iconst (v := nI 1) hx hb dX9_isSign_26 (by decide) ?_
      refine lv_goto (tgt := 31) hx hb dX9_isSign_27 (by decide) ?_
      exact m_zret S hr hlk hW rfl dX9_isSign_31 ⟨rfl, (by first | (rw [if_pos (Or.inl c_2)]; done) | (rw [if_pos (Or.inr (Or.inl c_2))]; done) | (rw [if_pos (Or.inr (Or.inr (Or.inl c_2)))]; done) | (rw [if_pos (Or.inr (Or.inr (Or.inr (Int32.not_lt.mp c_2))))]; done) | (rw [if_neg (by simp only [not_or]; exact ⟨by assumption, by assumption, by assumption, Int32.not_le.mpr c_2⟩)]; done))⟩
    · skip
      refine lv_iload_n hx hb dX9_isSign_12 rfl (lv_at hl 0 rfl) ?_
      refine lv_bipush (v := nI 59) hx hb dX9_isSign_13 (by decide) ?_
      refine lv_icmp_eq (tgt := 26) hx hb dX9_isSign_15 (by decide) (fun c_3 => ?_) (fun c_3 => ?_)
      · skip
        refine lv_iconst (v := nI 1) hx hb dX9_isSign_26 (by decide) ?_
        refine lv_goto (tgt := 31) hx hb dX9_isSign_27 (by decide) ?_
        exact m_zret S hr hlk hW rfl dX9_isSign_31 ⟨rfl, (by first | (rw [if_pos (Or.inl c_3)]; done) | (rw [if_pos (Or.inr (Or.inl c_3))]; done) | (rw [if_pos (Or.inr (Or.inr (Or.inl c_3)))]; done) | (rw [if_pos (Or.inr (Or.inr (Or.inr (Int32.not_lt.mp c_3))))]; done) | (rw [if_neg (by simp only [not_or]; exact ⟨by assumption, by assumption, by assumption, Int32.not_le.mpr c_3⟩)]; done))⟩
      · skip
        refine lv_iload_n hx hb dX9_isSign_18 rfl (lv_at hl 0 rfl) ?_
        refine m_cie (m_rS S hW (c_X9_rankOf l G ad sh V x) (va_cwS 1 hts (gCall [.methodLink RX9 9 yX9_rankOf, .static yX9_rankOf, .initialized RX9] (List.forall_mem_cons.mpr ⟨(wa_7 _ (List.mem_of_getElem? (i := 14) (by decide +kernel))), (List.forall_mem_cons.mpr ⟨(wa_7 _ (List.mem_of_getElem? (i := 12) (by decide +kernel))), (List.forall_mem_cons.mpr ⟨(wa_7 _ (List.mem_of_getElem? (i := 13) (by decide +kernel))), (List.forall_mem_cons.mpr ⟨(wa_7 _ (List.mem_of_getElem? (i := 10) (by decide +kernel))), (fun _ h => absurd h List.not_mem_nil)⟩)⟩)⟩)⟩)) rfl rfl rfl (by decide +kernel) ⟨Nat.le_of_ble_eq_true rfl, Nat.le_of_ble_eq_true rfl⟩) rfl hl.1 rfl (Nat.le_of_ble_eq_true rfl) dX9_isSign_19 ⟨Nat.le_of_ble_eq_true rfl, Nat.le_of_ble_eq_true rfl⟩) hW (fun H locs hW => ?_)
        refine lv_iconst (v := nI 2) hx hb dX9_isSign_22 (by decide) ?_
        refine lv_icmp_lt (tgt := 30) hx hb dX9_isSign_23 (by decide) (fun c_4 => ?_) (fun c_4 => ?_)
        · skip
          refine lv_iconst (v := nI 0) hx hb dX9_isSign_30 (by decide) ?_
          exact m_zret S hr hlk hW rfl dX9_isSign_31 ⟨rfl, (by first | (rw [if_pos (Or.inl c_4)]; done) | (rw [if_pos (Or.inr (Or.inl c_4))]; done) | (rw [if_pos (Or.inr (Or.inr (Or.inl c_4)))]; done) | (rw [if_pos (Or.inr (Or.inr (Or.inr (Int32.not_lt.mp c_4))))]; done) | (rw [if_neg (by simp only [not_or]; exact ⟨by assumption, by assumption, by assumption, Int32.not_le.mpr c_4⟩)]; done))⟩
        · skip
          refine lv_iconst (v := nI 1) hx hb dX9_isSign_26 (by decide) ?_
          refine lv_goto (tgt := 31) hx hb dX9_isSign_27 (by decide) ?_
          exact m_zret S hr hlk hW rfl dX9_isSign_31 ⟨rfl, (by first | (rw [if_pos (Or.inl c_4)]; done) | (rw [if_pos (Or.inr (Or.inl c_4))]; done) | (rw [if_pos (Or.inr (Or.inr (Or.inl c_4)))]; done) | (rw [if_pos (Or.inr (Or.inr (Or.inr (Int32.not_lt.mp c_4))))]; done) | (rw [if_neg (by simp only [not_or]; exact ⟨by assumption, by assumption, by assumption, Int32.not_le.mpr c_4⟩)]; done))⟩
set_option maxHeartbeats 4000000 in
set_option maxRecDepth 100000 in
theorem c_X5_becomeRow (l : Launch) (G : mG) (ad : Nat → Nat) (sh : Nat → Option mSh) (V : mV) (i : Nat) (a b : Int32) (hi : sh i = some (sSheet i)) (hi' : sh (i + 4) = some (mI 40)) : mM l yX5_becomeRow wsX5_becomeRow ({ frames := 0, cells := 0, slots := 0, locals := 0 } : Room) G ad sh V [.ref (ad i), .int a, .int b] 0 0 (mPv ad sh (fun V' => V' = mFill (mU (mU V i 0 a) i 1 b) (i + 4) 0 40 (nI 0))) := by
  refine mM.of (cc := cX5_becomeRow) (maxL := 4) (ret := none) (by decide) rfl (Nat.le_of_ble_eq_true rfl) ?_
  intro p e s m below meth c S hr hlk hnm hW ls hl
  obtain ⟨hx, hb, hml, hown, hts⟩ := id S
  have hl : lv_has ls 4 [(0, .ref (ad i)), (1, .int a), (2, .int b)] := hl
  have hS0 : True := trivial
  refine lv_aload_n hx hb dX5_becomeRow_0 rfl (lv_at hl 0 rfl) ?_
  refine lv_iload_n hx hb dX5_becomeRow_1 rfl (lv_at hl 1 rfl) ?_
  refine m_puti S hW hi 0 rfl kX5 (iW5 _) tyX5 tyX5_ok nmX5 (by decide) (List.mem_cons_of_mem _ (wa_10 _ (List.mem_of_getElem? (i := 20) (by decide +kernel)))) (Or.inl rfl) rfl rfl dX5_becomeRow_2 (fun H locs hW => ?_)
  obtain ⟨V_1, eV_1⟩ : ∃ z : mV, z = mU V i 0 (a) := ⟨_, rfl⟩
  rw [← eV_1] at hW
  refine lv_aload_n hx hb dX5_becomeRow_5 rfl (lv_at hl 0 rfl) ?_
  refine lv_iload_n hx hb dX5_becomeRow_6 rfl (lv_at hl 2 rfl) ?_
  refine m_puti S hW hi 1 rfl kX5 (iW5 _) tyX5 tyX5_ok nmX5 (by decide) (List.mem_cons_of_mem _ (wa_41 _ (List.mem_of_getElem? (i := 6) (by decide +kernel)))) (Or.inl rfl) rfl rfl dX5_becomeRow_7 (fun H locs hW => ?_)
  obtain ⟨V_2, eV_2⟩ : ∃ z : mV, z = mU V_1 i 1 (b) := ⟨_, rfl⟩
  rw [← eV_2] at hW
  refine lv_iconst (v := nI 0) hx hb dX5_becomeRow_10 (by decide) ?_
  refine lv_istore_n (lv' := [(3, .int (nI 0)), (0, .ref (ad i)), (1, .int a), (2, .int b)]) hx hb dX5_becomeRow_11 rfl hl (by decide) rfl (fun ls hl => ?_)
  have loop_12 : ∀ (n_12 : Nat) (k : Nat) (V1 : mV) (H : Heap) (locs : List Loc) (ls : Array Slot), (k ≤ 40) → (V1 = mFill (mU (mU V i 0 a) i 1 b) (i + 4) 0 k (nI 0)) → (40 - k) < n_12 → mC (mA ad sh s.heap.size) s.heap s G ad sh V1 H locs → lv_has ls 4 [(0, .ref (ad i)), (1, .int a), (2, .int b), (3, .int (nI k))] → W p l e ({ frames := 0, cells := 0, slots := 0, locals := 0 } : Room) s m ([.ref (ad i), .int a, .int b] : List Value).toArray below meth c H locs 0 0 (MQ below (mPost G ad sh s.heap.size (mPv ad sh (fun V' => V' = mFill (mU (mU V i 0 a) i 1 b) (i + 4) 0 40 (nI 0)))) ([.ref (ad i), .int a, .int b] : List Value).toArray s 0 0 (mA ad sh s.heap.size)) (F0 m 12 ls []) := by
    intro n_12
    induction n_12 with
    | zero => intro k V1 H locs ls hk hv hM_ hW hl; omega
    | succ n_12 ih_12 =>
      intro k V1 H locs ls hk hv hM_ hW hl
      refine lv_iload_n hx hb dX5_becomeRow_12 rfl (lv_at hl 3 rfl) ?_
      refine lv_bipush (v := nI 40) hx hb dX5_becomeRow_13 (by decide) ?_
      refine lv_icmp_ge (tgt := 31) hx hb dX5_becomeRow_15 (by decide) (fun c_3 => ?_) (fun c_3 => ?_)
      · skip
        have c_3 : 40 ≤ k := (nI_leI (by omega) (by omega)).mp c_3
        exact m_vret S hr hlk hW dX5_becomeRow_31 (by rw [hv, show k = 40 by omega])
      · skip
        have c_3 : ¬ 40 ≤ k := mt (nI_leI (by omega) (by omega)).mpr c_3
        refine lv_aload_n hx hb dX5_becomeRow_18 rfl (lv_at hl 0 rfl) ?_
        refine m_getr S hW hi 2 rfl (j := (i + 4)) rfl kX5 (iW5 _) (by decide) (List.mem_cons_of_mem _ (wa_10 _ (List.mem_of_getElem? (i := 21) (by decide +kernel)))) dX5_becomeRow_19 ?_
        refine lv_iload_n hx hb dX5_becomeRow_22 rfl (lv_at hl 3 rfl) ?_
        refine lv_iconst (v := nI 0) hx hb dX5_becomeRow_23 (by decide) ?_
        refine m_iast S hW hi' k rfl (by omega) (by decide) dX5_becomeRow_24 (fun H locs hW => ?_)
        obtain ⟨V_4, eV_4⟩ : ∃ z : mV, z = mU V1 (i + 4) k (nI 0) := ⟨_, rfl⟩
        rw [← eV_4] at hW
        refine lv_iinc (v := nI (k + 1)) (lv' := [(3, .int (nI (k + 1))), (0, .ref (ad i)), (1, .int a), (2, .int b)]) hx hb dX5_becomeRow_25 hl (k := 3) rfl (m_inc k 1) (by decide) rfl (fun ls hl => ?_)
        refine lv_goto (tgt := 12) hx hb dX5_becomeRow_28 (by decide) ?_
        exact ih_12  (k + 1) V_4 _ _ _ (by omega) (by rw [eV_4, hv, mFill_1]; omega) (by omega) hW (lv_sub hl [1, 2, 3, 0] rfl)
  exact loop_12 (40 - 0 + 1) 0 V_2 _ _ _ (by omega) (by simp only [eV_1, eV_2]; exact mFill_0 _ _ _ _) (by omega) hW (lv_sub hl [1, 2, 3, 0] rfl)
set_option maxHeartbeats 4000000 in
set_option maxRecDepth 100000 in
theorem c_X5_write (l : Launch) (G : mG) (ad : Nat → Nat) (sh : Nat → Option mSh) (V : mV) (i k : Nat) (x : Int32) (hi : sh i = some (sSheet i)) (hi' : sh (i + 4) = some (mI 40)) (hk : k < 40) : mM l yX5_write wsX5_write ({ frames := 1, cells := 0, slots := 0, locals := 22 } : Room) G ad sh V [.ref (ad i), .int (nI k), .int x] 0 0 (mPv ad sh (fun V' => V' = mU V (i + 4) k (fNar (V i 0) x))) := by
  refine mM.of (cc := cX5_write) (maxL := 3) (ret := none) (by decide) rfl (Nat.le_of_ble_eq_true rfl) ?_
  intro p e s m below meth c S hr hlk hnm hW ls hl
  obtain ⟨hx, hb, hml, hown, hts⟩ := id S
  have hl : lv_has ls 3 [(0, .ref (ad i)), (1, .int (nI k)), (2, .int x)] := hl
  have hS0 : True := trivial
  refine lv_iload_n hx hb dX5_write_0 rfl (lv_at hl 1 rfl) ?_
  refine lv_iconst (v := nI 0) hx hb dX5_write_1 (by decide) ?_
  refine lv_bipush (v := nI 39) hx hb dX5_write_2 (by decide) ?_
  refine m_cip (m_rSN S hW (c_X10_within l G ad sh V (nI k) 0 39 (by first | assumption | omega) (by first | assumption | omega)) ⟨va_cnB 3 hts (gCall [] (List.forall_mem_cons.mpr ⟨(wa_8 _ (List.mem_of_getElem? (i := 17) (by decide +kernel))), (fun _ h => absurd h List.not_mem_nil)⟩)) rfl rfl rfl (hW.2.2.2.2.2.1 _ (List.mem_of_getElem? (i := 13) rfl)) (hts (.initialized RX10) (List.mem_cons_of_mem _ (wa_1 _ (List.mem_of_getElem? (i := 2) (by decide +kernel))))) (by decide +kernel) ⟨Nat.le_of_ble_eq_true rfl, Nat.le_of_ble_eq_true rfl⟩, hts (.static yX10_within) (List.mem_cons_of_mem _ (wa_8 _ (List.mem_of_getElem? (i := 16) (by decide +kernel)))), trivial⟩ rfl hl.1 rfl (Nat.le_of_ble_eq_true rfl) dX5_write_4 ⟨Nat.le_of_ble_eq_true rfl, Nat.le_of_ble_eq_true rfl⟩) hW (fun r_2 H locs hp_1 hW => ?_)
  rcases hp_1 with ⟨rfl, w_3⟩ | ⟨rfl, w_4⟩
  · skip
    refine m_if_ne (tgt := 11) hx hb dX5_write_7 (by decide) (fun c_5 => ?_) (fun c_5 => ?_)
    · skip
      refine lv_aload_n hx hb dX5_write_11 rfl (lv_at hl 0 rfl) ?_
      refine m_geti S hW hi 0 rfl kX5 (iW5 _) (by decide) (List.mem_cons_of_mem _ (wa_10 _ (List.mem_of_getElem? (i := 20) (by decide +kernel)))) dX5_write_12 ?_
      by_cases c_6 : V i 0 = nI 0
      · skip
        refine lv_lookup (off := 25) (tgt := 40) hx hb dX5_write_15 (by decide) (by rw [c_6]; decide +kernel) (by decide) ?_
        refine lv_aload_n hx hb dX5_write_40 rfl (lv_at hl 0 rfl) ?_
        refine m_getr S hW hi 2 rfl (j := (i + 4)) rfl kX5 (iW5 _) (by decide) (List.mem_cons_of_mem _ (wa_10 _ (List.mem_of_getElem? (i := 21) (by decide +kernel)))) dX5_write_41 ?_
        refine lv_iload_n hx hb dX5_write_44 rfl (lv_at hl 1 rfl) ?_
        refine lv_iload_n hx hb dX5_write_45 rfl (lv_at hl 2 rfl) ?_
        refine lv_i2b (v := x.toInt8.toInt32) hx hb dX5_write_46 rfl ?_
        refine m_iast S hW hi' k rfl (by omega) (by decide) dX5_write_47 (fun H locs hW => ?_)
        obtain ⟨V_7, eV_7⟩ : ∃ z : mV, z = mU V (i + 4) k (x.toInt8.toInt32) := ⟨_, rfl⟩
        rw [← eV_7] at hW
        refine lv_goto (tgt := 69) hx hb dX5_write_48 (by decide) ?_
        exact m_vret S hr hlk hW dX5_write_69 (by first | (simp only [fNar, w_3, c_6, eV_7]; done) | (simp [fNar, w_3, c_6, eV_7, nI_lit]; done) | (exfalso; exact absurd ((mIn_nI (by omega)).mpr ⟨by omega, by omega⟩) eV_7))
      by_cases c_8 : V i 0 = nI 1
      · skip
        refine lv_lookup (off := 36) (tgt := 51) hx hb dX5_write_15 (by decide) (by rw [c_8]; decide +kernel) (by decide) ?_
        refine lv_aload_n hx hb dX5_write_51 rfl (lv_at hl 0 rfl) ?_
        refine m_getr S hW hi 2 rfl (j := (i + 4)) rfl kX5 (iW5 _) (by decide) (List.mem_cons_of_mem _ (wa_10 _ (List.mem_of_getElem? (i := 21) (by decide +kernel)))) dX5_write_52 ?_
        refine lv_iload_n hx hb dX5_write_55 rfl (lv_at hl 1 rfl) ?_
        refine lv_iload_n hx hb dX5_write_56 rfl (lv_at hl 2 rfl) ?_
        refine lv_i2s (v := x.toInt16.toInt32) hx hb dX5_write_57 rfl ?_
        refine m_iast S hW hi' k rfl (by omega) (by decide) dX5_write_58 (fun H locs hW => ?_)
        obtain ⟨V_9, eV_9⟩ : ∃ z : mV, z = mU V (i + 4) k (x.toInt16.toInt32) := ⟨_, rfl⟩
        rw [← eV_9] at hW
        refine lv_goto (tgt := 69) hx hb dX5_write_59 (by decide) ?_
        exact m_vret S hr hlk hW dX5_write_69 (by first | (simp only [fNar, w_3, c_6, c_8, eV_9]; done) | (simp [fNar, w_3, c_6, c_8, eV_9, nI_lit]; done) | (exfalso; exact absurd ((mIn_nI (by omega)).mpr ⟨by omega, by omega⟩) eV_9))
      refine lv_lookup (off := 47) (tgt := 62) hx hb dX5_write_15 (by decide) (by rw [show (#[(0, 25), (1, 36)] : Array (Int × Int)).toList = [(0, 25), (1, 36)] from rfl]; rw [lv_osw c_6 (show (nI 0).toInt = 0 by decide)]; rw [lv_osw c_8 (show (nI 1).toInt = 1 by decide)]; rfl) (by decide) ?_
      refine lv_aload_n hx hb dX5_write_62 rfl (lv_at hl 0 rfl) ?_
      refine m_getr S hW hi 2 rfl (j := (i + 4)) rfl kX5 (iW5 _) (by decide) (List.mem_cons_of_mem _ (wa_10 _ (List.mem_of_getElem? (i := 21) (by decide +kernel)))) dX5_write_63 ?_
      refine lv_iload_n hx hb dX5_write_66 rfl (lv_at hl 1 rfl) ?_
      refine lv_iload_n hx hb dX5_write_67 rfl (lv_at hl 2 rfl) ?_
      refine m_iast S hW hi' k rfl (by omega) (by decide) dX5_write_68 (fun H locs hW => ?_)
      obtain ⟨V_10, eV_10⟩ : ∃ z : mV, z = mU V (i + 4) k (x) := ⟨_, rfl⟩
      rw [← eV_10] at hW
      exact m_vret S hr hlk hW dX5_write_69 (by first | (simp only [fNar, w_3, c_6, c_8, eV_10]; done) | (simp [fNar, w_3, c_6, c_8, eV_10, nI_lit]; done) | (exfalso; exact absurd ((mIn_nI (by omega)).mpr ⟨by omega, by omega⟩) eV_10))
    · exact absurd c_5 (by decide)
  · skip
    refine m_if_ne (tgt := 11) hx hb dX5_write_7 (by decide) (fun c_11 => ?_) (fun c_11 => ?_)
    · exact absurd c_11 (by decide)
    · skip
      exact m_vret S hr hlk hW dX5_write_10 (by first | (simp only [fNar, w_4]; done) | (simp [fNar, w_4, nI_lit]; done) | (exfalso; exact absurd ((mIn_nI (by omega)).mpr ⟨by omega, by omega⟩) w_4))
set_option maxHeartbeats 4000000 in
set_option maxRecDepth 100000 in
theorem c_X5_add (l : Launch) (G : mG) (ad : Nat → Nat) (sh : Nat → Option mSh) (V : mV) (i n : Nat) (x : Int32) (hi : sh i = some (sSheet i)) (hi' : sh (i + 4) = some (mI 40)) (hn : V i 1 = nI n) (hn4 : n < 40) : mM l yX5_add wsX5_add ({ frames := 2, cells := 0, slots := 0, locals := 44 } : Room) G ad sh V [.ref (ad i), .int x] 0 0 (mPv ad sh (fun V' => V' = mU (mU V i 1 (nI (n + 1))) (i + 4) n (fNar (V i 0) x))) := by
  refine mM.of (cc := cX5_add) (maxL := 2) (ret := none) (by decide) rfl (Nat.le_of_ble_eq_true rfl) ?_
  intro p e s m below meth c S hr hlk hnm hW ls hl
  obtain ⟨hx, hb, hml, hown, hts⟩ := id S
  have hl : lv_has ls 2 [(0, .ref (ad i)), (1, .int x)] := hl
  have hS0 : True := trivial
  refine lv_aload_n hx hb dX5_add_0 rfl (lv_at hl 0 rfl) ?_
  refine m_geti S hW hi 1 rfl kX5 (iW5 _) (by decide) (List.mem_cons_of_mem _ (wa_41 _ (List.mem_of_getElem? (i := 6) (by decide +kernel)))) dX5_add_1 ?_
  refine m_top (y := nI n) hn ?_
  refine lv_bipush (v := nI 40) hx hb dX5_add_4 (by decide) ?_
  refine lv_icmp_ge (tgt := 30) hx hb dX5_add_6 (by decide) (fun c_1 => ?_) (fun c_1 => ?_)
  · skip
    have c_1 : 40 ≤ n := (nI_leI (by omega) (by omega)).mp c_1
    exact m_vret S hr hlk hW dX5_add_30 (by exfalso; omega)
  · skip
    have c_1 : ¬ 40 ≤ n := mt (nI_leI (by omega) (by omega)).mpr c_1
    refine lv_aload_n hx hb dX5_add_9 rfl (lv_at hl 0 rfl) ?_
    refine lv_dup hx hb dX5_add_10 rfl ?_
    refine m_geti S hW hi 1 rfl kX5 (iW5 _) (by decide) (List.mem_cons_of_mem _ (wa_41 _ (List.mem_of_getElem? (i := 6) (by decide +kernel)))) dX5_add_11 ?_
    refine m_top (y := nI n) hn ?_
    refine lv_iconst (v := nI 1) hx hb dX5_add_14 (by decide) ?_
    refine lv_iadd hx hb dX5_add_15 ?_
    refine m_top (y := nI (n + 1)) (nI_add n 1) ?_
    refine m_puti S hW hi 1 rfl kX5 (iW5 _) tyX5 tyX5_ok nmX5 (by decide) (List.mem_cons_of_mem _ (wa_41 _ (List.mem_of_getElem? (i := 6) (by decide +kernel)))) (Or.inl rfl) rfl rfl dX5_add_16 (fun H locs hW => ?_)
    obtain ⟨V_2, eV_2⟩ : ∃ z : mV, z = mU V i 1 (nI (n + 1)) := ⟨_, rfl⟩
    rw [← eV_2] at hW
    refine lv_aload_n hx hb dX5_add_19 rfl (lv_at hl 0 rfl) ?_
    refine lv_aload_n hx hb dX5_add_20 rfl (lv_at hl 0 rfl) ?_
    refine m_geti S hW hi 1 rfl kX5 (iW5 _) (by decide) (List.mem_cons_of_mem _ (wa_41 _ (List.mem_of_getElem? (i := 6) (by decide +kernel)))) dX5_add_21 ?_
    refine m_top (y := nI (n + 1)) (by rw [eV_2, mU_eq]) ?_
    refine lv_iconst (v := nI 1) hx hb dX5_add_24 (by decide) ?_
    refine lv_isub hx hb dX5_add_25 ?_
    refine m_top (y := nI n) (by rw [pk_sub (by omega)]; rfl) ?_
    refine lv_iload_n hx hb dX5_add_26 rfl (lv_at hl 1 rfl) ?_
    refine m_cv (m_rV S hW (c_X5_write l G ad sh V_2 i n x (by first | assumption | omega) (by first | assumption | omega) (by first | assumption | omega)) (cwV 2 hts (gCall [.methodLink RX5 26 yX5_write, .instanceMethod yX5_write, .selects RX5 yX5_write yX5_write, .initialized RX5] (List.forall_mem_cons.mpr ⟨(wa_41 _ (List.mem_of_getElem? (i := 14) (by decide +kernel))), (List.forall_mem_cons.mpr ⟨(wa_41 _ (List.mem_of_getElem? (i := 11) (by decide +kernel))), (List.forall_mem_cons.mpr ⟨(wa_41 _ (List.mem_of_getElem? (i := 12) (by decide +kernel))), (List.forall_mem_cons.mpr ⟨(wa_41 _ (List.mem_of_getElem? (i := 13) (by decide +kernel))), (List.forall_mem_cons.mpr ⟨(wa_2 _ (List.mem_of_getElem? (i := 15) (by decide +kernel))), (fun _ h => absurd h List.not_mem_nil)⟩)⟩)⟩)⟩)⟩)) rfl rfl rfl (by decide +kernel) ⟨Nat.le_of_ble_eq_true rfl, Nat.le_of_ble_eq_true rfl⟩) hi kX5 rfl hl.1 rfl (Nat.le_of_ble_eq_true rfl) dX5_add_27 ⟨Nat.le_of_ble_eq_true rfl, Nat.le_of_ble_eq_true rfl⟩) hW (fun V_3 H locs hp_4 hW => ?_)
    have eV_3 : V_3 = mU V_2 (i + 4) n (fNar (V_2 i 0) x) := hp_4
    exact m_vret S hr hlk hW dX5_add_30 (by simp only [c_1, eV_2, eV_3]; rw [mU_ne _ _ (show ¬ (i = i ∧ 0 = 1) by simp)])
set_option maxHeartbeats 4000000 in
set_option maxRecDepth 100000 in
theorem c_X10_isMarkOf (l : Launch) (G : mG) (ad : Nat → Nat) (sh : Nat → Option mSh) (V : mV) (g : Nat) (x : Int32) (hg : sh g = some (sGood g)) (hg' : sh (g + 1) = some (mI 10)) : mM l yX10_isMarkOf wsX10_isMarkOf ({ frames := 1, cells := 0, slots := 0, locals := 22 } : Room) G ad sh V [.ref (ad g), .int x] 0 0 (mPip ad sh V (fun r => (nI 1 = r ∧ (mIn x 1 1024 ∧ x &&& (V g 2 ^^^ -1) = nI 0)) ∨ (nI 0 = r ∧ (¬ (mIn x 1 1024 ∧ x &&& (V g 2 ^^^ -1) = nI 0))))) := by
  refine mM.of (cc := cX10_isMarkOf) (maxL := 2) (ret := (some .boolean)) (by decide) rfl (Nat.le_of_ble_eq_true rfl) ?_
  intro p e s m below meth c S hr hlk hnm hW ls hl
  obtain ⟨hx, hb, hml, hown, hts⟩ := id S
  have hl : lv_has ls 2 [(0, .ref (ad g)), (1, .int x)] := hl
  have hS0 : True := trivial
  refine lv_iload_n hx hb dX10_isMarkOf_0 rfl (lv_at hl 1 rfl) ?_
  refine lv_iconst (v := nI 1) hx hb dX10_isMarkOf_1 (by decide) ?_
  refine lv_sipush (v := nI 1023) hx hb dX10_isMarkOf_2 (by decide) ?_
  refine m_cip (m_rS S hW (c_X10_within l G ad sh V x 1 1023 (by first | assumption | omega) (by first | assumption | omega)) (va_cwS 3 hts (gCall [.methodLink RX10 102 yX10_within, .static yX10_within, .initialized RX10] (List.forall_mem_cons.mpr ⟨(wa_8 _ (List.mem_of_getElem? (i := 17) (by decide +kernel))), (List.forall_mem_cons.mpr ⟨(wa_15 _ (List.mem_of_getElem? (i := 8) (by decide +kernel))), (List.forall_mem_cons.mpr ⟨(wa_8 _ (List.mem_of_getElem? (i := 16) (by decide +kernel))), (List.forall_mem_cons.mpr ⟨(wa_1 _ (List.mem_of_getElem? (i := 2) (by decide +kernel))), (fun _ h => absurd h List.not_mem_nil)⟩)⟩)⟩)⟩)) rfl rfl rfl (by decide +kernel) ⟨Nat.le_of_ble_eq_true rfl, Nat.le_of_ble_eq_true rfl⟩) rfl hl.1 rfl (Nat.le_of_ble_eq_true rfl) dX10_isMarkOf_5 ⟨Nat.le_of_ble_eq_true rfl, Nat.le_of_ble_eq_true rfl⟩) hW (fun r_2 H locs hp_1 hW => ?_)
  rcases hp_1 with ⟨rfl, w_3⟩ | ⟨rfl, w_4⟩
  · skip
    refine m_if_eq (tgt := 26) hx hb dX10_isMarkOf_8 (by decide) (fun c_5 => ?_) (fun c_5 => ?_)
    · exact absurd c_5 (by decide)
    · skip
      refine lv_iload_n hx hb dX10_isMarkOf_11 rfl (lv_at hl 1 rfl) ?_
      refine lv_aload_n hx hb dX10_isMarkOf_12 rfl (lv_at hl 0 rfl) ?_
      refine m_geti S hW hg 2 rfl kX3 (iW3 _) (by decide) (List.mem_cons_of_mem _ (wa_34 _ (List.mem_of_getElem? (i := 9) (by decide +kernel)))) dX10_isMarkOf_13 ?_
      refine lv_iconst (v := -1) hx hb dX10_isMarkOf_16 (by decide) ?_
      refine lv_ixor hx hb dX10_isMarkOf_17 ?_
      refine lv_iand hx hb dX10_isMarkOf_18 ?_
      refine m_if_ne (tgt := 26) hx hb dX10_isMarkOf_19 (by decide) (fun c_6 => ?_) (fun c_6 => ?_)
      · skip
        refine lv_iconst (v := nI 0) hx hb dX10_isMarkOf_26 (by decide) ?_
        exact m_zret S hr hlk hW rfl dX10_isMarkOf_27 ⟨rfl, (by exact Or.inr ⟨rfl, fun h => c_6 h.2⟩)⟩
      · skip
        refine lv_iconst (v := nI 1) hx hb dX10_isMarkOf_22 (by decide) ?_
        refine lv_goto (tgt := 27) hx hb dX10_isMarkOf_23 (by decide) ?_
        exact m_zret S hr hlk hW rfl dX10_isMarkOf_27 ⟨rfl, (by exact Or.inl ⟨rfl, w_3, c_6⟩)⟩
  · skip
    refine m_if_eq (tgt := 26) hx hb dX10_isMarkOf_8 (by decide) (fun c_7 => ?_) (fun c_7 => ?_)
    · skip
      refine lv_iconst (v := nI 0) hx hb dX10_isMarkOf_26 (by decide) ?_
      exact m_zret S hr hlk hW rfl dX10_isMarkOf_27 ⟨rfl, (by exact Or.inr ⟨rfl, fun h => w_4 h.1⟩)⟩
    · exact absurd c_7 (by decide)
set_option maxHeartbeats 4000000 in
set_option maxRecDepth 100000 in
theorem c_X10_commonDivisor (l : Launch) (G : mG) (ad : Nat → Nat) (sh : Nat → Option mSh) (V : mV) (a b : Nat) (ha : a < 2 ^ 31) (hb4 : b < 2 ^ 31) : mM l yX10_commonDivisor wsX10_commonDivisor ({ frames := 0, cells := 0, slots := 0, locals := 0 } : Room) G ad sh V [.int (nI a), .int (nI b)] 0 0 (mPe ad sh V (nI (fDiv a b b))) := by
  refine mM.of (cc := cX10_commonDivisor) (maxL := 3) (ret := (some .int)) (by decide) rfl (Nat.le_of_ble_eq_true rfl) ?_
  intro p e s m below meth c S hr hlk hnm hW ls hl
  obtain ⟨hx, hb, hml, hown, hts⟩ := id S
  have hl : lv_has ls 3 [(0, .int (nI a)), (1, .int (nI b))] := hl
  have hS0 : True := trivial
  refine lv_iload_n hx hb dX10_commonDivisor_0 rfl (lv_at hl 1 rfl) ?_
  refine lv_istore_n (lv' := [(2, .int (nI b)), (0, .int (nI a)), (1, .int (nI b))]) hx hb dX10_commonDivisor_1 rfl hl (by decide) rfl (fun ls hl => ?_)
  have loop_2 : ∀ (n_2 : Nat) (d : Nat) (H : Heap) (locs : List Loc) (ls : Array Slot), (d ≤ b) → (fDiv a b d = fDiv a b b) → d < n_2 → mC (mA ad sh s.heap.size) s.heap s G ad sh V H locs → lv_has ls 3 [(0, .int (nI a)), (1, .int (nI b)), (2, .int (nI d))] → W p l e ({ frames := 0, cells := 0, slots := 0, locals := 0 } : Room) s m ([.int (nI a), .int (nI b)] : List Value).toArray below meth c H locs 0 0 (MQ below (mPost G ad sh s.heap.size (mPe ad sh V (nI (fDiv a b b)))) ([.int (nI a), .int (nI b)] : List Value).toArray s 0 0 (mA ad sh s.heap.size)) (F0 m 2 ls []) := by
    intro n_2
    induction n_2 with
    | zero => intro d H locs ls hd hf hM_ hW hl; omega
    | succ n_2 ih_2 =>
      intro d H locs ls hd hf hM_ hW hl
      refine lv_iload_n hx hb dX10_commonDivisor_2 rfl (lv_at hl 2 rfl) ?_
      refine lv_iconst (v := nI 1) hx hb dX10_commonDivisor_3 (by decide) ?_
      refine lv_icmp_le (tgt := 27) hx hb dX10_commonDivisor_4 (by decide) (fun c_1 => ?_) (fun c_1 => ?_)
      · skip
        have c_1 : d ≤ 1 := (nI_leI (by first | omega | exact Nat.lt_of_le_of_lt (Nat.mod_le _ _) (by omega)) (by first | omega | exact Nat.lt_of_le_of_lt (Nat.mod_le _ _) (by omega))).mp c_1
        refine lv_iconst (v := nI 1) hx hb dX10_commonDivisor_27 (by decide) ?_
        exact m_iret S hr hlk hW dX10_commonDivisor_28 ⟨rfl, (by rw [← hf, fDiv_one (by omega)])⟩
      · skip
        have c_1 : ¬ d ≤ 1 := mt (nI_leI (by first | omega | exact Nat.lt_of_le_of_lt (Nat.mod_le _ _) (by omega)) (by first | omega | exact Nat.lt_of_le_of_lt (Nat.mod_le _ _) (by omega))).mpr c_1
        refine lv_iload_n hx hb dX10_commonDivisor_7 rfl (lv_at hl 0 rfl) ?_
        refine lv_iload_n hx hb dX10_commonDivisor_8 rfl (lv_at hl 2 rfl) ?_
        refine lv_irem hx hb dX10_commonDivisor_9 (nI_ne0 (by first | omega | exact Nat.lt_of_le_of_lt (Nat.mod_le _ _) (by omega)) (by first | omega | exact Nat.lt_of_le_of_lt (Nat.mod_le _ _) (by omega))) ?_
        refine m_top (y := nI (a % d)) (pk_rem (by first | omega | exact Nat.lt_of_le_of_lt (Nat.mod_le _ _) (by omega)) (by first | omega | exact Nat.lt_of_le_of_lt (Nat.mod_le _ _) (by omega)) (by first | omega | exact Nat.lt_of_le_of_lt (Nat.mod_le _ _) (by omega))) ?_
        refine m_if_ne (tgt := 21) hx hb dX10_commonDivisor_10 (by decide) (fun c_2 => ?_) (fun c_2 => ?_)
        · skip
          have c_2 : ¬ (a % d) = 0 := mt (nI_eq (by first | omega | exact Nat.lt_of_le_of_lt (Nat.mod_le _ _) (by omega)) (by first | omega | exact Nat.lt_of_le_of_lt (Nat.mod_le _ _) (by omega))).mpr c_2
          refine lv_iinc (v := nI (d - 1)) (lv' := [(2, .int (nI (d - 1))), (0, .int (nI a)), (1, .int (nI b))]) hx hb dX10_commonDivisor_21 hl (k := 2) rfl (m_dec d 1 (by first | omega | exact Nat.lt_of_le_of_lt (Nat.mod_le _ _) (by omega))) (by decide) rfl (fun ls hl => ?_)
          refine lv_goto (tgt := 2) hx hb dX10_commonDivisor_24 (by decide) ?_
          exact ih_2  (d - 1)  _ _ _ (by omega) (by first | (rw [← fDiv_miss (by omega) (fun h => c_2 h.2)]; exact hf) | (rw [← fDiv_miss (by omega) (fun h => c_2 h.1)]; exact hf)) (by omega) hW (lv_sub hl [1, 2, 0] rfl)
        · skip
          have c_2 : (a % d) = 0 := (nI_eq (by first | omega | exact Nat.lt_of_le_of_lt (Nat.mod_le _ _) (by omega)) (by first | omega | exact Nat.lt_of_le_of_lt (Nat.mod_le _ _) (by omega))).mp c_2
          refine lv_iload_n hx hb dX10_commonDivisor_13 rfl (lv_at hl 1 rfl) ?_
          refine lv_iload_n hx hb dX10_commonDivisor_14 rfl (lv_at hl 2 rfl) ?_
          refine lv_irem hx hb dX10_commonDivisor_15 (nI_ne0 (by first | omega | exact Nat.lt_of_le_of_lt (Nat.mod_le _ _) (by omega)) (by first | omega | exact Nat.lt_of_le_of_lt (Nat.mod_le _ _) (by omega))) ?_
          refine m_top (y := nI (b % d)) (pk_rem (by first | omega | exact Nat.lt_of_le_of_lt (Nat.mod_le _ _) (by omega)) (by first | omega | exact Nat.lt_of_le_of_lt (Nat.mod_le _ _) (by omega)) (by first | omega | exact Nat.lt_of_le_of_lt (Nat.mod_le _ _) (by omega))) ?_
          refine m_if_ne (tgt := 21) hx hb dX10_commonDivisor_16 (by decide) (fun c_3 => ?_) (fun c_3 => ?_)
          · skip
            have c_3 : ¬ (b % d) = 0 := mt (nI_eq (by first | omega | exact Nat.lt_of_le_of_lt (Nat.mod_le _ _) (by omega)) (by first | omega | exact Nat.lt_of_le_of_lt (Nat.mod_le _ _) (by omega))).mpr c_3
            refine lv_iinc (v := nI (d - 1)) (lv' := [(2, .int (nI (d - 1))), (0, .int (nI a)), (1, .int (nI b))]) hx hb dX10_commonDivisor_21 hl (k := 2) rfl (m_dec d 1 (by first | omega | exact Nat.lt_of_le_of_lt (Nat.mod_le _ _) (by omega))) (by decide) rfl (fun ls hl => ?_)
            refine lv_goto (tgt := 2) hx hb dX10_commonDivisor_24 (by decide) ?_
            exact ih_2  (d - 1)  _ _ _ (by omega) (by first | (rw [← fDiv_miss (by omega) (fun h => c_3 h.2)]; exact hf) | (rw [← fDiv_miss (by omega) (fun h => c_3 h.1)]; exact hf)) (by omega) hW (lv_sub hl [1, 2, 0] rfl)
          · skip
            have c_3 : (b % d) = 0 := (nI_eq (by first | omega | exact Nat.lt_of_le_of_lt (Nat.mod_le _ _) (by omega)) (by first | omega | exact Nat.lt_of_le_of_lt (Nat.mod_le _ _) (by omega))).mp c_3
            refine lv_iload_n hx hb dX10_commonDivisor_19 rfl (lv_at hl 2 rfl) ?_
            exact m_iret S hr hlk hW dX10_commonDivisor_20 ⟨rfl, (by rw [← hf, fDiv_hit (by omega) c_2 c_3])⟩
  exact loop_2 (b + 1) b  _ _ _ (by omega) (by rfl) (by omega) hW (lv_sub hl [1, 2, 0] rfl)
set_option maxHeartbeats 4000000 in
set_option maxRecDepth 100000 in
theorem c_X0_fewestBites (l : Launch) (G : mG) (ad : Nat → Nat) (sh : Nat → Option mSh) (V : mV) (sp le : Nat) (hc : sh 8 = some sCover) (hs9 : sh 9 = some (mI 1024)) (h90 : V 9 0 = nI 0) (hsp : sp < 128) (hle : le < 1024) : mM l yX0_fewestBites wsX0_fewestBites ({ frames := 1, cells := 0, slots := 0, locals := 61 } : Room) G ad sh V [.ref (ad 8), .int (nI sp), .int (nI le)] 0 0 (mPi ad sh (fun r V' => fFew sp le = r ∧ (∀ a, a ≠ 9 → V' a = V a) ∧ (V' 9 0 = nI 0))) := by
  refine mM.of (cc := cX0_fewestBites) (maxL := 8) (ret := (some .int)) (by decide) rfl (Nat.le_of_ble_eq_true rfl) ?_
  intro p e s m below meth c S hr hlk hnm hW ls hl
  obtain ⟨hx, hb, hml, hown, hts⟩ := id S
  have hl : lv_has ls 8 [(0, .ref (ad 8)), (1, .int (nI sp)), (2, .int (nI le))] := hl
  have hS0 : True := trivial
  refine lv_iload_n hx hb dX0_fewestBites_0 rfl (lv_at hl 2 rfl) ?_
  refine m_if_ne (tgt := 6) hx hb dX0_fewestBites_1 (by decide) (fun c_1 => ?_) (fun c_1 => ?_)
  · skip
    have c_1 : ¬ le = 0 := mt (nI_eq (by omega) (by omega)).mpr c_1
    refine lv_iload_n hx hb dX0_fewestBites_6 rfl (lv_at hl 1 rfl) ?_
    refine m_if_ne (tgt := 12) hx hb dX0_fewestBites_7 (by decide) (fun c_2 => ?_) (fun c_2 => ?_)
    · skip
      have c_2 : ¬ sp = 0 := mt (nI_eq (by omega) (by omega)).mpr c_2
      refine lv_iconst (v := nI 1) hx hb dX0_fewestBites_12 (by decide) ?_
      refine lv_istore_n (lv' := [(3, .int (nI 1)), (0, .ref (ad 8)), (1, .int (nI sp)), (2, .int (nI le))]) hx hb dX0_fewestBites_13 rfl hl (by decide) rfl (fun ls hl => ?_)
      have loop_14 : ∀ (n_14 : Nat) (ce : Nat) (V1 : mV) (H : Heap) (locs : List Loc) (ls : Array Slot), (1 ≤ ce ∧ ce ≤ le + 1) → (∀ a, a ≠ 9 → V1 a = V a) → (∀ j, j < ce → V1 9 j = nI (fewT sp ce j)) → (le + 1 - ce) < n_14 → mC (mA ad sh s.heap.size) s.heap s G ad sh V1 H locs → lv_has ls 8 [(0, .ref (ad 8)), (1, .int (nI sp)), (2, .int (nI le)), (3, .int (nI ce))] → W p l e ({ frames := 1, cells := 0, slots := 0, locals := 61 } : Room) s m ([.ref (ad 8), .int (nI sp), .int (nI le)] : List Value).toArray below meth c H locs 0 0 (MQ below (mPost G ad sh s.heap.size (mPi ad sh (fun r V' => fFew sp le = r ∧ (∀ a, a ≠ 9 → V' a = V a) ∧ (V' 9 0 = nI 0)))) ([.ref (ad 8), .int (nI sp), .int (nI le)] : List Value).toArray s 0 0 (mA ad sh s.heap.size)) (F0 m 14 ls []) := by
        intro n_14
        induction n_14 with
        | zero => intro ce V1 H locs ls hce hfr htab hM_ hW hl; omega
        | succ n_14 ih_14 =>
          intro ce V1 H locs ls hce hfr htab hM_ hW hl
          have hlo9 := fLow_lt ce
          refine lv_iload_n hx hb dX0_fewestBites_14 rfl (lv_at hl 3 rfl) ?_
          refine lv_iload_n hx hb dX0_fewestBites_15 rfl (lv_at hl 2 rfl) ?_
          refine lv_icmp_gt (tgt := 127) hx hb dX0_fewestBites_16 (by decide) (fun c_3 => ?_) (fun c_3 => ?_)
          · skip
            have c_3 : le < ce := (nI_ltI (by omega) (by omega)).mp c_3
            refine lv_iload_n hx hb dX0_fewestBites_127 rfl (lv_at hl 2 rfl) ?_
            refine lv_sipush (v := nI 1023) hx hb dX0_fewestBites_128 (by decide) ?_
            refine lv_icmp_gt (tgt := 143) hx hb dX0_fewestBites_131 (by decide) (fun c_4 => ?_) (fun c_4 => ?_)
            · skip
              have c_4 : 1023 < le := (nI_ltI (by omega) (by omega)).mp c_4
              refine lv_iconst (v := -1) hx hb dX0_fewestBites_143 (by decide) ?_
              exact m_iret S hr hlk hW dX0_fewestBites_144 (by exfalso; omega)
            · skip
              have c_4 : ¬ 1023 < le := mt (nI_ltI (by omega) (by omega)).mpr c_4
              refine lv_aload_n hx hb dX0_fewestBites_134 rfl (lv_at hl 0 rfl) ?_
              refine m_getr S hW hc 0 rfl (j := 9) rfl kX0 (iW0 _) (by decide) (List.mem_cons_of_mem _ (wa_3 _ (List.mem_of_getElem? (i := 11) (by decide +kernel)))) dX0_fewestBites_135 ?_
              refine lv_iload_n hx hb dX0_fewestBites_138 rfl (lv_at hl 2 rfl) ?_
              refine m_iald S hW hs9 le rfl (by omega) (by decide) dX0_fewestBites_139 ?_
              refine lv_goto (tgt := 144) hx hb dX0_fewestBites_140 (by decide) ?_
              exact m_iret S hr hlk hW dX0_fewestBites_144 (by exact ⟨by rw [fFew, if_neg (by omega), if_neg (by omega), htab le (by omega), show ce = le + 1 by omega], hfr, by rw [htab 0 (by omega), fewT_zero]⟩)
          · skip
            have c_3 : ¬ le < ce := mt (nI_ltI (by omega) (by omega)).mpr c_3
            refine lv_iload_n hx hb dX0_fewestBites_19 rfl (lv_at hl 3 rfl) ?_
            refine lv_sipush (v := nI 1023) hx hb dX0_fewestBites_20 (by decide) ?_
            refine lv_icmp_gt (tgt := 127) hx hb dX0_fewestBites_23 (by decide) (fun c_5 => ?_) (fun c_5 => ?_)
            · skip
              have c_5 : 1023 < ce := (nI_ltI (by omega) (by omega)).mp c_5
              refine lv_iload_n hx hb dX0_fewestBites_127 rfl (lv_at hl 2 rfl) ?_
              refine lv_sipush (v := nI 1023) hx hb dX0_fewestBites_128 (by decide) ?_
              refine lv_icmp_gt (tgt := 143) hx hb dX0_fewestBites_131 (by decide) (fun c_6 => ?_) (fun c_6 => ?_)
              · skip
                have c_6 : 1023 < le := (nI_ltI (by omega) (by omega)).mp c_6
                refine lv_iconst (v := -1) hx hb dX0_fewestBites_143 (by decide) ?_
                exact m_iret S hr hlk hW dX0_fewestBites_144 (by exfalso; omega)
              · skip
                have c_6 : ¬ 1023 < le := mt (nI_ltI (by omega) (by omega)).mpr c_6
                refine lv_aload_n hx hb dX0_fewestBites_134 rfl (lv_at hl 0 rfl) ?_
                refine m_getr S hW hc 0 rfl (j := 9) rfl kX0 (iW0 _) (by decide) (List.mem_cons_of_mem _ (wa_3 _ (List.mem_of_getElem? (i := 11) (by decide +kernel)))) dX0_fewestBites_135 ?_
                refine lv_iload_n hx hb dX0_fewestBites_138 rfl (lv_at hl 2 rfl) ?_
                refine m_iald S hW hs9 le rfl (by omega) (by decide) dX0_fewestBites_139 ?_
                refine lv_goto (tgt := 144) hx hb dX0_fewestBites_140 (by decide) ?_
                exact m_iret S hr hlk hW dX0_fewestBites_144 (by exact ⟨by rw [fFew, if_neg (by omega), if_neg (by omega), htab le (by omega), show ce = le + 1 by omega], hfr, by rw [htab 0 (by omega), fewT_zero]⟩)
            · skip
              have c_5 : ¬ 1023 < ce := mt (nI_ltI (by omega) (by omega)).mpr c_5
              refine lv_iload_n hx hb dX0_fewestBites_26 rfl (lv_at hl 3 rfl) ?_
              refine lv_iload_n hx hb dX0_fewestBites_27 rfl (lv_at hl 3 rfl) ?_
              refine lv_ineg hx hb dX0_fewestBites_28 ?_
              refine lv_iand hx hb dX0_fewestBites_29 ?_
              refine m_top (y := (nI ce &&& -nI ce)) rfl ?_
              refine lv_iconst (v := nI 1) hx hb dX0_fewestBites_30 (by decide) ?_
              refine lv_isub hx hb dX0_fewestBites_31 ?_
              refine m_cie (m_rS S hW (c_J6_bitCount_0f7a4 l G ad sh V1 ((nI ce &&& -nI ce) - (nI 1))) (va_cwS 1 hts (gCall [.methodLink RX0 15 yJ6_bitCount_0f7a4, .static yJ6_bitCount_0f7a4, .initialized RJ6] (List.forall_mem_cons.mpr ⟨(wa_18 _ (List.mem_of_getElem? (i := 2) (by decide +kernel))), (List.forall_mem_cons.mpr ⟨(wa_34 _ (List.mem_of_getElem? (i := 15) (by decide +kernel))), (List.forall_mem_cons.mpr ⟨(wa_18 _ (List.mem_of_getElem? (i := 0) (by decide +kernel))), (List.forall_mem_cons.mpr ⟨(wa_18 _ (List.mem_of_getElem? (i := 1) (by decide +kernel))), (fun _ h => absurd h List.not_mem_nil)⟩)⟩)⟩)⟩)) rfl rfl rfl (by decide +kernel) ⟨Nat.le_of_ble_eq_true rfl, Nat.le_of_ble_eq_true rfl⟩) rfl hl.1 rfl (Nat.le_of_ble_eq_true rfl) dX0_fewestBites_32 ⟨Nat.le_of_ble_eq_true rfl, Nat.le_of_ble_eq_true rfl⟩) hW (fun H locs hW => ?_)
              refine m_top (y := nI (fLow ce)) (fLow_bits (by omega) (by omega)) ?_
              refine lv_istore (lv' := [(4, .int (nI (fLow ce))), (0, .ref (ad 8)), (1, .int (nI sp)), (2, .int (nI le)), (3, .int (nI ce))]) hx hb dX0_fewestBites_35 hl (by decide) rfl (fun ls hl => ?_)
              refine lv_sipush (v := nI 1023) hx hb dX0_fewestBites_37 (by decide) ?_
              refine lv_istore (lv' := [(5, .int (nI 1023)), (4, .int (nI (fLow ce))), (0, .ref (ad 8)), (1, .int (nI sp)), (2, .int (nI le)), (3, .int (nI ce))]) hx hb dX0_fewestBites_40 hl (by decide) rfl (fun ls hl => ?_)
              refine lv_iconst (v := nI 0) hx hb dX0_fewestBites_42 (by decide) ?_
              refine lv_istore (lv' := [(6, .int (nI 0)), (5, .int (nI 1023)), (4, .int (nI (fLow ce))), (0, .ref (ad 8)), (1, .int (nI sp)), (2, .int (nI le)), (3, .int (nI ce))]) hx hb dX0_fewestBites_43 hl (by decide) rfl (fun ls hl => ?_)
              have loop_45 : ∀ (n_45 : Nat) (fw b : Nat) (H : Heap) (locs : List Loc) (ls : Array Slot), (b ≤ 7) → (fw = fewB sp ce (fewT sp ce) b) → (fw ≤ 1023) → (7 - b) < n_45 → mC (mA ad sh s.heap.size) s.heap s G ad sh V1 H locs → lv_has ls 8 [(4, .int (nI (fLow ce))), (0, .ref (ad 8)), (1, .int (nI sp)), (2, .int (nI le)), (3, .int (nI ce)), (5, .int (nI fw)), (6, .int (nI b))] → W p l e ({ frames := 1, cells := 0, slots := 0, locals := 61 } : Room) s m ([.ref (ad 8), .int (nI sp), .int (nI le)] : List Value).toArray below meth c H locs 0 0 (MQ below (mPost G ad sh s.heap.size (mPi ad sh (fun r V' => fFew sp le = r ∧ (∀ a, a ≠ 9 → V' a = V a) ∧ (V' 9 0 = nI 0)))) ([.ref (ad 8), .int (nI sp), .int (nI le)] : List Value).toArray s 0 0 (mA ad sh s.heap.size)) (F0 m 45 ls []) := by
                intro n_45
                induction n_45 with
                | zero => intro fw b H locs ls hb7 hfw hfl hM_ hW hl; omega
                | succ n_45 ih_45 =>
                  intro fw b H locs ls hb7 hfw hfl hM_ hW hl
                  refine lv_iload hx hb dX0_fewestBites_45 (lv_at hl 6 rfl) ?_
                  refine lv_bipush (v := nI 7) hx hb dX0_fewestBites_47 (by decide) ?_
                  refine lv_icmp_ge (tgt := 113) hx hb dX0_fewestBites_49 (by decide) (fun c_7 => ?_) (fun c_7 => ?_)
                  · skip
                    have c_7 : 7 ≤ b := (nI_leI (by omega) (by omega)).mp c_7
                    refine lv_aload_n hx hb dX0_fewestBites_113 rfl (lv_at hl 1 rfl) ?_
                    refine m_getr S hW hc 0 rfl (j := 9) rfl kX0 (iW0 _) (by decide) (List.mem_cons_of_mem _ (wa_3 _ (List.mem_of_getElem? (i := 11) (by decide +kernel)))) dX0_fewestBites_114 ?_
                    refine lv_iload_n hx hb dX0_fewestBites_117 rfl (lv_at hl 4 rfl) ?_
                    refine lv_iload hx hb dX0_fewestBites_118 (lv_at hl 5 rfl) ?_
                    refine m_iast S hW hs9 ce rfl (by omega) (by decide) dX0_fewestBites_120 (fun H locs hW => ?_)
                    obtain ⟨V_8, eV_8⟩ : ∃ z : mV, z = mU V1 9 ce (nI fw) := ⟨_, rfl⟩
                    rw [← eV_8] at hW
                    refine lv_iinc (v := nI (ce + 1)) (lv' := [(3, .int (nI (ce + 1))), (4, .int (nI (fLow ce))), (0, .ref (ad 8)), (1, .int (nI sp)), (2, .int (nI le)), (5, .int (nI fw)), (6, .int (nI b))]) hx hb dX0_fewestBites_121 hl (k := 4) rfl (m_inc ce 1) (by decide) rfl (fun ls hl => ?_)
                    refine lv_goto (tgt := 14) hx hb dX0_fewestBites_124 (by decide) ?_
                    exact ih_14  (ce + 1) V_8 _ _ _ (by omega) (by intro a ha; rw [eV_8, mU_no _ _ ha]; exact hfr a ha) (by intro j hj; rw [eV_8]; exact fewT_step (by omega) htab (by rw [hfw, show b = 7 by omega]) j hj) (by omega) hW (lv_sub hl [2, 3, 4, 0] rfl)
                  · skip
                    have c_7 : ¬ 7 ≤ b := mt (nI_leI (by omega) (by omega)).mpr c_7
                    refine lv_iload_n hx hb dX0_fewestBites_52 rfl (lv_at hl 2 rfl) ?_
                    refine lv_iload hx hb dX0_fewestBites_53 (lv_at hl 6 rfl) ?_
                    refine lv_ishr hx hb dX0_fewestBites_55 ?_
                    refine lv_iconst (v := nI 1) hx hb dX0_fewestBites_56 (by decide) ?_
                    refine lv_iand hx hb dX0_fewestBites_57 ?_
                    refine m_top (y := nI (sp / 2 ^ b % 2)) (m_bit (by omega) (by omega)) ?_
                    refine m_if_eq (tgt := 107) hx hb dX0_fewestBites_58 (by decide) (fun c_9 => ?_) (fun c_9 => ?_)
                    · skip
                      have c_9 : (sp / 2 ^ b % 2) = 0 := (nI_eq (by omega) (by omega)).mp c_9
                      refine lv_iinc (v := nI (b + 1)) (lv' := [(6, .int (nI (b + 1))), (4, .int (nI (fLow ce))), (0, .ref (ad 8)), (1, .int (nI sp)), (2, .int (nI le)), (3, .int (nI ce)), (5, .int (nI fw))]) hx hb dX0_fewestBites_107 hl (k := 6) rfl (m_inc b 1) (by decide) rfl (fun ls hl => ?_)
                      refine lv_goto (tgt := 45) hx hb dX0_fewestBites_110 (by decide) ?_
                      exact ih_45  fw (b + 1)  _ _ _ (by omega) (by rw [fewB]; first | rw [if_pos (by omega), ← hfw] | rw [if_neg (by omega), ← hfw]) (by omega) (by omega) hW (lv_sub hl [1, 2, 3, 4, 5, 6, 0] rfl)
                    · skip
                      have c_9 : ¬ (sp / 2 ^ b % 2) = 0 := mt (nI_eq (by omega) (by omega)).mpr c_9
                      refine lv_iload hx hb dX0_fewestBites_61 (lv_at hl 0 rfl) ?_
                      refine lv_iload hx hb dX0_fewestBites_63 (lv_at hl 6 rfl) ?_
                      refine lv_icmp_lt (tgt := 78) hx hb dX0_fewestBites_65 (by decide) (fun c_10 => ?_) (fun c_10 => ?_)
                      · skip
                        have c_10 : (fLow ce) < b := (nI_ltI (by omega) (by omega)).mp c_10
                        refine lv_iload_n hx hb dX0_fewestBites_78 rfl (lv_at hl 2 rfl) ?_
                        refine lv_iload hx hb dX0_fewestBites_79 (lv_at hl 6 rfl) ?_
                        refine lv_iload hx hb dX0_fewestBites_81 (lv_at hl 0 rfl) ?_
                        refine lv_isub hx hb dX0_fewestBites_83 ?_
                        refine m_top (y := nI (b - (fLow ce))) (pk_sub (by omega)) ?_
                        refine lv_ishr hx hb dX0_fewestBites_84 ?_
                        refine m_top (y := nI (fTake sp (fLow ce) b)) (fTake_shr hsp (by omega) (by omega)) ?_
                        refine lv_istore (lv' := [(7, .int (nI (fTake sp (fLow ce) b))), (4, .int (nI (fLow ce))), (0, .ref (ad 8)), (1, .int (nI sp)), (2, .int (nI le)), (3, .int (nI ce)), (5, .int (nI fw)), (6, .int (nI b))]) hx hb dX0_fewestBites_85 hl (by decide) rfl (fun ls hl => ?_)
                        refine lv_iload hx hb dX0_fewestBites_87 (lv_at hl 6 rfl) ?_
                        refine lv_iconst (v := nI 1) hx hb dX0_fewestBites_89 (by decide) ?_
                        refine lv_aload_n hx hb dX0_fewestBites_90 rfl (lv_at hl 2 rfl) ?_
                        refine m_getr S hW hc 0 rfl (j := 9) rfl kX0 (iW0 _) (by decide) (List.mem_cons_of_mem _ (wa_3 _ (List.mem_of_getElem? (i := 11) (by decide +kernel)))) dX0_fewestBites_91 ?_
                        refine lv_iload_n hx hb dX0_fewestBites_94 rfl (lv_at hl 5 rfl) ?_
                        refine lv_iload hx hb dX0_fewestBites_95 (lv_at hl 0 rfl) ?_
                        refine lv_iconst (v := -1) hx hb dX0_fewestBites_97 (by decide) ?_
                        refine lv_ixor hx hb dX0_fewestBites_98 ?_
                        refine lv_iand hx hb dX0_fewestBites_99 ?_
                        refine m_top (y := nI (fRest ce (fTake sp (fLow ce) b))) (m_not (n := 10) (by omega) (by omega)) ?_
                        refine m_iald S hW hs9 (fRest ce (fTake sp (fLow ce) b)) rfl (Nat.lt_of_le_of_lt Nat.and_le_left (by omega)) (by decide) dX0_fewestBites_100 ?_
                        refine m_top (y := nI (fewT sp ce (fRest ce (fTake sp (fLow ce) b)))) (htab _ (fRest_lt (by omega) (by omega) (by omega))) ?_
                        refine lv_iadd hx hb dX0_fewestBites_101 ?_
                        refine m_top (y := nI (1 + (fewT sp ce (fRest ce (fTake sp (fLow ce) b))))) (nI_add 1 (fewT sp ce (fRest ce (fTake sp (fLow ce) b)))) ?_
                        refine va_mmin hx hb (hml.trans hl.1.symm) hown (hts (.methodLink RX0 21 Lib.Math.min.name) (List.mem_cons_of_mem _ (wa_34 _ (List.mem_of_getElem? (i := 14) (by decide +kernel))))) (hts (.static Lib.Math.min.name) (List.mem_cons_of_mem _ (wa_18 _ (List.mem_of_getElem? (i := 11) (by decide +kernel))))) (hts (.initialized "java/lang/Math") (List.mem_cons_of_mem _ (wa_18 _ (List.mem_of_getElem? (i := 12) (by decide +kernel))))) (hts (.code Lib.Math.min.name Lib.Math.min.code 2 (some .int)) (List.mem_cons_of_mem _ (wa_18 _ (List.mem_of_getElem? (i := 13) (by decide +kernel))))) (Nat.le_of_ble_eq_true rfl) (Nat.le_of_ble_eq_true rfl) (Nat.le_of_ble_eq_true rfl) (Nat.le_of_ble_eq_true rfl) dX0_fewestBites_102 ?_
                        refine m_top (y := nI (min fw (1 + fewT sp ce (fRest ce (fTake sp (fLow ce) b))))) (m_min (by omega) (by have := fewT_le sp ce (fRest ce (fTake sp (fLow ce) b)); omega)) ?_
                        refine lv_istore (lv' := [(5, .int (nI (min fw (1 + fewT sp ce (fRest ce (fTake sp (fLow ce) b)))))), (7, .int (nI (fTake sp (fLow ce) b))), (4, .int (nI (fLow ce))), (0, .ref (ad 8)), (1, .int (nI sp)), (2, .int (nI le)), (3, .int (nI ce)), (6, .int (nI b))]) hx hb dX0_fewestBites_105 hl (by decide) rfl (fun ls hl => ?_)
                        refine lv_iinc (v := nI (b + 1)) (lv' := [(6, .int (nI (b + 1))), (5, .int (nI (min fw (1 + fewT sp ce (fRest ce (fTake sp (fLow ce) b)))))), (7, .int (nI (fTake sp (fLow ce) b))), (4, .int (nI (fLow ce))), (0, .ref (ad 8)), (1, .int (nI sp)), (2, .int (nI le)), (3, .int (nI ce))]) hx hb dX0_fewestBites_107 hl (k := 7) rfl (m_inc b 1) (by decide) rfl (fun ls hl => ?_)
                        refine lv_goto (tgt := 45) hx hb dX0_fewestBites_110 (by decide) ?_
                        exact ih_45  (min fw (1 + fewT sp ce (fRest ce (fTake sp (fLow ce) b)))) (b + 1)  _ _ _ (by omega) (by rw [fewB]; first | rw [if_pos (by omega), ← hfw] | rw [if_neg (by omega), ← hfw]) (by omega) (by omega) hW (lv_sub hl [3, 4, 5, 6, 7, 1, 0] rfl)
                      · skip
                        have c_10 : ¬ (fLow ce) < b := mt (nI_ltI (by omega) (by omega)).mpr c_10
                        refine lv_iload_n hx hb dX0_fewestBites_68 rfl (lv_at hl 2 rfl) ?_
                        refine lv_iload hx hb dX0_fewestBites_69 (lv_at hl 0 rfl) ?_
                        refine lv_iload hx hb dX0_fewestBites_71 (lv_at hl 6 rfl) ?_
                        refine lv_isub hx hb dX0_fewestBites_73 ?_
                        refine m_top (y := nI ((fLow ce) - b)) (pk_sub (by omega)) ?_
                        refine lv_ishl hx hb dX0_fewestBites_74 ?_
                        refine m_top (y := nI (fTake sp (fLow ce) b)) (fTake_shl hsp hlo9 (by omega)) ?_
                        refine lv_goto (tgt := 85) hx hb dX0_fewestBites_75 (by decide) ?_
                        refine lv_istore (lv' := [(7, .int (nI (fTake sp (fLow ce) b))), (4, .int (nI (fLow ce))), (0, .ref (ad 8)), (1, .int (nI sp)), (2, .int (nI le)), (3, .int (nI ce)), (5, .int (nI fw)), (6, .int (nI b))]) hx hb dX0_fewestBites_85 hl (by decide) rfl (fun ls hl => ?_)
                        refine lv_iload hx hb dX0_fewestBites_87 (lv_at hl 6 rfl) ?_
                        refine lv_iconst (v := nI 1) hx hb dX0_fewestBites_89 (by decide) ?_
                        refine lv_aload_n hx hb dX0_fewestBites_90 rfl (lv_at hl 2 rfl) ?_
                        refine m_getr S hW hc 0 rfl (j := 9) rfl kX0 (iW0 _) (by decide) (List.mem_cons_of_mem _ (wa_3 _ (List.mem_of_getElem? (i := 11) (by decide +kernel)))) dX0_fewestBites_91 ?_
                        refine lv_iload_n hx hb dX0_fewestBites_94 rfl (lv_at hl 5 rfl) ?_
                        refine lv_iload hx hb dX0_fewestBites_95 (lv_at hl 0 rfl) ?_
                        refine lv_iconst (v := -1) hx hb dX0_fewestBites_97 (by decide) ?_
                        refine lv_ixor hx hb dX0_fewestBites_98 ?_
                        refine lv_iand hx hb dX0_fewestBites_99 ?_
                        refine m_top (y := nI (fRest ce (fTake sp (fLow ce) b))) (m_not (n := 10) (by omega) (by omega)) ?_
                        refine m_iald S hW hs9 (fRest ce (fTake sp (fLow ce) b)) rfl (Nat.lt_of_le_of_lt Nat.and_le_left (by omega)) (by decide) dX0_fewestBites_100 ?_
                        refine m_top (y := nI (fewT sp ce (fRest ce (fTake sp (fLow ce) b)))) (htab _ (fRest_lt (by omega) (by omega) (by omega))) ?_
                        refine lv_iadd hx hb dX0_fewestBites_101 ?_
                        refine m_top (y := nI (1 + (fewT sp ce (fRest ce (fTake sp (fLow ce) b))))) (nI_add 1 (fewT sp ce (fRest ce (fTake sp (fLow ce) b)))) ?_
                        refine va_mmin hx hb (hml.trans hl.1.symm) hown (hts (.methodLink RX0 21 Lib.Math.min.name) (List.mem_cons_of_mem _ (wa_34 _ (List.mem_of_getElem? (i := 14) (by decide +kernel))))) (hts (.static Lib.Math.min.name) (List.mem_cons_of_mem _ (wa_18 _ (List.mem_of_getElem? (i := 11) (by decide +kernel))))) (hts (.initialized "java/lang/Math") (List.mem_cons_of_mem _ (wa_18 _ (List.mem_of_getElem? (i := 12) (by decide +kernel))))) (hts (.code Lib.Math.min.name Lib.Math.min.code 2 (some .int)) (List.mem_cons_of_mem _ (wa_18 _ (List.mem_of_getElem? (i := 13) (by decide +kernel))))) (Nat.le_of_ble_eq_true rfl) (Nat.le_of_ble_eq_true rfl) (Nat.le_of_ble_eq_true rfl) (Nat.le_of_ble_eq_true rfl) dX0_fewestBites_102 ?_
                        refine m_top (y := nI (min fw (1 + fewT sp ce (fRest ce (fTake sp (fLow ce) b))))) (m_min (by omega) (by have := fewT_le sp ce (fRest ce (fTake sp (fLow ce) b)); omega)) ?_
                        refine lv_istore (lv' := [(5, .int (nI (min fw (1 + fewT sp ce (fRest ce (fTake sp (fLow ce) b)))))), (7, .int (nI (fTake sp (fLow ce) b))), (4, .int (nI (fLow ce))), (0, .ref (ad 8)), (1, .int (nI sp)), (2, .int (nI le)), (3, .int (nI ce)), (6, .int (nI b))]) hx hb dX0_fewestBites_105 hl (by decide) rfl (fun ls hl => ?_)
                        refine lv_iinc (v := nI (b + 1)) (lv' := [(6, .int (nI (b + 1))), (5, .int (nI (min fw (1 + fewT sp ce (fRest ce (fTake sp (fLow ce) b)))))), (7, .int (nI (fTake sp (fLow ce) b))), (4, .int (nI (fLow ce))), (0, .ref (ad 8)), (1, .int (nI sp)), (2, .int (nI le)), (3, .int (nI ce))]) hx hb dX0_fewestBites_107 hl (k := 7) rfl (m_inc b 1) (by decide) rfl (fun ls hl => ?_)
                        refine lv_goto (tgt := 45) hx hb dX0_fewestBites_110 (by decide) ?_
                        exact ih_45  (min fw (1 + fewT sp ce (fRest ce (fTake sp (fLow ce) b)))) (b + 1)  _ _ _ (by omega) (by rw [fewB]; first | rw [if_pos (by omega), ← hfw] | rw [if_neg (by omega), ← hfw]) (by omega) (by omega) hW (lv_sub hl [3, 4, 5, 6, 7, 1, 0] rfl)
              exact loop_45 (7 - 0 + 1) 1023 0  _ _ _ (by omega) (by rfl) (by omega) (by omega) hW (lv_sub hl [2, 3, 4, 5, 6, 1, 0] rfl)
      exact loop_14 (le + 1 - 1 + 1) 1 V _ _ _ (by omega) (by exact fun a _ => rfl) (by intro j hj; rw [show j = 0 by omega, h90, fewT_zero]) (by omega) hW (lv_sub hl [1, 2, 3, 0] rfl)
    · skip
      have c_2 : sp = 0 := (nI_eq (by omega) (by omega)).mp c_2
      refine lv_iconst (v := -1) hx hb dX0_fewestBites_10 (by decide) ?_
      exact m_iret S hr hlk hW dX0_fewestBites_11 (by exact ⟨by rw [fFew, if_neg (by omega), if_pos c_2], fun a _ => rfl, h90⟩)
  · skip
    have c_1 : le = 0 := (nI_eq (by omega) (by omega)).mp c_1
    refine lv_iconst (v := nI 0) hx hb dX0_fewestBites_4 (by decide) ?_
    exact m_iret S hr hlk hW dX0_fewestBites_5 (by exact ⟨by rw [fFew, if_pos c_1], fun a _ => rfl, h90⟩)
