/-! a row's copy; bits of counters -/
/-- n ints of row i, from sp on, come to place dp of row j -/
def mCpy (V : mV) (i sp j dp n : Nat) : mV := fun a b => if a = j ∧ dp ≤ b ∧ b < dp + n then V i (sp + (b - dp)) else V a b
theorem mCpy_row (V : mV) (i sp j dp n : Nat) : mCpy V i sp j dp n j = va_cpy (V i) (V j) sp dp n := by
  funext b
  simp [mCpy, va_cpy]
theorem mCpy_no (V : mV) {i sp j dp n a : Nat} (h : a ≠ j) : mCpy V i sp j dp n a = V a := by
  funext b
  simp [mCpy, h]
section MCopy
variable {p : Program} {l : Launch} {e : Env} {R : Room} {s : State} {m : MethodId} {args : Array Value} {below : List Frame} {meth : Method} {c : Code} {H : Heap} {locs : List Loc} {cells slots : Nat} {Q : State → Prop}
variable {cc : ByteArray} {pc nL : Nat} {ls : Array Slot} {rest : List Value} {A : Nat → Prop} {G : mG} {ad : Nat → Nat} {sh : Nat → Option mSh} {V : mV} {Ts : List Cond} {own : String} {H0 : Heap}
theorem m_copy (S : CallFix p m c cc nL s args Ts own) (hW : mC A H0 s G ad sh V H locs) (hls : ls.size = nL) {index i j n0 n1 : Nat} (hi : sh i = some (mI n0)) (hj : sh j = some (mI n1)) (hlink : Cond.methodLink own index arraycopyName ∈ Ts) (hnat : Cond.native arraycopyName ∈ Ts) (hstat : Cond.static arraycopyName ∈ Ts) (hini : Cond.initialized "java/lang/System" ∈ Ts)
    {xs xd xn : Int32} (sp dp n : Nat) (e1 : xs = nI sp) (e2 : xd = nI dp) (e3 : xn = nI n) (h4 : sp + n ≤ n0) (h5 : dp + n ≤ n1) (hn0 : n0 < 2 ^ 31) (hn1 : n1 < 2 ^ 31) (hframes : 1 ≤ R.frames) (hlocals : (rest.map fun v => v.category).sum + (nativeFrameWords "java/lang/System" "arraycopy" 5 + 11) ≤ R.locals) (hdg : decode cc pc = .ok (.invokestatic index, 3))
    (kk : ∀ (H1 : Heap) (locs1 : List Loc), mC A H0 s G ad sh (mCpy V i sp j dp n) H1 locs1 → W p l e R s m args below meth c H1 locs1 cells slots Q (F0 m (pc + 3) ls rest)) : W p l e R s m args below meth c H locs cells slots Q (F0 m pc ls (.int xn :: .int xd :: .ref (ad j) :: .int xs :: .ref (ad i) :: rest)) := by
  subst e1; subst e2; subst e3
  have hne : sh j ≠ none := by rw [hj]; exact fun z => by cases z
  have cl : ∀ z : Nat, z < 2 ^ 31 → (nI z).toInt = (z : Int) := fun z hz => nI_toInt hz
  have hsp : sp < 2 ^ 31 := by omega
  have hdp : dp < 2 ^ 31 := by omega
  have hnn : n < 2 ^ 31 := by omega
  have hts := S.2.2.2.2
  intro T hT X
  have hc0 : H[ad i]? = some (vp_cell G.2.1 (n0, .inl (V i))) := hW.at hi rfl 0 _ rfl
  have hc1 : H[ad j]? = some (vp_cell G.2.1 (n1, .inl (V j))) := hW.at hj rfl 0 _ rfl
  obtain ⟨-, k0, hk0, cm0, hkk0⟩ := (hW.K0.2 0 (G.2.1, .int) rfl).1 n0 (fun z => .int (V i z))
  obtain ⟨-, k1, hk1, cm1, hkk1⟩ := (hW.K0.2 0 (G.2.1, .int) rfl).1 n1 (fun z => .int (V j z))
  obtain ⟨vm', X', step⟩ := X.arraycopy S.1 S.2.2.2.1 (hts _ hlink) (hts _ hnat) (hts _ hstat) (hts _ hini) (src := ad i) (dst := ad j) (cs := vp_cell G.2.1 (n0, .inl (V i))) (cd := vp_cell G.2.1 (n1, .inl (V j))) (srcPos := nI sp) (destPos := nI dp) (n := nI n) (by rw [hT]; exact hc0) (by rw [hT]; exact hc1)
    (fun _ h => by cases h) (fun _ h => by cases h) (fun h => by cases h) (fun h => by cases h) hk0 hk1 hkk0 hkk1 (by simp [refKind]) (nI_pos hsp) (nI_pos hdp) (nI_pos hnn)
    (by rw [cl _ hsp, cl _ hnn]; show ¬ _ > ((arrV G.2.1 n0 (fun z => .int (V i z))).slots.size : Int); rw [arrV_size]; omega)
    (by rw [cl _ hdp, cl _ hnn]; show ¬ _ > ((arrV G.2.1 n1 (fun z => .int (V j z))).slots.size : Int); rw [arrV_size]; omega)
    (fun vm₁ _ k hk => by
      rw [nI_clamp hnn] at hk
      have e : (vp_cell G.2.1 (n0, .inl (V i))).slots.getD ((nI sp).toNatClampNeg + k) .null = .int (V i (sp + k)) := by
        show (arrV G.2.1 n0 (fun z => .int (V i z))).slots.getD _ _ = _
        rw [nI_clamp hsp, Array.getD_eq_getD_getElem?, arrV_read _ _ (by omega)]
        rfl
      refine ⟨?_, ?_⟩
      · rw [e]; rfl
      · rw [e]; exact trivial)
    (g := F0 m pc ls (.int (nI n) :: .int (nI dp) :: .ref (ad j) :: .int (nI sp) :: .ref (ad i) :: rest)) rfl (by rw [hls]; exact S.2.2.1.symm) (rest := rest) rfl (by rw [S.2.1]; exact hdg) hframes (by show 2 * 0 + _ + _ ≤ _; omega)
  have e1 : copied (vp_cell G.2.1 (n0, .inl (V i))) (vp_cell G.2.1 (n1, .inl (V j))) (nI sp) (nI dp) (nI n) = vp_cell G.2.1 (n1, .inl (mCpy V i sp j dp n j)) := by
    have h : copied (vp_cell G.2.1 (n0, .inl (V i))) (vp_cell G.2.1 (n1, .inl (V j))) (nI sp) (nI dp) (nI n) = vp_cell G.2.1 (n1, .inl (va_cpy (V i) (V j) (nI sp).toNatClampNeg (nI dp).toNatClampNeg (nI n).toNatClampNeg)) := va_copied (fun z => .int z) G.2.1 G.2.1 (V i) (V j) (by rw [nI_clamp hsp, nI_clamp hnn]; exact h4)
    rw [nI_clamp hsp, nI_clamp hnn, nI_clamp hdp] at h
    rw [mCpy_row]
    exact h
  rw [e1] at X' step
  have hl : ad j < H.size := (Array.getElem?_eq_some_iff.mp hc1).1
  have hheap : ((T.setVm vm').setCell (ad j) (vp_cell G.2.1 (n1, .inl (mCpy V i sp j dp n j)))).heap = H.setIfInBounds (ad j) (vp_cell G.2.1 (n1, .inl (mCpy V i sp j dp n j))) := by rw [← hT]; rfl
  have oq : ∀ q : Nat, q ≠ ad j → (H.setIfInBounds (ad j) (vp_cell G.2.1 (n1, .inl (mCpy V i sp j dp n j))))[q]? = H[q]? := fun q hq => by simp [Array.getElem?_setIfInBounds, Ne.symm hq]
  have hS := hW.2.2.1
  obtain ⟨t, a1, b1⟩ := kk _ _ ⟨hW.1.put (i := j) (S := mI n1) hne hj (fun a _ => rfl) (fun a ha => mCpy_no V ha) (u := mCpy V i sp j dp n j) (fun _ => rfl) (show (H.setIfInBounds (ad j) _)[ad j]? = some (vp_cell G.2.1 _) by simp [Array.getElem?_setIfInBounds, hl]) oq (fun r hr => absurd hr (fun z => z)), hW.2.1, ⟨by simp; exact hS.1, fun q g1 g2 => by
      rw [oq q (fun e => g2 (by rw [e]; exact hW.2.1 j hne))]
      exact hS.2.1 q g1 g2, fun q hq => by
      rcases List.mem_append.mp hq with h | h
      · exact hS.2.2 q h
      · obtain ⟨z, -, hz⟩ := List.mem_map.mp h
        rw [← hz]
        exact hW.2.1 j hne⟩, hW.2.2.2⟩ _ hheap X'
  exact ⟨t, step t a1, b1⟩
end MCopy
theorem m_and {a b : Nat} : nI a &&& nI b = nI (a &&& b) := by
  apply Int32.toBitVec_inj.mp
  show BitVec.ofNat 32 a &&& BitVec.ofNat 32 b = BitVec.ofNat 32 (a &&& b)
  apply BitVec.eq_of_toNat_eq
  simp [BitVec.toNat_and, Nat.and_mod_two_pow]
theorem m_or {a b : Nat} : nI a ||| nI b = nI (a ||| b) := by
  apply Int32.toBitVec_inj.mp
  show BitVec.ofNat 32 a ||| BitVec.ofNat 32 b = BitVec.ofNat 32 (a ||| b)
  apply BitVec.eq_of_toNat_eq
  simp [BitVec.toNat_or, Nat.or_mod_two_pow]
theorem m_and31 {k : Nat} (h : k < 32) : nI k &&& 31 = nI k := by
  rw [show (31 : Int32) = nI 31 from rfl, m_and]
  congr 1
  have := Nat.and_two_pow_sub_one_eq_mod k 5
  simp at this
  omega
theorem m_shr {a k : Nat} (ha : a < 2 ^ 31) (hk : k < 32) : nI a >>> (nI k &&& 31) = nI (a / 2 ^ k) := by
  rw [m_and31 hk]
  exact pk_shrN ha (nI k) k (by
    have : ∀ k : Nat, k < 32 → ((nI k).toBitVec.smod 32).toNat = k := by decide
    exact this k hk)
theorem m_shl {a k : Nat} (hk : k < 32) (ha : a * 2 ^ k < 2 ^ 32) : nI a <<< (nI k &&& 31) = nI (a * 2 ^ k) := by
  rw [m_and31 hk]
  exact pk_shlN (nI k) k (by
    have : ∀ k : Nat, k < 32 → ((nI k).toBitVec.smod 32).toNat = k := by decide
    exact this k hk) ha
theorem m_bit {a k : Nat} (ha : a < 2 ^ 31) (hk : k < 32) : (nI a >>> (nI k &&& 31)) &&& nI 1 = nI (a / 2 ^ k % 2) := by
  rw [m_shr ha hk, m_and]
  congr 1
  have := Nat.and_two_pow_sub_one_eq_mod (a / 2 ^ k) 1
  simpa using this
theorem m_not {a b n : Nat} (ha : a < 2 ^ n) (hn : n ≤ 31) : nI a &&& (nI b ^^^ (-1)) = nI (a &&& ((2 ^ n - 1) ^^^ (b % 2 ^ n))) := by
  apply Int32.toBitVec_inj.mp
  show BitVec.ofNat 32 a &&& (BitVec.ofNat 32 b ^^^ BitVec.ofInt 32 (-1)) = BitVec.ofNat 32 (a &&& ((2 ^ n - 1) ^^^ (b % 2 ^ n)))
  apply BitVec.eq_of_getLsbD_eq
  intro i hi
  have h1 : (BitVec.ofInt 32 (-1)) = BitVec.allOnes 32 := by decide
  rw [h1]
  simp only [BitVec.getLsbD_and, BitVec.getLsbD_xor, BitVec.getLsbD_ofNat, BitVec.getLsbD_allOnes, hi, decide_true, Bool.true_and, Nat.testBit_and, Nat.testBit_xor, Nat.testBit_two_pow_sub_one, Nat.testBit_mod_two_pow]
  by_cases hin : i < n
  · simp [hin]
  · have : a.testBit i = false := Nat.testBit_lt_two_pow (Nat.lt_of_lt_of_le ha (Nat.pow_le_pow_right (by decide) (by omega)))
    simp [this]
