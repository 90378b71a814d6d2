/-! the reference's reading: its machine -/
abbrev rS : Type := Nat × Nat × pS × List Nat × List Nat
abbrev rR : Type := Nat × pS × List Nat
def tkn (x : Int32) : Nat := x.toInt.toNat
section ERM
variable (B : Nat → Int32) (sz : Nat)
/-- one token, an operand wanted -/
def mEw (mn : Nat) (q : pS) (th cs : List Nat) : rS ⊕ rR :=
  if mTk q.2.1 = nI 1 then .inl (0, mn, q, (unw 7 th (cs ++ [100000 + tkn q.2.2.2.1])).1, (unw 7 th (cs ++ [100000 + tkn q.2.2.2.1])).2)
  else if mTk q.2.1 = nI 2 then .inl (0, mn, q, (unw 7 th (cs ++ [tkn (mVl q.2.1)])).1, (unw 7 th (cs ++ [tkn (mVl q.2.1)])).2)
  else if mTk q.2.1 = nI 6 ∧ mn = 1 then (if cntO th = 5 then .inr (0, q, []) else .inl (1, 1, q, 13 :: th, cs))
  else if mTk q.2.1 = nI 45 then (if cntO th = 5 then .inr (0, q, []) else .inl (1, 0, q, 19 :: th, cs))
  else if mTk q.2.1 = nI 40 then (if cntO th = 5 then .inr (0, q, []) else .inl (1, 1, q, 0 :: th, cs))
  else .inr (0, q, [])
/-- one token, behind an operand -/
def mEb (mn : Nat) (q : pS) (th cs : List Nat) : rS ⊕ rR :=
  if mTk q.2.1 = nI 59 then .inr (if (unw 1 th cs).1.length = 0 then 1 else 0, q, (unw 1 th cs).2)
  else if mTk q.2.1 = nI 41 then
    (match (unw 1 th cs).1 with
    | [] => .inr (0, q, [])
    | _ :: h => .inl (0, mn, q, (unw 7 h (unw 1 th cs).2).1, (unw 7 h (unw 1 th cs).2).2))
  else if mSg q.2.1 = 0 then .inr (0, q, [])
  else if btNo (mSg q.2.1) (unw (btw (mSg q.2.1)) th cs).1 = true then .inr (0, q, [])
  else .inl (1, if 12 < mSg q.2.1 then 0 else 1, q, mSg q.2.1 :: (unw (btw (mSg q.2.1)) th cs).1, (unw (btw (mSg q.2.1)) th cs).2)
def mEs (A : rS) : rS ⊕ rR := if A.1 = 1 then mEw A.2.1 (pAdv B sz A.2.2.1) A.2.2.2.1 A.2.2.2.2 else mEb A.2.1 (pAdv B sz A.2.2.1) A.2.2.2.1 A.2.2.2.2
def mEr : Nat → rS → Option rR
  | 0, _ => none
  | f + 1, A => match mEs B sz A with
    | .inl A' => mEr f A'
    | .inr r => some r
def Go (A A' : rS) : Prop := ∃ k, ∀ f, mEr B sz (f + k) A = mEr B sz f A'
def Er (A : rS) (r : rR) : Prop := ∃ k, ∀ f, mEr B sz (f + k) A = some r
end ERM
section ERT
variable {B : Nat → Int32} {sz : Nat} {A A' A2 : rS} {r r' : rR}
theorem Go.rfl : Go B sz A A := ⟨0, fun _ => Eq.refl _⟩
theorem Go.trans (h : Go B sz A A') (h2 : Go B sz A' A2) : Go B sz A A2 := by
  obtain ⟨k, hk⟩ := h
  obtain ⟨k2, hk2⟩ := h2
  exact ⟨k2 + k, fun f => by rw [← Nat.add_assoc, hk, hk2]⟩
theorem Go.one (h : mEs B sz A = .inl A') : Go B sz A A' := ⟨1, fun f => by
  rw [mEr, h]⟩
theorem Er.one (h : mEs B sz A = .inr r) : Er B sz A r := ⟨1, fun f => by
  rw [mEr, h]⟩
theorem Go.er (h : Go B sz A A') (h2 : Er B sz A' r) : Er B sz A r := by
  obtain ⟨k, hk⟩ := h
  obtain ⟨k2, hk2⟩ := h2
  exact ⟨k2 + k, fun f => by rw [← Nat.add_assoc, hk, hk2]⟩
theorem Er.uniq (h : Er B sz A r) (h2 : Er B sz A r') : r = r' := by
  obtain ⟨k, hk⟩ := h
  obtain ⟨k2, hk2⟩ := h2
  have e1 := hk k2
  have e2 := hk2 k
  rw [Nat.add_comm, e2] at e1
  exact Option.some.inj e1.symm
theorem es_w {mn : Nat} {q qq : pS} {th cs : List Nat} {o : rS ⊕ rR} {w : Nat} (hw : w ≤ 1) (h0 : ¬ w = 0) (hq : qq = pAdv B sz q) (h : mEw mn qq th cs = o) : mEs B sz (w, mn, q, th, cs) = o := by
  show (if w = 1 then _ else _) = o
  rw [if_pos (by omega)]
  show mEw mn (pAdv B sz q) th cs = o
  rw [← hq, h]
theorem es_b {mn : Nat} {q qq : pS} {th cs : List Nat} {o : rS ⊕ rR} {w : Nat} (h0 : w = 0) (hq : qq = pAdv B sz q) (h : mEb mn qq th cs = o) : mEs B sz (w, mn, q, th, cs) = o := by
  show (if w = 1 then _ else _) = o
  rw [if_neg (by omega)]
  show mEb mn (pAdv B sz q) th cs = o
  rw [← hq, h]
variable {mn : Nat} {q : pS} {th cs : List Nat}
theorem ew_1 (h : mTk q.2.1 = nI 1) : mEw mn q th cs = .inl (0, mn, q, (unw 7 th (cs ++ [100000 + tkn q.2.2.2.1])).1, (unw 7 th (cs ++ [100000 + tkn q.2.2.2.1])).2) := by rw [mEw, if_pos h]
theorem ew_2 (h : mTk q.2.1 = nI 2) : mEw mn q th cs = .inl (0, mn, q, (unw 7 th (cs ++ [tkn (mVl q.2.1)])).1, (unw 7 th (cs ++ [tkn (mVl q.2.1)])).2) := by rw [mEw, if_neg (by rw [h]; decide), if_pos h]
theorem ew_6 (h : mTk q.2.1 = nI 6) (hm : mn = 1) : mEw mn q th cs = if cntO th = 5 then .inr (0, q, []) else .inl (1, 1, q, 13 :: th, cs) := by rw [mEw, if_neg (by rw [h]; decide), if_neg (by rw [h]; decide), if_pos ⟨h, hm⟩]
theorem ew_6n (h : mTk q.2.1 = nI 6) (hm : mn = 0) : mEw mn q th cs = .inr (0, q, []) := by rw [mEw, if_neg (by rw [h]; decide), if_neg (by rw [h]; decide), if_neg (fun z => absurd z.2 (by omega)), if_neg (by rw [h]; decide), if_neg (by rw [h]; decide)]
theorem ew_45 (h : mTk q.2.1 = nI 45) : mEw mn q th cs = if cntO th = 5 then .inr (0, q, []) else .inl (1, 0, q, 19 :: th, cs) := by rw [mEw, if_neg (by rw [h]; decide), if_neg (by rw [h]; decide), if_neg (fun z => absurd (h.symm.trans z.1) (by decide)), if_pos h]
theorem ew_40 (h : mTk q.2.1 = nI 40) : mEw mn q th cs = if cntO th = 5 then .inr (0, q, []) else .inl (1, 1, q, 0 :: th, cs) := by rw [mEw, if_neg (by rw [h]; decide), if_neg (by rw [h]; decide), if_neg (fun z => absurd (h.symm.trans z.1) (by decide)), if_neg (by rw [h]; decide), if_pos h]
theorem ew_no (h1 : ¬ mTk q.2.1 = nI 1) (h2 : ¬ mTk q.2.1 = nI 2) (h6 : ¬ mTk q.2.1 = nI 6) (h45 : ¬ mTk q.2.1 = nI 45) (h40 : ¬ mTk q.2.1 = nI 40) : mEw mn q th cs = .inr (0, q, []) := by rw [mEw, if_neg h1, if_neg h2, if_neg (fun z => h6 z.1), if_neg h45, if_neg h40]
theorem eb_59 (h : mTk q.2.1 = nI 59) : mEb mn q th cs = .inr (if (unw 1 th cs).1.length = 0 then 1 else 0, q, (unw 1 th cs).2) := by rw [mEb, if_pos h]
theorem eb_41n (h : mTk q.2.1 = nI 41) (e : (unw 1 th cs).1 = []) : mEb mn q th cs = .inr (0, q, []) := by rw [mEb, if_neg (by rw [h]; decide), if_pos h, e]
theorem eb_41 {x : Nat} {t3 : List Nat} (h : mTk q.2.1 = nI 41) (e : (unw 1 th cs).1 = x :: t3) : mEb mn q th cs = .inl (0, mn, q, (unw 7 t3 (unw 1 th cs).2).1, (unw 7 t3 (unw 1 th cs).2).2) := by rw [mEb, if_neg (by rw [h]; decide), if_pos h, e]
theorem eb_s (h59 : ¬ mTk q.2.1 = nI 59) (h41 : ¬ mTk q.2.1 = nI 41) {o : rS ⊕ rR} (h : (if mSg q.2.1 = 0 then .inr (0, q, []) else if btNo (mSg q.2.1) (unw (btw (mSg q.2.1)) th cs).1 = true then .inr (0, q, []) else .inl (1, if 12 < mSg q.2.1 then 0 else 1, q, mSg q.2.1 :: (unw (btw (mSg q.2.1)) th cs).1, (unw (btw (mSg q.2.1)) th cs).2)) = o) : mEb mn q th cs = o := by rw [mEb, if_neg h59, if_neg h41, h]
end ERT
/-! tokens that the tape gives -/
theorem tk_l1 : ∀ t ∈ tkL, mTk t = nI 1 → t = nI 1 := by decide +kernel
theorem tk_l2 : ∀ t ∈ tkL, mTk t = nI 2 → mIn t 2 11 ∧ mVl t = nI (tkn (mVl t)) ∧ tkn (mVl t) < 6 := by decide +kernel
theorem tk_l3 : ∀ t ∈ tkL, mTk t = nI 3 → mIn t 2 11 ∧ mVl t = nI (tkn (mVl t)) ∧ tkn (mVl t) < 3 := by decide +kernel
theorem tk_ls : ∀ t ∈ tkL, ¬ mSg t = 0 → ¬ mTk t = nI 0 ∧ 11 ≤ mSg t ∧ mSg t < 19 ∧ mSg t ≠ 13 := by decide +kernel
theorem tk_l0 : ∀ t ∈ tkL, t = nI 0 → mTk t = nI 0 := by decide +kernel
theorem tkn_nI {n : Nat} (h : n < 2 ^ 31) : tkn (nI n) = n := by
  rw [tkn, nI_toInt h]
  exact Int.toNat_natCast n
theorem wordT_or (B : Nat → Int32) (a b : Nat) : fWordT B a b = -1 ∨ ∃ i, i < 13 ∧ 1 ≤ i ∧ fWordT B a b = nI (i + 1) := by
  by_cases h : ∃ i, i < 13 ∧ 1 ≤ i ∧ fIsW i B a b = true
  · obtain ⟨i, h1, h2, h3⟩ := h
    exact Or.inr ⟨i, h1, h2, wordT_1 h1 h2 h3⟩
  · exact Or.inl (wordT_0 (fun i h1 h2 h3 => h ⟨i, h1, h2, h3⟩))
theorem wd_tk : ∀ i, i < 13 → 1 ≤ i → nI (i + 1) ∈ tkL ∧ ¬ nI (i + 1) = nI 1 := by decide +kernel
theorem wordT_tk (B : Nat → Int32) (a b : Nat) : fWordT B a b ∈ tkL ∧ ¬ fWordT B a b = nI 1 := by
  rcases wordT_or B a b with h | ⟨i, h1, h2, h⟩
  · rw [h]; decide
  · rw [h]; exact wd_tk i h1 h2
theorem sign_tk {x : Int32} (h : fSign x = true) : x ∈ tkL := by
  have hr : ∀ y : Int32, nI 2 ≤ fRank y → y ∈ tkL := fun y hy => by
    rw [fRank] at hy
    by_cases a : y = nI 11
    · rw [a]; decide
    · rw [if_neg a] at hy
      by_cases b : y = nI 12
      · rw [b]; decide
      · rw [if_neg b] at hy
        by_cases c : y = nI 42
        · rw [c]; decide
        · rw [if_neg c] at hy
          by_cases d : y = nI 43
          · rw [d]; decide
          · by_cases e : y = nI 45
            · rw [e]; decide
            · by_cases f : y = nI 60
              · rw [f]; decide
              · by_cases g : y = nI 61
                · rw [g]; decide
                · simp only [if_neg d, if_neg e, if_neg f, if_neg g] at hy
                  first | exact absurd hy (by decide) | (repeat' split at hy <;> simp_all; done)
  rcases of_decide_eq_true h with h | h | h | h
  · rw [h]; decide
  · rw [h]; decide
  · rw [h]; decide
  · exact hr x h
theorem pAdv_tk (B : Nat → Int32) (sz : Nat) (q : pS) : (pAdv B sz q).2.1 ∈ tkL := by
  unfold pAdv
  split
  · show nI 0 ∈ tkL
    decide
  · split
    · exact (wordT_tk B _ _).1
    · split
      · rw [pNum]
        show (if _ then (-1 : Int32) else nI 1) ∈ tkL
        split <;> decide
      · show (if _ then _ else (-1 : Int32)) ∈ tkL
        split
        · exact sign_tk (by assumption)
        · decide
theorem pAdv_lt {B : Nat → Int32} {sz : Nat} {q : pS} (hq : q.1 ≤ sz) (h : ¬ mTk (pAdv B sz q).2.1 = nI 0) : q.1 < (pAdv B sz q).1 ∧ (pAdv B sz q).1 ≤ sz := by
  have ha := fSpan_le fWhite B hq
  by_cases hs : sz ≤ fSpan fWhite B sz q.1
  · rw [pAdv_e rfl hs] at h
    exact absurd rfl h
  · by_cases hl : mIn (B (fSpan fWhite B sz q.1)) 97 123
    · rw [pAdv_w rfl hs hl rfl]
      have h1 := fSpan_s (sz := sz) (P := fLet) (by omega) (show fLet (B (fSpan fWhite B sz q.1)) = true from decide_eq_true hl)
      have h2 := fSpan_le fLet B (i := fSpan fWhite B sz q.1 + 1) (sz := sz) (by omega)
      show q.1 < fSpan fLet B sz _ ∧ fSpan fLet B sz _ ≤ sz
      omega
    · by_cases hd : mIn (B (fSpan fWhite B sz q.1)) 48 58
      · rw [pAdv_d rfl hs hl hd, pNum]
        have h1 := fSpan_s (sz := sz) (P := fDig) (by omega) (show fDig (B (fSpan fWhite B sz q.1)) = true from decide_eq_true hd)
        have h2 := fSpan_le fDig B (i := fSpan fWhite B sz q.1 + 1) (sz := sz) (by omega)
        show q.1 < fSpan fDig B sz (fSpan fWhite B sz q.1) ∧ fSpan fDig B sz (fSpan fWhite B sz q.1) ≤ sz
        omega
      · rw [pAdv_s rfl hs hl hd]
        show q.1 < fSpan fWhite B sz q.1 + 1 ∧ _ ≤ sz
        omega
theorem fNum_lt {B : Nat → Int32} {sz : Nat} : ∀ (d i n : Nat), fSpan fDig B sz i - i ≤ d → d ≤ 4 → n < 10 ^ (4 - d) → ∃ n', n' < 10000 ∧ fNum B sz i (nI n) = nI n'
  | 0, i, n, h1, _, h3 => by
    refine ⟨n, h3, ?_⟩
    by_cases hs : sz ≤ i
    · exact fNum_e _ hs
    · by_cases hd : fDig (B i) = true
      · have h4 := fSpan_s (sz := sz) (by omega) hd
        have h5 := fSpan_le fDig B (i := i + 1) (sz := sz) (by omega)
        omega
      · exact fNum_n _ hd
  | d + 1, i, n, h1, h2, h3 => by
    have h10 : n < 10000 := Nat.lt_of_lt_of_le h3 (Nat.pow_le_pow_right (n := 10) (by decide) (show 4 - (d + 1) ≤ 4 by omega))
    by_cases hs : sz ≤ i
    · exact ⟨n, h10, fNum_e _ hs⟩
    · by_cases hd : fDig (B i) = true
      · have h4 := fSpan_s (sz := sz) (by omega) hd
        have h5 := fSpan_le fDig B (i := i + 1) (sz := sz) (by omega)
        obtain ⟨b, hb, hb1, hb2⟩ := (of_decide_eq_true hd : mIn (B i) 48 58).ex
        rw [fNum_s _ (by omega) hd, hb]
        have e : nI 10 * nI n + nI b - nI 48 = nI (10 * n + b - 48) := by
          rw [pk_mul, nI_add, pk_sub (by omega)]
        rw [e]
        have h6 : 10 ^ (4 - d) = 10 * 10 ^ (4 - (d + 1)) := by
          rw [show 4 - d = (4 - (d + 1)) + 1 by omega, Nat.pow_succ, Nat.mul_comm]
        exact fNum_lt d (i + 1) (10 * n + b - 48) (by omega) (by omega) (by omega)
      · exact ⟨n, h10, fNum_n _ hd⟩
/-- a number's value -/
theorem pAdv_val {B : Nat → Int32} {sz : Nat} {q : pS} (h : (pAdv B sz q).2.1 = nI 1) : ∃ n, n < 10000 ∧ (pAdv B sz q).2.2.2.1 = nI n := by
  by_cases hs : sz ≤ fSpan fWhite B sz q.1
  · rw [pAdv_e rfl hs] at h
    exact absurd (show nI 0 = nI 1 from h) (by decide)
  · by_cases hl : mIn (B (fSpan fWhite B sz q.1)) 97 123
    · rw [pAdv_w rfl hs hl rfl] at h
      exact absurd h (wordT_tk B _ _).2
    · by_cases hd : mIn (B (fSpan fWhite B sz q.1)) 48 58
      · rw [pAdv_d rfl hs hl hd] at h ⊢
        rw [pNum] at h ⊢
        have h' : (if 4 < fSpan fDig B sz (fSpan fWhite B sz q.1) - (fSpan fWhite B sz q.1) then (-1 : Int32) else nI 1) = nI 1 := h
        by_cases h4 : 4 < fSpan fDig B sz (fSpan fWhite B sz q.1) - (fSpan fWhite B sz q.1)
        · rw [if_pos h4] at h'
          exact absurd h' (by decide)
        · exact fNum_lt 4 (fSpan fWhite B sz q.1) 0 (by omega) (by decide) (by decide)
      · rw [pAdv_s rfl hs hl hd] at h
        exfalso
        have h' : (if fSign (B (fSpan fWhite B sz q.1)) = true then B (fSpan fWhite B sz q.1) else -1) = nI 1 := h
        by_cases hg : fSign (B (fSpan fWhite B sz q.1)) = true
        · rw [if_pos hg] at h'
          rw [h'] at hg
          exact absurd hg (by decide)
        · rw [if_neg hg] at h'
          exact absurd h' (by decide)
