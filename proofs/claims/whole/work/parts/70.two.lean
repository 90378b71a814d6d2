/-! the two readings: their words -/
def p4 (q : pS) : Nat × Int32 × Nat × Int32 := (q.1, q.2.1, q.2.2.1, q.2.2.2.1)
theorem pAdv_p4 {B : Nat → Int32} {sz : Nat} {q q' : pS} (h : p4 q = p4 q') : p4 (pAdv B sz q) = p4 (pAdv B sz q') := by
  have h1 : q.1 = q'.1 := congrArg (fun z => z.1) h
  have h4 : q.2.2.2.1 = q'.2.2.2.1 := congrArg (fun z => z.2.2.2) h
  by_cases hs : sz ≤ fSpan fWhite B sz q'.1
  · rw [pAdv_e (by rw [h1]) hs, pAdv_e (q := q') rfl hs]
    show (_, _, _, q.2.2.2.1) = (_, _, _, q'.2.2.2.1)
    rw [h4]
  · by_cases hl : mIn (B (fSpan fWhite B sz q'.1)) 97 123
    · rw [pAdv_w (by rw [h1]) hs hl rfl, pAdv_w (q := q') rfl hs hl rfl]
      show (_, _, _, q.2.2.2.1) = (_, _, _, q'.2.2.2.1)
      rw [h4]
    · by_cases hd : mIn (B (fSpan fWhite B sz q'.1)) 48 58
      · rw [pAdv_d (by rw [h1]) hs hl hd, pAdv_d (q := q') rfl hs hl hd]
        rfl
      · rw [pAdv_s (by rw [h1]) hs hl hd, pAdv_s (q := q') rfl hs hl hd]
        show (_, _, _, q.2.2.2.1) = (_, _, _, q'.2.2.2.1)
        rw [h4]
/-- what is emitted, and the fault, are left alone by advancing -/
theorem pAdv_5 (B : Nat → Int32) (sz : Nat) (q : pS) : (pAdv B sz q).2.2.2.2 = q.2.2.2.2 := by
  unfold pAdv
  split
  · rfl
  · split
    · rfl
    · split
      · rfl
      · rfl
abbrev cdl (q : pS) : List Int32 := q.2.2.2.2.2
abbrev flt (q : pS) : Int32 := q.2.2.2.2.1
theorem pEmit_1 (x : Int32) (q : pS) : p4 (pEmit x q) = p4 q ∧ flt (pEmit x q) = flt q := ⟨rfl, rfl⟩
theorem pEmit_c {x : Int32} {q : pS} (h : (cdl q).length < 160) : cdl (pEmit x q) = cdl q ++ [x] := by
  show (if _ then _ else _) = _
  rw [if_pos h]
/-- a fault, at b -/
def Fl (q : pS) (b : Nat) : Prop := q.2.1 = -1 ∧ flt q = nI b ∧ b < 2 ^ 31
theorem Fl.emit {q : pS} {b : Nat} (h : Fl q b) (x : Int32) : Fl (pEmit x q) b := h
theorem Fl.fail {q : pS} {b : Nat} (h : Fl q b) : Fl (pFail q) b := ⟨rfl, by
  show (if flt q < nI 0 then _ else flt q) = nI b
  rw [h.2.1, if_neg (show ¬ nI b < nI 0 from fun z => (Int32.not_le.mpr z) (nI_pos' h.2.2))], h.2.2⟩
theorem Fl.of {q : pS} (h : flt q = -1) (hb : q.2.2.1 < 2 ^ 31) : Fl (pFail q) q.2.2.1 := ⟨rfl, by
  show (if flt q < nI 0 then nI q.2.2.1 else flt q) = _
  rw [h, if_pos (by decide)], hb⟩
theorem Fl.exp {q : pS} {b : Nat} (h : Fl q b) {w : Int32} (hw : w ≠ -1) (B : Nat → Int32) (sz : Nat) : Fl (pExp w B sz q) b := by
  rw [pExp, if_neg (by rw [h.1]; exact fun z => hw z.symm)]
  exact h.fail
theorem Fl.loop {q : pS} {b : Nat} (h : Fl q b) {F : pS → pS} {r : Nat} (hr : r < 5) (n : Nat) : Fl (pLoop F (nI r) n q) b := by
  rw [pLoop_n]
  · exact h
  · rw [h.1]
    exact (fun r hr => (by decide +kernel : ∀ r, r < 5 → ¬ fRank (-1) = nI r) r hr) r hr
/-! what is held -/
def Tp (l : Nat) (th : List Nat) : Prop := ∀ x t, th = x :: t → rkN x < l
theorem Tp.nil (l : Nat) : Tp l [] := fun _ _ h => by cases h
theorem Tp.cons {l x : Nat} (h : rkN x < l) (t : List Nat) : Tp l (x :: t) := fun _ _ e => by
  injection e with e1 e2
  rw [← e1]
  exact h
theorem Tp.mono {l l' : Nat} {th : List Nat} (h : Tp l th) (hl : l ≤ l') : Tp l' th := fun x t e => Nat.lt_of_lt_of_le (h x t e) hl
theorem unw_tp {l : Nat} {th : List Nat} (h : Tp l th) (cs : List Nat) : unw l th cs = (th, cs) := by
  cases th with
  | nil => rfl
  | cons x t => exact unw_s (by have := h x t rfl; omega)
theorem unw_all {l : Nat} {th : List Nat} (h : Tp l th) : ∀ (P cs : List Nat), (∀ x ∈ P, l ≤ rkN x) → unw l (P ++ th) cs = (th, cs ++ P)
  | [], cs, _ => by rw [List.nil_append, List.append_nil]; exact unw_tp h cs
  | x :: P, cs, hp => by
    rw [List.cons_append, unw_c (hp x List.mem_cons_self), unw_all h P (cs ++ [x]) (fun y hy => hp y (List.mem_cons_of_mem _ hy)), List.append_assoc]
    rfl
/-- a comparison pends -/
def Blk (P : List Nat) : Prop := ∃ a x b, P = a ++ x :: b ∧ (∀ y ∈ a, 5 ≤ rkN y) ∧ rkN x = 4
theorem Blk.app {P : List Nat} (h : Blk P) (t : List Nat) : Blk (P ++ t) := by
  obtain ⟨a, x, b, rfl, h1, h2⟩ := h
  exact ⟨a, x, b ++ t, by simp, h1, h2⟩
theorem Blk.no {P : List Nat} (h : Blk P) {s : Nat} (hs : rkN s = 4) (cs : List Nat) : btNo s (unw (btw s) P cs).1 = true := by
  obtain ⟨a, x, b, rfl, h1, h2⟩ := h
  rw [show btw s = 5 by rw [btw, if_pos hs], unw_all (Tp.cons (by omega) b) a cs h1]
  exact btNo_t hs h2
/-! the levels' ranks -/
def RR (j : Nat) : Nat := if j = 0 then 7 else if j = 1 then 6 else if j = 2 then 5 else if j = 3 then 4 else if j = 4 then 2 else 1
def RP (j : Nat) : Nat := if j = 3 then 3 else RR j
theorem fr_is : ∀ t ∈ tkL, ∀ j, j < 5 → (fRank t = nI (4 - j) ↔ ¬ mSg t = 0 ∧ rkN (mSg t) = RR (j + 1)) := by decide +kernel
theorem sg_t : ∀ t ∈ tkL, ¬ mSg t = 0 → ¬ mTk t = nI 59 ∧ ¬ mTk t = nI 41 ∧ cdN (-t) = mSg t ∧ (-t = -11 ∨ -t = -12 ∨ -t = -42 ∨ -t = -43 ∨ -t = -45 ∨ -t = -60 ∨ -t = -61) ∧ rkN (mSg t) ≤ 6 ∧ (rkN (mSg t) ≤ 2 ↔ ¬ 12 < mSg t) ∧ rkN (mSg t) ≠ 3 ∧ mSg t ≠ 0 ∧ mSg t ≠ 13 ∧ mSg t ≠ 19 := by decide +kernel
theorem tk_m1 : ∀ t ∈ tkL, mTk t = nI 1 ↔ t = nI 1 := by decide +kernel
theorem tk_m2 : ∀ t ∈ tkL, mTk t = nI 2 ↔ mIn t 2 8 := by decide +kernel
theorem tk_m6 : ∀ t ∈ tkL, mTk t = nI 6 ↔ t = nI 13 := by decide +kernel
theorem tk_m45 : ∀ t ∈ tkL, mTk t = nI 45 ↔ t = nI 45 := by decide +kernel
theorem tk_m40 : ∀ t ∈ tkL, mTk t = nI 40 ↔ t = nI 40 := by decide +kernel
theorem tk_m41 : ∀ t ∈ tkL, mTk t = nI 41 ↔ t = nI 41 := by decide +kernel
theorem tk_m59 : ∀ t ∈ tkL, mTk t = nI 59 ↔ t = nI 59 := by decide +kernel
theorem tk_nm : ∀ t ∈ tkL, mIn t 2 8 → ∃ j, j < 6 ∧ -t = -(nI (j + 2)) ∧ tkn (mVl t) = j ∧ cdN (-t) = j := by
  intro t ht h
  obtain ⟨n, rfl, h1, h2⟩ := h.ex
  obtain ⟨k, rfl⟩ : ∃ k, n = k + 2 := ⟨n - 2, by omega⟩
  exact ⟨k, by omega, rfl, (by decide +kernel : ∀ k, k < 6 → tkn (mVl (nI (k + 2))) = k) k (by omega), (cdN_nm k (by omega)).1⟩
/-! heights -/
def hs (x : Int32) (n : Nat) : Nat := (stX (fun _ => nI 0) x (n, fun _ => nI 0)).1
def Okl : List Int32 → Nat → Nat → Prop
  | [], n, m => n = m
  | x :: l, n, m => StOk x n ∧ Okl l (hs x n) m
theorem Okl.app : ∀ {l l' : List Int32} {n m k : Nat}, Okl l n m → Okl l' m k → Okl (l ++ l') n k
  | [], _, _, _, _, h, h' => by
    rw [show (_ : Nat) = _ from h]
    exact h'
  | x :: l, _, _, _, _, h, h' => ⟨h.1, h.2.app h'⟩
theorem ok_num {v n : Nat} (hv : v < 10000) (hn : n < 32) : Okl [nI v] n (n + 1) := by
  refine ⟨Or.inl ⟨v, hv, rfl, hn⟩, ?_⟩
  show hs (nI v) n = n + 1
  rw [hs, stX, if_pos ⟨nI_pos' (by omega), hn⟩]
theorem ok_nm {j n : Nat} (hj : j < 6) (hn : n < 32) : Okl [-(nI (j + 2))] n (n + 1) := by
  refine ⟨Or.inr (Or.inl ⟨j, hj, rfl, hn⟩), ?_⟩
  show hs (-(nI (j + 2))) n = n + 1
  obtain ⟨a1, a2, a3, a4⟩ := cdN_nm j hj
  rw [hs, stX, if_neg (fun z => a3 z.1), if_pos ⟨a2, hn⟩]
theorem ok_not (n : Nat) : Okl [-13] (n + 1) (n + 1) := by
  refine ⟨Or.inr (Or.inr (Or.inl ⟨rfl, by omega⟩)), ?_⟩
  show hs (-13) (n + 1) = n + 1
  rw [hs, stX, if_neg (fun z => absurd z.1 (by decide)), if_neg (fun z => absurd z.1 (by decide)), if_pos ⟨rfl, Nat.succ_pos _⟩]
theorem ok_neg (n : Nat) : Okl [-14] (n + 1) (n + 1) := by
  refine ⟨Or.inr (Or.inr (Or.inr (Or.inl ⟨rfl, by omega⟩))), ?_⟩
  show hs (-14) (n + 1) = n + 1
  rw [hs, stX, if_neg (fun z => absurd z.1 (by decide)), if_neg (fun z => absurd z.1 (by decide)), if_neg (fun z => absurd z.1 (by decide)), if_pos ⟨rfl, Nat.succ_pos _⟩]
theorem ok_two {x : Int32} (h : x = -11 ∨ x = -12 ∨ x = -42 ∨ x = -43 ∨ x = -45 ∨ x = -60 ∨ x = -61) (n : Nat) : Okl [x] (n + 2) (n + 1) := by
  refine ⟨Or.inr (Or.inr (Or.inr (Or.inr ⟨by omega, h⟩))), ?_⟩
  show hs x (n + 2) = n + 1
  rw [hs]
  rcases h with rfl | rfl | rfl | rfl | rfl | rfl | rfl
  all_goals rw [stX, if_neg (fun z => absurd z.1 (by decide)), if_neg (fun z => absurd z.1 (by decide)), if_neg (fun z => absurd z.1 (by decide)), if_neg (fun z => absurd z.1 (by decide)), if_pos (show 1 < n + 2 by omega)]
  all_goals rfl
