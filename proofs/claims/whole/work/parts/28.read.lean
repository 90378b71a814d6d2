/-! all that reads -/
def pNt (B : Nat → Int32) (sz : Nat) : Nat → pS → pS
  | 0 => pFail
  | d + 1 => fun q => pEmit (-13) ((pD B sz d).2 3 (pAdv B sz q))
theorem pD_2 (B : Nat → Int32) (sz : Nat) : ∀ d, (pD B sz d).2 = pRk B sz (pD B sz d).1 (pNt B sz d)
  | 0 => rfl
  | _ + 1 => rfl
theorem pRk_s {B : Nat → Int32} {sz : Nat} {one nt : pS → pS} {j : Nat} (hj : j ≠ 2) (q : pS) : pRk B sz one nt (j + 1) q = pLoop (pJoin B sz (pRk B sz one nt j)) (nI (4 - j)) 160 (pRk B sz one nt j q) := by
  rw [pRk, if_neg (fun z => hj z.1), if_neg hj]
theorem pRk_2 {B : Nat → Int32} {sz : Nat} {one nt : pS → pS} (q : pS) : pRk B sz one nt 3 q = if q.2.1 = nI 13 then nt q else pLoop (pJoin B sz (pRk B sz one nt 2)) (nI 2) 1 (pRk B sz one nt 2 q) := by
  rw [pRk]
  by_cases h : q.2.1 = nI 13
  · rw [if_pos ⟨rfl, h⟩, if_pos h]
  · rw [if_neg (fun z => h z.2), if_neg h, if_pos rfl]
theorem c_X6_read (l : Launch) (G : mG) (ad : Nat → Nat) (sh : Nat → Option mSh) (sz : Nat) (B : Nat → Int32) : ∀ d o : Nat, o + d = 5 → (∀ (V : mV) (q : pS), (TpOk sh V sz B q) → mM l yX6_readOne wsX6_readOne ({ frames := 12 + 8 * d, cells := 0, slots := 0, locals := 400 + 200 * d } : Room) G ad sh V [.ref (ad 1), .int (nI o)] 0 0 (mPv ad sh (fun V' => (TpOk sh V' sz B ((pD B sz d).1 q)) ∧ (TpFr V V')))) ∧ (∀ (V : mV) (q : pS), (TpOk sh V sz B q) → mM l yX6_readRank wsX6_readRank ({ frames := 13 + 8 * d + 0, cells := 0, slots := 0, locals := 425 + 200 * d + 26 * 0 } : Room) G ad sh V [.ref (ad 1), .int (nI 5), .int (nI o)] 0 0 (mPv ad sh (fun V' => (TpOk sh V' sz B ((pD B sz d).2 0 q)) ∧ (TpFr V V')))) ∧ (∀ (V : mV) (q : pS), (TpOk sh V sz B q) → mM l yX6_readRank wsX6_readRank ({ frames := 13 + 8 * d + 1, cells := 0, slots := 0, locals := 425 + 200 * d + 26 * 1 } : Room) G ad sh V [.ref (ad 1), .int (nI 4), .int (nI o)] 0 0 (mPv ad sh (fun V' => (TpOk sh V' sz B ((pD B sz d).2 1 q)) ∧ (TpFr V V')))) ∧ (∀ (V : mV) (q : pS), (TpOk sh V sz B q) → mM l yX6_readRank wsX6_readRank ({ frames := 13 + 8 * d + 2, cells := 0, slots := 0, locals := 425 + 200 * d + 26 * 2 } : Room) G ad sh V [.ref (ad 1), .int (nI 3), .int (nI o)] 0 0 (mPv ad sh (fun V' => (TpOk sh V' sz B ((pD B sz d).2 2 q)) ∧ (TpFr V V')))) ∧ (∀ (V : mV) (q : pS), (TpOk sh V sz B q) → mM l yX6_readRank wsX6_readRank ({ frames := 13 + 8 * d + 3, cells := 0, slots := 0, locals := 425 + 200 * d + 26 * 3 } : Room) G ad sh V [.ref (ad 1), .int (nI 2), .int (nI o)] 0 0 (mPv ad sh (fun V' => (TpOk sh V' sz B ((pD B sz d).2 3 q)) ∧ (TpFr V V')))) ∧ (∀ (V : mV) (q : pS), (TpOk sh V sz B q) → mM l yX6_readRank wsX6_readRank ({ frames := 13 + 8 * d + 4, cells := 0, slots := 0, locals := 425 + 200 * d + 26 * 4 } : Room) G ad sh V [.ref (ad 1), .int (nI 1), .int (nI o)] 0 0 (mPv ad sh (fun V' => (TpOk sh V' sz B ((pD B sz d).2 4 q)) ∧ (TpFr V V')))) ∧ (∀ (V : mV) (q : pS), (TpOk sh V sz B q) → mM l yX6_readRank wsX6_readRank ({ frames := 13 + 8 * d + 5, cells := 0, slots := 0, locals := 425 + 200 * d + 26 * 5 } : Room) G ad sh V [.ref (ad 1), .int (nI 0), .int (nI o)] 0 0 (mPv ad sh (fun V' => (TpOk sh V' sz B ((pD B sz d).2 5 q)) ∧ (TpFr V V')))) := by
  intro d
  induction d with
  | zero =>
    intro o ho
    obtain rfl : o = 5 := by omega
    have hone := c_X6_readOne_0 l G ad sh
    have hone := fun V q hT => hone V sz B q hT
    have k0 := fun V q hT => c_X6_readRank_5 l G ad sh V sz B q 0 5 (pD B sz 0).1 hT hone
    have k1 : ∀ (V : mV) (q : pS), (TpOk sh V sz B q) → mM l yX6_readRank wsX6_readRank ({ frames := 13 + 8 * 0 + 1, cells := 0, slots := 0, locals := 425 + 200 * 0 + 26 * 1 } : Room) G ad sh V [.ref (ad 1), .int (nI 4), .int (nI 5)] 0 0 (mPv ad sh (fun V' => (TpOk sh V' sz B ((pRk B sz (pD B sz 0).1 (pNt B sz 0) 1) q)) ∧ (TpFr V V'))) := by
      intro V q hT
      rw [pRk_s (by decide)]
      exact c_X6_readRank_4 l G ad sh V sz B q 0 5 (pRk B sz (pD B sz 0).1 (pNt B sz 0) 0) hT (by omega) k0
    have k2 : ∀ (V : mV) (q : pS), (TpOk sh V sz B q) → mM l yX6_readRank wsX6_readRank ({ frames := 13 + 8 * 0 + 2, cells := 0, slots := 0, locals := 425 + 200 * 0 + 26 * 2 } : Room) G ad sh V [.ref (ad 1), .int (nI 3), .int (nI 5)] 0 0 (mPv ad sh (fun V' => (TpOk sh V' sz B ((pRk B sz (pD B sz 0).1 (pNt B sz 0) 2) q)) ∧ (TpFr V V'))) := by
      intro V q hT
      rw [pRk_s (by decide)]
      exact c_X6_readRank_3 l G ad sh V sz B q 0 5 (pRk B sz (pD B sz 0).1 (pNt B sz 0) 1) hT (by omega) k1
    have k3 : ∀ (V : mV) (q : pS), (TpOk sh V sz B q) → mM l yX6_readRank wsX6_readRank ({ frames := 13 + 8 * 0 + 3, cells := 0, slots := 0, locals := 425 + 200 * 0 + 26 * 3 } : Room) G ad sh V [.ref (ad 1), .int (nI 2), .int (nI 5)] 0 0 (mPv ad sh (fun V' => (TpOk sh V' sz B ((pRk B sz (pD B sz 0).1 (pNt B sz 0) 3) q)) ∧ (TpFr V V'))) := by
      intro V q hT
      rw [pRk_2]
      exact c_X6_readRank_20 l G ad sh V sz B q (pRk B sz (pD B sz 0).1 (pNt B sz 0) 2) hT k2
    have k4 : ∀ (V : mV) (q : pS), (TpOk sh V sz B q) → mM l yX6_readRank wsX6_readRank ({ frames := 13 + 8 * 0 + 4, cells := 0, slots := 0, locals := 425 + 200 * 0 + 26 * 4 } : Room) G ad sh V [.ref (ad 1), .int (nI 1), .int (nI 5)] 0 0 (mPv ad sh (fun V' => (TpOk sh V' sz B ((pRk B sz (pD B sz 0).1 (pNt B sz 0) 4) q)) ∧ (TpFr V V'))) := by
      intro V q hT
      rw [pRk_s (by decide)]
      exact c_X6_readRank_1 l G ad sh V sz B q 0 5 (pRk B sz (pD B sz 0).1 (pNt B sz 0) 3) hT (by omega) k3
    have k5 : ∀ (V : mV) (q : pS), (TpOk sh V sz B q) → mM l yX6_readRank wsX6_readRank ({ frames := 13 + 8 * 0 + 5, cells := 0, slots := 0, locals := 425 + 200 * 0 + 26 * 5 } : Room) G ad sh V [.ref (ad 1), .int (nI 0), .int (nI 5)] 0 0 (mPv ad sh (fun V' => (TpOk sh V' sz B ((pRk B sz (pD B sz 0).1 (pNt B sz 0) 5) q)) ∧ (TpFr V V'))) := by
      intro V q hT
      rw [pRk_s (by decide)]
      exact c_X6_readRank_0 l G ad sh V sz B q 0 5 (pRk B sz (pD B sz 0).1 (pNt B sz 0) 4) hT (by omega) k4
    rw [pD_2]
    exact ⟨hone, k0, k1, k2, k3, k4, k5⟩
  | succ d ih =>
    intro o ho
    obtain ⟨i0, i1, i2, i3, i4, i5, i6⟩ := ih (o + 1) (by omega)
    have hone := fun V q hT => c_X6_readOne_s l G ad sh V sz B q d o hT ho i0 i6
    have k0 := fun V q hT => c_X6_readRank_5 l G ad sh V sz B q (d + 1) o (pD B sz (d + 1)).1 hT hone
    have k1 : ∀ (V : mV) (q : pS), (TpOk sh V sz B q) → mM l yX6_readRank wsX6_readRank ({ frames := 13 + 8 * (d + 1) + 1, cells := 0, slots := 0, locals := 425 + 200 * (d + 1) + 26 * 1 } : Room) G ad sh V [.ref (ad 1), .int (nI 4), .int (nI o)] 0 0 (mPv ad sh (fun V' => (TpOk sh V' sz B ((pRk B sz (pD B sz (d + 1)).1 (pNt B sz (d + 1)) 1) q)) ∧ (TpFr V V'))) := by
      intro V q hT
      rw [pRk_s (by decide)]
      exact c_X6_readRank_4 l G ad sh V sz B q (d + 1) o (pRk B sz (pD B sz (d + 1)).1 (pNt B sz (d + 1)) 0) hT (by omega) k0
    have k2 : ∀ (V : mV) (q : pS), (TpOk sh V sz B q) → mM l yX6_readRank wsX6_readRank ({ frames := 13 + 8 * (d + 1) + 2, cells := 0, slots := 0, locals := 425 + 200 * (d + 1) + 26 * 2 } : Room) G ad sh V [.ref (ad 1), .int (nI 3), .int (nI o)] 0 0 (mPv ad sh (fun V' => (TpOk sh V' sz B ((pRk B sz (pD B sz (d + 1)).1 (pNt B sz (d + 1)) 2) q)) ∧ (TpFr V V'))) := by
      intro V q hT
      rw [pRk_s (by decide)]
      exact c_X6_readRank_3 l G ad sh V sz B q (d + 1) o (pRk B sz (pD B sz (d + 1)).1 (pNt B sz (d + 1)) 1) hT (by omega) k1
    have k3 : ∀ (V : mV) (q : pS), (TpOk sh V sz B q) → mM l yX6_readRank wsX6_readRank ({ frames := 13 + 8 * (d + 1) + 3, cells := 0, slots := 0, locals := 425 + 200 * (d + 1) + 26 * 3 } : Room) G ad sh V [.ref (ad 1), .int (nI 2), .int (nI o)] 0 0 (mPv ad sh (fun V' => (TpOk sh V' sz B ((pRk B sz (pD B sz (d + 1)).1 (pNt B sz (d + 1)) 3) q)) ∧ (TpFr V V'))) := by
      intro V q hT
      rw [pRk_2]
      exact c_X6_readRank_2s l G ad sh V sz B q d o (pRk B sz (pD B sz (d + 1)).1 (pNt B sz (d + 1)) 2) hT ho i4 k2
    have k4 : ∀ (V : mV) (q : pS), (TpOk sh V sz B q) → mM l yX6_readRank wsX6_readRank ({ frames := 13 + 8 * (d + 1) + 4, cells := 0, slots := 0, locals := 425 + 200 * (d + 1) + 26 * 4 } : Room) G ad sh V [.ref (ad 1), .int (nI 1), .int (nI o)] 0 0 (mPv ad sh (fun V' => (TpOk sh V' sz B ((pRk B sz (pD B sz (d + 1)).1 (pNt B sz (d + 1)) 4) q)) ∧ (TpFr V V'))) := by
      intro V q hT
      rw [pRk_s (by decide)]
      exact c_X6_readRank_1 l G ad sh V sz B q (d + 1) o (pRk B sz (pD B sz (d + 1)).1 (pNt B sz (d + 1)) 3) hT (by omega) k3
    have k5 : ∀ (V : mV) (q : pS), (TpOk sh V sz B q) → mM l yX6_readRank wsX6_readRank ({ frames := 13 + 8 * (d + 1) + 5, cells := 0, slots := 0, locals := 425 + 200 * (d + 1) + 26 * 5 } : Room) G ad sh V [.ref (ad 1), .int (nI 0), .int (nI o)] 0 0 (mPv ad sh (fun V' => (TpOk sh V' sz B ((pRk B sz (pD B sz (d + 1)).1 (pNt B sz (d + 1)) 5) q)) ∧ (TpFr V V'))) := by
      intro V q hT
      rw [pRk_s (by decide)]
      exact c_X6_readRank_0 l G ad sh V sz B q (d + 1) o (pRk B sz (pD B sz (d + 1)).1 (pNt B sz (d + 1)) 4) hT (by omega) k4
    rw [pD_2]
    exact ⟨hone, k0, k1, k2, k3, k4, k5⟩
