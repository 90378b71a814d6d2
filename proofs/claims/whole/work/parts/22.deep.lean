/-! orders and duels of all depths -/
theorem c_X8_tryOrders_all (l : Launch) (G : mG) (ad : Nat → Nat) (sh : Nat → Option mSh) (t ta tb tl ne ng : Nat) (ask : fAsks) : ∀ d : Nat, ∀ (V : mV) (z : fZ) (P : Nat → Bool) (tn gn : Nat) (dg ga : Int32), (ThOk sh V t ta tb tl ne ng ask z) → (tn + d = ne) → (gn < 32) → (∀ k, k < 5 → (gn / 2 ^ k % 2 = 0 ↔ P k = false)) → mM l yX8_tryOrders wsX8_tryOrders ({ frames := 20 + 2 * d, cells := 0, slots := 0, locals := 600 + 60 * d } : Room) G ad sh V [.ref (ad 5), .int (nI tn), .int (nI gn), .int dg, .int ga] 0 0 (mPv ad sh (fun V' => (ThFr V V') ∧ ((V' 5 1, V' 5 2) = zOrd ask ne ng d z P dg ga (V 5 1, V 5 2)))) := by
  intro d
  induction d with
  | zero =>
    intro V z P tn gn dg ga hH htn hgn hP
    exact c_X8_tryOrders_0 l G ad sh V t ta tb tl ne ng ask z P 0 tn gn dg ga hH htn hgn hP
  | succ d ih =>
    intro V z P tn gn dg ga hH htn hgn hP
    exact c_X8_tryOrders_s l G ad sh V t ta tb tl ne ng ask z P d tn gn dg ga hH htn hgn hP ih
theorem c_X8_tryDuel_all (l : Launch) (G : mG) (ad : Nat → Nat) (sh : Nat → Option mSh) (t ta tb tl ne ng : Nat) (ask : fAsks) : ∀ n : Nat, n < 100 → ∀ (V : mV) (z : fZ) (i j : Nat), (ThOk sh V t ta tb tl ne ng ask z) → (i < ne) → (j < ne) → mM l yX8_tryDuel wsX8_tryDuel ({ frames := 20 + 2 * n, cells := 0, slots := 0, locals := 600 + 60 * n } : Room) G ad sh V [.ref (ad 5), .ref (ad (80 + 4 + i)), .ref (ad (80 + 4 + j)), .int (nI n)] 0 0 (mPi ad sh (fun r V' => (zDuel ask ng n z i j).1 = r ∧ (ThFr V V') ∧ (n ≠ 0 → V' 5 3 = (zDuel ask ng n z i j).2))) := by
  intro n
  induction n with
  | zero =>
    intro hn V z i j hH hi hj
    exact c_X8_tryDuel_0 l G ad sh V t ta tb tl ne ng ask z 0 i j hH hi hj
  | succ n ih =>
    intro hn V z i j hH hi hj
    exact c_X8_tryDuel_s l G ad sh V t ta tb tl ne ng ask z n i j hH hi hj (by omega) (ih (by omega))
