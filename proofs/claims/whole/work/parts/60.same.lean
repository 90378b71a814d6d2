/-! the two sides' thoughts are the same: duels, lowest terms, orders -/
/-- a fold that keeps the first of most -/
def mF (can : Nat → Prop) [∀ k, Decidable (can k)] (v : Nat → Int32) (m0 : Int32) : Nat → Int32 × Int32
  | 0 => (-1, m0)
  | k + 1 => if can k then (if (mF can v m0 k).1 = -1 ∨ (mF can v m0 k).2 < v k then (nI (100 * (k / 16) + k % 16), v k) else mF can v m0 k) else mF can v m0 k
theorem zD_lo {f : Nat → Int32} : ∀ n, -1000000 ≤ (zDfold f n).2
  | 0 => Int32.le_refl _
  | n + 1 => by
    have ih := zD_lo (f := f) n
    rw [zDfold]
    split
    · rename_i h
      exact Int32.le_trans ih (Int32.le_of_lt h)
    · exact ih
theorem zDfold_congr {f f' : Nat → Int32} : ∀ {n : Nat}, (∀ k, k < n → f k = f' k) → zDfold f n = zDfold f' n
  | 0, _ => rfl
  | n + 1, h => by rw [zDfold, zDfold, zDfold_congr (fun k hk => h k (by omega)), h n (by omega)]
theorem mF_congr {can : Nat → Prop} [∀ k, Decidable (can k)] {v v' : Nat → Int32} {m0 : Int32} : ∀ {n : Nat}, (∀ k, k < n → can k → v k = v' k) → mF can v m0 n = mF can v' m0 n
  | 0, _ => rfl
  | n + 1, h => by
    rw [mF, mF, mF_congr (fun k hk => h k (by omega))]
    by_cases hc : can n
    · rw [if_pos hc, if_pos hc, h n (by omega) hc]
    · rw [if_neg hc, if_neg hc]
theorem mF_zD {can : Nat → Prop} [∀ k, Decidable (can k)] {v : Nat → Int32} {m0 : Int32} (hv : ∀ k, can k → -1000000 < v k) : ∀ n, n < 2 ^ 20 → ((zDfold (fun k => if can k then v k else -1000000) n) = (-1, -1000000) ∧ mF can v m0 n = (-1, m0)) ∨ (¬ (zDfold (fun k => if can k then v k else -1000000) n).1 = -1 ∧ mF can v m0 n = zDfold (fun k => if can k then v k else -1000000) n)
  | 0, _ => Or.inl ⟨rfl, rfl⟩
  | n + 1, hn => by
    have ih := mF_zD (m0 := m0) hv n (by omega)
    rw [zDfold, mF]
    by_cases hc : can n
    · rw [if_pos hc, if_pos hc]
      have hne : ¬ nI (100 * (n / 16) + n % 16) = -1 := m_nneg (by omega)
      rcases ih with ⟨h1, h2⟩ | ⟨h1, h2⟩
      · rw [h1, h2, if_pos (hv n hc), if_pos (Or.inl rfl)]
        exact Or.inr ⟨hne, rfl⟩
      · rw [h2]
        by_cases h3 : (zDfold (fun k => if can k then v k else -1000000) n).2 < v n
        · rw [if_pos h3, if_pos (Or.inr h3)]
          exact Or.inr ⟨hne, rfl⟩
        · rw [if_neg h3, if_neg (fun z => z.elim h1 h3)]
          exact Or.inr ⟨h1, rfl⟩
    · rw [if_neg hc, if_neg hc]
      have h3 : ¬ (zDfold (fun k => if can k then v k else -1000000) n).2 < -1000000 := by
        rcases ih with ⟨h1, h2⟩ | ⟨h1, h2⟩
        · rw [h1]
          exact Int32.lt_irrefl
        · intro z
          have := zD_lo (f := fun k => if can k then v k else -1000000) n
          exact absurd z (Int32.not_lt.mpr this)
      rw [if_neg h3]
      exact ih
theorem mF_zDb {can : Nat → Prop} [∀ k, Decidable (can k)] {v : Nat → Int32} {m0 : Int32} {b : Nat} (hv : ∀ k, k < b → can k → -1000000 < v k) (n : Nat) (hnb : n ≤ b) (hn : n < 2 ^ 20) : ((zDfold (fun k => if can k then v k else -1000000) n) = (-1, -1000000) ∧ mF can v m0 n = (-1, m0)) ∨ (¬ (zDfold (fun k => if can k then v k else -1000000) n).1 = -1 ∧ mF can v m0 n = zDfold (fun k => if can k then v k else -1000000) n) := by
  have e1 : zDfold (fun k => if can k then v k else -1000000) n = zDfold (fun k => if can k then (if k < b then v k else nI 0) else -1000000) n := zDfold_congr (fun k hk => by rw [if_pos (show k < b by omega)])
  have e2 : mF can v m0 n = mF can (fun k => if k < b then v k else nI 0) m0 n := mF_congr (fun k hk _ => (if_pos (show k < b by omega)).symm)
  rw [e1, e2]
  refine mF_zD (fun k hc => ?_) n hn
  by_cases hb : k < b
  · rw [if_pos hb]
    exact hv k hb hc
  · rw [if_neg hb]
    decide
theorem mF_one (ask : fAsks) (z : fZ) (u : Nat) : ∀ n, n < 2 ^ 20 → ((zOneF ask z u n).1 = false ↔ (mF (fun k => zCan ask z u (k / 16) (k % 16)) (fun k => zGa ask z u (k / 16) (k % 16)) (nI 0) n).1 = -1) ∧ (zOneF ask z u n).2 = (mF (fun k => zCan ask z u (k / 16) (k % 16)) (fun k => zGa ask z u (k / 16) (k % 16)) (nI 0) n).2
  | 0, _ => ⟨⟨fun _ => rfl, fun _ => rfl⟩, rfl⟩
  | n + 1, hn => by
    obtain ⟨h1, h2⟩ := mF_one ask z u n (by omega)
    rw [zOneF, mF]
    by_cases hc : zCan ask z u (n / 16) (n % 16)
    · rw [if_pos hc, if_pos hc, h2]
      have hne : ¬ nI (100 * (n / 16) + n % 16) = -1 := m_nneg (by omega)
      by_cases h3 : (mF (fun k => zCan ask z u (k / 16) (k % 16)) (fun k => zGa ask z u (k / 16) (k % 16)) (nI 0) n).1 = -1 ∨ (mF (fun k => zCan ask z u (k / 16) (k % 16)) (fun k => zGa ask z u (k / 16) (k % 16)) (nI 0) n).2 < zGa ask z u (n / 16) (n % 16)
      · rw [if_pos h3, if_pos (h3.imp h1.mpr id)]
        exact ⟨⟨fun z => (by cases z), fun z => absurd z hne⟩, rfl⟩
      · rw [if_neg h3, if_neg (fun z => h3 (z.imp h1.mp id))]
        exact ⟨⟨fun z => (by cases z), fun z => absurd (Or.inl z) h3⟩, rfl⟩
    · rw [if_neg hc, if_neg hc]
      exact ⟨h1, h2⟩
theorem zGa_b {z : fZ} {ne ng e g p : Nat} {x : sT} (h : ZOk z ne ng) (hx : WfT x) (he : e < ne) : -1100 ≤ (zGa (askT x) z e g p).toInt ∧ (zGa (askT x) z e g p).toInt ≤ 2000 := by
  obtain ⟨co, h1, h2⟩ := zCo_b (g := g) h hx he (zMk z e g p)
  obtain ⟨li, h3, h4⟩ := zLi_b (g := g) h hx he (zMk z e g p)
  rw [zGa, h2, h4, pk_sub_toInt (by omega) (by omega)]
  omega
theorem zOne_b {z : fZ} {ne ng e : Nat} {x : sT} (h : ZOk z ne ng) (hx : WfT x) (he : e < ne) : ∀ n, -1100 ≤ (zOneF (askT x) z e n).2.toInt ∧ (zOneF (askT x) z e n).2.toInt ≤ 2000
  | 0 => by rw [zOneF]; decide
  | n + 1 => by
    have ih := zOne_b h hx he n
    have hg := zGa_b (g := n / 16) (p := n % 16) h hx he
    rw [zOneF]
    split
    · show _ ≤ (if _ then _ else _ : Int32).toInt ∧ (if _ then _ else _ : Int32).toInt ≤ _
      split
      · exact hg
      · exact ih
    · exact ih
theorem m_lo {x : Int32} (h : -1000000 < x.toInt) : -1000000 < x := by
  rw [Int32.lt_iff_toInt_lt]
  exact h
theorem m_neg0 : -(nI 0) = nI 0 := by decide
theorem zDuel_1 {z : fZ} {ne ng i j : Nat} {x : sT} (h : ZOk z ne ng) (hx : WfT x) (hi : i < ne) (h6 : ng ≤ 6) : zDuel (askT x) ng 1 z i j = ((mF (fun k => zCan (askT x) z i (k / 16) (k % 16)) (fun k => zGa (askT x) z i (k / 16) (k % 16)) (nI 0) (ng * 16)).2, (mF (fun k => zCan (askT x) z i (k / 16) (k % 16)) (fun k => zGa (askT x) z i (k / 16) (k % 16)) (nI 0) (ng * 16)).1) := by
  have hf : (fun k => if zCan (askT x) z i (k / 16) (k % 16) then zGa (askT x) z i (k / 16) (k % 16) - (zDuel (askT x) ng 0 (zBi (askT x) z i (k / 16) (k % 16)) j i).1 else -1000000) = (fun k => if zCan (askT x) z i (k / 16) (k % 16) then zGa (askT x) z i (k / 16) (k % 16) else -1000000) := by
    funext k
    rw [zDuel, Int32.sub_eq_add_neg, m_neg0, m_a0]
  rw [zDuel, hf]
  rcases mF_zD (can := fun k => zCan (askT x) z i (k / 16) (k % 16)) (v := fun k => zGa (askT x) z i (k / 16) (k % 16)) (m0 := nI 0) (fun k _ => m_lo (by have := zGa_b (g := k / 16) (p := k % 16) h hx hi; omega)) (ng * 16) (by omega) with ⟨h1, h2⟩ | ⟨h1, h2⟩
  · rw [h1, h2, if_pos rfl, zDuel]
    show (-(nI 0), (-1 : Int32)) = (nI 0, -1)
    rw [m_neg0]
  · rw [if_neg h1, h2]
theorem zDuel_one {z : fZ} {ne ng i j : Nat} {x : sT} (h : ZOk z ne ng) (hx : WfT x) (hi : i < ne) (h6 : ng ≤ 6) : (zDuel (askT x) ng 1 z i j).1 = (zOneF (askT x) z i (ng * 16)).2 := by rw [zDuel_1 h hx hi h6, (mF_one _ _ _ _ (by omega)).2]
/-- a duel, as the reference folds it -/
def zDuM (ask : fAsks) (ng n : Nat) (z : fZ) (i j : Nat) : Nat → Int32 × Int32 := mF (fun k => zCan ask z i (k / 16) (k % 16)) (fun k => zGa ask z i (k / 16) (k % 16) - (if n = 1 then nI 0 else (zOneF ask (zBi ask z i (k / 16) (k % 16)) j (ng * 16)).2)) (if n = 1 then nI 0 else -(zOneF ask z j (ng * 16)).2)
theorem zDuM_eq {z : fZ} {ne ng i j n : Nat} {x : sT} (h : ZOk z ne ng) (hx : WfT x) (h5 : ne ≤ 5) (hi : i < ne) (hj : j < ne) (h6 : ng ≤ 6) (hn : n = 1 ∨ n = 2) : zDuel (askT x) ng n z i j = ((zDuM (askT x) ng n z i j (ng * 16)).2, (zDuM (askT x) ng n z i j (ng * 16)).1) := by
  rcases hn with rfl | rfl
  · rw [zDuel_1 h hx hi h6, zDuM]
    have e : (fun k => zGa (askT x) z i (k / 16) (k % 16) - (if 1 = 1 then nI 0 else (zOneF (askT x) (zBi (askT x) z i (k / 16) (k % 16)) j (ng * 16)).2)) = (fun k => zGa (askT x) z i (k / 16) (k % 16)) := by
      funext k
      rw [if_pos rfl, Int32.sub_eq_add_neg, m_neg0, m_a0]
    rw [e, if_pos rfl]
  · have hf : zDfold (fun k => if zCan (askT x) z i (k / 16) (k % 16) then zGa (askT x) z i (k / 16) (k % 16) - (zDuel (askT x) ng 1 (zBi (askT x) z i (k / 16) (k % 16)) j i).1 else -1000000) (ng * 16) = zDfold (fun k => if zCan (askT x) z i (k / 16) (k % 16) then zGa (askT x) z i (k / 16) (k % 16) - (zOneF (askT x) (zBi (askT x) z i (k / 16) (k % 16)) j (ng * 16)).2 else -1000000) (ng * 16) := by
      refine zDfold_congr (fun k hk => ?_)
      by_cases hc : zCan (askT x) z i (k / 16) (k % 16)
      · rw [if_pos hc, if_pos hc, zDuel_one (h.bi hx h5 hi (by omega) hc) hx hj h6]
      · rw [if_neg hc, if_neg hc]
    have e : (fun k => zGa (askT x) z i (k / 16) (k % 16) - (if 2 = 1 then nI 0 else (zOneF (askT x) (zBi (askT x) z i (k / 16) (k % 16)) j (ng * 16)).2)) = (fun k => zGa (askT x) z i (k / 16) (k % 16) - (zOneF (askT x) (zBi (askT x) z i (k / 16) (k % 16)) j (ng * 16)).2) := by
      funext k
      rw [if_neg (by decide)]
    rw [zDuel, hf, zDuel_one h hx hj h6, zDuM, e, if_neg (show ¬ (2 : Nat) = 1 by decide)]
    have hb : ∀ k, k < ng * 16 → zCan (askT x) z i (k / 16) (k % 16) → -1000000 < zGa (askT x) z i (k / 16) (k % 16) - (zOneF (askT x) (zBi (askT x) z i (k / 16) (k % 16)) j (ng * 16)).2 := by
      intro k hk hc
      have b1 := zGa_b (g := k / 16) (p := k % 16) h hx hi
      have b2 := zOne_b (h.bi hx h5 hi (show k / 16 < ng by omega) hc) hx hj (ng * 16)
      apply m_lo
      rw [Int32.toInt_sub, Int.bmod_eq_of_le (by omega) (by omega)]
      omega
    rcases mF_zDb (m0 := -(zOneF (askT x) z j (ng * 16)).2) hb (ng * 16) (Nat.le_refl _) (by omega) with ⟨h1, h2⟩ | ⟨h1, h2⟩
    · rw [h1, h2, if_pos rfl]
    · rw [if_neg h1, h2]
/-! lowest terms -/
theorem fDiv_gcd {a b : Nat} (hb : 0 < b) : ∀ d, Nat.gcd a b ≤ d → fDiv a b d = Nat.gcd a b
  | 0, h => by
    have := Nat.gcd_pos_of_pos_right a hb
    omega
  | d + 1, h => by
    have hg := Nat.gcd_pos_of_pos_right a hb
    rw [fDiv]
    by_cases h0 : d = 0
    · rw [if_pos h0]
      omega
    · rw [if_neg h0]
      by_cases h1 : a % (d + 1) = 0 ∧ b % (d + 1) = 0
      · rw [if_pos h1]
        have := Nat.le_of_dvd hg (Nat.dvd_gcd (Nat.dvd_of_mod_eq_zero h1.1) (Nat.dvd_of_mod_eq_zero h1.2))
        omega
      · rw [if_neg h1]
        refine fDiv_gcd hb d ?_
        have : Nat.gcd a b ≠ d + 1 := fun z => h1 ⟨by rw [← z]; exact Nat.mod_eq_zero_of_dvd (Nat.gcd_dvd_left a b), by rw [← z]; exact Nat.mod_eq_zero_of_dvd (Nat.gcd_dvd_right a b)⟩
        omega
theorem low_eq {a b pt : Nat} (hb : 0 < b) (hp : pt < 2) : (if a = 0 then pt else (if pt = 0 then a else b) / Nat.gcd a b) = if pt = 0 then a / fDiv a b b else b / fDiv a b b := by
  rw [fDiv_gcd hb b (Nat.le_of_dvd hb (Nat.gcd_dvd_right a b))]
  by_cases h : a = 0
  · subst h
    rw [if_pos rfl, Nat.gcd_zero_left, Nat.zero_div, Nat.div_self hb]
    by_cases h0 : pt = 0
    · rw [if_pos h0, h0]
    · rw [if_neg h0]
      omega
  · rw [if_neg h]
    by_cases h0 : pt = 0
    · rw [if_pos h0, if_pos h0]
    · rw [if_neg h0, if_neg h0]
/-! orders -/
def nFold {α : Type} (g : Nat → α → α) : Nat → α → α
  | 0, q => q
  | k + 1, q => g k (nFold g k q)
theorem nFold_congr {α : Type} {g g' : Nat → α → α} : ∀ n q, (∀ k, k < n → ∀ q, g k q = g' k q) → nFold g n q = nFold g' n q
  | 0, _, _ => rfl
  | n + 1, q, h => by rw [nFold, nFold, nFold_congr n q (fun k hk => h k (by omega)), h n (by omega)]
theorem nFold_id {α : Type} {g : Nat → α → α} : ∀ n q, (∀ k, k < n → ∀ q, g k q = q) → nFold g n q = q
  | 0, _, _ => rfl
  | n + 1, q, h => by rw [nFold, nFold_id n q (fun k hk => h k (by omega)), h n (by omega)]
theorem nFold_add {α : Type} (g : Nat → α → α) (a : Nat) : ∀ c q, nFold g (a + c) q = nFold (fun m q => g (a + m) q) c (nFold g a q)
  | 0, _ => rfl
  | c + 1, q => by
    show g (a + c) (nFold g (a + c) q) = _
    rw [nFold_add g a c q]
    rfl
theorem nFold_mul {α : Type} (g : Nat → α → α) (b : Nat) : ∀ a q, nFold g (a * b) q = nFold (fun e q => nFold (fun m q => g (e * b + m) q) b q) a q
  | 0, _ => by rw [Nat.zero_mul]; rfl
  | a + 1, q => by
    rw [Nat.succ_mul, nFold_add, nFold_mul g b a q]
    rfl
theorem zTry_fold (f : Nat → Int32 × Int32 → Int32 × Int32) (P : Nat → Bool) (q : Int32 × Int32) : ∀ n, zTry f P q n = nFold (fun e q => if P e = true then q else f e q) n q
  | 0 => rfl
  | n + 1 => by
    rw [zTry, nFold, zTry_fold f P q n]
def vldR (n : Nat) : Nat → Nat → (Nat → Bool) → Bool
  | 0, _, _ => true
  | d + 1, m, P => !(P (m / n ^ d)) && vldR n d (m % n ^ d) (fun x => P x || x == m / n ^ d)
def gR (ask : fAsks) (ng n : Nat) : Nat → Nat → fZ → Int32
  | 0, _, _ => nI 0
  | d + 1, m, z => if (zBest ask z (m / n ^ d) (ng * 16)).1 = -1 then gR ask ng n d (m % n ^ d) z else (zBest ask z (m / n ^ d) (ng * 16)).2 + gR ask ng n d (m % n ^ d) (zBi ask z (m / n ^ d) ((zBest ask z (m / n ^ d) (ng * 16)).1.toNatClampNeg / 100) ((zBest ask z (m / n ^ d) (ng * 16)).1.toNatClampNeg % 100))
def dgR (n : Nat) : Nat → Nat → Int32 → Int32
  | 0, _, dg => dg
  | d + 1, m, dg => dgR n d (m % n ^ d) (nI 10 * dg + nI (m / n ^ d) + nI 1)
def stR (ask : fAsks) (ng n d : Nat) (z : fZ) (P : Nat → Bool) (dg ga : Int32) (m : Nat) (q : Int32 × Int32) : Int32 × Int32 := if vldR n d m P = true then (if q.1 = -1 ∨ q.2 < ga + gR ask ng n d m z then (dgR n d m dg, ga + gR ask ng n d m z) else q) else q
theorem zOrd_fold (ask : fAsks) {n : Nat} (hn : 0 < n) (ng : Nat) : ∀ d z P dg ga q, zOrd ask n ng d z P dg ga q = nFold (stR ask ng n d z P dg ga) (n ^ d) q
  | 0, z, P, dg, ga, q => by
    rw [zOrd, Nat.pow_zero]
    show _ = stR ask ng n 0 z P dg ga 0 q
    rw [stR, vldR, if_pos rfl, gR, dgR, m_a0]
  | d + 1, z, P, dg, ga, q => by
    rw [zOrd, zTry_fold, Nat.pow_succ, Nat.mul_comm, nFold_mul]
    refine nFold_congr _ _ (fun e he q => ?_)
    have hp : 0 < n ^ d := Nat.pow_pos hn
    have hd : ∀ m, m < n ^ d → (e * n ^ d + m) / n ^ d = e ∧ (e * n ^ d + m) % n ^ d = m := fun m hm => ⟨by rw [Nat.mul_comm, Nat.mul_add_div hp, Nat.div_eq_of_lt hm, Nat.add_zero], by rw [Nat.mul_comm, Nat.mul_add_mod, Nat.mod_eq_of_lt hm]⟩
    by_cases hP : P e = true
    · rw [if_pos hP, nFold_id]
      intro m hm q
      rw [stR, vldR, (hd m hm).1, hP]
      rfl
    · rw [if_neg hP]
      have hP' : P e = false := by
        cases h : P e with
        | true => exact absurd h hP
        | false => rfl
      rw [zNext]
      by_cases hb : (zBest ask z e (ng * 16)).1 = -1
      · rw [if_pos hb, zOrd_fold ask hn ng d]
        refine nFold_congr _ _ (fun m hm q => ?_)
        rw [stR, stR, vldR, gR, dgR, (hd m hm).1, (hd m hm).2, hP', if_pos hb]
        rfl
      · rw [if_neg hb, zOrd_fold ask hn ng d]
        refine nFold_congr _ _ (fun m hm q => ?_)
        rw [stR, stR, vldR, gR, dgR, (hd m hm).1, (hd m hm).2, hP', if_neg hb, Int32.add_assoc]
        rfl
theorem dgt_mod {n m j : Nat} : m % n ^ (j + 1) / n ^ j = m / n ^ j % n := by rw [Nat.pow_succ, Nat.mod_mul_right_div_self]
theorem mod_mod_pow {n m j : Nat} : m % n ^ (j + 1) % n ^ j = m % n ^ j := Nat.mod_mod_of_dvd m (Nat.pow_dvd_pow n (Nat.le_succ j))
theorem gnO_R (ask : fAsks) (ng n m : Nat) (z : fZ) (hm : m < n ^ n) : ∀ k, k ≤ n → (gnO ask ng z (odO n m) k).2 + gR ask ng n (n - k) (m % n ^ (n - k)) (gnO ask ng z (odO n m) k).1 = gR ask ng n n m z
  | 0, _ => by
    show nI 0 + gR ask ng n n (m % n ^ n) z = _
    rw [Nat.mod_eq_of_lt hm]
    exact Int32.zero_add _
  | k + 1, hk => by
    have ih := gnO_R ask ng n m z hm k (by omega)
    obtain ⟨j, hj⟩ : ∃ j, n - k = j + 1 := ⟨n - k - 1, by omega⟩
    rw [hj, gR, dgt_mod, mod_mod_pow, show m / n ^ j % n = odO n m k by rw [odO, dgt, show n - 1 - k = j by omega]] at ih
    rw [show n - (k + 1) = j by omega, gnO]
    by_cases hb : (zBest ask (gnO ask ng z (odO n m) k).1 (odO n m k) (ng * 16)).1 = -1
    · rw [if_pos hb] at ih ⊢
      exact ih
    · rw [if_neg hb] at ih ⊢
      rw [Int32.add_assoc]
      exact ih
theorem digO_R (n m : Nat) (hm : m < n ^ n) : ∀ k, k ≤ n → dgR n (n - k) (m % n ^ (n - k)) (nI (digO (odO n m) k)) = dgR n n m (nI 0)
  | 0, _ => by
    show dgR n n (m % n ^ n) (nI 0) = _
    rw [Nat.mod_eq_of_lt hm]
  | k + 1, hk => by
    have ih := digO_R n m hm k (by omega)
    obtain ⟨j, hj⟩ : ∃ j, n - k = j + 1 := ⟨n - k - 1, by omega⟩
    rw [hj, dgR, dgt_mod, mod_mod_pow, show m / n ^ j % n = odO n m k by rw [odO, dgt, show n - 1 - k = j by omega], pk_mul, nI_add, nI_add] at ih
    rw [show n - (k + 1) = j by omega, digO]
    exact ih
def allR (f : Nat → Bool) : Nat → Nat → Bool
  | 0, a => f a
  | d + 1, a => allR f d a && allR f d (a + 2 ^ d)
theorem allR_ok {f : Nat → Bool} : ∀ {d a : Nat}, allR f d a = true → ∀ m, a ≤ m → m < a + 2 ^ d → f m = true
  | 0, a, h, m, h1, h2 => by
    rw [allR] at h
    rw [Nat.pow_zero] at h2
    rw [show m = a by omega]
    exact h
  | d + 1, a, h, m, h1, h2 => by
    rw [allR, Bool.and_eq_true] at h
    rw [Nat.pow_succ] at h2
    by_cases hm : m < a + 2 ^ d
    · exact allR_ok h.1 m h1 hm
    · exact allR_ok h.2 m (by omega) (by omega)
def tvB (n m : Nat) : Bool := decide (m < n ^ n → (seenD n m n = 2 ^ n - 1 ↔ vldR n n m (fun _ => false) = true))
theorem tv_0 : allR (tvB 0) 12 0 = true := by decide +kernel
theorem tv_1 : allR (tvB 1) 12 0 = true := by decide +kernel
theorem tv_2 : allR (tvB 2) 12 0 = true := by decide +kernel
theorem tv_3 : allR (tvB 3) 12 0 = true := by decide +kernel
theorem tv_4 : allR (tvB 4) 12 0 = true := by decide +kernel
theorem tv_5 : allR (tvB 5) 12 0 = true := by decide +kernel
theorem tell_vld (n : Nat) (hn : n < 6) (m : Nat) (hm : m < n ^ n) : (seenD n m n = 2 ^ n - 1 ↔ vldR n n m (fun _ => false) = true) := by
  have h4 : n ^ n < 4096 := by
    match n, hn with
    | 0, _ => decide
    | 1, _ => decide
    | 2, _ => decide
    | 3, _ => decide
    | 4, _ => decide
    | 5, _ => decide
  have hc : allR (tvB n) 12 0 = true := by
    match n, hn with
    | 0, _ => exact tv_0
    | 1, _ => exact tv_1
    | 2, _ => exact tv_2
    | 3, _ => exact tv_3
    | 4, _ => exact tv_4
    | 5, _ => exact tv_5
  exact of_decide_eq_true (allR_ok hc m (Nat.zero_le _) (by omega)) hm
theorem ordF_R (ask : fAsks) {n : Nat} (h5 : n < 6) (ng : Nat) (z : fZ) : ∀ k, k ≤ n ^ n → ordF ask n ng z k = nFold (stR ask ng n n z (fun _ => false) (nI 0) (nI 0)) k (-1, nI 0)
  | 0, _ => rfl
  | k + 1, hk => by
    have hm : k < n ^ n := by omega
    have hg := gnO_R ask ng n k z hm n (Nat.le_refl _)
    rw [Nat.sub_self, gR, m_a0] at hg
    have hd := digO_R n k hm n (Nat.le_refl _)
    rw [Nat.sub_self, dgR] at hd
    rw [ordF, nFold, ← ordF_R ask h5 ng z k (by omega), stR, hg, hd, show nI 0 + gR ask ng n n k z = gR ask ng n n k z from Int32.zero_add _]
    by_cases ht : tellB n k
    · rw [if_pos ht, if_pos ((tell_vld n h5 k hm).mp ht)]
    · rw [if_neg ht, if_neg (fun z => ht ((tell_vld n h5 k hm).mpr z))]
theorem ordF_eq (ask : fAsks) {n : Nat} (h0 : 0 < n) (h5 : n < 6) (ng : Nat) (z : fZ) : ordF ask n ng z (n ^ n) = zOrdr ask z n ng := by
  rw [ordF_R ask h5 ng z (n ^ n) (Nat.le_refl _), zOrdr, zOrd_fold ask h0]
