/-! the reference: frames, what bites are -/
/-- what a query of the reference may leave otherwise -/
def MK (V V' : mV) : Prop := (∀ a, a ≠ 200 → a ≠ 201 → a ≠ 204 → a ≠ 219 → a ≠ 220 → V' a = V a) ∧ (∀ k, k < 72 → V' 201 k = V 201 k) ∧ (∀ k, k < 15 → V' 204 k = V 204 k) ∧ (∀ k, k ≠ 32 → k ≠ 36 → k ≠ 37 → V' 200 k = V 200 k)
theorem MK.rfl (V : mV) : MK V V := ⟨fun _ _ _ _ _ _ => Eq.refl _, fun _ _ => Eq.refl _, fun _ _ => Eq.refl _, fun _ _ _ _ => Eq.refl _⟩
theorem MK.trans {V V1 V2 : mV} (h : MK V V1) (h' : MK V1 V2) : MK V V2 := ⟨fun a a1 a2 a3 a4 a5 => (h'.1 a a1 a2 a3 a4 a5).trans (h.1 a a1 a2 a3 a4 a5), fun k hk => (h'.2.1 k hk).trans (h.2.1 k hk), fun k hk => (h'.2.2.1 k hk).trans (h.2.2.1 k hk), fun k a1 a2 a3 => (h'.2.2.2 k a1 a2 a3).trans (h.2.2.2 k a1 a2 a3)⟩
theorem MK.p200 {V V' : mV} (h : MK V V') {k : Nat} (x : Int32) (hk : k = 32 ∨ k = 36 ∨ k = 37) : MK V (mU V' 200 k x) := ⟨fun a a1 a2 a3 a4 a5 => by rw [mU_no _ _ a1]; exact h.1 a a1 a2 a3 a4 a5, fun k hk => by rw [mU_no _ _ (by decide)]; exact h.2.1 k hk, fun k hk => by rw [mU_no _ _ (by decide)]; exact h.2.2.1 k hk, fun j a1 a2 a3 => by rw [mU_ne _ _ (by omega)]; exact h.2.2.2 j a1 a2 a3⟩
theorem MK.p220 {V V' : mV} (h : MK V V') (k : Nat) (x : Int32) : MK V (mU V' 220 k x) := ⟨fun a a1 a2 a3 a4 a5 => by rw [mU_no _ _ a5]; exact h.1 a a1 a2 a3 a4 a5, fun k hk => by rw [mU_no _ _ (by decide)]; exact h.2.1 k hk, fun k hk => by rw [mU_no _ _ (by decide)]; exact h.2.2.1 k hk, fun j a1 a2 a3 => by rw [mU_no _ _ (by decide)]; exact h.2.2.2 j a1 a2 a3⟩
/-- what bites in thought may leave otherwise -/
def MB (V V' : mV) : Prop := (∀ a, a ≠ 200 → a ≠ 201 → a ≠ 204 → V' a = V a) ∧ (∀ k, k % 12 ≠ 11 → V' 201 k = V 201 k) ∧ (∀ k, k ≠ 32 → k ≠ 36 → k ≠ 37 → V' 200 k = V 200 k)
theorem MB.rfl (V : mV) : MB V V := ⟨fun _ _ _ _ => Eq.refl _, fun _ _ => Eq.refl _, fun _ _ _ _ => Eq.refl _⟩
theorem MB.trans {V V1 V2 : mV} (h : MB V V1) (h' : MB V1 V2) : MB V V2 := ⟨fun a a1 a2 a3 => (h'.1 a a1 a2 a3).trans (h.1 a a1 a2 a3), fun k hk => (h'.2.1 k hk).trans (h.2.1 k hk), fun k a1 a2 a3 => (h'.2.2 k a1 a2 a3).trans (h.2.2 k a1 a2 a3)⟩
theorem MB.p200 {V V' : mV} (h : MB V V') {k : Nat} (x : Int32) (hk : k = 32 ∨ k = 36 ∨ k = 37) : MB V (mU V' 200 k x) := ⟨fun a a1 a2 a3 => by rw [mU_no _ _ a1]; exact h.1 a a1 a2 a3, fun k hk => by rw [mU_no _ _ (by decide)]; exact h.2.1 k hk, fun j a1 a2 a3 => by rw [mU_ne _ _ (by omega)]; exact h.2.2 j a1 a2 a3⟩
/-- what is kept of V0 -/
def MKept (V V0 : mV) : Prop := (∀ k, k < 15 → V 219 k = V0 204 k) ∧ (∀ g, g < 6 → V 219 (15 + g) = V0 201 (12 * g + 11))
def MLaid (V V' : mV) : Prop := (∀ a, a ≠ 201 → a ≠ 204 → V' a = V a) ∧ (∀ k, k < 15 → V' 204 k = V 219 k) ∧ (∀ g, g < 6 → V' 201 (12 * g + 11) = V 219 (15 + g)) ∧ (∀ k, k % 12 ≠ 11 → V' 201 k = V 201 k)
theorem MK.back {V0 V1 V2 V3 : mV} (h1 : (∀ a, a ≠ 219 → V1 a = V0 a) ∧ MKept V1 V0) (h2 : MB V1 V2) (h3 : MLaid V2 V3) : MK V0 V3 := by
  have e219 : V2 219 = V1 219 := h2.1 219 (by decide) (by decide) (by decide)
  refine ⟨fun a a1 a2 a3 a4 a5 => ?_, fun k hk => ?_, fun k hk => ?_, fun k a1 a2 a3 => ?_⟩
  · rw [h3.1 a a2 a3, h2.1 a a1 a2 a3, h1.1 a a4]
  · by_cases hm : k % 12 = 11
    · have := h3.2.2.1 (k / 12) (by omega)
      rw [e219, h1.2.2 (k / 12) (by omega), show 12 * (k / 12) + 11 = k by omega] at this
      exact this
    · rw [h3.2.2.2 k hm, h2.2.1 k hm, h1.1 201 (by decide)]
  · rw [h3.2.1 k hk, e219, h1.2.1 k hk]
  · rw [h3.1 200 (by decide) (by decide), h2.2.2 k a1 a2 a3, h1.1 200 (by decide)]
theorem m_a0 (x : Int32) : x + nI 0 = x := Int32.add_zero x
theorem fBit_nI {mk k : Nat} (hm : mk < 1024) (hk : k < 10) : fBit (nI mk) k = nI (mk / 2 ^ k % 2) := m_bit (by omega) (by omega)
theorem fBit_t {mk k : Nat} (hm : mk < 1024) (hk : k < 10) (h : mk / 2 ^ k % 2 = 1) : ¬ fBit (nI mk) k = nI 0 := by
  rw [fBit_nI hm hk, h]
  decide
theorem fBit_f {mk k : Nat} (hm : mk < 1024) (hk : k < 10) (h : ¬ mk / 2 ^ k % 2 = 1) : fBit (nI mk) k = nI 0 := by
  rw [fBit_nI hm hk, show mk / 2 ^ k % 2 = 0 by omega]
section MZT
variable {sh : Nat → Option mSh} {V V' : mV} {z : fZ} {ne ng rl : Nat} {x : sT} {e g : Nat}
theorem MTx.eq {t : Nat} (h : MTx V t x) (h1 : V' 206 = V 206) (h2 : V' 207 = V 207) : MTx V' t x := by
  obtain ⟨a1, a2, a3, a4, a5, a6⟩ := h
  exact ⟨by rw [h2]; exact a1, by rw [h2]; exact a2, by rw [h2]; exact a3, by rw [h2]; exact a4, fun k hk => by rw [h1]; exact a5 k hk, a6⟩
theorem MZ.eq (h : MZ sh V z ne ng rl x) (h0 : V' 200 0 = V 200 0) (h2 : V' 200 2 = V 200 2) (h6 : V' 200 6 = V 200 6) (h12 : V' 200 12 = V 200 12) (hk : ∀ e, e < 5 → V' 202 e = V 202 e ∧ V' 203 e = V 203 e) (hr : ∀ k, k < 15 → V' 204 k = V 204 k) (hp : ∀ k, k < 72 → V' 201 k = V 201 k) (hc : V' 206 = V 206) (hs : V' 207 = V 207) : MZ sh V' z ne ng rl x := by
  have hne := h.ne5
  have hng := h.ng6
  obtain ⟨a1, ⟨a2, a3, a4⟩, a5, a6, ⟨a7, a8⟩, a9, a10⟩ := h
  exact ⟨a1, ⟨by rw [h2]; exact a2, by rw [h0]; exact a3, a4⟩, by rw [mv_congr V hne h6 (fun e he => hk e (by omega)) (fun k hk => hr k (by omega)) (fun k hk => hp k (by omega))]; exact a5, a6, ⟨by rw [h12]; exact a7, a8⟩, a9.eq hc hs, a10⟩
theorem MZ.k (h : MZ sh V z ne ng rl x) (hk : MK V V') : MZ sh V' z ne ng rl x := h.eq (hk.2.2.2 0 (by decide) (by decide) (by decide)) (hk.2.2.2 2 (by decide) (by decide) (by decide)) (hk.2.2.2 6 (by decide) (by decide) (by decide)) (hk.2.2.2 12 (by decide) (by decide) (by decide)) (fun e _ => ⟨by rw [hk.1 202 (by decide) (by decide) (by decide) (by decide) (by decide)], by rw [hk.1 203 (by decide) (by decide) (by decide) (by decide) (by decide)]⟩) hk.2.2.1 hk.2.1 (hk.1 206 (by decide) (by decide) (by decide) (by decide) (by decide)) (hk.1 207 (by decide) (by decide) (by decide) (by decide) (by decide))
theorem MZ.iKi (h : MZ sh V z ne ng rl x) (he : e < ne) : V 202 e = z (4 + e) 0 := (h.rKi he).trans (h.ok.ki he).1.symm
theorem MZ.iMo (h : MZ sh V z ne ng rl x) (he : e < ne) : V 203 e = z (4 + e) 1 := (h.rMo he).trans (h.ok.mo he).1.symm
theorem MZ.iJa (h : MZ sh V z ne ng rl x) (he : e < ne) : V 204 (3 * e) = z (4 + e) 2 := (h.rJa he).trans (h.ok.ja he).1.symm
theorem MZ.iSo (h : MZ sh V z ne ng rl x) (hg : g < ng) : V 201 (12 * g + 10) = z (10 + 2 * g) 1 := (h.rSo hg).trans (h.ok.so hg).1.symm
theorem MZ.iLe (h : MZ sh V z ne ng rl x) (hg : g < ng) : V 201 (12 * g + 11) = z (10 + 2 * g) 2 := (h.rLe hg).trans (h.ok.le hg).1.symm
end MZT
/-! shapes, marks as counters -/
def shM (z : fZ) (e g : Nat) : Nat := fShN (zn z (4 + e) 0) (zn z (4 + e) 1) (zn z (4 + e) 2) (zn z (10 + 2 * g) 1)
def zm (z : fZ) (e g p : Nat) : Nat := mkN (shM z e g) (zn z (10 + 2 * g) 2) p
section ZOM
variable {z : fZ} {ne ng e g : Nat}
theorem ZOk.spm (h : ZOk z ne ng) (he : e < ne) (hg : g < ng) : zSp z e g = nI (shM z e g) ∧ shM z e g < 128 := by
  have h1 := h.ki he
  have h2 := h.mo he
  have h3 := h.ja he
  have h4 := h.so hg
  have := fShape_nat h2.2 h3.2.1 h3.2.2 h1.2 h4.2
  rw [zSp, h1.1, h2.1, h3.1, h4.1]
  exact this
theorem ZOk.mkm (h : ZOk z ne ng) (he : e < ne) (hg : g < ng) {p : Nat} (hp : p < 16) : zMk z e g p = nI (zm z e g p) ∧ zm z e g p < 1024 := by
  obtain ⟨h1, h2⟩ := h.spm he hg
  have h3 := h.le hg
  refine ⟨?_, mkN_lt h3.2⟩
  rw [zMk, show fShape (z (4 + e) 0) (z (4 + e) 1) (z (4 + e) 2) (z (10 + 2 * g) 1) = nI (shM z e g) from h1, h3.1, fMark_nI h2 hp]
  rfl
end ZOM
/-! bounds of what is paid and liked -/
theorem nI_sum {a b : Nat} : nI a + nI b = nI (a + b) := nI_add a b
theorem fPays_b {k mo n : Nat} {so : Int32} (hk : k < 6) (hmo : mo < 10) (hn : n < 1000) : ∃ m, m < 1100 ∧ fPays (nI k) (nI mo) so (nI n) = nI m := by
  rw [fPays]
  match k, hk with
  | 0, _ => exact ⟨n, by omega, by simp [nI_lit]⟩
  | 1, _ => exact ⟨n, by omega, by simp [nI_lit]⟩
  | 2, _ =>
    rw [if_pos rfl]
    by_cases h : so ≤ nI 6
    · exact ⟨n, by omega, if_pos h⟩
    · exact ⟨0, by omega, if_neg h⟩
  | 3, _ => exact ⟨n, by omega, by simp [nI_lit]⟩
  | 4, _ =>
    rw [if_neg (by decide), if_pos rfl, show nI mo / nI 3 = nI (mo / 3) from pk_div (by omega) (by decide) (by decide)]
    by_cases h : so ≤ nI 6
    · rw [if_pos h, nI_add]
      exact ⟨n + mo / 3, by omega, rfl⟩
    · rw [if_neg h, nI_add]
      exact ⟨0 + mo / 3, by omega, rfl⟩
  | 5, _ =>
    rw [if_neg (by decide), if_neg (by decide), if_pos rfl, nI_add]
    exact ⟨n + 3, by omega, rfl⟩
theorem fLike_b {k mo n : Nat} (hmo : mo < 10) (hn : n < 100) : ∃ m, m < 200 ∧ fLike (nI k) (nI mo) (nI n) = nI m := by
  rw [fLike]
  split
  · rw [nI_add]
    exact ⟨n + mo, by omega, rfl⟩
  · split
    · rw [pk_mul]
      exact ⟨2 * n, by omega, rfl⟩
    · exact ⟨n, by omega, rfl⟩
theorem zCo_b {z : fZ} {ne ng e g : Nat} {x : sT} (h : ZOk z ne ng) (hx : WfT x) (he : e < ne) (mk : Int32) : ∃ m, m < 1100 ∧ zCo (askT x) z e g mk = nI m := by
  obtain ⟨n, h1, -, h2⟩ := askT_b hx (pt := 0) (by decide) (fNm (fBits mk) (fWorth (z (11 + 2 * g)) mk 10) (z (10 + 2 * g) 1) (z (4 + e) 1) (z (10 + 2 * g) 2) (z 0 4))
  rw [zCo, fCost, h2, (h.ki he).1, (h.mo he).1]
  exact fPays_b (h.ki he).2 (h.mo he).2 h1
theorem fLikes_b {x : sT} (hx : WfT x) {k mo : Nat} (hmo : mo < 10) (so lf day : Int32) (w : Nat → Int32) (mk : Int32) : ∀ c, ∃ m, m ≤ 200 * c ∧ fLikes (askT x) (nI k) (nI mo) so lf day w mk c = nI m
  | 0 => ⟨0, by omega, rfl⟩
  | c + 1 => by
    obtain ⟨m, h1, h2⟩ := fLikes_b hx hmo so lf day w mk (k := k) c
    rw [fLikes]
    by_cases h : fBit mk c = nI 0
    · rw [if_pos h]
      exact ⟨m, by omega, h2⟩
    · rw [if_neg h, h2]
      obtain ⟨n, -, h3, h4⟩ := askT_b hx (pt := 1) (by decide) (fNm (fBits mk) (w c) so (nI mo) lf day)
      obtain ⟨m2, h5, h6⟩ := fLike_b (k := k) hmo (h3 rfl)
      rw [h4, h6, nI_add]
      exact ⟨m + m2, by omega, rfl⟩
theorem zLi_b {z : fZ} {ne ng e g : Nat} {x : sT} (h : ZOk z ne ng) (hx : WfT x) (he : e < ne) (mk : Int32) : ∃ m, m ≤ 2000 ∧ zLi (askT x) z e g mk = nI m := by
  rw [zLi, (h.ki he).1, (h.mo he).1]
  obtain ⟨m, h1, h2⟩ := fLikes_b hx (h.mo he).2 (k := zn z (4 + e) 0) (z (10 + 2 * g) 1) (z (10 + 2 * g) 2) (z 0 4) (z (11 + 2 * g)) mk 10
  exact ⟨m, by omega, h2⟩
/-- what is had behind a bite -/
theorem had_cl {a b : Nat} (ha : a < 10000) (hb : b ≤ 2000) : (if nI 9999 < nI a + nI b then nI 9999 else nI a + nI b) = nI (min 9999 (a + b)) ∧ fCl 0 9999 (nI a + nI b) = nI (min 9999 (a + b)) := by
  rw [nI_add]
  have h0 : ¬ nI (a + b) < nI 0 := nI_pos (by omega)
  by_cases h : 9999 < a + b
  · rw [if_pos ((nI_ltI (by decide) (by omega)).mpr h), Nat.min_eq_left (by omega), fCl, if_neg h0, if_neg (mt (nI_leI (by omega) (by decide)).mp (by omega))]
    exact ⟨rfl, rfl⟩
  · rw [if_neg (mt (nI_ltI (by decide) (by omega)).mp h), Nat.min_eq_right (by omega), fCl, if_neg h0, if_pos ((nI_leI (by omega) (by decide)).mpr (by omega))]
    exact ⟨rfl, rfl⟩
/-- the scene behind a bite that can be is within its bounds -/
theorem ZOk.bi {z : fZ} {ne ng e g p : Nat} {x : sT} (h : ZOk z ne ng) (hx : WfT x) (h5 : ne ≤ 5) (he : e < ne) (hg : g < ng) (hc : zCan (askT x) z e g p) : ZOk (zBi (askT x) z e g p) ne ng := by
  obtain ⟨co, hco, eco⟩ := zCo_b (g := g) h hx he (zMk z e g p)
  obtain ⟨li, hli, eli⟩ := zLi_b (g := g) h hx he (zMk z e g p)
  have hpu := h.pu he
  have hha := h.ha he
  have hle := h.le hg
  have hge : co ≤ zn z (4 + e) 3 := by
    have := hc.2
    rw [eco, hpu.1] at this
    exact Nat.le_of_not_lt (fun z => this ((nI_ltI (by omega) (by omega)).mpr z))
  unfold zBi
  refine ⟨?_, fun u hu => ⟨?_, ?_, ?_, ?_, ?_⟩, fun v hv => ⟨?_, ?_, fun c hc => ?_⟩⟩
  · rw [mU_ne _ _ (by omega), mU_ne _ _ (by omega), mU_ne _ _ (by omega)]
    exact h.1
  · rw [mU_ne _ _ (by omega), mU_ne _ _ (by omega), mU_ne _ _ (by omega)]
    exact (h.2.1 u hu).1
  · rw [mU_ne _ _ (by omega), mU_ne _ _ (by omega), mU_ne _ _ (by omega)]
    exact (h.2.1 u hu).2.1
  · rw [mU_ne _ _ (by omega), mU_ne _ _ (by omega), mU_ne _ _ (by omega)]
    exact (h.2.1 u hu).2.2.1
  · rw [mU_ne _ _ (by omega)]
    by_cases hue : u = e
    · subst hue
      rw [mU_eq, eco, hpu.1, pk_sub hge]
      exact ⟨_, by omega, rfl⟩
    · rw [mU_ne _ _ (by omega), mU_ne _ _ (by omega)]
      exact (h.2.1 u hu).2.2.2.1
  · rw [mU_ne _ _ (by omega), mU_ne _ _ (by omega)]
    by_cases hue : u = e
    · subst hue
      rw [mU_eq, eli, hha.1, (had_cl hha.2 hli).1]
      exact ⟨_, by omega, rfl⟩
    · rw [mU_ne _ _ (by omega)]
      exact (h.2.1 u hu).2.2.2.2
  · rw [mU_ne _ _ (by omega), mU_ne _ _ (by omega), mU_ne _ _ (by omega)]
    exact (h.2.2 v hv).1
  · by_cases hve : v = g
    · subst hve
      rw [mU_eq, hle.1]
      obtain ⟨m, hm⟩ : ∃ m, zMk z e v p = nI m := by
        refine ⟨(zMk z e v p).toBitVec.toNat, ?_⟩
        apply Int32.toBitVec_inj.mp
        show _ = BitVec.ofNat 32 _
        simp
      rw [hm, m_not (n := 10) hle.2 (by omega)]
      exact ⟨_, Nat.lt_of_le_of_lt Nat.and_le_left hle.2, rfl⟩
    · rw [mU_ne _ _ (by omega), mU_ne _ _ (by omega), mU_ne _ _ (by omega)]
      exact (h.2.2 v hv).2.1
  · rw [mU_ne _ _ (by omega), mU_ne _ _ (by omega), mU_ne _ _ (by omega)]
    exact (h.2.2 v hv).2.2 c hc
/-! where the reference keeps what counts -/
def mvL (a k : Nat) : Nat × Nat := if a = 0 then (200, 6) else if a < 10 then (if k = 0 then (202, a - 4) else if k = 1 then (203, a - 4) else (204, 3 * (a - 4) + (k - 2))) else if a % 2 = 0 then (201, 12 * ((a - 10) / 2) + (9 + k)) else (201, 12 * ((a - 11) / 2) + k)
theorem mv_L (V : mV) (ne ng a k : Nat) : mv V ne ng a k = if zM ne ng a k then V (mvL a k).1 (mvL a k).2 else 0 := by
  unfold mv mvL
  by_cases h : zM ne ng a k
  · rw [if_pos h, if_pos h]
    by_cases h0 : a = 0
    · rw [if_pos h0, if_pos h0]
    · rw [if_neg h0, if_neg h0]
      by_cases h1 : a < 10
      · rw [if_pos h1, if_pos h1]
        by_cases k0 : k = 0
        · rw [if_pos k0, if_pos k0]
        · rw [if_neg k0, if_neg k0]
          by_cases k1 : k = 1
          · rw [if_pos k1, if_pos k1]
          · rw [if_neg k1, if_neg k1]
      · rw [if_neg h1, if_neg h1]
        by_cases h2 : a % 2 = 0
        · rw [if_pos h2, if_pos h2]
        · rw [if_neg h2, if_neg h2]
  · rw [if_neg h, if_neg h]
theorem mvL_cases {ne ng a k : Nat} (h5 : ne ≤ 5) (h : zM ne ng a k) : (a = 0 ∧ k = 4 ∧ (mvL a k).1 = 200 ∧ (mvL a k).2 = 6) ∨ (4 ≤ a ∧ a < 10 ∧ k = 0 ∧ (mvL a k).1 = 202 ∧ (mvL a k).2 + 4 = a) ∨ (4 ≤ a ∧ a < 10 ∧ k = 1 ∧ (mvL a k).1 = 203 ∧ (mvL a k).2 + 4 = a) ∨ (4 ≤ a ∧ a < 10 ∧ 2 ≤ k ∧ k < 5 ∧ (mvL a k).1 = 204 ∧ (mvL a k).2 + 14 = 3 * a + k) ∨ ∃ g j, (mvL a k).1 = 201 ∧ (mvL a k).2 = 12 * g + j ∧ ((a = 10 + 2 * g ∧ j = 9 + k ∧ (k = 1 ∨ k = 2)) ∨ (a = 11 + 2 * g ∧ j = k ∧ k < 10)) := by
  rcases h with ⟨rfl, rfl⟩ | ⟨h1, h2, h3⟩ | ⟨h1, h2, ⟨h3, h4⟩ | ⟨h3, h4⟩⟩
  · exact Or.inl ⟨rfl, rfl, rfl, rfl⟩
  · by_cases k0 : k = 0
    · refine Or.inr (Or.inl ⟨h1, by omega, k0, ?_⟩)
      rw [mvL, if_neg (by omega), if_pos (by omega), if_pos k0]
      exact ⟨rfl, by show a - 4 + 4 = a; omega⟩
    · by_cases k1 : k = 1
      · refine Or.inr (Or.inr (Or.inl ⟨h1, by omega, k1, ?_⟩))
        rw [mvL, if_neg (by omega), if_pos (by omega), if_neg k0, if_pos k1]
        exact ⟨rfl, by show a - 4 + 4 = a; omega⟩
      · refine Or.inr (Or.inr (Or.inr (Or.inl ⟨h1, by omega, by omega, h3, ?_⟩)))
        rw [mvL, if_neg (by omega), if_pos (by omega), if_neg k0, if_neg k1]
        exact ⟨rfl, by show 3 * (a - 4) + (k - 2) + 14 = 3 * a + k; omega⟩
  · refine Or.inr (Or.inr (Or.inr (Or.inr ⟨(a - 10) / 2, 9 + k, ?_⟩)))
    rw [mvL, if_neg (by omega), if_neg (by omega), if_pos h3]
    exact ⟨rfl, rfl, Or.inl ⟨by omega, rfl, h4⟩⟩
  · refine Or.inr (Or.inr (Or.inr (Or.inr ⟨(a - 11) / 2, k, ?_⟩)))
    rw [mvL, if_neg (by omega), if_neg (by omega), if_neg (by omega)]
    exact ⟨rfl, rfl, Or.inr ⟨by omega, rfl, h4⟩⟩
theorem mvL_inj {ne ng a k a' k' : Nat} (h5 : ne ≤ 5) (h : zM ne ng a k) (h' : zM ne ng a' k') (h1 : (mvL a k).1 = (mvL a' k').1) (h2 : (mvL a k).2 = (mvL a' k').2) : a = a' ∧ k = k' := by
  have c := mvL_cases h5 h
  have c' := mvL_cases h5 h'
  clear h h'
  generalize (mvL a k).1 = x1 at c h1
  generalize (mvL a k).2 = x2 at c h2
  generalize (mvL a' k').1 = y1 at c' h1
  generalize (mvL a' k').2 = y2 at c' h2
  subst h1
  subst h2
  rcases c with c | c | c | c | ⟨g, j, c1, c2, c3 | c3⟩
  · rcases c' with c' | c' | c' | c' | ⟨g', j', c1', c2', c3' | c3'⟩ <;> omega
  · rcases c' with c' | c' | c' | c' | ⟨g', j', c1', c2', c3' | c3'⟩ <;> omega
  · rcases c' with c' | c' | c' | c' | ⟨g', j', c1', c2', c3' | c3'⟩ <;> omega
  · rcases c' with c' | c' | c' | c' | ⟨g', j', c1', c2', c3' | c3'⟩ <;> omega
  · rcases c' with c' | c' | c' | c' | ⟨g', j', c1', c2', c3' | c3'⟩ <;> omega
  · rcases c' with c' | c' | c' | c' | ⟨g', j', c1', c2', c3' | c3'⟩ <;> omega
theorem mv_mU (V : mV) {ne ng a k : Nat} (h5 : ne ≤ 5) (x : Int32) (h : zM ne ng a k) : mv (mU V (mvL a k).1 (mvL a k).2 x) ne ng = mU (mv V ne ng) a k x := by
  funext c j
  by_cases hc : c = a ∧ j = k
  · obtain ⟨rfl, rfl⟩ := hc
    rw [mU_eq, mv_L, if_pos h, mU_eq]
  · rw [mU_ne _ _ hc, mv_L, mv_L]
    by_cases hz : zM ne ng c j
    · rw [if_pos hz, if_pos hz, mU_ne _ _ (fun z => hc (mvL_inj h5 hz h z.1 z.2))]
    · rw [if_neg hz, if_neg hz]
section MVU
variable (V : mV) {ne ng e g : Nat} (x : Int32)
theorem mv_uDay (h5 : ne ≤ 5) : mv (mU V 200 6 x) ne ng = mU (mv V ne ng) 0 4 x := mv_mU V (ne := ne) (ng := ng) (a := 0) (k := 4) h5 x (Or.inl ⟨rfl, rfl⟩)
theorem mv_uKi (h5 : ne ≤ 5) (he : e < ne) : mv (mU V 202 e x) ne ng = mU (mv V ne ng) (4 + e) 0 x := by
  have := mv_mU V (ne := ne) (ng := ng) (a := 4 + e) (k := 0) h5 x (Or.inr (Or.inl (by omega)))
  rw [show mvL (4 + e) 0 = (202, e) by rw [mvL, if_neg (by omega), if_pos (by omega), if_pos rfl, show 4 + e - 4 = e by omega]] at this
  exact this
theorem mv_uMo (h5 : ne ≤ 5) (he : e < ne) : mv (mU V 203 e x) ne ng = mU (mv V ne ng) (4 + e) 1 x := by
  have := mv_mU V (ne := ne) (ng := ng) (a := 4 + e) (k := 1) h5 x (Or.inr (Or.inl (by omega)))
  rw [show mvL (4 + e) 1 = (203, e) by rw [mvL, if_neg (by omega), if_pos (by omega), if_neg (by omega), if_pos rfl, show 4 + e - 4 = e by omega]] at this
  exact this
theorem mv_uRo (h5 : ne ≤ 5) (he : e < ne) {j : Nat} (hj : j < 3) : mv (mU V 204 (3 * e + j) x) ne ng = mU (mv V ne ng) (4 + e) (2 + j) x := by
  have := mv_mU V (ne := ne) (ng := ng) (a := 4 + e) (k := 2 + j) h5 x (Or.inr (Or.inl (by omega)))
  rw [show mvL (4 + e) (2 + j) = (204, 3 * e + j) by rw [mvL, if_neg (by omega), if_pos (by omega), if_neg (by omega), if_neg (by omega), show 3 * (4 + e - 4) + (2 + j - 2) = 3 * e + j by omega]] at this
  exact this
theorem mv_uPa (h5 : ne ≤ 5) (hg : g < ng) {j : Nat} (hj : j = 1 ∨ j = 2) : mv (mU V 201 (12 * g + (9 + j)) x) ne ng = mU (mv V ne ng) (10 + 2 * g) j x := by
  have := mv_mU V (ne := ne) (ng := ng) (a := 10 + 2 * g) (k := j) h5 x (Or.inr (Or.inr (by omega)))
  rw [show mvL (10 + 2 * g) j = (201, 12 * g + (9 + j)) by rw [mvL, if_neg (by omega), if_neg (by omega), if_pos (by omega), show 12 * ((10 + 2 * g - 10) / 2) + (9 + j) = 12 * g + (9 + j) by omega]] at this
  exact this
theorem mv_uWo (h5 : ne ≤ 5) (hg : g < ng) {c : Nat} (hc : c < 10) : mv (mU V 201 (12 * g + c) x) ne ng = mU (mv V ne ng) (11 + 2 * g) c x := by
  have := mv_mU V (ne := ne) (ng := ng) (a := 11 + 2 * g) (k := c) h5 x (Or.inr (Or.inr (by omega)))
  rw [show mvL (11 + 2 * g) c = (201, 12 * g + c) by rw [mvL, if_neg (by omega), if_neg (by omega), if_neg (by omega), show 12 * ((11 + 2 * g - 11) / 2) + c = 12 * g + c by omega]] at this
  exact this
end MVU
theorem MZ.bite11 {sh : Nat → Option mSh} {V : mV} {z : fZ} {ne ng rl : Nat} {x : sT} {e g p : Nat} (h : MZ sh V z ne ng rl x) (he : e < ne) (hg : g < ng) (hp : p < 16) (hc : zCan (askT x) z e g p) : MZ sh (mU (mU (mU V 204 (3 * e + 1) (z (4 + e) 3 - zCo (askT x) z e g (zMk z e g p))) 204 (3 * e + 2) (fCl 0 9999 (z (4 + e) 4 + zLi (askT x) z e g (zMk z e g p)))) 201 (12 * g + 11) (z (10 + 2 * g) 2 &&& (zMk z e g p ^^^ -1))) (zBi (askT x) z e g p) ne ng rl x ∧ MB V (mU (mU (mU V 204 (3 * e + 1) (z (4 + e) 3 - zCo (askT x) z e g (zMk z e g p))) 204 (3 * e + 2) (fCl 0 9999 (z (4 + e) 4 + zLi (askT x) z e g (zMk z e g p)))) 201 (12 * g + 11) (z (10 + 2 * g) 2 &&& (zMk z e g p ^^^ -1))) := by
  have hne := h.ne5
  obtain ⟨a1, ⟨a2, a3, a4⟩, a5, a6, ⟨a7, a8⟩, a9, a10⟩ := h
  refine ⟨⟨a1, ⟨by rw [mU_no _ _ (by decide), mU_no _ _ (by decide), mU_no _ _ (by decide)]; exact a2, by rw [mU_no _ _ (by decide), mU_no _ _ (by decide), mU_no _ _ (by decide)]; exact a3, a4⟩, ?_, a6.bi a10 hne he hg hc, ⟨by rw [mU_no _ _ (by decide), mU_no _ _ (by decide), mU_no _ _ (by decide)]; exact a7, a8⟩, a9.eq (by rw [mU_no _ _ (by decide), mU_no _ _ (by decide), mU_no _ _ (by decide)]) (by rw [mU_no _ _ (by decide), mU_no _ _ (by decide), mU_no _ _ (by decide)]), a10⟩, fun a h0 h1 h2 => by rw [mU_no _ _ h1, mU_no _ _ h2, mU_no _ _ h2], fun k hk => by rw [mU_ne _ _ (by omega), mU_no _ _ (by decide), mU_no _ _ (by decide)], fun k _ _ _ => by rw [mU_no _ _ (by decide), mU_no _ _ (by decide), mU_no _ _ (by decide)]⟩
  obtain ⟨li, hli, eli⟩ := zLi_b (g := g) a6 a10 he (zMk z e g p)
  have hha := a6.ha he
  have e1 := mv_uPa (ng := ng) (mU (mU V 204 (3 * e + 1) (z (4 + e) 3 - zCo (askT x) z e g (zMk z e g p))) 204 (3 * e + 2) (fCl 0 9999 (z (4 + e) 4 + zLi (askT x) z e g (zMk z e g p)))) (z (10 + 2 * g) 2 &&& (zMk z e g p ^^^ -1)) hne hg (Or.inr (Eq.refl 2))
  rw [show 12 * g + (9 + 2) = 12 * g + 11 by omega] at e1
  rw [e1, mv_uRo _ _ hne he (by decide), mv_uRo _ _ hne he (by decide), ← a5, zBi, eli, hha.1, (had_cl hha.2 hli).1, (had_cl hha.2 hli).2]
  congr 1
  funext a k
  by_cases c1 : a = 4 + e ∧ k = 4
  · obtain ⟨rfl, rfl⟩ := c1
    simp [mU]
  · by_cases c2 : a = 4 + e ∧ k = 3
    · obtain ⟨rfl, rfl⟩ := c2
      simp [mU]
    · rw [mU_ne _ _ (by omega), mU_ne _ _ (by omega), mU_ne _ _ (by omega), mU_ne _ _ (by omega)]
theorem lowb : ∀ j, j < 64 → (nI j ||| (nI j <<< (nI 1 &&& 31))) &&& (-(nI j ||| (nI j <<< (nI 1 &&& 31)))) = nI j &&& -nI j := by decide +kernel
