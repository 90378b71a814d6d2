/-! the reference's reading: signs, words -/
def tkL : List Int32 := [-1, nI 0, nI 1, nI 2, nI 3, nI 4, nI 5, nI 6, nI 7, nI 8, nI 9, nI 10, nI 11, nI 12, nI 13, nI 40, nI 41, nI 42, nI 43, nI 45, nI 59, nI 60, nI 61]
theorem sg_0 : ∀ t ∈ tkL, mTk t = nI 4 → mSg t = 11 := by decide +kernel
theorem sg_1 : ∀ t ∈ tkL, mTk t = nI 5 → mSg t = 12 := by decide +kernel
theorem sg_2 : ∀ t ∈ tkL, mTk t = nI 60 → mSg t = 14 := by decide +kernel
theorem sg_3 : ∀ t ∈ tkL, mTk t = nI 61 → mSg t = 15 := by decide +kernel
theorem sg_4 : ∀ t ∈ tkL, mTk t = nI 43 → mSg t = 16 := by decide +kernel
theorem sg_5 : ∀ t ∈ tkL, mTk t = nI 45 → mSg t = 17 := by decide +kernel
theorem sg_6 : ∀ t ∈ tkL, mTk t = nI 42 → mSg t = 18 := by decide +kernel
def sgNone (t : Int32) : Bool := decide (mTk t = nI 4) || decide (mTk t = nI 5) || decide (mTk t = nI 60) || decide (mTk t = nI 61) || decide (mTk t = nI 43) || decide (mTk t = nI 45) || decide (mTk t = nI 42)
theorem sg_no : ∀ t ∈ tkL, sgNone t = false → mSg t = 0 := by decide +kernel
theorem sg_7 {t : Int32} (ht : t ∈ tkL) (h1 : ¬ mTk t = nI 4) (h2 : ¬ mTk t = nI 5) (h3 : ¬ mTk t = nI 60) (h4 : ¬ mTk t = nI 61) (h5 : ¬ mTk t = nI 43) (h6 : ¬ mTk t = nI 45) (h7 : ¬ mTk t = nI 42) : mSg t = 0 := sg_no t ht (by rw [sgNone, decide_eq_false h1, decide_eq_false h2, decide_eq_false h3, decide_eq_false h4, decide_eq_false h5, decide_eq_false h6, decide_eq_false h7]; rfl)
def sgI (t : Int32) : Int32 := if mSg t = 0 then -1 else nI (mSg t)
theorem sgI_n {t : Int32} {n : Nat} (h : mSg t = n) (h0 : n ≠ 0) : sgI t = nI n := by rw [sgI, h, if_neg h0]
theorem sgI_0 {t : Int32} (h : mSg t = 0) : sgI t = -1 := by rw [sgI, if_pos h]
theorem unw_len (l : Nat) : ∀ th cs : List Nat, (unw l th cs).1.length + (unw l th cs).2.length = th.length + cs.length
  | [], cs => by rw [unw]
  | x :: h, cs => by
    rw [unw]
    split
    · rw [unw_len l h (cs ++ [x])]
      simp
      omega
    · rfl
theorem btw_lt {s : Nat} (h : 11 ≤ s) : 1 ≤ btw s ∧ btw s < 8 := by
  unfold btw rkN
  repeat' split
  all_goals first | decide | omega
/-! words -/
def wmP (B : Nat → Int32) (a b k n : Nat) : Prop := b - a ≤ 8 ∧ ∀ c, c < n → wdT.getD (8 * k + c) 0 = if a + c < b then B (a + c) else nI 32
def wdX (k : Nat) : Nat := if k < 3 then 7 + k else if k < 9 then k - 2 else k + 1
theorem wd_all : ∀ k, k < 12 → 1 ≤ wdX k ∧ wdX k < 13 ∧ mLen.getD (wdX k) 0 ≤ 8 ∧ ∀ c, c < 8 → wdT.getD (8 * k + c) 0 = (if c < mLen.getD (wdX k) 0 then mB (wdX k) c else nI 32) ∧ (c < mLen.getD (wdX k) 0 → ¬ mB (wdX k) c = nI 32) := by decide +kernel
theorem wm_is {B : Nat → Int32} {a b k : Nat} (hk : k < 12) (hab : a ≤ b) (hl : ∀ j, a ≤ j → j < b → mIn (B j) 97 123) : wmP B a b k 8 ↔ fIsW (wdX k) B a b = true := by
  obtain ⟨h1, h2, h3, h4⟩ := wd_all k hk
  rw [fIsW, decide_eq_true_eq]
  have h32 : ∀ j, a ≤ j → j < b → ¬ B j = nI 32 := fun j g1 g2 e => by
    have := hl j g1 g2
    rw [e] at this
    exact absurd this (by decide)
  constructor
  · rintro ⟨g1, g2⟩
    have hlen : b - a = mLen.getD (wdX k) 0 := by
      rcases Nat.lt_trichotomy (b - a) (mLen.getD (wdX k) 0) with h | h | h
      · have e := g2 (b - a) (by omega)
        rw [(h4 (b - a) (by omega)).1, if_pos h, if_neg (by omega)] at e
        exact absurd e ((h4 (b - a) (by omega)).2 h)
      · exact h
      · have e := g2 (mLen.getD (wdX k) 0) (by omega)
        rw [(h4 _ (by omega)).1, if_neg (by omega), if_pos (by omega)] at e
        exact absurd e.symm (h32 _ (by omega) (by omega))
    refine ⟨hlen, fun c hc => ?_⟩
    have e := g2 c (by omega)
    rw [(h4 c (by omega)).1, if_pos hc, if_pos (by omega)] at e
    exact e.symm
  · rintro ⟨g1, g2⟩
    refine ⟨by omega, fun c hc => ?_⟩
    rw [(h4 c hc).1]
    by_cases hcl : c < mLen.getD (wdX k) 0
    · rw [if_pos hcl, if_pos (by omega), g2 c hcl]
    · rw [if_neg hcl, if_neg (by omega)]
theorem isw_dif : ∀ i, i < 13 → ∀ j, j < 13 → (decide (1 ≤ i ∧ 1 ≤ j ∧ i ≠ j ∧ mLen.getD i 0 = mLen.getD j 0)) = true → ((List.range (mLen.getD i 0)).all (fun c => decide (mB i c = mB j c))) = false := by decide +kernel
theorem isw_one {B : Nat → Int32} {a b i j : Nat} (hi : i < 13) (hj : j < 13) (hi1 : 1 ≤ i) (hj1 : 1 ≤ j) (h1 : fIsW i B a b = true) (h2 : fIsW j B a b = true) : i = j := by
  apply Decidable.byContradiction
  intro hne
  rw [fIsW, decide_eq_true_eq] at h1 h2
  have h3 := isw_dif i hi j hj (decide_eq_true ⟨hi1, hj1, hne, by rw [← h1.1, h2.1]⟩)
  have h4 : ((List.range (mLen.getD i 0)).all (fun c => decide (mB i c = mB j c))) = true := by
    rw [List.all_eq_true]
    intro c hc
    have hc' := List.mem_range.mp hc
    exact decide_eq_true (by rw [← h1.2 c hc', ← h2.2 c (by rw [← h2.1, h1.1]; exact hc')])
  rw [h4] at h3
  cases h3
theorem wordT_1 {B : Nat → Int32} {a b i : Nat} (hi : i < 13) (hi1 : 1 ≤ i) (h : fIsW i B a b = true) : fWordT B a b = nI (i + 1) := by
  have hn : ∀ j, j < 13 → 1 ≤ j → j ≠ i → ¬ fIsW j B a b = true := fun j g1 g2 g3 g4 => g3 (isw_one g1 hi g2 hi1 g4 h)
  unfold fWordT
  match i, hi, hi1 with
  | 1, _, _ => rw [if_pos h]
  | 2, _, _ => rw [if_neg (hn 1 (by decide) (by decide) (by decide)), if_pos h]
  | 3, _, _ => rw [if_neg (hn 1 (by decide) (by decide) (by decide)), if_neg (hn 2 (by decide) (by decide) (by decide)), if_pos h]
  | 4, _, _ => rw [if_neg (hn 1 (by decide) (by decide) (by decide)), if_neg (hn 2 (by decide) (by decide) (by decide)), if_neg (hn 3 (by decide) (by decide) (by decide)), if_pos h]
  | 5, _, _ => rw [if_neg (hn 1 (by decide) (by decide) (by decide)), if_neg (hn 2 (by decide) (by decide) (by decide)), if_neg (hn 3 (by decide) (by decide) (by decide)), if_neg (hn 4 (by decide) (by decide) (by decide)), if_pos h]
  | 6, _, _ => rw [if_neg (hn 1 (by decide) (by decide) (by decide)), if_neg (hn 2 (by decide) (by decide) (by decide)), if_neg (hn 3 (by decide) (by decide) (by decide)), if_neg (hn 4 (by decide) (by decide) (by decide)), if_neg (hn 5 (by decide) (by decide) (by decide)), if_pos h]
  | 7, _, _ => rw [if_neg (hn 1 (by decide) (by decide) (by decide)), if_neg (hn 2 (by decide) (by decide) (by decide)), if_neg (hn 3 (by decide) (by decide) (by decide)), if_neg (hn 4 (by decide) (by decide) (by decide)), if_neg (hn 5 (by decide) (by decide) (by decide)), if_neg (hn 6 (by decide) (by decide) (by decide)), if_pos h]
  | 8, _, _ => rw [if_neg (hn 1 (by decide) (by decide) (by decide)), if_neg (hn 2 (by decide) (by decide) (by decide)), if_neg (hn 3 (by decide) (by decide) (by decide)), if_neg (hn 4 (by decide) (by decide) (by decide)), if_neg (hn 5 (by decide) (by decide) (by decide)), if_neg (hn 6 (by decide) (by decide) (by decide)), if_neg (hn 7 (by decide) (by decide) (by decide)), if_pos h]
  | 9, _, _ => rw [if_neg (hn 1 (by decide) (by decide) (by decide)), if_neg (hn 2 (by decide) (by decide) (by decide)), if_neg (hn 3 (by decide) (by decide) (by decide)), if_neg (hn 4 (by decide) (by decide) (by decide)), if_neg (hn 5 (by decide) (by decide) (by decide)), if_neg (hn 6 (by decide) (by decide) (by decide)), if_neg (hn 7 (by decide) (by decide) (by decide)), if_neg (hn 8 (by decide) (by decide) (by decide)), if_pos h]
  | 10, _, _ => rw [if_neg (hn 1 (by decide) (by decide) (by decide)), if_neg (hn 2 (by decide) (by decide) (by decide)), if_neg (hn 3 (by decide) (by decide) (by decide)), if_neg (hn 4 (by decide) (by decide) (by decide)), if_neg (hn 5 (by decide) (by decide) (by decide)), if_neg (hn 6 (by decide) (by decide) (by decide)), if_neg (hn 7 (by decide) (by decide) (by decide)), if_neg (hn 8 (by decide) (by decide) (by decide)), if_neg (hn 9 (by decide) (by decide) (by decide)), if_pos h]
  | 11, _, _ => rw [if_neg (hn 1 (by decide) (by decide) (by decide)), if_neg (hn 2 (by decide) (by decide) (by decide)), if_neg (hn 3 (by decide) (by decide) (by decide)), if_neg (hn 4 (by decide) (by decide) (by decide)), if_neg (hn 5 (by decide) (by decide) (by decide)), if_neg (hn 6 (by decide) (by decide) (by decide)), if_neg (hn 7 (by decide) (by decide) (by decide)), if_neg (hn 8 (by decide) (by decide) (by decide)), if_neg (hn 9 (by decide) (by decide) (by decide)), if_neg (hn 10 (by decide) (by decide) (by decide)), if_pos h]
  | 12, _, _ => rw [if_neg (hn 1 (by decide) (by decide) (by decide)), if_neg (hn 2 (by decide) (by decide) (by decide)), if_neg (hn 3 (by decide) (by decide) (by decide)), if_neg (hn 4 (by decide) (by decide) (by decide)), if_neg (hn 5 (by decide) (by decide) (by decide)), if_neg (hn 6 (by decide) (by decide) (by decide)), if_neg (hn 7 (by decide) (by decide) (by decide)), if_neg (hn 8 (by decide) (by decide) (by decide)), if_neg (hn 9 (by decide) (by decide) (by decide)), if_neg (hn 10 (by decide) (by decide) (by decide)), if_neg (hn 11 (by decide) (by decide) (by decide)), if_pos h]
theorem wordT_0 {B : Nat → Int32} {a b : Nat} (h : ∀ i, i < 13 → 1 ≤ i → ¬ fIsW i B a b = true) : fWordT B a b = -1 := by
  unfold fWordT
  rw [if_neg (h 1 (by decide) (by decide)), if_neg (h 2 (by decide) (by decide)), if_neg (h 3 (by decide) (by decide)), if_neg (h 4 (by decide) (by decide)), if_neg (h 5 (by decide) (by decide)), if_neg (h 6 (by decide) (by decide)), if_neg (h 7 (by decide) (by decide)), if_neg (h 8 (by decide) (by decide)), if_neg (h 9 (by decide) (by decide)), if_neg (h 10 (by decide) (by decide)), if_neg (h 11 (by decide) (by decide)), if_neg (h 12 (by decide) (by decide))]
/-- the token of the reference's word k -/
def tkW (k : Nat) : Int32 := if k < 12 then nI (wdX k + 1) else -1
theorem wdX_on : ∀ i, i < 13 → 1 ≤ i → ∃ k, k < 12 ∧ wdX k = i := by decide +kernel
theorem word_y {B : Nat → Int32} {a b k : Nat} (hk : k < 12) (hab : a ≤ b) (hl : ∀ j, a ≤ j → j < b → mIn (B j) 97 123) (h : wmP B a b k 8) : tkW k = fWordT B a b := by
  obtain ⟨h1, h2, -⟩ := wd_all k hk
  rw [tkW, if_pos hk, wordT_1 h2 h1 ((wm_is hk hab hl).mp h)]
theorem word_n {B : Nat → Int32} {a b : Nat} (hab : a ≤ b) (hl : ∀ j, a ≤ j → j < b → mIn (B j) 97 123) (h : ∀ k, k < 12 → ¬ wmP B a b k 8) : tkW 12 = fWordT B a b := by
  rw [tkW, if_neg (by decide), wordT_0]
  intro i h1 h2 h3
  obtain ⟨k, hk, rfl⟩ := wdX_on i h1 h2
  exact h k hk ((wm_is hk hab hl).mpr h3)
theorem wm_s {B : Nat → Int32} {a b k n : Nat} (h : wmP B a b k n) (he : wdT.getD (8 * k + n) 0 = if a + n < b then B (a + n) else nI 32) : wmP B a b k (n + 1) := ⟨h.1, fun c hc => by
  by_cases hcn : c = n
  · rw [hcn]
    exact he
  · exact h.2 c (by omega)⟩
theorem wm_lt {B : Nat → Int32} {a b k n n' : Nat} (h : wmP B a b k n) (hn : n' ≤ n) : wmP B a b k n' := ⟨h.1, fun c hc => h.2 c (by omega)⟩
theorem bt_push {V V' : mV} {tn : Nat} {t1 c1 : List Nat} {x : Nat} (hS : SkOk V tn t1 c1) (hl : t1.length + c1.length < 170) (hx : x < 19) (h0 : x ≠ 0 ∧ x ≠ 13) (e : V' = mU (mU V 216 t1.length (nI x)) 200 27 (nI (t1.length + 1))) : SkOk V' tn (x :: t1) c1 := by
  refine hS.push hl (by omega) (by rw [e, mU_eq]) ?_ (by rw [e, mU_no _ _ (by decide), mU_row]) (fun k h1 h2 => by rw [e, mU_ne _ _ (by omega), mU_no _ _ (by decide)]) (by rw [e, mU_no _ _ (by decide), mU_no _ _ (by decide)])
  rw [e, mU_ne _ _ (by decide), mU_no _ _ (by decide), cntO, if_neg (by omega), Nat.zero_add]
  exact hS.op
theorem btNo_0 {s : Nat} {th : List Nat} (h : ¬ rkN s = 4) : btNo s th = false := by
  unfold btNo
  rw [decide_eq_false h]
  rfl
theorem btNo_n {s : Nat} : btNo s [] = false := by
  unfold btNo
  exact Bool.and_false _
theorem btNo_f {s x : Nat} {th : List Nat} (h : ¬ rkN x = 4) : btNo s (x :: th) = false := by
  unfold btNo
  show (decide (rkN s = 4) && decide (rkN x = 4)) = false
  rw [decide_eq_false h]
  exact Bool.and_false _
theorem btNo_t {s x : Nat} {th : List Nat} (h : rkN s = 4) (h2 : rkN x = 4) : btNo s (x :: th) = true := by
  unfold btNo
  show (decide (rkN s = 4) && decide (rkN x = 4)) = true
  rw [decide_eq_true h, decide_eq_true h2]
  rfl
set_option maxHeartbeats 4000000 in
set_option maxRecDepth 100000 in
theorem c_X11_between (l : Launch) (G : mG) (ad : Nat → Nat) (sh : Nat → Option mSh) (V : mV) (tn : Nat) (th cs : List Nat) (x : Nat) (hM : MSh sh) (hS : SkOk V tn th cs) (hlt : th.length + cs.length < 170) (hx11 : 11 ≤ x ∧ x < 19 ∧ x ≠ 13) : mM l yX11_between wsX11_between ({ frames := 2, cells := 0, slots := 0, locals := 43 } : Room) G ad sh V [.ref (ad 200), .int (nI x)] 0 0 (mPi ad sh (fun r V' => (nI 0 = r ∧ (btNo x (unw (btw x) th cs).1 = true) ∧ (SkOk V' tn (unw (btw x) th cs).1 (unw (btw x) th cs).2) ∧ (SkF tn V V')) ∨ (nI 1 = r ∧ (btNo x (unw (btw x) th cs).1 = false) ∧ (SkOk V' tn (x :: (unw (btw x) th cs).1) (unw (btw x) th cs).2) ∧ (SkF tn V V')))) := by
  refine mM.of (cc := cX11_between) (maxL := 2) (ret := (some .boolean)) (by decide) rfl (Nat.le_of_ble_eq_true rfl) ?_
  intro p e s m below meth c S hr hlk hnm hW ls hl
  obtain ⟨hx, hb, hml, hown, hts⟩ := id S
  have hl : lv_has ls 2 [(0, .ref (ad 200)), (1, .int (nI x))] := hl
  have hS0 : True := trivial
  have hlen := hS.len
  have htn6 := hS.tn6
  have hrx7 := rkN_le x
  have hbl := btw_lt hx11.1
  refine lv_aload_n hx hb dX11_between_0 rfl (lv_at hl 0 rfl) ?_
  refine lv_iload_n hx hb dX11_between_1 rfl (lv_at hl 1 rfl) ?_
  refine m_cie (m_rS S hW (c_X11_rank l G ad sh V x (by first | assumption | omega)) (va_cwS 1 hts (gCall [.methodLink RX11 126 yX11_rank, .static yX11_rank, .initialized RX11] (List.forall_mem_cons.mpr ⟨(wa_13 _ (List.mem_of_getElem? (i := 14) (by decide +kernel))), (List.forall_mem_cons.mpr ⟨(wa_13 _ (List.mem_of_getElem? (i := 12) (by decide +kernel))), (List.forall_mem_cons.mpr ⟨(wa_13 _ (List.mem_of_getElem? (i := 13) (by decide +kernel))), (List.forall_mem_cons.mpr ⟨(wa_1 _ (List.mem_of_getElem? (i := 5) (by decide +kernel))), (fun _ h => absurd h List.not_mem_nil)⟩)⟩)⟩)⟩)) rfl rfl rfl (by decide +kernel) ⟨Nat.le_of_ble_eq_true rfl, Nat.le_of_ble_eq_true rfl⟩) rfl hl.1 rfl (Nat.le_of_ble_eq_true rfl) dX11_between_2 ⟨Nat.le_of_ble_eq_true rfl, Nat.le_of_ble_eq_true rfl⟩) hW (fun H locs hW => ?_)
  refine lv_iconst (v := nI 4) hx hb dX11_between_5 (by decide) ?_
  refine lv_icmp_ne (tgt := 13) hx hb dX11_between_6 (by decide) (fun c_1 => ?_) (fun c_1 => ?_)
  · skip
    have c_1 : ¬ (rkN x) = 4 := mt (nI_eq (by omega) (by omega)).mpr c_1
    refine lv_iload_n hx hb dX11_between_13 rfl (lv_at hl 1 rfl) ?_
    refine m_cie (m_rS S hW (c_X11_rank l G ad sh V x (by first | assumption | omega)) (va_cwS 1 hts (gCall [.methodLink RX11 126 yX11_rank, .static yX11_rank, .initialized RX11] (List.forall_mem_cons.mpr ⟨(wa_13 _ (List.mem_of_getElem? (i := 14) (by decide +kernel))), (List.forall_mem_cons.mpr ⟨(wa_13 _ (List.mem_of_getElem? (i := 12) (by decide +kernel))), (List.forall_mem_cons.mpr ⟨(wa_13 _ (List.mem_of_getElem? (i := 13) (by decide +kernel))), (List.forall_mem_cons.mpr ⟨(wa_1 _ (List.mem_of_getElem? (i := 5) (by decide +kernel))), (fun _ h => absurd h List.not_mem_nil)⟩)⟩)⟩)⟩)) rfl rfl rfl (by decide +kernel) ⟨Nat.le_of_ble_eq_true rfl, Nat.le_of_ble_eq_true rfl⟩) rfl hl.1 rfl (Nat.le_of_ble_eq_true rfl) dX11_between_14 ⟨Nat.le_of_ble_eq_true rfl, Nat.le_of_ble_eq_true rfl⟩) hW (fun H locs hW => ?_)
    refine m_cv (m_rV S hW (c_X11_unwinds l G ad sh V tn th cs (rkN x) hM hS (by have hq : rkN x = btw x := (by rw [btw, if_neg c_1]); omega)) (cwV 1 hts (gCall [.methodLink RX11 140 yX11_unwinds, .instanceMethod yX11_unwinds, .selects RX11 yX11_unwinds yX11_unwinds, .initialized RX11] (List.forall_mem_cons.mpr ⟨(wa_13 _ (List.mem_of_getElem? (i := 11) (by decide +kernel))), (List.forall_mem_cons.mpr ⟨(wa_13 _ (List.mem_of_getElem? (i := 8) (by decide +kernel))), (List.forall_mem_cons.mpr ⟨(wa_13 _ (List.mem_of_getElem? (i := 9) (by decide +kernel))), (List.forall_mem_cons.mpr ⟨(wa_13 _ (List.mem_of_getElem? (i := 10) (by decide +kernel))), (List.forall_mem_cons.mpr ⟨(wa_1 _ (List.mem_of_getElem? (i := 5) (by decide +kernel))), (fun _ h => absurd h List.not_mem_nil)⟩)⟩)⟩)⟩)⟩)) rfl rfl rfl (by decide +kernel) ⟨Nat.le_of_ble_eq_true rfl, Nat.le_of_ble_eq_true rfl⟩) hM.1 kX11 rfl hl.1 rfl (Nat.le_of_ble_eq_true rfl) dX11_between_17 ⟨Nat.le_of_ble_eq_true rfl, Nat.le_of_ble_eq_true rfl⟩) hW (fun V_2 H locs hp_3 hW => ?_)
    obtain ⟨hS_5, hF_6⟩ := hp_3
    have hbt : rkN x = btw x := by rw [btw, if_neg c_1]
    rw [hbt] at hS_5
    obtain ⟨t1, ht1⟩ : ∃ vv_ : List Nat, vv_ = (unw (btw x) th cs).1 := ⟨_, rfl⟩
    obtain ⟨c1, hc1⟩ : ∃ vv_ : List Nat, vv_ = (unw (btw x) th cs).2 := ⟨_, rfl⟩
    have hul := unw_len (btw x) th cs
    rw [← ht1, ← hc1] at hS_5 hul ⊢
    have hcn1 := cntO_le t1
    refine lv_iload_n hx hb dX11_between_20 rfl (lv_at hl 1 rfl) ?_
    refine m_cie (m_rS S hW (c_X11_rank l G ad sh V_2 x (by first | assumption | omega)) (va_cwS 1 hts (gCall [.methodLink RX11 126 yX11_rank, .static yX11_rank, .initialized RX11] (List.forall_mem_cons.mpr ⟨(wa_13 _ (List.mem_of_getElem? (i := 14) (by decide +kernel))), (List.forall_mem_cons.mpr ⟨(wa_13 _ (List.mem_of_getElem? (i := 12) (by decide +kernel))), (List.forall_mem_cons.mpr ⟨(wa_13 _ (List.mem_of_getElem? (i := 13) (by decide +kernel))), (List.forall_mem_cons.mpr ⟨(wa_1 _ (List.mem_of_getElem? (i := 5) (by decide +kernel))), (fun _ h => absurd h List.not_mem_nil)⟩)⟩)⟩)⟩)) rfl rfl rfl (by decide +kernel) ⟨Nat.le_of_ble_eq_true rfl, Nat.le_of_ble_eq_true rfl⟩) rfl hl.1 rfl (Nat.le_of_ble_eq_true rfl) dX11_between_21 ⟨Nat.le_of_ble_eq_true rfl, Nat.le_of_ble_eq_true rfl⟩) hW (fun H locs hW => ?_)
    refine lv_iconst (v := nI 4) hx hb dX11_between_24 (by decide) ?_
    refine lv_icmp_ne (tgt := 55) hx hb dX11_between_25 (by decide) (fun c_7 => ?_) (fun c_7 => ?_)
    · skip
      have c_7 : ¬ (rkN x) = 4 := mt (nI_eq (by omega) (by omega)).mpr c_7
      refine lv_aload_n hx hb dX11_between_55 rfl (lv_at hl 0 rfl) ?_
      refine lv_iload_n hx hb dX11_between_56 rfl (lv_at hl 1 rfl) ?_
      refine m_cv (m_rV S hW (c_X11_holds l G ad sh V_2 t1.length x hM hS_5.hm (by omega)) (cwV 1 hts (gCall [.methodLink RX11 137 yX11_holds, .instanceMethod yX11_holds, .selects RX11 yX11_holds yX11_holds, .initialized RX11] (List.forall_mem_cons.mpr ⟨(wa_13 _ (List.mem_of_getElem? (i := 22) (by decide +kernel))), (List.forall_mem_cons.mpr ⟨(wa_13 _ (List.mem_of_getElem? (i := 19) (by decide +kernel))), (List.forall_mem_cons.mpr ⟨(wa_13 _ (List.mem_of_getElem? (i := 20) (by decide +kernel))), (List.forall_mem_cons.mpr ⟨(wa_13 _ (List.mem_of_getElem? (i := 21) (by decide +kernel))), (List.forall_mem_cons.mpr ⟨(wa_1 _ (List.mem_of_getElem? (i := 5) (by decide +kernel))), (fun _ h => absurd h List.not_mem_nil)⟩)⟩)⟩)⟩)⟩)) rfl rfl rfl (by decide +kernel) ⟨Nat.le_of_ble_eq_true rfl, Nat.le_of_ble_eq_true rfl⟩) hM.1 kX11 rfl hl.1 rfl (Nat.le_of_ble_eq_true rfl) dX11_between_57 ⟨Nat.le_of_ble_eq_true rfl, Nat.le_of_ble_eq_true rfl⟩) hW (fun V_8 H locs hp_9 hW => ?_)
      have eV_8 : V_8 = mU (mU V_2 216 t1.length (nI x)) 200 27 (nI (t1.length + 1)) := hp_9
      refine lv_iconst (v := nI 1) hx hb dX11_between_60 (by decide) ?_
      exact m_zret S hr hlk hW rfl dX11_between_61 (by exact Or.inr ⟨rfl, btNo_0 c_7, bt_push hS_5 (by omega) (by omega) (by omega) eV_8, hF_6.trans (by rw [eV_8]; exact ((SkF.rfl tn _).p216 _ _).p200 _ (Or.inl rfl))⟩)
    · skip
      have c_7 : (rkN x) = 4 := (nI_eq (by omega) (by omega)).mp c_7
      rcases t1 with _ | ⟨x0, t0⟩
      · skip
        refine lv_aload_n hx hb dX11_between_28 rfl (lv_at hl 0 rfl) ?_
        refine m_geti S hW hM.1 27 rfl kX11 (iW11 _) (by decide) (List.mem_cons_of_mem _ (wa_13 _ (List.mem_of_getElem? (i := 1) (by decide +kernel)))) dX11_between_29 ?_
        refine m_top (y := nI 0) hS_5.hm ?_
        refine m_if_le (tgt := 55) hx hb dX11_between_32 (by decide) (fun c_11 => ?_) (fun c_11 => ?_)
        · skip
          refine lv_aload_n hx hb dX11_between_55 rfl (lv_at hl 0 rfl) ?_
          refine lv_iload_n hx hb dX11_between_56 rfl (lv_at hl 1 rfl) ?_
          refine m_cv (m_rV S hW (c_X11_holds l G ad sh V_2 0 x hM hS_5.hm (by omega)) (cwV 1 hts (gCall [.methodLink RX11 137 yX11_holds, .instanceMethod yX11_holds, .selects RX11 yX11_holds yX11_holds, .initialized RX11] (List.forall_mem_cons.mpr ⟨(wa_13 _ (List.mem_of_getElem? (i := 22) (by decide +kernel))), (List.forall_mem_cons.mpr ⟨(wa_13 _ (List.mem_of_getElem? (i := 19) (by decide +kernel))), (List.forall_mem_cons.mpr ⟨(wa_13 _ (List.mem_of_getElem? (i := 20) (by decide +kernel))), (List.forall_mem_cons.mpr ⟨(wa_13 _ (List.mem_of_getElem? (i := 21) (by decide +kernel))), (List.forall_mem_cons.mpr ⟨(wa_1 _ (List.mem_of_getElem? (i := 5) (by decide +kernel))), (fun _ h => absurd h List.not_mem_nil)⟩)⟩)⟩)⟩)⟩)) rfl rfl rfl (by decide +kernel) ⟨Nat.le_of_ble_eq_true rfl, Nat.le_of_ble_eq_true rfl⟩) hM.1 kX11 rfl hl.1 rfl (Nat.le_of_ble_eq_true rfl) dX11_between_57 ⟨Nat.le_of_ble_eq_true rfl, Nat.le_of_ble_eq_true rfl⟩) hW (fun V_12 H locs hp_13 hW => ?_)
          have eV_12 : V_12 = mU (mU V_2 216 0 (nI x)) 200 27 (nI (0 + 1)) := hp_13
          refine lv_iconst (v := nI 1) hx hb dX11_between_60 (by decide) ?_
          exact m_zret S hr hlk hW rfl dX11_between_61 (by exact Or.inr ⟨rfl, btNo_n, bt_push hS_5 (by simp at hul ⊢; omega) (by omega) (by omega) eV_12, hF_6.trans (by rw [eV_12]; exact ((SkF.rfl tn _).p216 _ _).p200 _ (Or.inl rfl))⟩)
        · exact absurd c_11 (by decide)
      · skip
        have hx0 := hS_5.h20 x0 List.mem_cons_self
        have hrk7 := rkN_le x0
        have hl1 := hS_5.len
        rw [List.length_cons] at hl1 hul
        refine lv_aload_n hx hb dX11_between_28 rfl (lv_at hl 0 rfl) ?_
        refine m_geti S hW hM.1 27 rfl kX11 (iW11 _) (by decide) (List.mem_cons_of_mem _ (wa_13 _ (List.mem_of_getElem? (i := 1) (by decide +kernel)))) dX11_between_29 ?_
        refine m_top (y := nI (t0.length + 1)) hS_5.hm ?_
        refine m_if_le (tgt := 55) hx hb dX11_between_32 (by decide) (fun c_15 => ?_) (fun c_15 => ?_)
        · skip
          have c_15 : (t0.length + 1) ≤ 0 := (nI_leI (by omega) (by omega)).mp c_15
          exfalso; omega
        · skip
          have c_15 : ¬ (t0.length + 1) ≤ 0 := mt (nI_leI (by omega) (by omega)).mpr c_15
          refine lv_aload_n hx hb dX11_between_35 rfl (lv_at hl 0 rfl) ?_
          refine m_getr S hW hM.1 26 rfl (j := 216) rfl kX11 (iW11 _) (by decide) (List.mem_cons_of_mem _ (wa_11 _ (List.mem_of_getElem? (i := 17) (by decide +kernel)))) dX11_between_36 ?_
          refine lv_aload_n hx hb dX11_between_39 rfl (lv_at hl 0 rfl) ?_
          refine m_geti S hW hM.1 27 rfl kX11 (iW11 _) (by decide) (List.mem_cons_of_mem _ (wa_13 _ (List.mem_of_getElem? (i := 1) (by decide +kernel)))) dX11_between_40 ?_
          refine m_top (y := nI (t0.length + 1)) hS_5.hm ?_
          refine lv_iconst (v := nI 1) hx hb dX11_between_43 (by decide) ?_
          refine lv_isub hx hb dX11_between_44 ?_
          refine m_top (y := nI ((t0.length + 1) - 1)) (pk_sub (by omega)) ?_
          refine m_iald S hW hM.2.2.2.2.2.2.2.2.2.2.2.2.2.2.2.2.1 t0.length (congrArg nI (Nat.add_sub_cancel _ 1)) (by omega) (by decide) dX11_between_45 ?_
          refine m_top (y := nI x0) hS_5.hd.1 ?_
          refine m_cie (m_rS S hW (c_X11_rank l G ad sh V_2 x0 (by first | assumption | omega)) (va_cwS 1 hts (gCall [.methodLink RX11 126 yX11_rank, .static yX11_rank, .initialized RX11] (List.forall_mem_cons.mpr ⟨(wa_13 _ (List.mem_of_getElem? (i := 14) (by decide +kernel))), (List.forall_mem_cons.mpr ⟨(wa_13 _ (List.mem_of_getElem? (i := 12) (by decide +kernel))), (List.forall_mem_cons.mpr ⟨(wa_13 _ (List.mem_of_getElem? (i := 13) (by decide +kernel))), (List.forall_mem_cons.mpr ⟨(wa_1 _ (List.mem_of_getElem? (i := 5) (by decide +kernel))), (fun _ h => absurd h List.not_mem_nil)⟩)⟩)⟩)⟩)) rfl rfl rfl (by decide +kernel) ⟨Nat.le_of_ble_eq_true rfl, Nat.le_of_ble_eq_true rfl⟩) rfl hl.1 rfl (Nat.le_of_ble_eq_true rfl) dX11_between_46 ⟨Nat.le_of_ble_eq_true rfl, Nat.le_of_ble_eq_true rfl⟩) hW (fun H locs hW => ?_)
          refine lv_iconst (v := nI 4) hx hb dX11_between_49 (by decide) ?_
          refine lv_icmp_ne (tgt := 55) hx hb dX11_between_50 (by decide) (fun c_16 => ?_) (fun c_16 => ?_)
          · skip
            have c_16 : ¬ (rkN x0) = 4 := mt (nI_eq (by omega) (by omega)).mpr c_16
            refine lv_aload_n hx hb dX11_between_55 rfl (lv_at hl 0 rfl) ?_
            refine lv_iload_n hx hb dX11_between_56 rfl (lv_at hl 1 rfl) ?_
            refine m_cv (m_rV S hW (c_X11_holds l G ad sh V_2 (t0.length + 1) x hM hS_5.hm (by omega)) (cwV 1 hts (gCall [.methodLink RX11 137 yX11_holds, .instanceMethod yX11_holds, .selects RX11 yX11_holds yX11_holds, .initialized RX11] (List.forall_mem_cons.mpr ⟨(wa_13 _ (List.mem_of_getElem? (i := 22) (by decide +kernel))), (List.forall_mem_cons.mpr ⟨(wa_13 _ (List.mem_of_getElem? (i := 19) (by decide +kernel))), (List.forall_mem_cons.mpr ⟨(wa_13 _ (List.mem_of_getElem? (i := 20) (by decide +kernel))), (List.forall_mem_cons.mpr ⟨(wa_13 _ (List.mem_of_getElem? (i := 21) (by decide +kernel))), (List.forall_mem_cons.mpr ⟨(wa_1 _ (List.mem_of_getElem? (i := 5) (by decide +kernel))), (fun _ h => absurd h List.not_mem_nil)⟩)⟩)⟩)⟩)⟩)) rfl rfl rfl (by decide +kernel) ⟨Nat.le_of_ble_eq_true rfl, Nat.le_of_ble_eq_true rfl⟩) hM.1 kX11 rfl hl.1 rfl (Nat.le_of_ble_eq_true rfl) dX11_between_57 ⟨Nat.le_of_ble_eq_true rfl, Nat.le_of_ble_eq_true rfl⟩) hW (fun V_17 H locs hp_18 hW => ?_)
            have eV_17 : V_17 = mU (mU V_2 216 (t0.length + 1) (nI x)) 200 27 (nI ((t0.length + 1) + 1)) := hp_18
            refine lv_iconst (v := nI 1) hx hb dX11_between_60 (by decide) ?_
            exact m_zret S hr hlk hW rfl dX11_between_61 (by exact Or.inr ⟨rfl, btNo_f c_16, bt_push hS_5 (by simp at hul ⊢; omega) (by omega) (by omega) eV_17, hF_6.trans (by rw [eV_17]; exact ((SkF.rfl tn _).p216 _ _).p200 _ (Or.inl rfl))⟩)
          · skip
            have c_16 : (rkN x0) = 4 := (nI_eq (by omega) (by omega)).mp c_16
            refine lv_iconst (v := nI 0) hx hb dX11_between_53 (by decide) ?_
            exact m_zret S hr hlk hW rfl dX11_between_54 (by exact Or.inl ⟨rfl, btNo_t c_7 c_16, hS_5, hF_6⟩)
  · skip
    have c_1 : (rkN x) = 4 := (nI_eq (by omega) (by omega)).mp c_1
    refine lv_iconst (v := nI 5) hx hb dX11_between_9 (by decide) ?_
    refine lv_goto (tgt := 17) hx hb dX11_between_10 (by decide) ?_
    refine m_cv (m_rV S hW (c_X11_unwinds l G ad sh V tn th cs 5 hM hS (by decide)) (cwV 1 hts (gCall [.methodLink RX11 140 yX11_unwinds, .instanceMethod yX11_unwinds, .selects RX11 yX11_unwinds yX11_unwinds, .initialized RX11] (List.forall_mem_cons.mpr ⟨(wa_13 _ (List.mem_of_getElem? (i := 11) (by decide +kernel))), (List.forall_mem_cons.mpr ⟨(wa_13 _ (List.mem_of_getElem? (i := 8) (by decide +kernel))), (List.forall_mem_cons.mpr ⟨(wa_13 _ (List.mem_of_getElem? (i := 9) (by decide +kernel))), (List.forall_mem_cons.mpr ⟨(wa_13 _ (List.mem_of_getElem? (i := 10) (by decide +kernel))), (List.forall_mem_cons.mpr ⟨(wa_1 _ (List.mem_of_getElem? (i := 5) (by decide +kernel))), (fun _ h => absurd h List.not_mem_nil)⟩)⟩)⟩)⟩)⟩)) rfl rfl rfl (by decide +kernel) ⟨Nat.le_of_ble_eq_true rfl, Nat.le_of_ble_eq_true rfl⟩) hM.1 kX11 rfl hl.1 rfl (Nat.le_of_ble_eq_true rfl) dX11_between_17 ⟨Nat.le_of_ble_eq_true rfl, Nat.le_of_ble_eq_true rfl⟩) hW (fun V_20 H locs hp_21 hW => ?_)
    obtain ⟨hS_23, hF_24⟩ := hp_21
    have hbt : 5 = btw x := by rw [btw, if_pos c_1]
    rw [hbt] at hS_23
    obtain ⟨t1, ht1⟩ : ∃ vv_ : List Nat, vv_ = (unw (btw x) th cs).1 := ⟨_, rfl⟩
    obtain ⟨c1, hc1⟩ : ∃ vv_ : List Nat, vv_ = (unw (btw x) th cs).2 := ⟨_, rfl⟩
    have hul := unw_len (btw x) th cs
    rw [← ht1, ← hc1] at hS_23 hul ⊢
    have hcn1 := cntO_le t1
    refine lv_iload_n hx hb dX11_between_20 rfl (lv_at hl 1 rfl) ?_
    refine m_cie (m_rS S hW (c_X11_rank l G ad sh V_20 x (by first | assumption | omega)) (va_cwS 1 hts (gCall [.methodLink RX11 126 yX11_rank, .static yX11_rank, .initialized RX11] (List.forall_mem_cons.mpr ⟨(wa_13 _ (List.mem_of_getElem? (i := 14) (by decide +kernel))), (List.forall_mem_cons.mpr ⟨(wa_13 _ (List.mem_of_getElem? (i := 12) (by decide +kernel))), (List.forall_mem_cons.mpr ⟨(wa_13 _ (List.mem_of_getElem? (i := 13) (by decide +kernel))), (List.forall_mem_cons.mpr ⟨(wa_1 _ (List.mem_of_getElem? (i := 5) (by decide +kernel))), (fun _ h => absurd h List.not_mem_nil)⟩)⟩)⟩)⟩)) rfl rfl rfl (by decide +kernel) ⟨Nat.le_of_ble_eq_true rfl, Nat.le_of_ble_eq_true rfl⟩) rfl hl.1 rfl (Nat.le_of_ble_eq_true rfl) dX11_between_21 ⟨Nat.le_of_ble_eq_true rfl, Nat.le_of_ble_eq_true rfl⟩) hW (fun H locs hW => ?_)
    refine lv_iconst (v := nI 4) hx hb dX11_between_24 (by decide) ?_
    refine lv_icmp_ne (tgt := 55) hx hb dX11_between_25 (by decide) (fun c_25 => ?_) (fun c_25 => ?_)
    · skip
      have c_25 : ¬ (rkN x) = 4 := mt (nI_eq (by omega) (by omega)).mpr c_25
      refine lv_aload_n hx hb dX11_between_55 rfl (lv_at hl 0 rfl) ?_
      refine lv_iload_n hx hb dX11_between_56 rfl (lv_at hl 1 rfl) ?_
      refine m_cv (m_rV S hW (c_X11_holds l G ad sh V_20 t1.length x hM hS_23.hm (by omega)) (cwV 1 hts (gCall [.methodLink RX11 137 yX11_holds, .instanceMethod yX11_holds, .selects RX11 yX11_holds yX11_holds, .initialized RX11] (List.forall_mem_cons.mpr ⟨(wa_13 _ (List.mem_of_getElem? (i := 22) (by decide +kernel))), (List.forall_mem_cons.mpr ⟨(wa_13 _ (List.mem_of_getElem? (i := 19) (by decide +kernel))), (List.forall_mem_cons.mpr ⟨(wa_13 _ (List.mem_of_getElem? (i := 20) (by decide +kernel))), (List.forall_mem_cons.mpr ⟨(wa_13 _ (List.mem_of_getElem? (i := 21) (by decide +kernel))), (List.forall_mem_cons.mpr ⟨(wa_1 _ (List.mem_of_getElem? (i := 5) (by decide +kernel))), (fun _ h => absurd h List.not_mem_nil)⟩)⟩)⟩)⟩)⟩)) rfl rfl rfl (by decide +kernel) ⟨Nat.le_of_ble_eq_true rfl, Nat.le_of_ble_eq_true rfl⟩) hM.1 kX11 rfl hl.1 rfl (Nat.le_of_ble_eq_true rfl) dX11_between_57 ⟨Nat.le_of_ble_eq_true rfl, Nat.le_of_ble_eq_true rfl⟩) hW (fun V_26 H locs hp_27 hW => ?_)
      have eV_26 : V_26 = mU (mU V_20 216 t1.length (nI x)) 200 27 (nI (t1.length + 1)) := hp_27
      refine lv_iconst (v := nI 1) hx hb dX11_between_60 (by decide) ?_
      exact m_zret S hr hlk hW rfl dX11_between_61 (by exact Or.inr ⟨rfl, btNo_0 c_25, bt_push hS_23 (by omega) (by omega) (by omega) eV_26, hF_24.trans (by rw [eV_26]; exact ((SkF.rfl tn _).p216 _ _).p200 _ (Or.inl rfl))⟩)
    · skip
      have c_25 : (rkN x) = 4 := (nI_eq (by omega) (by omega)).mp c_25
      rcases t1 with _ | ⟨x0, t0⟩
      · skip
        refine lv_aload_n hx hb dX11_between_28 rfl (lv_at hl 0 rfl) ?_
        refine m_geti S hW hM.1 27 rfl kX11 (iW11 _) (by decide) (List.mem_cons_of_mem _ (wa_13 _ (List.mem_of_getElem? (i := 1) (by decide +kernel)))) dX11_between_29 ?_
        refine m_top (y := nI 0) hS_23.hm ?_
        refine m_if_le (tgt := 55) hx hb dX11_between_32 (by decide) (fun c_29 => ?_) (fun c_29 => ?_)
        · skip
          refine lv_aload_n hx hb dX11_between_55 rfl (lv_at hl 0 rfl) ?_
          refine lv_iload_n hx hb dX11_between_56 rfl (lv_at hl 1 rfl) ?_
          refine m_cv (m_rV S hW (c_X11_holds l G ad sh V_20 0 x hM hS_23.hm (by omega)) (cwV 1 hts (gCall [.methodLink RX11 137 yX11_holds, .instanceMethod yX11_holds, .selects RX11 yX11_holds yX11_holds, .initialized RX11] (List.forall_mem_cons.mpr ⟨(wa_13 _ (List.mem_of_getElem? (i := 22) (by decide +kernel))), (List.forall_mem_cons.mpr ⟨(wa_13 _ (List.mem_of_getElem? (i := 19) (by decide +kernel))), (List.forall_mem_cons.mpr ⟨(wa_13 _ (List.mem_of_getElem? (i := 20) (by decide +kernel))), (List.forall_mem_cons.mpr ⟨(wa_13 _ (List.mem_of_getElem? (i := 21) (by decide +kernel))), (List.forall_mem_cons.mpr ⟨(wa_1 _ (List.mem_of_getElem? (i := 5) (by decide +kernel))), (fun _ h => absurd h List.not_mem_nil)⟩)⟩)⟩)⟩)⟩)) rfl rfl rfl (by decide +kernel) ⟨Nat.le_of_ble_eq_true rfl, Nat.le_of_ble_eq_true rfl⟩) hM.1 kX11 rfl hl.1 rfl (Nat.le_of_ble_eq_true rfl) dX11_between_57 ⟨Nat.le_of_ble_eq_true rfl, Nat.le_of_ble_eq_true rfl⟩) hW (fun V_30 H locs hp_31 hW => ?_)
          have eV_30 : V_30 = mU (mU V_20 216 0 (nI x)) 200 27 (nI (0 + 1)) := hp_31
          refine lv_iconst (v := nI 1) hx hb dX11_between_60 (by decide) ?_
          exact m_zret S hr hlk hW rfl dX11_between_61 (by exact Or.inr ⟨rfl, btNo_n, bt_push hS_23 (by simp at hul ⊢; omega) (by omega) (by omega) eV_30, hF_24.trans (by rw [eV_30]; exact ((SkF.rfl tn _).p216 _ _).p200 _ (Or.inl rfl))⟩)
        · exact absurd c_29 (by decide)
      · skip
        have hx0 := hS_23.h20 x0 List.mem_cons_self
        have hrk7 := rkN_le x0
        have hl1 := hS_23.len
        rw [List.length_cons] at hl1 hul
        refine lv_aload_n hx hb dX11_between_28 rfl (lv_at hl 0 rfl) ?_
        refine m_geti S hW hM.1 27 rfl kX11 (iW11 _) (by decide) (List.mem_cons_of_mem _ (wa_13 _ (List.mem_of_getElem? (i := 1) (by decide +kernel)))) dX11_between_29 ?_
        refine m_top (y := nI (t0.length + 1)) hS_23.hm ?_
        refine m_if_le (tgt := 55) hx hb dX11_between_32 (by decide) (fun c_33 => ?_) (fun c_33 => ?_)
        · skip
          have c_33 : (t0.length + 1) ≤ 0 := (nI_leI (by omega) (by omega)).mp c_33
          exfalso; omega
        · skip
          have c_33 : ¬ (t0.length + 1) ≤ 0 := mt (nI_leI (by omega) (by omega)).mpr c_33
          refine lv_aload_n hx hb dX11_between_35 rfl (lv_at hl 0 rfl) ?_
          refine m_getr S hW hM.1 26 rfl (j := 216) rfl kX11 (iW11 _) (by decide) (List.mem_cons_of_mem _ (wa_11 _ (List.mem_of_getElem? (i := 17) (by decide +kernel)))) dX11_between_36 ?_
          refine lv_aload_n hx hb dX11_between_39 rfl (lv_at hl 0 rfl) ?_
          refine m_geti S hW hM.1 27 rfl kX11 (iW11 _) (by decide) (List.mem_cons_of_mem _ (wa_13 _ (List.mem_of_getElem? (i := 1) (by decide +kernel)))) dX11_between_40 ?_
          refine m_top (y := nI (t0.length + 1)) hS_23.hm ?_
          refine lv_iconst (v := nI 1) hx hb dX11_between_43 (by decide) ?_
          refine lv_isub hx hb dX11_between_44 ?_
          refine m_top (y := nI ((t0.length + 1) - 1)) (pk_sub (by omega)) ?_
          refine m_iald S hW hM.2.2.2.2.2.2.2.2.2.2.2.2.2.2.2.2.1 t0.length (congrArg nI (Nat.add_sub_cancel _ 1)) (by omega) (by decide) dX11_between_45 ?_
          refine m_top (y := nI x0) hS_23.hd.1 ?_
          refine m_cie (m_rS S hW (c_X11_rank l G ad sh V_20 x0 (by first | assumption | omega)) (va_cwS 1 hts (gCall [.methodLink RX11 126 yX11_rank, .static yX11_rank, .initialized RX11] (List.forall_mem_cons.mpr ⟨(wa_13 _ (List.mem_of_getElem? (i := 14) (by decide +kernel))), (List.forall_mem_cons.mpr ⟨(wa_13 _ (List.mem_of_getElem? (i := 12) (by decide +kernel))), (List.forall_mem_cons.mpr ⟨(wa_13 _ (List.mem_of_getElem? (i := 13) (by decide +kernel))), (List.forall_mem_cons.mpr ⟨(wa_1 _ (List.mem_of_getElem? (i := 5) (by decide +kernel))), (fun _ h => absurd h List.not_mem_nil)⟩)⟩)⟩)⟩)) rfl rfl rfl (by decide +kernel) ⟨Nat.le_of_ble_eq_true rfl, Nat.le_of_ble_eq_true rfl⟩) rfl hl.1 rfl (Nat.le_of_ble_eq_true rfl) dX11_between_46 ⟨Nat.le_of_ble_eq_true rfl, Nat.le_of_ble_eq_true rfl⟩) hW (fun H locs hW => ?_)
          refine lv_iconst (v := nI 4) hx hb dX11_between_49 (by decide) ?_
          refine lv_icmp_ne (tgt := 55) hx hb dX11_between_50 (by decide) (fun c_34 => ?_) (fun c_34 => ?_)
          · skip
            have c_34 : ¬ (rkN x0) = 4 := mt (nI_eq (by omega) (by omega)).mpr c_34
            refine lv_aload_n hx hb dX11_between_55 rfl (lv_at hl 0 rfl) ?_
            refine lv_iload_n hx hb dX11_between_56 rfl (lv_at hl 1 rfl) ?_
            refine m_cv (m_rV S hW (c_X11_holds l G ad sh V_20 (t0.length + 1) x hM hS_23.hm (by omega)) (cwV 1 hts (gCall [.methodLink RX11 137 yX11_holds, .instanceMethod yX11_holds, .selects RX11 yX11_holds yX11_holds, .initialized RX11] (List.forall_mem_cons.mpr ⟨(wa_13 _ (List.mem_of_getElem? (i := 22) (by decide +kernel))), (List.forall_mem_cons.mpr ⟨(wa_13 _ (List.mem_of_getElem? (i := 19) (by decide +kernel))), (List.forall_mem_cons.mpr ⟨(wa_13 _ (List.mem_of_getElem? (i := 20) (by decide +kernel))), (List.forall_mem_cons.mpr ⟨(wa_13 _ (List.mem_of_getElem? (i := 21) (by decide +kernel))), (List.forall_mem_cons.mpr ⟨(wa_1 _ (List.mem_of_getElem? (i := 5) (by decide +kernel))), (fun _ h => absurd h List.not_mem_nil)⟩)⟩)⟩)⟩)⟩)) rfl rfl rfl (by decide +kernel) ⟨Nat.le_of_ble_eq_true rfl, Nat.le_of_ble_eq_true rfl⟩) hM.1 kX11 rfl hl.1 rfl (Nat.le_of_ble_eq_true rfl) dX11_between_57 ⟨Nat.le_of_ble_eq_true rfl, Nat.le_of_ble_eq_true rfl⟩) hW (fun V_35 H locs hp_36 hW => ?_)
            have eV_35 : V_35 = mU (mU V_20 216 (t0.length + 1) (nI x)) 200 27 (nI ((t0.length + 1) + 1)) := hp_36
            refine lv_iconst (v := nI 1) hx hb dX11_between_60 (by decide) ?_
            exact m_zret S hr hlk hW rfl dX11_between_61 (by exact Or.inr ⟨rfl, btNo_f c_34, bt_push hS_23 (by simp at hul ⊢; omega) (by omega) (by omega) eV_35, hF_24.trans (by rw [eV_35]; exact ((SkF.rfl tn _).p216 _ _).p200 _ (Or.inl rfl))⟩)
          · skip
            have c_34 : (rkN x0) = 4 := (nI_eq (by omega) (by omega)).mp c_34
            refine lv_iconst (v := nI 0) hx hb dX11_between_53 (by decide) ?_
            exact m_zret S hr hlk hW rfl dX11_between_54 (by exact Or.inl ⟨rfl, btNo_t c_25 c_34, hS_23, hF_24⟩)
set_option maxHeartbeats 4000000 in
set_option maxRecDepth 100000 in
theorem c_X11_signOf (l : Launch) (G : mG) (ad : Nat → Nat) (sh : Nat → Option mSh) (V : mV) (t : Int32) (hM : MSh sh) (ht : t ∈ tkL) (htk : V 200 23 = mTk t) : mM l yX11_signOf wsX11_signOf ({ frames := 0, cells := 0, slots := 0, locals := 0 } : Room) G ad sh V [.ref (ad 200)] 0 0 (mPe ad sh V (sgI t)) := by
  refine mM.of (cc := cX11_signOf) (maxL := 1) (ret := (some .int)) (by decide) rfl (Nat.le_of_ble_eq_true rfl) ?_
  intro p e s m below meth c S hr hlk hnm hW ls hl
  obtain ⟨hx, hb, hml, hown, hts⟩ := id S
  have hl : lv_has ls 1 [(0, .ref (ad 200))] := hl
  have hS0 : True := trivial
  refine lv_aload_n hx hb dX11_signOf_0 rfl (lv_at hl 0 rfl) ?_
  refine m_geti S hW hM.1 23 rfl kX11 (iW11 _) (by decide) (List.mem_cons_of_mem _ (wa_12 _ (List.mem_of_getElem? (i := 7) (by decide +kernel)))) dX11_signOf_1 ?_
  refine m_top (y := mTk t) htk ?_
  refine lv_iconst (v := nI 4) hx hb dX11_signOf_4 (by decide) ?_
  refine lv_icmp_ne (tgt := 13) hx hb dX11_signOf_5 (by decide) (fun c_1 => ?_) (fun c_1 => ?_)
  · skip
    refine lv_aload_n hx hb dX11_signOf_13 rfl (lv_at hl 0 rfl) ?_
    refine m_geti S hW hM.1 23 rfl kX11 (iW11 _) (by decide) (List.mem_cons_of_mem _ (wa_12 _ (List.mem_of_getElem? (i := 7) (by decide +kernel)))) dX11_signOf_14 ?_
    refine m_top (y := mTk t) htk ?_
    refine lv_iconst (v := nI 5) hx hb dX11_signOf_17 (by decide) ?_
    refine lv_icmp_ne (tgt := 26) hx hb dX11_signOf_18 (by decide) (fun c_2 => ?_) (fun c_2 => ?_)
    · skip
      refine lv_aload_n hx hb dX11_signOf_26 rfl (lv_at hl 0 rfl) ?_
      refine m_geti S hW hM.1 23 rfl kX11 (iW11 _) (by decide) (List.mem_cons_of_mem _ (wa_12 _ (List.mem_of_getElem? (i := 7) (by decide +kernel)))) dX11_signOf_27 ?_
      refine m_top (y := mTk t) htk ?_
      refine lv_bipush (v := nI 60) hx hb dX11_signOf_30 (by decide) ?_
      refine lv_icmp_ne (tgt := 40) hx hb dX11_signOf_32 (by decide) (fun c_3 => ?_) (fun c_3 => ?_)
      · skip
        refine lv_aload_n hx hb dX11_signOf_40 rfl (lv_at hl 0 rfl) ?_
        refine m_geti S hW hM.1 23 rfl kX11 (iW11 _) (by decide) (List.mem_cons_of_mem _ (wa_12 _ (List.mem_of_getElem? (i := 7) (by decide +kernel)))) dX11_signOf_41 ?_
        refine m_top (y := mTk t) htk ?_
        refine lv_bipush (v := nI 61) hx hb dX11_signOf_44 (by decide) ?_
        refine lv_icmp_ne (tgt := 54) hx hb dX11_signOf_46 (by decide) (fun c_4 => ?_) (fun c_4 => ?_)
        · skip
          refine lv_aload_n hx hb dX11_signOf_54 rfl (lv_at hl 0 rfl) ?_
          refine m_geti S hW hM.1 23 rfl kX11 (iW11 _) (by decide) (List.mem_cons_of_mem _ (wa_12 _ (List.mem_of_getElem? (i := 7) (by decide +kernel)))) dX11_signOf_55 ?_
          refine m_top (y := mTk t) htk ?_
          refine lv_bipush (v := nI 43) hx hb dX11_signOf_58 (by decide) ?_
          refine lv_icmp_ne (tgt := 68) hx hb dX11_signOf_60 (by decide) (fun c_5 => ?_) (fun c_5 => ?_)
          · skip
            refine lv_aload_n hx hb dX11_signOf_68 rfl (lv_at hl 0 rfl) ?_
            refine m_geti S hW hM.1 23 rfl kX11 (iW11 _) (by decide) (List.mem_cons_of_mem _ (wa_12 _ (List.mem_of_getElem? (i := 7) (by decide +kernel)))) dX11_signOf_69 ?_
            refine m_top (y := mTk t) htk ?_
            refine lv_bipush (v := nI 45) hx hb dX11_signOf_72 (by decide) ?_
            refine lv_icmp_ne (tgt := 82) hx hb dX11_signOf_74 (by decide) (fun c_6 => ?_) (fun c_6 => ?_)
            · skip
              refine lv_aload_n hx hb dX11_signOf_82 rfl (lv_at hl 0 rfl) ?_
              refine m_geti S hW hM.1 23 rfl kX11 (iW11 _) (by decide) (List.mem_cons_of_mem _ (wa_12 _ (List.mem_of_getElem? (i := 7) (by decide +kernel)))) dX11_signOf_83 ?_
              refine m_top (y := mTk t) htk ?_
              refine lv_bipush (v := nI 42) hx hb dX11_signOf_86 (by decide) ?_
              refine lv_icmp_ne (tgt := 96) hx hb dX11_signOf_88 (by decide) (fun c_7 => ?_) (fun c_7 => ?_)
              · skip
                refine lv_iconst (v := -1) hx hb dX11_signOf_96 (by decide) ?_
                exact m_iret S hr hlk hW dX11_signOf_97 ⟨rfl, (by exact sgI_0 (sg_7 ht c_1 c_2 c_3 c_4 c_5 c_6 c_7))⟩
              · skip
                refine lv_bipush (v := nI 18) hx hb dX11_signOf_91 (by decide) ?_
                refine lv_goto (tgt := 97) hx hb dX11_signOf_93 (by decide) ?_
                exact m_iret S hr hlk hW dX11_signOf_97 ⟨rfl, (by exact sgI_n (sg_6 t ht c_7) (by decide))⟩
            · skip
              refine lv_bipush (v := nI 17) hx hb dX11_signOf_77 (by decide) ?_
              refine lv_goto (tgt := 97) hx hb dX11_signOf_79 (by decide) ?_
              exact m_iret S hr hlk hW dX11_signOf_97 ⟨rfl, (by exact sgI_n (sg_5 t ht c_6) (by decide))⟩
          · skip
            refine lv_bipush (v := nI 16) hx hb dX11_signOf_63 (by decide) ?_
            refine lv_goto (tgt := 97) hx hb dX11_signOf_65 (by decide) ?_
            exact m_iret S hr hlk hW dX11_signOf_97 ⟨rfl, (by exact sgI_n (sg_4 t ht c_5) (by decide))⟩
        · skip
          refine lv_bipush (v := nI 15) hx hb dX11_signOf_49 (by decide) ?_
          refine lv_goto (tgt := 97) hx hb dX11_signOf_51 (by decide) ?_
          exact m_iret S hr hlk hW dX11_signOf_97 ⟨rfl, (by exact sgI_n (sg_3 t ht c_4) (by decide))⟩
      · skip
        refine lv_bipush (v := nI 14) hx hb dX11_signOf_35 (by decide) ?_
        refine lv_goto (tgt := 97) hx hb dX11_signOf_37 (by decide) ?_
        exact m_iret S hr hlk hW dX11_signOf_97 ⟨rfl, (by exact sgI_n (sg_2 t ht c_3) (by decide))⟩
    · skip
      refine lv_bipush (v := nI 12) hx hb dX11_signOf_21 (by decide) ?_
      refine lv_goto (tgt := 97) hx hb dX11_signOf_23 (by decide) ?_
      exact m_iret S hr hlk hW dX11_signOf_97 ⟨rfl, (by exact sgI_n (sg_1 t ht c_2) (by decide))⟩
  · skip
    refine lv_bipush (v := nI 11) hx hb dX11_signOf_8 (by decide) ?_
    refine lv_goto (tgt := 97) hx hb dX11_signOf_10 (by decide) ?_
    exact m_iret S hr hlk hW dX11_signOf_97 ⟨rfl, (by exact sgI_n (sg_0 t ht c_1) (by decide))⟩
set_option maxHeartbeats 4000000 in
set_option maxRecDepth 100000 in
theorem c_X11_wordFrom (l : Launch) (G : mG) (ad : Nat → Nat) (sh : Nat → Option mSh) (V : mV) (B : Nat → Int32) (aa bb : Nat) (hM : MSh sh) (hB : V 205 = B) (hwd : ∀ k, k < 96 → V 215 k = wdT.getD k 0) (hab : aa ≤ bb) (hb160 : bb ≤ 160) (hlt9 : ∀ j, aa ≤ j → j < bb → mIn (B j) 97 123) : mM l yX11_wordFrom wsX11_wordFrom ({ frames := 0, cells := 0, slots := 0, locals := 0 } : Room) G ad sh V [.ref (ad 200), .int (nI aa), .int (nI bb)] 0 0 (mPip ad sh V (fun r => ∃ (kw : Nat), nI kw = r ∧ (kw ≤ 12) ∧ (tkW kw = fWordT B aa bb))) := by
  refine mM.of (cc := cX11_wordFrom) (maxL := 6) (ret := (some .int)) (by decide) rfl (Nat.le_of_ble_eq_true rfl) ?_
  intro p e s m below meth c S hr hlk hnm hW ls hl
  obtain ⟨hx, hb, hml, hown, hts⟩ := id S
  have hl : lv_has ls 6 [(0, .ref (ad 200)), (1, .int (nI aa)), (2, .int (nI bb))] := hl
  have hS0 : True := trivial
  refine lv_iconst (v := nI 0) hx hb dX11_wordFrom_0 (by decide) ?_
  refine lv_istore_n (lv' := [(3, .int (nI 0)), (0, .ref (ad 200)), (1, .int (nI aa)), (2, .int (nI bb))]) hx hb dX11_wordFrom_1 rfl hl (by decide) rfl (fun ls hl => ?_)
  have loop_2 : ∀ (n_2 : Nat) (k : Nat) (H : Heap) (locs : List Loc) (ls : Array Slot), (k ≤ 12) → (∀ j, j < k → ¬ wmP B aa bb j 8) → (12 - k) < n_2 → mC (mA ad sh s.heap.size) s.heap s G ad sh V H locs → lv_has ls 6 [(0, .ref (ad 200)), (1, .int (nI aa)), (2, .int (nI bb)), (3, .int (nI k))] → W p l e ({ frames := 0, cells := 0, slots := 0, locals := 0 } : Room) s m ([.ref (ad 200), .int (nI aa), .int (nI bb)] : List Value).toArray below meth c H locs 0 0 (MQ below (mPost G ad sh s.heap.size (mPip ad sh V (fun r => ∃ (kw : Nat), nI kw = r ∧ (kw ≤ 12) ∧ (tkW kw = fWordT B aa bb)))) ([.ref (ad 200), .int (nI aa), .int (nI bb)] : List Value).toArray s 0 0 (mA ad sh s.heap.size)) (F0 m 2 ls []) := by
    intro n_2
    induction n_2 with
    | zero => intro k H locs ls hk hno hM_ hW hl; omega
    | succ n_2 ih_2 =>
      intro k H locs ls hk hno hM_ hW hl
      refine lv_iload_n hx hb dX11_wordFrom_2 rfl (lv_at hl 3 rfl) ?_
      refine lv_bipush (v := nI 12) hx hb dX11_wordFrom_3 (by decide) ?_
      refine lv_icmp_ge (tgt := 101) hx hb dX11_wordFrom_5 (by decide) (fun c_1 => ?_) (fun c_1 => ?_)
      · skip
        have c_1 : 12 ≤ k := (nI_leI (by omega) (by omega)).mp c_1
        refine lv_bipush (v := nI 12) hx hb dX11_wordFrom_101 (by decide) ?_
        exact m_iret S hr hlk hW dX11_wordFrom_103 ⟨rfl, (by exact ⟨12, rfl, by decide, word_n hab hlt9 (fun j hj => hno j (by omega))⟩)⟩
      · skip
        have c_1 : ¬ 12 ≤ k := mt (nI_leI (by omega) (by omega)).mpr c_1
        refine lv_iload_n hx hb dX11_wordFrom_8 rfl (lv_at hl 2 rfl) ?_
        refine lv_iload_n hx hb dX11_wordFrom_9 rfl (lv_at hl 1 rfl) ?_
        refine lv_isub hx hb dX11_wordFrom_10 ?_
        refine m_top (y := nI (bb - aa)) (pk_sub (by omega)) ?_
        refine lv_bipush (v := nI 8) hx hb dX11_wordFrom_11 (by decide) ?_
        refine lv_icmp_gt (tgt := 20) hx hb dX11_wordFrom_13 (by decide) (fun c_2 => ?_) (fun c_2 => ?_)
        · skip
          have c_2 : 8 < (bb - aa) := (nI_ltI (by omega) (by omega)).mp c_2
          refine lv_iconst (v := nI 0) hx hb dX11_wordFrom_20 (by decide) ?_
          refine lv_istore (lv' := [(4, .int (nI 0)), (0, .ref (ad 200)), (1, .int (nI aa)), (2, .int (nI bb)), (3, .int (nI k))]) hx hb dX11_wordFrom_21 hl (by decide) rfl (fun ls hl => ?_)
          refine lv_iconst (v := nI 0) hx hb dX11_wordFrom_23 (by decide) ?_
          refine lv_istore (lv' := [(5, .int (nI 0)), (4, .int (nI 0)), (0, .ref (ad 200)), (1, .int (nI aa)), (2, .int (nI bb)), (3, .int (nI k))]) hx hb dX11_wordFrom_24 hl (by decide) rfl (fun ls hl => ?_)
          have loop_26 : ∀ (n_26 : Nat) (lk c8 : Nat) (H : Heap) (locs : List Loc) (ls : Array Slot), (c8 ≤ 8) → (lk ≤ 1) → (lk = 1 ↔ wmP B aa bb k c8) → (8 - c8) < n_26 → mC (mA ad sh s.heap.size) s.heap s G ad sh V H locs → lv_has ls 6 [(0, .ref (ad 200)), (1, .int (nI aa)), (2, .int (nI bb)), (3, .int (nI k)), (4, .int (nI lk)), (5, .int (nI c8))] → W p l e ({ frames := 0, cells := 0, slots := 0, locals := 0 } : Room) s m ([.ref (ad 200), .int (nI aa), .int (nI bb)] : List Value).toArray below meth c H locs 0 0 (MQ below (mPost G ad sh s.heap.size (mPip ad sh V (fun r => ∃ (kw : Nat), nI kw = r ∧ (kw ≤ 12) ∧ (tkW kw = fWordT B aa bb)))) ([.ref (ad 200), .int (nI aa), .int (nI bb)] : List Value).toArray s 0 0 (mA ad sh s.heap.size)) (F0 m 26 ls []) := by
            intro n_26
            induction n_26 with
            | zero => intro lk c8 H locs ls hc8 hlk1 hlkm hM_ hW hl; omega
            | succ n_26 ih_26 =>
              intro lk c8 H locs ls hc8 hlk1 hlkm hM_ hW hl
              refine lv_iload hx hb dX11_wordFrom_26 (lv_at hl 5 rfl) ?_
              refine lv_bipush (v := nI 8) hx hb dX11_wordFrom_28 (by decide) ?_
              refine lv_icmp_ge (tgt := 88) hx hb dX11_wordFrom_30 (by decide) (fun c_3 => ?_) (fun c_3 => ?_)
              · skip
                have c_3 : 8 ≤ c8 := (nI_leI (by omega) (by omega)).mp c_3
                have hlk8 : lk = 1 ↔ wmP B aa bb k 8 := ⟨fun z => by have h9 := hlkm.mp z; rw [show c8 = 8 by omega] at h9; exact h9, fun z => hlkm.mpr (wm_lt z (by omega))⟩
                refine lv_iload hx hb dX11_wordFrom_88 (lv_at hl 4 rfl) ?_
                refine m_if_eq (tgt := 95) hx hb dX11_wordFrom_90 (by decide) (fun c_4 => ?_) (fun c_4 => ?_)
                · skip
                  have c_4 : lk = 0 := (nI_eq (by omega) (by omega)).mp c_4
                  refine lv_iinc (v := nI (k + 1)) (lv' := [(3, .int (nI (k + 1))), (0, .ref (ad 200)), (1, .int (nI aa)), (2, .int (nI bb)), (4, .int (nI lk)), (5, .int (nI c8))]) hx hb dX11_wordFrom_95 hl (k := 3) rfl (m_inc k 1) (by decide) rfl (fun ls hl => ?_)
                  refine lv_goto (tgt := 2) hx hb dX11_wordFrom_98 (by decide) ?_
                  exact ih_2  (k + 1)  _ _ _ (by omega) (by intro j hj z; exact (Nat.lt_succ_iff_lt_or_eq.mp hj).elim (fun h => hno j h z) (fun h => by rw [h] at z; have := hlk8.mpr z; omega)) (by omega) hW (lv_sub hl [1, 2, 3, 0] rfl)
                · skip
                  have c_4 : ¬ lk = 0 := mt (nI_eq (by omega) (by omega)).mpr c_4
                  refine lv_iload_n hx hb dX11_wordFrom_93 rfl (lv_at hl 3 rfl) ?_
                  exact m_iret S hr hlk hW dX11_wordFrom_94 ⟨rfl, (by exact ⟨k, rfl, by omega, word_y (by omega) hab hlt9 (hlk8.mp (by omega))⟩)⟩
              · skip
                have c_3 : ¬ 8 ≤ c8 := mt (nI_leI (by omega) (by omega)).mpr c_3
                refine lv_iload hx hb dX11_wordFrom_33 (lv_at hl 4 rfl) ?_
                refine m_if_eq (tgt := 88) hx hb dX11_wordFrom_35 (by decide) (fun c_5 => ?_) (fun c_5 => ?_)
                · skip
                  have c_5 : lk = 0 := (nI_eq (by omega) (by omega)).mp c_5
                  have hlk8 : lk = 1 ↔ wmP B aa bb k 8 := ⟨fun z => absurd z (by omega), fun z => hlkm.mpr (wm_lt z (by omega))⟩
                  refine lv_iload hx hb dX11_wordFrom_88 (lv_at hl 4 rfl) ?_
                  refine m_if_eq (tgt := 95) hx hb dX11_wordFrom_90 (by decide) (fun c_6 => ?_) (fun c_6 => ?_)
                  · skip
                    have c_6 : lk = 0 := (nI_eq (by omega) (by omega)).mp c_6
                    refine lv_iinc (v := nI (k + 1)) (lv' := [(3, .int (nI (k + 1))), (0, .ref (ad 200)), (1, .int (nI aa)), (2, .int (nI bb)), (4, .int (nI lk)), (5, .int (nI c8))]) hx hb dX11_wordFrom_95 hl (k := 3) rfl (m_inc k 1) (by decide) rfl (fun ls hl => ?_)
                    refine lv_goto (tgt := 2) hx hb dX11_wordFrom_98 (by decide) ?_
                    exact ih_2  (k + 1)  _ _ _ (by omega) (by intro j hj z; exact (Nat.lt_succ_iff_lt_or_eq.mp hj).elim (fun h => hno j h z) (fun h => by rw [h] at z; have := hlk8.mpr z; omega)) (by omega) hW (lv_sub hl [1, 2, 3, 0] rfl)
                  · skip
                    have c_6 : ¬ lk = 0 := mt (nI_eq (by omega) (by omega)).mpr c_6
                    refine lv_iload_n hx hb dX11_wordFrom_93 rfl (lv_at hl 3 rfl) ?_
                    exact m_iret S hr hlk hW dX11_wordFrom_94 ⟨rfl, (by exact ⟨k, rfl, by omega, word_y (by omega) hab hlt9 (hlk8.mp (by omega))⟩)⟩
                · skip
                  have c_5 : ¬ lk = 0 := mt (nI_eq (by omega) (by omega)).mpr c_5
                  refine lv_aload_n hx hb dX11_wordFrom_38 rfl (lv_at hl 0 rfl) ?_
                  refine m_getr S hW hM.1 25 rfl (j := 215) rfl kX11 (iW11 _) (by decide) (List.mem_cons_of_mem _ (wa_11 _ (List.mem_of_getElem? (i := 16) (by decide +kernel)))) dX11_wordFrom_39 ?_
                  refine lv_bipush (v := nI 8) hx hb dX11_wordFrom_42 (by decide) ?_
                  refine lv_iload_n hx hb dX11_wordFrom_44 rfl (lv_at hl 3 rfl) ?_
                  refine lv_imul hx hb dX11_wordFrom_45 ?_
                  refine m_top (y := nI (8 * k)) (pk_mul 8 k) ?_
                  refine lv_iload hx hb dX11_wordFrom_46 (lv_at hl 5 rfl) ?_
                  refine lv_iadd hx hb dX11_wordFrom_48 ?_
                  refine m_top (y := nI ((8 * k) + c8)) (nI_add (8 * k) c8) ?_
                  refine m_iald S hW hM.2.2.2.2.2.2.2.2.2.2.2.2.2.2.2.1 ((8 * k) + c8) rfl (by omega) (by decide) dX11_wordFrom_49 ?_
                  refine m_top (y := (wdT.getD (8 * k + c8) 0)) (hwd _ (by omega)) ?_
                  refine lv_iload_n hx hb dX11_wordFrom_50 rfl (lv_at hl 1 rfl) ?_
                  refine lv_iload hx hb dX11_wordFrom_51 (lv_at hl 5 rfl) ?_
                  refine lv_iadd hx hb dX11_wordFrom_53 ?_
                  refine m_top (y := nI (aa + c8)) (nI_add aa c8) ?_
                  refine lv_iload_n hx hb dX11_wordFrom_54 rfl (lv_at hl 2 rfl) ?_
                  refine lv_icmp_ge (tgt := 70) hx hb dX11_wordFrom_55 (by decide) (fun c_7 => ?_) (fun c_7 => ?_)
                  · skip
                    have c_7 : bb ≤ (aa + c8) := (nI_leI (by omega) (by omega)).mp c_7
                    refine lv_bipush (v := nI 32) hx hb dX11_wordFrom_70 (by decide) ?_
                    refine lv_icmp_ne (tgt := 79) hx hb dX11_wordFrom_72 (by decide) (fun c_8 => ?_) (fun c_8 => ?_)
                    · skip
                      refine lv_iconst (v := nI 0) hx hb dX11_wordFrom_79 (by decide) ?_
                      refine lv_istore (lv' := [(4, .int (nI 0)), (0, .ref (ad 200)), (1, .int (nI aa)), (2, .int (nI bb)), (3, .int (nI k)), (5, .int (nI c8))]) hx hb dX11_wordFrom_80 hl (by decide) rfl (fun ls hl => ?_)
                      refine lv_iinc (v := nI (c8 + 1)) (lv' := [(5, .int (nI (c8 + 1))), (4, .int (nI 0)), (0, .ref (ad 200)), (1, .int (nI aa)), (2, .int (nI bb)), (3, .int (nI k))]) hx hb dX11_wordFrom_82 hl (k := 5) rfl (m_inc c8 1) (by decide) rfl (fun ls hl => ?_)
                      refine lv_goto (tgt := 26) hx hb dX11_wordFrom_85 (by decide) ?_
                      exact ih_26  0 (c8 + 1)  _ _ _ (by omega) (by decide) (by exact ⟨fun z => absurd z (by decide), fun z => absurd (by have h9 := z.2 c8 (Nat.lt_succ_self _); rw [if_neg (show ¬ aa + c8 < bb by omega)] at h9; exact h9) c_8⟩) (by omega) hW (lv_sub hl [2, 3, 4, 5, 1, 0] rfl)
                    · skip
                      refine lv_iconst (v := nI 1) hx hb dX11_wordFrom_75 (by decide) ?_
                      refine lv_goto (tgt := 80) hx hb dX11_wordFrom_76 (by decide) ?_
                      refine lv_istore (lv' := [(4, .int (nI 1)), (0, .ref (ad 200)), (1, .int (nI aa)), (2, .int (nI bb)), (3, .int (nI k)), (5, .int (nI c8))]) hx hb dX11_wordFrom_80 hl (by decide) rfl (fun ls hl => ?_)
                      refine lv_iinc (v := nI (c8 + 1)) (lv' := [(5, .int (nI (c8 + 1))), (4, .int (nI 1)), (0, .ref (ad 200)), (1, .int (nI aa)), (2, .int (nI bb)), (3, .int (nI k))]) hx hb dX11_wordFrom_82 hl (k := 5) rfl (m_inc c8 1) (by decide) rfl (fun ls hl => ?_)
                      refine lv_goto (tgt := 26) hx hb dX11_wordFrom_85 (by decide) ?_
                      exact ih_26  1 (c8 + 1)  _ _ _ (by omega) (by decide) (by exact ⟨fun _ => wm_s (hlkm.mp (by omega)) (by rw [if_neg (show ¬ aa + c8 < bb by omega)]; exact c_8), fun _ => rfl⟩) (by omega) hW (lv_sub hl [2, 3, 4, 5, 1, 0] rfl)
                  · skip
                    have c_7 : ¬ bb ≤ (aa + c8) := mt (nI_leI (by omega) (by omega)).mpr c_7
                    refine lv_aload_n hx hb dX11_wordFrom_58 rfl (lv_at hl 0 rfl) ?_
                    refine m_getr S hW hM.1 7 rfl (j := 205) rfl kX11 (iW11 _) (by decide) (List.mem_cons_of_mem _ (wa_11 _ (List.mem_of_getElem? (i := 6) (by decide +kernel)))) dX11_wordFrom_59 ?_
                    refine lv_iload_n hx hb dX11_wordFrom_62 rfl (lv_at hl 1 rfl) ?_
                    refine lv_iload hx hb dX11_wordFrom_63 (lv_at hl 5 rfl) ?_
                    refine lv_iadd hx hb dX11_wordFrom_65 ?_
                    refine m_top (y := nI (aa + c8)) (nI_add aa c8) ?_
                    refine m_iald S hW hM.2.2.2.2.2.1 (aa + c8) rfl (by omega) (by decide) dX11_wordFrom_66 ?_
                    refine m_top (y := (B (aa + c8))) (by rw [hB]) ?_
                    refine lv_goto (tgt := 72) hx hb dX11_wordFrom_67 (by decide) ?_
                    refine lv_icmp_ne (tgt := 79) hx hb dX11_wordFrom_72 (by decide) (fun c_9 => ?_) (fun c_9 => ?_)
                    · skip
                      refine lv_iconst (v := nI 0) hx hb dX11_wordFrom_79 (by decide) ?_
                      refine lv_istore (lv' := [(4, .int (nI 0)), (0, .ref (ad 200)), (1, .int (nI aa)), (2, .int (nI bb)), (3, .int (nI k)), (5, .int (nI c8))]) hx hb dX11_wordFrom_80 hl (by decide) rfl (fun ls hl => ?_)
                      refine lv_iinc (v := nI (c8 + 1)) (lv' := [(5, .int (nI (c8 + 1))), (4, .int (nI 0)), (0, .ref (ad 200)), (1, .int (nI aa)), (2, .int (nI bb)), (3, .int (nI k))]) hx hb dX11_wordFrom_82 hl (k := 5) rfl (m_inc c8 1) (by decide) rfl (fun ls hl => ?_)
                      refine lv_goto (tgt := 26) hx hb dX11_wordFrom_85 (by decide) ?_
                      exact ih_26  0 (c8 + 1)  _ _ _ (by omega) (by decide) (by exact ⟨fun z => absurd z (by decide), fun z => absurd (by have h9 := z.2 c8 (Nat.lt_succ_self _); rw [if_pos (show aa + c8 < bb by omega)] at h9; exact h9) c_9⟩) (by omega) hW (lv_sub hl [2, 3, 4, 5, 1, 0] rfl)
                    · skip
                      refine lv_iconst (v := nI 1) hx hb dX11_wordFrom_75 (by decide) ?_
                      refine lv_goto (tgt := 80) hx hb dX11_wordFrom_76 (by decide) ?_
                      refine lv_istore (lv' := [(4, .int (nI 1)), (0, .ref (ad 200)), (1, .int (nI aa)), (2, .int (nI bb)), (3, .int (nI k)), (5, .int (nI c8))]) hx hb dX11_wordFrom_80 hl (by decide) rfl (fun ls hl => ?_)
                      refine lv_iinc (v := nI (c8 + 1)) (lv' := [(5, .int (nI (c8 + 1))), (4, .int (nI 1)), (0, .ref (ad 200)), (1, .int (nI aa)), (2, .int (nI bb)), (3, .int (nI k))]) hx hb dX11_wordFrom_82 hl (k := 5) rfl (m_inc c8 1) (by decide) rfl (fun ls hl => ?_)
                      refine lv_goto (tgt := 26) hx hb dX11_wordFrom_85 (by decide) ?_
                      exact ih_26  1 (c8 + 1)  _ _ _ (by omega) (by decide) (by exact ⟨fun _ => wm_s (hlkm.mp (by omega)) (by rw [if_pos (show aa + c8 < bb by omega)]; exact c_9), fun _ => rfl⟩) (by omega) hW (lv_sub hl [2, 3, 4, 5, 1, 0] rfl)
          exact loop_26 (8 - 0 + 1) 0 0  _ _ _ (by omega) (by decide) (by exact ⟨fun z => absurd z (by decide), fun z => absurd z.1 (by omega)⟩) (by omega) hW (lv_sub hl [2, 3, 4, 5, 1, 0] rfl)
        · skip
          have c_2 : ¬ 8 < (bb - aa) := mt (nI_ltI (by omega) (by omega)).mpr c_2
          refine lv_iconst (v := nI 1) hx hb dX11_wordFrom_16 (by decide) ?_
          refine lv_goto (tgt := 21) hx hb dX11_wordFrom_17 (by decide) ?_
          refine lv_istore (lv' := [(4, .int (nI 1)), (0, .ref (ad 200)), (1, .int (nI aa)), (2, .int (nI bb)), (3, .int (nI k))]) hx hb dX11_wordFrom_21 hl (by decide) rfl (fun ls hl => ?_)
          refine lv_iconst (v := nI 0) hx hb dX11_wordFrom_23 (by decide) ?_
          refine lv_istore (lv' := [(5, .int (nI 0)), (4, .int (nI 1)), (0, .ref (ad 200)), (1, .int (nI aa)), (2, .int (nI bb)), (3, .int (nI k))]) hx hb dX11_wordFrom_24 hl (by decide) rfl (fun ls hl => ?_)
          have loop_26 : ∀ (n_26 : Nat) (lk c8 : Nat) (H : Heap) (locs : List Loc) (ls : Array Slot), (c8 ≤ 8) → (lk ≤ 1) → (lk = 1 ↔ wmP B aa bb k c8) → (8 - c8) < n_26 → mC (mA ad sh s.heap.size) s.heap s G ad sh V H locs → lv_has ls 6 [(0, .ref (ad 200)), (1, .int (nI aa)), (2, .int (nI bb)), (3, .int (nI k)), (4, .int (nI lk)), (5, .int (nI c8))] → W p l e ({ frames := 0, cells := 0, slots := 0, locals := 0 } : Room) s m ([.ref (ad 200), .int (nI aa), .int (nI bb)] : List Value).toArray below meth c H locs 0 0 (MQ below (mPost G ad sh s.heap.size (mPip ad sh V (fun r => ∃ (kw : Nat), nI kw = r ∧ (kw ≤ 12) ∧ (tkW kw = fWordT B aa bb)))) ([.ref (ad 200), .int (nI aa), .int (nI bb)] : List Value).toArray s 0 0 (mA ad sh s.heap.size)) (F0 m 26 ls []) := by
            intro n_26
            induction n_26 with
            | zero => intro lk c8 H locs ls hc8 hlk1 hlkm hM_ hW hl; omega
            | succ n_26 ih_26 =>
              intro lk c8 H locs ls hc8 hlk1 hlkm hM_ hW hl
              refine lv_iload hx hb dX11_wordFrom_26 (lv_at hl 5 rfl) ?_
              refine lv_bipush (v := nI 8) hx hb dX11_wordFrom_28 (by decide) ?_
              refine lv_icmp_ge (tgt := 88) hx hb dX11_wordFrom_30 (by decide) (fun c_10 => ?_) (fun c_10 => ?_)
              · skip
                have c_10 : 8 ≤ c8 := (nI_leI (by omega) (by omega)).mp c_10
                have hlk8 : lk = 1 ↔ wmP B aa bb k 8 := ⟨fun z => by have h9 := hlkm.mp z; rw [show c8 = 8 by omega] at h9; exact h9, fun z => hlkm.mpr (wm_lt z (by omega))⟩
                refine lv_iload hx hb dX11_wordFrom_88 (lv_at hl 4 rfl) ?_
                refine m_if_eq (tgt := 95) hx hb dX11_wordFrom_90 (by decide) (fun c_11 => ?_) (fun c_11 => ?_)
                · skip
                  have c_11 : lk = 0 := (nI_eq (by omega) (by omega)).mp c_11
                  refine lv_iinc (v := nI (k + 1)) (lv' := [(3, .int (nI (k + 1))), (0, .ref (ad 200)), (1, .int (nI aa)), (2, .int (nI bb)), (4, .int (nI lk)), (5, .int (nI c8))]) hx hb dX11_wordFrom_95 hl (k := 3) rfl (m_inc k 1) (by decide) rfl (fun ls hl => ?_)
                  refine lv_goto (tgt := 2) hx hb dX11_wordFrom_98 (by decide) ?_
                  exact ih_2  (k + 1)  _ _ _ (by omega) (by intro j hj z; exact (Nat.lt_succ_iff_lt_or_eq.mp hj).elim (fun h => hno j h z) (fun h => by rw [h] at z; have := hlk8.mpr z; omega)) (by omega) hW (lv_sub hl [1, 2, 3, 0] rfl)
                · skip
                  have c_11 : ¬ lk = 0 := mt (nI_eq (by omega) (by omega)).mpr c_11
                  refine lv_iload_n hx hb dX11_wordFrom_93 rfl (lv_at hl 3 rfl) ?_
                  exact m_iret S hr hlk hW dX11_wordFrom_94 ⟨rfl, (by exact ⟨k, rfl, by omega, word_y (by omega) hab hlt9 (hlk8.mp (by omega))⟩)⟩
              · skip
                have c_10 : ¬ 8 ≤ c8 := mt (nI_leI (by omega) (by omega)).mpr c_10
                refine lv_iload hx hb dX11_wordFrom_33 (lv_at hl 4 rfl) ?_
                refine m_if_eq (tgt := 88) hx hb dX11_wordFrom_35 (by decide) (fun c_12 => ?_) (fun c_12 => ?_)
                · skip
                  have c_12 : lk = 0 := (nI_eq (by omega) (by omega)).mp c_12
                  have hlk8 : lk = 1 ↔ wmP B aa bb k 8 := ⟨fun z => absurd z (by omega), fun z => hlkm.mpr (wm_lt z (by omega))⟩
                  refine lv_iload hx hb dX11_wordFrom_88 (lv_at hl 4 rfl) ?_
                  refine m_if_eq (tgt := 95) hx hb dX11_wordFrom_90 (by decide) (fun c_13 => ?_) (fun c_13 => ?_)
                  · skip
                    have c_13 : lk = 0 := (nI_eq (by omega) (by omega)).mp c_13
                    refine lv_iinc (v := nI (k + 1)) (lv' := [(3, .int (nI (k + 1))), (0, .ref (ad 200)), (1, .int (nI aa)), (2, .int (nI bb)), (4, .int (nI lk)), (5, .int (nI c8))]) hx hb dX11_wordFrom_95 hl (k := 3) rfl (m_inc k 1) (by decide) rfl (fun ls hl => ?_)
                    refine lv_goto (tgt := 2) hx hb dX11_wordFrom_98 (by decide) ?_
                    exact ih_2  (k + 1)  _ _ _ (by omega) (by intro j hj z; exact (Nat.lt_succ_iff_lt_or_eq.mp hj).elim (fun h => hno j h z) (fun h => by rw [h] at z; have := hlk8.mpr z; omega)) (by omega) hW (lv_sub hl [1, 2, 3, 0] rfl)
                  · skip
                    have c_13 : ¬ lk = 0 := mt (nI_eq (by omega) (by omega)).mpr c_13
                    refine lv_iload_n hx hb dX11_wordFrom_93 rfl (lv_at hl 3 rfl) ?_
                    exact m_iret S hr hlk hW dX11_wordFrom_94 ⟨rfl, (by exact ⟨k, rfl, by omega, word_y (by omega) hab hlt9 (hlk8.mp (by omega))⟩)⟩
                · skip
                  have c_12 : ¬ lk = 0 := mt (nI_eq (by omega) (by omega)).mpr c_12
                  refine lv_aload_n hx hb dX11_wordFrom_38 rfl (lv_at hl 0 rfl) ?_
                  refine m_getr S hW hM.1 25 rfl (j := 215) rfl kX11 (iW11 _) (by decide) (List.mem_cons_of_mem _ (wa_11 _ (List.mem_of_getElem? (i := 16) (by decide +kernel)))) dX11_wordFrom_39 ?_
                  refine lv_bipush (v := nI 8) hx hb dX11_wordFrom_42 (by decide) ?_
                  refine lv_iload_n hx hb dX11_wordFrom_44 rfl (lv_at hl 3 rfl) ?_
                  refine lv_imul hx hb dX11_wordFrom_45 ?_
                  refine m_top (y := nI (8 * k)) (pk_mul 8 k) ?_
                  refine lv_iload hx hb dX11_wordFrom_46 (lv_at hl 5 rfl) ?_
                  refine lv_iadd hx hb dX11_wordFrom_48 ?_
                  refine m_top (y := nI ((8 * k) + c8)) (nI_add (8 * k) c8) ?_
                  refine m_iald S hW hM.2.2.2.2.2.2.2.2.2.2.2.2.2.2.2.1 ((8 * k) + c8) rfl (by omega) (by decide) dX11_wordFrom_49 ?_
                  refine m_top (y := (wdT.getD (8 * k + c8) 0)) (hwd _ (by omega)) ?_
                  refine lv_iload_n hx hb dX11_wordFrom_50 rfl (lv_at hl 1 rfl) ?_
                  refine lv_iload hx hb dX11_wordFrom_51 (lv_at hl 5 rfl) ?_
                  refine lv_iadd hx hb dX11_wordFrom_53 ?_
                  refine m_top (y := nI (aa + c8)) (nI_add aa c8) ?_
                  refine lv_iload_n hx hb dX11_wordFrom_54 rfl (lv_at hl 2 rfl) ?_
                  refine lv_icmp_ge (tgt := 70) hx hb dX11_wordFrom_55 (by decide) (fun c_14 => ?_) (fun c_14 => ?_)
                  · skip
                    have c_14 : bb ≤ (aa + c8) := (nI_leI (by omega) (by omega)).mp c_14
                    refine lv_bipush (v := nI 32) hx hb dX11_wordFrom_70 (by decide) ?_
                    refine lv_icmp_ne (tgt := 79) hx hb dX11_wordFrom_72 (by decide) (fun c_15 => ?_) (fun c_15 => ?_)
                    · skip
                      refine lv_iconst (v := nI 0) hx hb dX11_wordFrom_79 (by decide) ?_
                      refine lv_istore (lv' := [(4, .int (nI 0)), (0, .ref (ad 200)), (1, .int (nI aa)), (2, .int (nI bb)), (3, .int (nI k)), (5, .int (nI c8))]) hx hb dX11_wordFrom_80 hl (by decide) rfl (fun ls hl => ?_)
                      refine lv_iinc (v := nI (c8 + 1)) (lv' := [(5, .int (nI (c8 + 1))), (4, .int (nI 0)), (0, .ref (ad 200)), (1, .int (nI aa)), (2, .int (nI bb)), (3, .int (nI k))]) hx hb dX11_wordFrom_82 hl (k := 5) rfl (m_inc c8 1) (by decide) rfl (fun ls hl => ?_)
                      refine lv_goto (tgt := 26) hx hb dX11_wordFrom_85 (by decide) ?_
                      exact ih_26  0 (c8 + 1)  _ _ _ (by omega) (by decide) (by exact ⟨fun z => absurd z (by decide), fun z => absurd (by have h9 := z.2 c8 (Nat.lt_succ_self _); rw [if_neg (show ¬ aa + c8 < bb by omega)] at h9; exact h9) c_15⟩) (by omega) hW (lv_sub hl [2, 3, 4, 5, 1, 0] rfl)
                    · skip
                      refine lv_iconst (v := nI 1) hx hb dX11_wordFrom_75 (by decide) ?_
                      refine lv_goto (tgt := 80) hx hb dX11_wordFrom_76 (by decide) ?_
                      refine lv_istore (lv' := [(4, .int (nI 1)), (0, .ref (ad 200)), (1, .int (nI aa)), (2, .int (nI bb)), (3, .int (nI k)), (5, .int (nI c8))]) hx hb dX11_wordFrom_80 hl (by decide) rfl (fun ls hl => ?_)
                      refine lv_iinc (v := nI (c8 + 1)) (lv' := [(5, .int (nI (c8 + 1))), (4, .int (nI 1)), (0, .ref (ad 200)), (1, .int (nI aa)), (2, .int (nI bb)), (3, .int (nI k))]) hx hb dX11_wordFrom_82 hl (k := 5) rfl (m_inc c8 1) (by decide) rfl (fun ls hl => ?_)
                      refine lv_goto (tgt := 26) hx hb dX11_wordFrom_85 (by decide) ?_
                      exact ih_26  1 (c8 + 1)  _ _ _ (by omega) (by decide) (by exact ⟨fun _ => wm_s (hlkm.mp (by omega)) (by rw [if_neg (show ¬ aa + c8 < bb by omega)]; exact c_15), fun _ => rfl⟩) (by omega) hW (lv_sub hl [2, 3, 4, 5, 1, 0] rfl)
                  · skip
                    have c_14 : ¬ bb ≤ (aa + c8) := mt (nI_leI (by omega) (by omega)).mpr c_14
                    refine lv_aload_n hx hb dX11_wordFrom_58 rfl (lv_at hl 0 rfl) ?_
                    refine m_getr S hW hM.1 7 rfl (j := 205) rfl kX11 (iW11 _) (by decide) (List.mem_cons_of_mem _ (wa_11 _ (List.mem_of_getElem? (i := 6) (by decide +kernel)))) dX11_wordFrom_59 ?_
                    refine lv_iload_n hx hb dX11_wordFrom_62 rfl (lv_at hl 1 rfl) ?_
                    refine lv_iload hx hb dX11_wordFrom_63 (lv_at hl 5 rfl) ?_
                    refine lv_iadd hx hb dX11_wordFrom_65 ?_
                    refine m_top (y := nI (aa + c8)) (nI_add aa c8) ?_
                    refine m_iald S hW hM.2.2.2.2.2.1 (aa + c8) rfl (by omega) (by decide) dX11_wordFrom_66 ?_
                    refine m_top (y := (B (aa + c8))) (by rw [hB]) ?_
                    refine lv_goto (tgt := 72) hx hb dX11_wordFrom_67 (by decide) ?_
                    refine lv_icmp_ne (tgt := 79) hx hb dX11_wordFrom_72 (by decide) (fun c_16 => ?_) (fun c_16 => ?_)
                    · skip
                      refine lv_iconst (v := nI 0) hx hb dX11_wordFrom_79 (by decide) ?_
                      refine lv_istore (lv' := [(4, .int (nI 0)), (0, .ref (ad 200)), (1, .int (nI aa)), (2, .int (nI bb)), (3, .int (nI k)), (5, .int (nI c8))]) hx hb dX11_wordFrom_80 hl (by decide) rfl (fun ls hl => ?_)
                      refine lv_iinc (v := nI (c8 + 1)) (lv' := [(5, .int (nI (c8 + 1))), (4, .int (nI 0)), (0, .ref (ad 200)), (1, .int (nI aa)), (2, .int (nI bb)), (3, .int (nI k))]) hx hb dX11_wordFrom_82 hl (k := 5) rfl (m_inc c8 1) (by decide) rfl (fun ls hl => ?_)
                      refine lv_goto (tgt := 26) hx hb dX11_wordFrom_85 (by decide) ?_
                      exact ih_26  0 (c8 + 1)  _ _ _ (by omega) (by decide) (by exact ⟨fun z => absurd z (by decide), fun z => absurd (by have h9 := z.2 c8 (Nat.lt_succ_self _); rw [if_pos (show aa + c8 < bb by omega)] at h9; exact h9) c_16⟩) (by omega) hW (lv_sub hl [2, 3, 4, 5, 1, 0] rfl)
                    · skip
                      refine lv_iconst (v := nI 1) hx hb dX11_wordFrom_75 (by decide) ?_
                      refine lv_goto (tgt := 80) hx hb dX11_wordFrom_76 (by decide) ?_
                      refine lv_istore (lv' := [(4, .int (nI 1)), (0, .ref (ad 200)), (1, .int (nI aa)), (2, .int (nI bb)), (3, .int (nI k)), (5, .int (nI c8))]) hx hb dX11_wordFrom_80 hl (by decide) rfl (fun ls hl => ?_)
                      refine lv_iinc (v := nI (c8 + 1)) (lv' := [(5, .int (nI (c8 + 1))), (4, .int (nI 1)), (0, .ref (ad 200)), (1, .int (nI aa)), (2, .int (nI bb)), (3, .int (nI k))]) hx hb dX11_wordFrom_82 hl (k := 5) rfl (m_inc c8 1) (by decide) rfl (fun ls hl => ?_)
                      refine lv_goto (tgt := 26) hx hb dX11_wordFrom_85 (by decide) ?_
                      exact ih_26  1 (c8 + 1)  _ _ _ (by omega) (by decide) (by exact ⟨fun _ => wm_s (hlkm.mp (by omega)) (by rw [if_pos (show aa + c8 < bb by omega)]; exact c_16), fun _ => rfl⟩) (by omega) hW (lv_sub hl [2, 3, 4, 5, 1, 0] rfl)
          exact loop_26 (8 - 0 + 1) 1 0  _ _ _ (by omega) (by decide) (by exact ⟨fun _ => ⟨by omega, fun c hc => absurd hc (by omega)⟩, fun _ => rfl⟩) (by omega) hW (lv_sub hl [2, 3, 4, 5, 1, 0] rfl)
  exact loop_2 (12 - 0 + 1) 0  _ _ _ (by omega) (by intro j hj; omega) (by omega) hW (lv_sub hl [1, 2, 3, 0] rfl)
