/-! orders -/
/-- a scene b, its law's text, its view -/
def SzOk (sh : Nat → Option mSh) (V : mV) (b t ta tb tl ne ng : Nat) (ask : fAsks) (z : fZ) : Prop := ScOk sh b ∧ ScI V b t ta tb tl ne ng ∧ TxS sh t tl ∧ ask = fAsk (V (t + 1)) ta tb tl ∧ z = zv V b ne ng
theorem SzOk.ne5 {sh : Nat → Option mSh} {V : mV} {b t ta tb tl ne ng : Nat} {ask : fAsks} {z : fZ} (h : SzOk sh V b t ta tb tl ne ng ask z) : ne ≤ 5 := h.2.1.2.2.1
theorem SzOk.ng6 {sh : Nat → Option mSh} {V : mV} {b t ta tb tl ne ng : Nat} {ask : fAsks} {z : fZ} (h : SzOk sh V b t ta tb tl ne ng ask z) : ng ≤ 6 := h.2.1.2.2.2.1
theorem SzOk.sE {sh : Nat → Option mSh} {V : mV} {b t ta tb tl ne ng : Nat} {ask : fAsks} {z : fZ} (h : SzOk sh V b t ta tb tl ne ng ask z) {e : Nat} (he : e < ne) : sh (b + 4 + e) = some sEater := h.1.2.2.2.2.1 e (Nat.lt_of_lt_of_le he h.ne5)
theorem SzOk.sG {sh : Nat → Option mSh} {V : mV} {b t ta tb tl ne ng : Nat} {ask : fAsks} {z : fZ} (h : SzOk sh V b t ta tb tl ne ng ask z) {g : Nat} (hg : g < ng) : sh (b + 10 + 2 * g) = some (sGood (b + 10 + 2 * g)) := h.1.2.2.2.2.2.1 g (Nat.lt_of_lt_of_le hg h.ng6)
theorem SzOk.sW {sh : Nat → Option mSh} {V : mV} {b t ta tb tl ne ng : Nat} {ask : fAsks} {z : fZ} (h : SzOk sh V b t ta tb tl ne ng ask z) {g : Nat} (hg : g < ng) : sh (b + 10 + 2 * g + 1) = some (mI 10) := h.1.2.2.2.2.2.2 g (Nat.lt_of_lt_of_le hg h.ng6)
/-- what counts is as it was -/
theorem SzOk.fr {sh : Nat → Option mSh} {V V' : mV} {b t ta tb tl ne ng : Nat} {ask : fAsks} {z : fZ} (h : SzOk sh V b t ta tb tl ne ng ask z) (h1 : ∀ a, (b + 4 ≤ a ∧ a < b + 22) ∨ a = t ∨ a = t + 1 → V' a = V a) (h2 : ∀ q, 2 ≤ q → q < 6 → V' b q = V b q) : SzOk sh V' b t ta tb tl ne ng ask z := by
  obtain ⟨p1, ⟨q1, q2, q3, q4, q5, q6, q7, q8⟩, p3, p4, p5⟩ := h
  refine ⟨p1, ⟨by rw [h2 2 (by omega) (by omega)]; exact q1, by rw [h2 3 (by omega) (by omega)]; exact q2, q3, q4, by rw [h2 5 (by omega) (by omega)]; exact q5, by rw [h1 t (by omega)]; exact q6, by rw [h1 t (by omega)]; exact q7, q8⟩, p3, by rw [h1 (t + 1) (by omega)]; exact p4, ?_⟩
  rw [p5]
  exact (zv_congr (h2 4 (by omega) (by omega)) (fun e k he hk => by rw [h1 _ (by omega)]) (fun g k hg hk => by rw [h1 _ (by omega)]) (fun g k hg hk => by rw [h1 _ (by omega)])).symm
theorem SzOk.nt {sh : Nat → Option mSh} {V : mV} {b t ta tb tl ne ng : Nat} {ask : fAsks} {z : fZ} (h : SzOk sh V b t ta tb tl ne ng ask z) {a : Nat} {S : mSh} (ha : sh a = some S) (h1 : S ≠ sText t) (h2 : S ≠ mI tl) : t ≠ a ∧ t + 1 ≠ a := ⟨ne_sh h.2.2.1.1 ha (Ne.symm h1), ne_sh h.2.2.1.2.1 ha (Ne.symm h2)⟩
theorem SzOk.bite {sh : Nat → Option mSh} {V : mV} {b t ta tb tl ne ng : Nat} {ask : fAsks} {z : fZ} (h : SzOk sh V b t ta tb tl ne ng ask z) {e g p : Nat} (he : e < ne) (hg : g < ng) : SzOk sh (fBite V b (b + 4 + e) (b + 10 + 2 * g) (zMk z e g p) (zLi ask z e g (zMk z e g p)) (zCo ask z e g (zMk z e g p))) b t ta tb tl ne ng ask (zBi ask z e g p) := by
  have hne := h.ne5
  have hng := h.ng6
  have hb := h.nt h.1.1 (fun z => by simp at z) (fun z => by simp at z)
  have hE := h.nt (h.sE he) (fun z => by simp at z) (fun z => by simp at z)
  have hG := h.nt (h.sG hg) (fun z => by simp at z) (fun z => by simp at z)
  obtain ⟨p1, p2, p3, p4, p5⟩ := h
  refine ⟨p1, (((p2.put _ hb.1 (Or.inr ⟨by decide, by decide, by decide⟩)).put _ hE.1 (Or.inl (by omega))).put _ hE.1 (Or.inl (by omega))).put _ hG.1 (Or.inl (by omega)), p3, ?_, ?_⟩
  · rw [fBite, mU_no _ _ hG.2, mU_no _ _ hE.2, mU_no _ _ hE.2, mU_no _ _ hb.2]
    exact p4
  · rw [p5]
    exact (zBi_v ask V b he hg p hne rfl rfl rfl).symm
section ZM
variable (l : Launch) (G : mG) (ad : Nat → Nat) (sh : Nat → Option mSh) (V : mV) (b t ta tb tl ne ng : Nat) (ask : fAsks) (z : fZ)
theorem c_X4_findBest_z (e : Nat) (hZ : SzOk sh V b t ta tb tl ne ng ask z) (he : e < ne) : mM l yX4_findBest wsX4_findBest ({ frames := 4, cells := 0, slots := 0, locals := 140 } : Room) G ad sh V [.ref (ad b), .ref (ad (b + 4 + e))] 0 0 (mPv ad sh (fun V' => V' = mU (mU V b 6 (zBest ask z e (ng * 16)).1) b 7 (zBest ask z e (ng * 16)).2)) := by
  have h := c_X4_findBest l G ad sh V b t ta tb tl ne ng (b + 4 + e) hZ.1 hZ.2.1 hZ.2.2.1 (hZ.sE he)
  rw [← hZ.2.2.2.1, ← zBest_v ask V b he (ng * 16) (Nat.le_refl _), ← hZ.2.2.2.2] at h
  exact h
theorem c_X4_tryBite_z (e g p : Nat) (hZ : SzOk sh V b t ta tb tl ne ng ask z) (he : e < ne) (hg : g < ng) : mM l yX4_tryBite wsX4_tryBite ({ frames := 4, cells := 0, slots := 0, locals := 140 } : Room) G ad sh V [.ref (ad b), .ref (ad (b + 4 + e)), .ref (ad (b + 10 + 2 * g)), .int (nI p)] 0 0 (mPi ad sh (fun r V' => (nI 0 = r ∧ V' = V ∧ ¬ zCan ask z e g p) ∨ (nI 1 = r ∧ zCan ask z e g p ∧ V' = fBite V b (b + 4 + e) (b + 10 + 2 * g) (zMk z e g p) (zLi ask z e g (zMk z e g p)) (zCo ask z e g (zMk z e g p))))) := by
  have hne := hZ.ne5
  have h := c_X4_tryBite l G ad sh V b t ta tb tl ne ng (b + 4 + e) (b + 10 + 2 * g) (nI p) hZ.1 hZ.2.1 hZ.2.2.1 (hZ.sE he) (hZ.sG hg) (hZ.sW hg) (by omega) (by omega) (by omega)
  rw [← hZ.2.2.2.1, ← zMk_v V b he hg p, ← zCo_v ask V b he hg, ← zLi_v ask V b he hg, ← hZ.2.2.2.2] at h
  refine h.weak (fun v ad' sh' V' => ?_)
  rintro ⟨h1, h2, r, h3, h4⟩
  refine ⟨h1, h2, r, h3, ?_⟩
  have hp : z (4 + e) 3 = V (b + 4 + e) 3 := by rw [hZ.2.2.2.2]; exact zv_e V b ng 3 he (by omega)
  rcases h4 with ⟨q1, q2, q3⟩ | ⟨q1, q2, q3, q4⟩
  · exact Or.inl ⟨q1, q2, fun w => q3.elim (fun y => w.1 y) (fun y => w.2 (by rw [hp]; exact y))⟩
  · exact Or.inr ⟨q1, ⟨q2, by rw [hp]; exact q3⟩, q4⟩
end ZM
/-- what a thought works on -/
def ThOk (sh : Nat → Option mSh) (V : mV) (t ta tb tl ne ng : Nat) (ask : fAsks) (z : fZ) : Prop := sh 5 = some sThought ∧ SzOk sh V 80 t ta tb tl ne ng ask z
def ThFr (V V' : mV) : Prop := (∀ a, a ≠ 5 → a ≠ 80 → V' a = V a) ∧ (∀ q, q < 6 → V' 80 q = V 80 q)
theorem ThFr.rfl (V : mV) : ThFr V V := ⟨fun _ _ _ => Eq.refl _, fun _ _ => Eq.refl _⟩
theorem ThFr.trans {V V1 V2 : mV} (h : ThFr V V1) (h' : ThFr V1 V2) : ThFr V V2 := ⟨fun a h1 h2 => (h'.1 a h1 h2).trans (h.1 a h1 h2), fun q hq => (h'.2 q hq).trans (h.2 q hq)⟩
theorem ThFr.p5 {V V' : mV} (h : ThFr V V') (k : Nat) (x : Int32) : ThFr V (mU V' 5 k x) := ⟨fun a h1 h2 => by rw [mU_no _ _ h1]; exact h.1 a h1 h2, fun q hq => by rw [mU_no _ _ (by omega)]; exact h.2 q hq⟩
theorem ThFr.p80 {V V' : mV} (h : ThFr V V') {k : Nat} (x : Int32) (hk : 6 ≤ k) : ThFr V (mU V' 80 k x) := ⟨fun a h1 h2 => by rw [mU_no _ _ h2]; exact h.1 a h1 h2, fun q hq => by rw [mU_ne _ _ (by omega)]; exact h.2 q hq⟩
theorem ThOk.fr {sh : Nat → Option mSh} {V V' : mV} {t ta tb tl ne ng : Nat} {ask : fAsks} {z : fZ} (h : ThOk sh V t ta tb tl ne ng ask z) (hf : ThFr V V') : ThOk sh V' t ta tb tl ne ng ask z := by
  have h5 := h.2.nt h.1 (fun z => by simp at z) (fun z => by simp at z)
  have hb := h.2.nt h.2.1.1 (fun z => by simp at z) (fun z => by simp at z)
  exact ⟨h.1, h.2.fr (fun a ha => hf.1 a (by omega) (by omega)) (fun q _ hq => hf.2 q hq)⟩
theorem ThOk.bite {sh : Nat → Option mSh} {V : mV} {t ta tb tl ne ng : Nat} {ask : fAsks} {z : fZ} (h : ThOk sh V t ta tb tl ne ng ask z) {e g p : Nat} (he : e < ne) (hg : g < ng) : ThOk sh (fBite V 80 (80 + 4 + e) (80 + 10 + 2 * g) (zMk z e g p) (zLi ask z e g (zMk z e g p)) (zCo ask z e g (zMk z e g p))) t ta tb tl ne ng ask (zBi ask z e g p) := ⟨h.1, h.2.bite he hg⟩
/-- a bite that was thought is given back -/
theorem ThFr.back {V V1 V2 V3 : mV} {e g : Nat} {x wo co : Int32} (h1 : ThFr V V1) (h2 : V2 = fBite V1 80 (80 + 4 + e) (80 + 10 + 2 * g) x wo co) (h3 : ThFr V2 V3) (he : e < 5) : ThFr V (mU (mU (mU V3 (80 + 10 + 2 * g) 2 (V1 (80 + 10 + 2 * g) 2)) (80 + 4 + e) 3 (V1 (80 + 4 + e) 3)) (80 + 4 + e) 4 (V1 (80 + 4 + e) 4)) := by
  refine ⟨fun a h5 h8 => ?_, fun q hq => ?_⟩
  · rw [← h1.1 a h5 h8]
    have h3a := h3.1 a h5 h8
    funext k
    have h3k := congrFun h3a k
    rw [h2] at h3k
    simp only [fBite, mU] at h3k
    simp only [mU]
    by_cases c1 : a = 80 + 4 + e ∧ k = 4
    · rw [if_pos c1, c1.1, c1.2]
    · rw [if_neg c1]
      by_cases c2 : a = 80 + 4 + e ∧ k = 3
      · rw [if_pos c2, c2.1, c2.2]
      · rw [if_neg c2]
        by_cases c3 : a = 80 + 10 + 2 * g ∧ k = 2
        · rw [if_pos c3, c3.1, c3.2]
        · rw [if_neg c3]
          rw [if_neg c3, if_neg c2, if_neg c1, if_neg (fun z => h8 z.1)] at h3k
          exact h3k
  · rw [mU_no _ _ (by omega), mU_no _ _ (by omega), mU_no _ _ (by omega), h3.2 q hq, h2, fBite, mU_no _ _ (by omega), mU_no _ _ (by omega), mU_no _ _ (by omega), mU_ne _ _ (by omega)]
    exact h1.2 q hq
theorem ThFr.best {V : mV} (x y : Int32) : ThFr V (mU (mU V 80 6 x) 80 7 y) := ((ThFr.rfl V).p80 x (by decide)).p80 y (by decide)
/-! orders by the view -/
def zNext (rec : fZ → Int32 → Int32 × Int32 → Int32 × Int32) (ask : fAsks) (ng : Nat) (z : fZ) (e : Nat) (ga : Int32) (q : Int32 × Int32) : Int32 × Int32 :=
  if (zBest ask z e (ng * 16)).1 = -1 then rec z ga q else rec (zBi ask z e ((zBest ask z e (ng * 16)).1.toNatClampNeg / 100) ((zBest ask z e (ng * 16)).1.toNatClampNeg % 100)) (ga + (zBest ask z e (ng * 16)).2) q
def zTry (f : Nat → Int32 × Int32 → Int32 × Int32) (P : Nat → Bool) (q : Int32 × Int32) : Nat → Int32 × Int32
  | 0 => q
  | k + 1 => if P k = true then zTry f P q k else f k (zTry f P q k)
def zOrd (ask : fAsks) (ne ng : Nat) : Nat → fZ → (Nat → Bool) → Int32 → Int32 → Int32 × Int32 → Int32 × Int32
  | 0, _, _, dg, ga, q => if q.1 = -1 ∨ q.2 < ga then (dg, ga) else q
  | d + 1, z, P, dg, ga, q => zTry (fun e q => zNext (fun z ga q => zOrd ask ne ng d z (fun x => P x || x == e) (nI 10 * dg + nI e + nI 1) ga q) ask ng z e ga q) P q ne
theorem zNext_n {rec : fZ → Int32 → Int32 × Int32 → Int32 × Int32} {ask : fAsks} {ng : Nat} {z : fZ} {e : Nat} (ga : Int32) (q : Int32 × Int32) (h : zBest ask z e (ng * 16) = (-1, nI 0)) : zNext rec ask ng z e ga q = rec z ga q := by rw [zNext, h, if_pos rfl]
theorem zNext_s {rec : fZ → Int32 → Int32 × Int32 → Int32 × Int32} {ask : fAsks} {ng : Nat} {z : fZ} {e gg pp : Nat} (ga : Int32) (q : Int32 × Int32) (h : zBest ask z e (ng * 16) = (nI (100 * gg + pp), zGa ask z e gg pp)) (h1 : gg < 6) (h2 : pp < 16) : zNext rec ask ng z e ga q = rec (zBi ask z e gg pp) (ga + zGa ask z e gg pp) q := by
  rw [zNext, h, if_neg (m_nneg (by omega)), nI_clamp (by omega), show (100 * gg + pp) / 100 = gg by omega, show (100 * gg + pp) % 100 = pp by omega]
theorem fGone_bit {gn k : Nat} (h : gn < 32) (hk : k < 5) : (nI gn >>> (nI k &&& 31)) &&& nI 1 = nI 0 ↔ gn / 2 ^ k % 2 = 0 := by
  rw [m_bit (by omega) (by omega)]
  exact nI_eq (by omega) (by omega)
theorem fGone_or {gn k : Nat} (hk : k < 5) : nI gn ||| (nI 1 <<< (nI k &&& 31)) = nI (gn ||| 2 ^ k) := by
  have : 2 ^ k ≤ 2 ^ 5 := Nat.pow_le_pow_right (by decide) (by omega)
  rw [m_shl (by omega) (by omega), m_or, Nat.one_mul]
theorem fGone_all : ∀ gn, gn < 32 → ∀ k, k < 5 → gn ||| 2 ^ k < 32 ∧ ∀ x, x < 5 → ((gn ||| 2 ^ k) / 2 ^ x % 2 = 0 ↔ gn / 2 ^ x % 2 = 0 ∧ (x == k) = false) := by decide +kernel
theorem fGone_P {gn k : Nat} {P : Nat → Bool} (h : gn < 32) (hk : k < 5) (hP : ∀ k, k < 5 → (gn / 2 ^ k % 2 = 0 ↔ P k = false)) : ∀ x, x < 5 → ((gn ||| 2 ^ k) / 2 ^ x % 2 = 0 ↔ (fun x => P x || x == k) x = false) := by
  intro x hx
  rw [(fGone_all gn h k hk).2 x hx, hP x hx]
  simp only [Bool.or_eq_false_iff]
set_option maxHeartbeats 4000000 in
set_option maxRecDepth 100000 in
theorem c_X8_tryNext (l : Launch) (G : mG) (ad : Nat → Nat) (sh : Nat → Option mSh) (V : mV) (t ta tb tl ne ng : Nat) (ask : fAsks) (z : fZ) (P : Nat → Bool) (d ee tn gn : Nat) (dg ga : Int32) (hH : ThOk sh V t ta tb tl ne ng ask z) (he : ee < ne) (htn : tn + 1 + d = ne) (hgn : gn < 32) (hP : ∀ k, k < 5 → (gn / 2 ^ k % 2 = 0 ↔ P k = false)) (IH : ∀ (V : mV) (z : fZ) (P : Nat → Bool) (tn gn : Nat) (dg ga : Int32), (ThOk sh V t ta tb tl ne ng ask z) → (tn + d = ne) → (gn < 32) → (∀ k, k < 5 → (gn / 2 ^ k % 2 = 0 ↔ P k = false)) → mM l yX8_tryOrders wsX8_tryOrders ({ frames := 20 + 2 * d, cells := 0, slots := 0, locals := 600 + 60 * d } : Room) G ad sh V [.ref (ad 5), .int (nI tn), .int (nI gn), .int dg, .int ga] 0 0 (mPv ad sh (fun V' => (ThFr V V') ∧ ((V' 5 1, V' 5 2) = zOrd ask ne ng d z P dg ga (V 5 1, V 5 2))))) : mM l yX8_tryNext wsX8_tryNext ({ frames := 21 + 2 * d, cells := 0, slots := 0, locals := 630 + 60 * d } : Room) G ad sh V [.ref (ad 5), .int (nI ee), .int (nI tn), .int (nI gn), .int dg, .int ga] 0 0 (mPv ad sh (fun V' => (ThFr V V') ∧ ((V' 5 1, V' 5 2) = zNext (fun z ga q => zOrd ask ne ng d z P dg ga q) ask ng z ee ga (V 5 1, V 5 2)))) := by
  refine mM.of (cc := cX8_tryNext) (maxL := 11) (ret := none) (by decide) rfl (Nat.le_of_ble_eq_true rfl) ?_
  intro p e s m below meth c S hr hlk hnm hW ls hl
  obtain ⟨hx, hb, hml, hown, hts⟩ := id S
  have hl : lv_has ls 11 [(0, .ref (ad 5)), (1, .int (nI ee)), (2, .int (nI tn)), (3, .int (nI gn)), (4, .int dg), (5, .int ga)] := hl
  have hS0 : True := trivial
  have hne5 := hH.2.ne5
  have hng6 := hH.2.ng6
  refine lv_aload_n hx hb dX8_tryNext_0 rfl (lv_at hl 0 rfl) ?_
  refine m_getr S hW hH.1 0 rfl (j := 80) rfl kX8 (iW8 _) (by decide) (List.mem_cons_of_mem _ (wa_10 _ (List.mem_of_getElem? (i := 15) (by decide +kernel)))) dX8_tryNext_1 ?_
  refine m_getr S hW hH.2.1.1 0 rfl (j := (80 + 1)) rfl kX4 (iW4 _) (by decide) (List.mem_cons_of_mem _ (wa_31 _ (List.mem_of_getElem? (i := 5) (by decide +kernel)))) dX8_tryNext_4 ?_
  refine lv_iload_n hx hb dX8_tryNext_7 rfl (lv_at hl 1 rfl) ?_
  refine m_aald S hW 1 rfl hH.2.1.2.1 ee rfl (by omega) (by decide) (j := (80 + 4 + ee)) (if_pos (by omega)) dX8_tryNext_8 ?_
  refine lv_astore (lv' := [(6, .ref (ad (80 + 4 + ee))), (0, .ref (ad 5)), (1, .int (nI ee)), (2, .int (nI tn)), (3, .int (nI gn)), (4, .int dg), (5, .int ga)]) hx hb dX8_tryNext_9 hl (by decide) rfl (fun ls hl => ?_)
  refine lv_aload_n hx hb dX8_tryNext_11 rfl (lv_at hl 1 rfl) ?_
  refine m_getr S hW hH.1 0 rfl (j := 80) rfl kX8 (iW8 _) (by decide) (List.mem_cons_of_mem _ (wa_10 _ (List.mem_of_getElem? (i := 15) (by decide +kernel)))) dX8_tryNext_12 ?_
  refine lv_aload hx hb dX8_tryNext_15 (lv_at hl 0 rfl) ?_
  refine m_cv (m_rV S hW (c_X4_findBest_z l G ad sh V 80 t ta tb tl ne ng ask z ee hH.2 (by first | assumption | omega)) (cwV 1 hts (gCall [.methodLink RX8 42 yX4_findBest, .instanceMethod yX4_findBest, .selects RX4 yX4_findBest yX4_findBest, .initialized RX4] (List.forall_mem_cons.mpr ⟨(wa_28 _ (List.mem_of_getElem? (i := 21) (by decide +kernel))), (List.forall_mem_cons.mpr ⟨(wa_31 _ (List.mem_of_getElem? (i := 10) (by decide +kernel))), (List.forall_mem_cons.mpr ⟨(wa_28 _ (List.mem_of_getElem? (i := 19) (by decide +kernel))), (List.forall_mem_cons.mpr ⟨(wa_28 _ (List.mem_of_getElem? (i := 20) (by decide +kernel))), (List.forall_mem_cons.mpr ⟨(wa_2 _ (List.mem_of_getElem? (i := 7) (by decide +kernel))), (fun _ h => absurd h List.not_mem_nil)⟩)⟩)⟩)⟩)⟩)) rfl rfl rfl (by decide +kernel) ⟨by dsimp only; omega, by dsimp only; omega⟩) hH.2.1.1 kX4 rfl hl.1 rfl (Nat.le_of_ble_eq_true rfl) dX8_tryNext_17 ⟨Nat.le_of_ble_eq_true rfl, Nat.le_of_ble_eq_true rfl⟩) hW (fun V_1 H locs hp_2 hW => ?_)
  have eV_1 : V_1 = mU (mU V 80 6 (zBest ask z ee (ng * 16)).1) 80 7 (zBest ask z ee (ng * 16)).2 := hp_2
  have hf1 : ThFr V V_1 := by rw [eV_1]; exact ThFr.best _ _
  have hH1 := hH.fr hf1
  have e51 : (V_1 5 1, V_1 5 2) = (V 5 1, V 5 2) := by rw [eV_1, mU_no _ _ (by omega), mU_no _ _ (by omega)]
  rcases zBest_range ask z ee (ng * 16) with hr0 | ⟨gg, pp, hgp, hpp, hr0, hcan⟩
  · skip
    have hb6 : V_1 80 6 = -1 := by rw [eV_1, mU_ne _ _ (by omega), mU_eq, hr0]
    refine lv_aload_n hx hb dX8_tryNext_20 rfl (lv_at hl 1 rfl) ?_
    refine m_getr S hW hH.1 0 rfl (j := 80) rfl kX8 (iW8 _) (by decide) (List.mem_cons_of_mem _ (wa_10 _ (List.mem_of_getElem? (i := 15) (by decide +kernel)))) dX8_tryNext_21 ?_
    refine m_crp (m_rV S hW (c_X4_goodOfBest_n l G ad sh V_1 80 t ta tb tl ne ng hH.2.1 hH1.2.2.1 (by first | assumption | omega)) (cwV 0 hts (gCall [.methodLink RX8 46 yX4_goodOfBest, .instanceMethod yX4_goodOfBest, .selects RX4 yX4_goodOfBest yX4_goodOfBest, .initialized RX4] (List.forall_mem_cons.mpr ⟨(wa_31 _ (List.mem_of_getElem? (i := 14) (by decide +kernel))), (List.forall_mem_cons.mpr ⟨(wa_31 _ (List.mem_of_getElem? (i := 11) (by decide +kernel))), (List.forall_mem_cons.mpr ⟨(wa_31 _ (List.mem_of_getElem? (i := 12) (by decide +kernel))), (List.forall_mem_cons.mpr ⟨(wa_31 _ (List.mem_of_getElem? (i := 13) (by decide +kernel))), (List.forall_mem_cons.mpr ⟨(wa_2 _ (List.mem_of_getElem? (i := 7) (by decide +kernel))), (fun _ h => absurd h List.not_mem_nil)⟩)⟩)⟩)⟩)⟩)) rfl rfl rfl (by decide +kernel) ⟨by dsimp only; omega, by dsimp only; omega⟩) hH.2.1.1 kX4 rfl hl.1 rfl (Nat.le_of_ble_eq_true rfl) dX8_tryNext_24 ⟨Nat.le_of_ble_eq_true rfl, Nat.le_of_ble_eq_true rfl⟩) hW (fun r_5 H locs hp_4 hW => ?_)
    obtain rfl := hp_4
    refine W.eq (g2 := F0 m 27 ls [.null]) rfl ?_
    refine lv_astoreN (lv' := [(7, .null), (6, .ref (ad (80 + 4 + ee))), (0, .ref (ad 5)), (1, .int (nI ee)), (2, .int (nI tn)), (3, .int (nI gn)), (4, .int dg), (5, .int ga)]) hx hb dX8_tryNext_27 hl (by decide) rfl (fun ls hl => ?_)
    refine lv_aloadN hx hb dX8_tryNext_29 (lv_at hl 0 rfl) ?_
    refine lv_ifnonnullN hx hb dX8_tryNext_31 ?_
    refine lv_aload_n hx hb dX8_tryNext_34 rfl (lv_at hl 2 rfl) ?_
    refine lv_iload_n hx hb dX8_tryNext_35 rfl (lv_at hl 4 rfl) ?_
    refine lv_iconst (v := nI 1) hx hb dX8_tryNext_36 (by decide) ?_
    refine lv_iadd hx hb dX8_tryNext_37 ?_
    refine m_top (y := nI (tn + 1)) (nI_add tn 1) ?_
    refine lv_iload_n hx hb dX8_tryNext_38 rfl (lv_at hl 5 rfl) ?_
    refine lv_iload hx hb dX8_tryNext_39 (lv_at hl 6 rfl) ?_
    refine lv_iload hx hb dX8_tryNext_41 (lv_at hl 7 rfl) ?_
    refine m_cv (m_rV S hW (IH V_1 z P (tn + 1) gn dg ga hH1 (by first | assumption | omega) (by first | assumption | omega) (by first | assumption | omega)) (cwV 4 hts (gCall [.methodLink RX8 50 yX8_tryOrders, .instanceMethod yX8_tryOrders, .selects RX8 yX8_tryOrders yX8_tryOrders, .initialized RX8] (List.forall_mem_cons.mpr ⟨(wa_30 _ (List.mem_of_getElem? (i := 23) (by decide +kernel))), (List.forall_mem_cons.mpr ⟨(wa_31 _ (List.mem_of_getElem? (i := 16) (by decide +kernel))), (List.forall_mem_cons.mpr ⟨(wa_30 _ (List.mem_of_getElem? (i := 21) (by decide +kernel))), (List.forall_mem_cons.mpr ⟨(wa_30 _ (List.mem_of_getElem? (i := 22) (by decide +kernel))), (List.forall_mem_cons.mpr ⟨(wa_2 _ (List.mem_of_getElem? (i := 12) (by decide +kernel))), (fun _ h => absurd h List.not_mem_nil)⟩)⟩)⟩)⟩)⟩)) rfl rfl rfl (by decide +kernel) ⟨by dsimp only; omega, by dsimp only; omega⟩) hH.1 kX8 rfl hl.1 rfl (Nat.le_of_ble_eq_true rfl) dX8_tryNext_43 ⟨Nat.le_of_ble_eq_true rfl, Nat.le_of_ble_eq_true rfl⟩) hW (fun V_6 H locs hp_7 hW => ?_)
    obtain ⟨hf_9, hq_10⟩ := hp_7
    exact m_vret S hr hlk hW dX8_tryNext_46 (by exact ⟨hf1.trans hf_9, by rw [zNext_n _ _ hr0, hq_10, e51]⟩)
  · skip
    have hgg : gg < ng := by omega
    have hb6 : V_1 80 6 = nI (100 * gg + pp) := by rw [eV_1, mU_ne _ _ (by omega), mU_eq, hr0]
    refine lv_aload_n hx hb dX8_tryNext_20 rfl (lv_at hl 1 rfl) ?_
    refine m_getr S hW hH.1 0 rfl (j := 80) rfl kX8 (iW8 _) (by decide) (List.mem_cons_of_mem _ (wa_10 _ (List.mem_of_getElem? (i := 15) (by decide +kernel)))) dX8_tryNext_21 ?_
    refine m_crp (m_rV S hW (c_X4_goodOfBest l G ad sh V_1 80 t ta tb tl ne ng gg pp hH.2.1 hH1.2.2.1 (by first | assumption | omega) (by first | assumption | omega) (by first | assumption | omega)) (cwV 0 hts (gCall [.methodLink RX8 46 yX4_goodOfBest, .instanceMethod yX4_goodOfBest, .selects RX4 yX4_goodOfBest yX4_goodOfBest, .initialized RX4] (List.forall_mem_cons.mpr ⟨(wa_31 _ (List.mem_of_getElem? (i := 14) (by decide +kernel))), (List.forall_mem_cons.mpr ⟨(wa_31 _ (List.mem_of_getElem? (i := 11) (by decide +kernel))), (List.forall_mem_cons.mpr ⟨(wa_31 _ (List.mem_of_getElem? (i := 12) (by decide +kernel))), (List.forall_mem_cons.mpr ⟨(wa_31 _ (List.mem_of_getElem? (i := 13) (by decide +kernel))), (List.forall_mem_cons.mpr ⟨(wa_2 _ (List.mem_of_getElem? (i := 7) (by decide +kernel))), (fun _ h => absurd h List.not_mem_nil)⟩)⟩)⟩)⟩)⟩)) rfl rfl rfl (by decide +kernel) ⟨by dsimp only; omega, by dsimp only; omega⟩) hH.2.1.1 kX4 rfl hl.1 rfl (Nat.le_of_ble_eq_true rfl) dX8_tryNext_24 ⟨Nat.le_of_ble_eq_true rfl, Nat.le_of_ble_eq_true rfl⟩) hW (fun r_12 H locs hp_11 hW => ?_)
    obtain rfl := hp_11
    refine W.eq (g2 := F0 m 27 ls [.ref (ad (80 + 10 + 2 * gg))]) rfl ?_
    refine lv_astore (lv' := [(7, .ref (ad (80 + 10 + 2 * gg))), (6, .ref (ad (80 + 4 + ee))), (0, .ref (ad 5)), (1, .int (nI ee)), (2, .int (nI tn)), (3, .int (nI gn)), (4, .int dg), (5, .int ga)]) hx hb dX8_tryNext_27 hl (by decide) rfl (fun ls hl => ?_)
    refine lv_aload hx hb dX8_tryNext_29 (lv_at hl 0 rfl) ?_
    refine lv_ifnonnull (tgt := 47) hx hb dX8_tryNext_31 (by decide) ?_
    refine lv_aload hx hb dX8_tryNext_47 (lv_at hl 1 rfl) ?_
    refine m_geti S hW (hH.2.1.2.2.2.2.1 ee (by omega)) 3 rfl kX1 (iW1 _) (by decide) (List.mem_cons_of_mem _ (wa_31 _ (List.mem_of_getElem? (i := 6) (by decide +kernel)))) dX8_tryNext_49 ?_
    refine lv_istore (lv' := [(8, .int (V_1 (80 + 4 + ee) 3)), (7, .ref (ad (80 + 10 + 2 * gg))), (6, .ref (ad (80 + 4 + ee))), (0, .ref (ad 5)), (1, .int (nI ee)), (2, .int (nI tn)), (3, .int (nI gn)), (4, .int dg), (5, .int ga)]) hx hb dX8_tryNext_52 hl (by decide) rfl (fun ls hl => ?_)
    refine lv_aload hx hb dX8_tryNext_54 (lv_at hl 2 rfl) ?_
    refine m_geti S hW (hH.2.1.2.2.2.2.1 ee (by omega)) 4 rfl kX1 (iW1 _) (by decide) (List.mem_cons_of_mem _ (wa_31 _ (List.mem_of_getElem? (i := 7) (by decide +kernel)))) dX8_tryNext_56 ?_
    refine lv_istore (lv' := [(9, .int (V_1 (80 + 4 + ee) 4)), (8, .int (V_1 (80 + 4 + ee) 3)), (7, .ref (ad (80 + 10 + 2 * gg))), (6, .ref (ad (80 + 4 + ee))), (0, .ref (ad 5)), (1, .int (nI ee)), (2, .int (nI tn)), (3, .int (nI gn)), (4, .int dg), (5, .int ga)]) hx hb dX8_tryNext_59 hl (by decide) rfl (fun ls hl => ?_)
    refine lv_aload hx hb dX8_tryNext_61 (lv_at hl 2 rfl) ?_
    refine m_geti S hW (hH.2.1.2.2.2.2.2.1 gg (Nat.lt_of_lt_of_le (by first | assumption | omega) hH1.2.2.1.2.2.2.1)) 2 rfl kX3 (iW3 _) (by decide) (List.mem_cons_of_mem _ (wa_31 _ (List.mem_of_getElem? (i := 8) (by decide +kernel)))) dX8_tryNext_63 ?_
    refine lv_istore (lv' := [(10, .int (V_1 (80 + 10 + 2 * gg) 2)), (9, .int (V_1 (80 + 4 + ee) 4)), (8, .int (V_1 (80 + 4 + ee) 3)), (7, .ref (ad (80 + 10 + 2 * gg))), (6, .ref (ad (80 + 4 + ee))), (0, .ref (ad 5)), (1, .int (nI ee)), (2, .int (nI tn)), (3, .int (nI gn)), (4, .int dg), (5, .int ga)]) hx hb dX8_tryNext_66 hl (by decide) rfl (fun ls hl => ?_)
    refine lv_aload_n hx hb dX8_tryNext_68 rfl (lv_at hl 5 rfl) ?_
    refine m_getr S hW hH.1 0 rfl (j := 80) rfl kX8 (iW8 _) (by decide) (List.mem_cons_of_mem _ (wa_10 _ (List.mem_of_getElem? (i := 15) (by decide +kernel)))) dX8_tryNext_69 ?_
    refine lv_aload hx hb dX8_tryNext_72 (lv_at hl 4 rfl) ?_
    refine lv_aload hx hb dX8_tryNext_74 (lv_at hl 3 rfl) ?_
    refine lv_aload_n hx hb dX8_tryNext_76 rfl (lv_at hl 5 rfl) ?_
    refine m_getr S hW hH.1 0 rfl (j := 80) rfl kX8 (iW8 _) (by decide) (List.mem_cons_of_mem _ (wa_10 _ (List.mem_of_getElem? (i := 15) (by decide +kernel)))) dX8_tryNext_77 ?_
    refine m_cie (m_rV S hW (c_X4_placeOfBest l G ad sh V_1 80 t ta tb tl ne ng gg pp hH.2.1 hH1.2.2.1 (by first | assumption | omega) (by first | assumption | omega) (by first | assumption | omega)) (cwV 0 hts (gCall [.methodLink RX8 67 yX4_placeOfBest, .instanceMethod yX4_placeOfBest, .selects RX4 yX4_placeOfBest yX4_placeOfBest, .initialized RX4] (List.forall_mem_cons.mpr ⟨(wa_31 _ (List.mem_of_getElem? (i := 20) (by decide +kernel))), (List.forall_mem_cons.mpr ⟨(wa_31 _ (List.mem_of_getElem? (i := 17) (by decide +kernel))), (List.forall_mem_cons.mpr ⟨(wa_31 _ (List.mem_of_getElem? (i := 18) (by decide +kernel))), (List.forall_mem_cons.mpr ⟨(wa_31 _ (List.mem_of_getElem? (i := 19) (by decide +kernel))), (List.forall_mem_cons.mpr ⟨(wa_2 _ (List.mem_of_getElem? (i := 7) (by decide +kernel))), (fun _ h => absurd h List.not_mem_nil)⟩)⟩)⟩)⟩)⟩)) rfl rfl rfl (by decide +kernel) ⟨by dsimp only; omega, by dsimp only; omega⟩) hH.2.1.1 kX4 rfl hl.1 rfl (Nat.le_of_ble_eq_true rfl) dX8_tryNext_80 ⟨Nat.le_of_ble_eq_true rfl, Nat.le_of_ble_eq_true rfl⟩) hW (fun H locs hW => ?_)
    refine m_ci (m_rV S hW (c_X4_tryBite_z l G ad sh V_1 80 t ta tb tl ne ng ask z ee gg pp hH1.2 (by first | assumption | omega) (by first | assumption | omega)) (cwV 3 hts (gCall [.methodLink RX8 71 yX4_tryBite, .instanceMethod yX4_tryBite, .selects RX4 yX4_tryBite yX4_tryBite, .initialized RX4] (List.forall_mem_cons.mpr ⟨(wa_27 _ (List.mem_of_getElem? (i := 17) (by decide +kernel))), (List.forall_mem_cons.mpr ⟨(wa_31 _ (List.mem_of_getElem? (i := 21) (by decide +kernel))), (List.forall_mem_cons.mpr ⟨(wa_27 _ (List.mem_of_getElem? (i := 15) (by decide +kernel))), (List.forall_mem_cons.mpr ⟨(wa_27 _ (List.mem_of_getElem? (i := 16) (by decide +kernel))), (List.forall_mem_cons.mpr ⟨(wa_2 _ (List.mem_of_getElem? (i := 7) (by decide +kernel))), (fun _ h => absurd h List.not_mem_nil)⟩)⟩)⟩)⟩)⟩)) rfl rfl rfl (by decide +kernel) ⟨by dsimp only; omega, by dsimp only; omega⟩) hH.2.1.1 kX4 rfl hl.1 rfl (Nat.le_of_ble_eq_true rfl) dX8_tryNext_83 ⟨Nat.le_of_ble_eq_true rfl, Nat.le_of_ble_eq_true rfl⟩) hW (fun r_15 V_13 H locs hp_14 hW => ?_)
    rcases hp_14 with ⟨rfl, eV_13, nc_16⟩ | ⟨rfl, yc_17, hv_18⟩
    · skip
      exact absurd hcan nc_16
    · skip
      have hH2 : ThOk sh V_13 t ta tb tl ne ng ask (zBi ask z ee gg pp) := by rw [hv_18]; exact hH1.bite he hgg
      have e52 : (V_13 5 1, V_13 5 2) = (V 5 1, V 5 2) := by rw [hv_18, fBite, mU_no _ _ (by omega), mU_no _ _ (by omega), mU_no _ _ (by omega), mU_no _ _ (by omega)]; exact e51
      have e80 : V_13 80 8 = zGa ask z ee gg pp := by rw [hv_18, fBite, mU_no _ _ (by omega), mU_no _ _ (by omega), mU_no _ _ (by omega), mU_eq]; rfl
      refine lv_pop hx hb dX8_tryNext_86 rfl ?_
      refine lv_aload_n hx hb dX8_tryNext_87 rfl (lv_at hl 5 rfl) ?_
      refine lv_iload_n hx hb dX8_tryNext_88 rfl (lv_at hl 7 rfl) ?_
      refine lv_iconst (v := nI 1) hx hb dX8_tryNext_89 (by decide) ?_
      refine lv_iadd hx hb dX8_tryNext_90 ?_
      refine m_top (y := nI (tn + 1)) (nI_add tn 1) ?_
      refine lv_iload_n hx hb dX8_tryNext_91 rfl (lv_at hl 8 rfl) ?_
      refine lv_iload hx hb dX8_tryNext_92 (lv_at hl 9 rfl) ?_
      refine lv_iload hx hb dX8_tryNext_94 (lv_at hl 10 rfl) ?_
      refine lv_aload_n hx hb dX8_tryNext_96 rfl (lv_at hl 5 rfl) ?_
      refine m_getr S hW hH.1 0 rfl (j := 80) rfl kX8 (iW8 _) (by decide) (List.mem_cons_of_mem _ (wa_10 _ (List.mem_of_getElem? (i := 15) (by decide +kernel)))) dX8_tryNext_97 ?_
      refine m_geti S hW hH.2.1.1 8 rfl kX4 (iW4 _) (by decide) (List.mem_cons_of_mem _ (wa_31 _ (List.mem_of_getElem? (i := 9) (by decide +kernel)))) dX8_tryNext_100 ?_
      refine m_top (y := (zGa ask z ee gg pp)) e80 ?_
      refine lv_iadd hx hb dX8_tryNext_103 ?_
      refine m_cv (m_rV S hW (IH V_13 (zBi ask z ee gg pp) P (tn + 1) gn dg (ga + (zGa ask z ee gg pp)) hH2 (by first | assumption | omega) (by first | assumption | omega) (by first | assumption | omega)) (cwV 4 hts (gCall [.methodLink RX8 50 yX8_tryOrders, .instanceMethod yX8_tryOrders, .selects RX8 yX8_tryOrders yX8_tryOrders, .initialized RX8] (List.forall_mem_cons.mpr ⟨(wa_30 _ (List.mem_of_getElem? (i := 23) (by decide +kernel))), (List.forall_mem_cons.mpr ⟨(wa_31 _ (List.mem_of_getElem? (i := 16) (by decide +kernel))), (List.forall_mem_cons.mpr ⟨(wa_30 _ (List.mem_of_getElem? (i := 21) (by decide +kernel))), (List.forall_mem_cons.mpr ⟨(wa_30 _ (List.mem_of_getElem? (i := 22) (by decide +kernel))), (List.forall_mem_cons.mpr ⟨(wa_2 _ (List.mem_of_getElem? (i := 12) (by decide +kernel))), (fun _ h => absurd h List.not_mem_nil)⟩)⟩)⟩)⟩)⟩)) rfl rfl rfl (by decide +kernel) ⟨by dsimp only; omega, by dsimp only; omega⟩) hH.1 kX8 rfl hl.1 rfl (Nat.le_of_ble_eq_true rfl) dX8_tryNext_104 ⟨Nat.le_of_ble_eq_true rfl, Nat.le_of_ble_eq_true rfl⟩) hW (fun V_19 H locs hp_20 hW => ?_)
      obtain ⟨hf_22, hq_23⟩ := hp_20
      refine lv_aload hx hb dX8_tryNext_107 (lv_at hl 4 rfl) ?_
      refine lv_aload hx hb dX8_tryNext_109 (lv_at hl 3 rfl) ?_
      refine lv_iload hx hb dX8_tryNext_111 (lv_at hl 0 rfl) ?_
      refine lv_iload hx hb dX8_tryNext_113 (lv_at hl 2 rfl) ?_
      refine lv_iload hx hb dX8_tryNext_115 (lv_at hl 1 rfl) ?_
      refine m_cv (m_rV S hW (c_X1_giveBack l G ad sh V_19 (80 + 4 + ee) (80 + 10 + 2 * gg) (V_1 (80 + 10 + 2 * gg) 2) (V_1 (80 + 4 + ee) 3) (V_1 (80 + 4 + ee) 4) (hH.2.sE he) (hH.2.sG hgg) (hH.2.sW hgg)) (cwV 4 hts (gCall [.methodLink RX8 78 yX1_giveBack, .instanceMethod yX1_giveBack, .selects RX1 yX1_giveBack yX1_giveBack, .initialized RX1] (List.forall_mem_cons.mpr ⟨(wa_32 _ (List.mem_of_getElem? (i := 1) (by decide +kernel))), (List.forall_mem_cons.mpr ⟨(wa_31 _ (List.mem_of_getElem? (i := 22) (by decide +kernel))), (List.forall_mem_cons.mpr ⟨(wa_31 _ (List.mem_of_getElem? (i := 23) (by decide +kernel))), (List.forall_mem_cons.mpr ⟨(wa_32 _ (List.mem_of_getElem? (i := 0) (by decide +kernel))), (List.forall_mem_cons.mpr ⟨(wa_3 _ (List.mem_of_getElem? (i := 3) (by decide +kernel))), (fun _ h => absurd h List.not_mem_nil)⟩)⟩)⟩)⟩)⟩)) rfl rfl rfl (by decide +kernel) ⟨by dsimp only; omega, by dsimp only; omega⟩) (hH.2.1.2.2.2.2.1 ee (by omega)) kX1 rfl hl.1 rfl (Nat.le_of_ble_eq_true rfl) dX8_tryNext_117 ⟨Nat.le_of_ble_eq_true rfl, Nat.le_of_ble_eq_true rfl⟩) hW (fun V_24 H locs hp_25 hW => ?_)
      have eV_24 : V_24 = mU (mU (mU V_19 (80 + 10 + 2 * gg) 2 (V_1 (80 + 10 + 2 * gg) 2)) (80 + 4 + ee) 3 (V_1 (80 + 4 + ee) 3)) (80 + 4 + ee) 4 (V_1 (80 + 4 + ee) 4) := hp_25
      exact m_vret S hr hlk hW dX8_tryNext_120 (by rw [eV_24]; exact ⟨ThFr.back hf1 hv_18 hf_22 (by omega), by rw [zNext_s _ _ hr0 (by omega) hpp, mU_no _ _ (by omega), mU_no _ _ (by omega), mU_no _ _ (by omega), hq_23, e52]⟩)
