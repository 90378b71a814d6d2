/-! scenes -/
theorem ne_sh {sh : Nat → Option mSh} {a b : Nat} {x y : mSh} (ha : sh a = some x) (hb : sh b = some y) (h : x ≠ y) : a ≠ b := fun e => h (Option.some.inj (by rw [← ha, e, hb]))
/-- a text's shapes -/
def TxS (sh : Nat → Option mSh) (t tl : Nat) : Prop := sh t = some (sText t) ∧ sh (t + 1) = some (mI tl) ∧ sh (t + 2) = some (mS 32)
/-- a scene's counts, and its law's text -/
def ScI (V : mV) (b t ta tb tl ne ng : Nat) : Prop := V b 2 = nI ne ∧ V b 3 = nI ng ∧ ne ≤ 5 ∧ ng ≤ 6 ∧ 110 + 3 * (V b 5).toNatClampNeg = t ∧ V t 2 = nI ta ∧ V t 3 = nI tb ∧ ta ≤ tb ∧ tb ≤ tl ∧ tl ≤ 160
theorem ScI.put {V : mV} {b t ta tb tl ne ng : Nat} (h : ScI V b t ta tb tl ne ng) {a k : Nat} (x : Int32) (h1 : t ≠ a) (h2 : b ≠ a ∨ (k ≠ 2 ∧ k ≠ 3 ∧ k ≠ 5)) : ScI (mU V a k x) b t ta tb tl ne ng := by
  obtain ⟨q1, q2, q3, q4, q5, q6, q7, q8⟩ := h
  exact ⟨by rw [mU_ne _ _ (by omega)]; exact q1, by rw [mU_ne _ _ (by omega)]; exact q2, q3, q4, by rw [mU_ne _ _ (by omega)]; exact q5, by rw [mU_ne _ _ (by omega)]; exact q6, by rw [mU_ne _ _ (by omega)]; exact q7, q8⟩
/-- the names, as a text reads them -/
def fNm (cells worth so mo lf day : Int32) : Nat → Int32 := fun k => if k = 0 then cells else if k = 1 then worth else if k = 2 then so else if k = 3 then mo else if k = 4 then fBits lf else day
theorem stX_congr {nm nm' : Nat → Int32} (h : ∀ k, k < 6 → nm k = nm' k) (x : Int32) (q : Nat × (Nat → Int32)) : stX nm x q = stX nm' x q := by
  unfold stX
  by_cases h1 : nI 0 ≤ x ∧ q.1 < 32
  · rw [if_pos h1, if_pos h1]
  · rw [if_neg h1, if_neg h1]
    by_cases h2 : mIn (-x - nI 2) 0 6 ∧ q.1 < 32
    · obtain ⟨n, e, -, hn⟩ := h2.1.ex
      rw [if_pos h2, if_pos h2, e, nI_clamp (by omega), h n hn]
    · rw [if_neg h2, if_neg h2]
theorem evX_congr {nm nm' : Nat → Int32} (h : ∀ k, k < 6 → nm k = nm' k) (st : Nat → Int32) (a : Nat) : ∀ k, evX nm st a k = evX nm' st a k
  | 0 => rfl
  | k + 1 => by rw [evX, evX, evX_congr h st a k, stX_congr h]
theorem fAsk_congr {nm nm' : Nat → Int32} (h : ∀ k, k < 6 → nm k = nm' k) (st : Nat → Int32) (ta tb tl part : Nat) : fAsk st ta tb tl part nm = fAsk st ta tb tl part nm' := by
  unfold fAsk
  rw [evX_congr h, evX_congr h, evX_congr h]
theorem fNm_row {V : mV} {a : Nat} {c w so mo lf day : Int32} : ∀ k, k < 6 → mU (mU (mU (mU (mU (mU V a 0 c) a 1 w) a 2 so) a 3 mo) a 4 (fBits lf)) a 5 day a k = fNm c w so mo lf day k := by
  intro k hk
  match k, hk with
  | 0, _ => simp [mU, fNm]
  | 1, _ => simp [mU, fNm]
  | 2, _ => simp [mU, fNm]
  | 3, _ => simp [mU, fNm]
  | 4, _ => simp [mU, fNm]
  | 5, _ => simp [mU, fNm]
abbrev fAsks : Type := Nat → (Nat → Int32) → Int32
def fCost (ask : fAsks) (k mo so lf day : Int32) (w : Nat → Int32) (x : Int32) : Int32 := fPays k mo so (ask 0 (fNm (fBits x) (fWorth w x 10) so mo lf day))
def fLikes (ask : fAsks) (k mo so lf day : Int32) (w : Nat → Int32) (x : Int32) : Nat → Int32
  | 0 => nI 0
  | c + 1 => if fBit x c = nI 0 then fLikes ask k mo so lf day w x c else fLikes ask k mo so lf day w x c + fLike k mo (ask 1 (fNm (fBits x) (w c) so mo lf day))
def fWait (ask : fAsks) (mo so lf day : Int32) (w : Nat → Int32) (x : Int32) : Int32 := ask 2 (fNm (fBits x) (fWorth w x 10) so mo lf day)
/-- one bite held against the best so far: x the mark, co what it costs, ga its gain, wa what is waited for, te how it is told -/
def fPick (x co ga wa pu te : Int32) (q : Int32 × Int32) : Int32 × Int32 :=
  if x = nI 0 then q else if pu < co then q else if (q.1 = -1 ∨ q.2 < ga) ∧ wa ≤ ga then (te, ga) else q
/-- the best of the first bites, by goods, then places: how it is told, its gain -/
def fBest (ask : fAsks) (k mo j pu day : Int32) (So Le : Nat → Int32) (Wt : Nat → Nat → Int32) : Nat → Int32 × Int32
  | 0 => (-1, nI 0)
  | n + 1 => fPick (fMark (fShape k mo j (So (n / 16))) (Le (n / 16)) (nI (n % 16)))
      (fCost ask k mo (So (n / 16)) (Le (n / 16)) day (Wt (n / 16)) (fMark (fShape k mo j (So (n / 16))) (Le (n / 16)) (nI (n % 16))))
      (fLikes ask k mo (So (n / 16)) (Le (n / 16)) day (Wt (n / 16)) (fMark (fShape k mo j (So (n / 16))) (Le (n / 16)) (nI (n % 16))) 10 - fCost ask k mo (So (n / 16)) (Le (n / 16)) day (Wt (n / 16)) (fMark (fShape k mo j (So (n / 16))) (Le (n / 16)) (nI (n % 16))))
      (fWait ask mo (So (n / 16)) (Le (n / 16)) day (Wt (n / 16)) (fMark (fShape k mo j (So (n / 16))) (Le (n / 16)) (nI (n % 16)))) pu (nI (100 * (n / 16) + n % 16)) (fBest ask k mo j pu day So Le Wt n)
/-- a bite, truly: x the mark, wo what it is worth, co what it costs -/
def fBite (V : mV) (b i g : Nat) (x wo co : Int32) : mV := mU (mU (mU (mU V b 8 (wo - co)) i 4 (if nI 9999 < V i 4 + wo then nI 9999 else V i 4 + wo)) i 3 (V i 3 - co)) g 2 (V g 2 &&& (x ^^^ -1))
theorem fBest_s0 {ask : fAsks} {k mo j pu day : Int32} {So Le : Nat → Int32} {Wt : Nat → Nat → Int32} (n : Nat) {x : Int32} (h1 : x = fMark (fShape k mo j (So (n / 16))) (Le (n / 16)) (nI (n % 16))) (h0 : x = nI 0) : fBest ask k mo j pu day So Le Wt (n + 1) = fBest ask k mo j pu day So Le Wt n := by
  rw [fBest, ← h1, fPick, if_pos h0]
theorem fBest_s1 {ask : fAsks} {k mo j pu day : Int32} {So Le : Nat → Int32} {Wt : Nat → Nat → Int32} (n : Nat) {x co : Int32} (h1 : x = fMark (fShape k mo j (So (n / 16))) (Le (n / 16)) (nI (n % 16))) (h0 : ¬ x = nI 0) (h2 : co = fCost ask k mo (So (n / 16)) (Le (n / 16)) day (Wt (n / 16)) x) (hp : pu < co) : fBest ask k mo j pu day So Le Wt (n + 1) = fBest ask k mo j pu day So Le Wt n := by
  rw [fBest, ← h1, ← h2, fPick, if_neg h0, if_pos hp]
theorem fBest_s2 {ask : fAsks} {k mo j pu day : Int32} {So Le : Nat → Int32} {Wt : Nat → Nat → Int32} (n : Nat) {x co ga : Int32} (h1 : x = fMark (fShape k mo j (So (n / 16))) (Le (n / 16)) (nI (n % 16))) (h0 : ¬ x = nI 0) (h2 : co = fCost ask k mo (So (n / 16)) (Le (n / 16)) day (Wt (n / 16)) x) (hp : ¬ pu < co) (h3 : ga = fLikes ask k mo (So (n / 16)) (Le (n / 16)) day (Wt (n / 16)) x 10 - co) (hq : ¬ ((fBest ask k mo j pu day So Le Wt n).1 = -1 ∨ (fBest ask k mo j pu day So Le Wt n).2 < ga) ∨ ga < fWait ask mo (So (n / 16)) (Le (n / 16)) day (Wt (n / 16)) x) : fBest ask k mo j pu day So Le Wt (n + 1) = fBest ask k mo j pu day So Le Wt n := by
  rw [fBest, ← h1, ← h2, ← h3, fPick, if_neg h0, if_neg hp, if_neg (fun z => hq.elim (fun y => y z.1) (fun y => absurd z.2 (Int32.not_le.mpr y)))]
theorem fBest_s3 {ask : fAsks} {k mo j pu day : Int32} {So Le : Nat → Int32} {Wt : Nat → Nat → Int32} (n : Nat) {x co ga : Int32} (h1 : x = fMark (fShape k mo j (So (n / 16))) (Le (n / 16)) (nI (n % 16))) (h0 : ¬ x = nI 0) (h2 : co = fCost ask k mo (So (n / 16)) (Le (n / 16)) day (Wt (n / 16)) x) (hp : ¬ pu < co) (h3 : ga = fLikes ask k mo (So (n / 16)) (Le (n / 16)) day (Wt (n / 16)) x 10 - co) (hq : (fBest ask k mo j pu day So Le Wt n).1 = -1 ∨ (fBest ask k mo j pu day So Le Wt n).2 < ga) (hw : fWait ask mo (So (n / 16)) (Le (n / 16)) day (Wt (n / 16)) x ≤ ga) : fBest ask k mo j pu day So Le Wt (n + 1) = (nI (100 * (n / 16) + n % 16), ga) := by
  rw [fBest, ← h1, ← h2, ← h3, fPick, if_neg h0, if_neg hp, if_pos ⟨hq, hw⟩]
theorem fBest_set (V : mV) (b : Nat) (x y z w : Int32) : mU (mU (mU (mU V b 6 x) b 7 y) b 6 z) b 7 w = mU (mU V b 6 z) b 7 w := by
  funext a k
  by_cases ha : a = b
  · subst ha
    by_cases h7 : k = 7
    · simp [mU, h7]
    · by_cases h6 : k = 6 <;> simp [mU, h6, h7]
  · simp [mU, ha]
section SAYS
variable (l : Launch) (G : mG) (ad : Nat → Nat) (sh : Nat → Option mSh) (V : mV) (t tl ta tb no pt : Nat)
theorem c_X7_says (ht : sh t = some (sText t)) (ht1 : sh (t + 1) = some (mI tl)) (ht2 : sh (t + 2) = some (mS 32)) (hta : V t 2 = nI ta) (htb : V t 3 = nI tb) (htl : ta ≤ tb ∧ tb ≤ tl ∧ tl ≤ 160) (hno : sh no = some (mI 6)) (hno2 : no ≠ t + 2) (hpt : pt < 3) : mM l yX7_says wsX7_says ({ frames := 1, cells := 0, slots := 0, locals := 61 } : Room) G ad sh V [.ref (ad t), .int (nI pt), .ref (ad no)] 0 0 (mPe ad sh V (fAsk (V (t + 1)) ta tb tl pt (V no))) := by
  match pt, hpt with
  | 0, _ => exact c_X7_says_0 l G ad sh V t tl ta tb no ht ht1 ht2 hta htb htl hno hno2
  | 1, _ => exact c_X7_says_1 l G ad sh V t tl ta tb no ht ht1 ht2 hta htb htl hno hno2
  | 2, _ => exact c_X7_says_2 l G ad sh V t tl ta tb no ht ht1 ht2 hta htb htl hno hno2
end SAYS
set_option maxHeartbeats 4000000 in
set_option maxRecDepth 100000 in
theorem c_X4_said (l : Launch) (G : mG) (ad : Nat → Nat) (sh : Nat → Option mSh) (V : mV) (b t ta tb tl ne ng i g pt : Nat) (x y : Int32) (hSc : ScOk sh b) (hI : ScI V b t ta tb tl ne ng) (hT : TxS sh t tl) (hi : sh i = some sEater) (hg : sh g = some (sGood g)) (hg' : sh (g + 1) = some (mI 10)) (hpt : pt < 3) : mM l yX4_said wsX4_said ({ frames := 2, cells := 0, slots := 0, locals := 89 } : Room) G ad sh V [.ref (ad b), .int (nI pt), .ref (ad i), .ref (ad g), .int x, .int y] 0 0 (mPe ad sh V (fAsk (V (t + 1)) ta tb tl pt (fNm x y (V g 1) (V i 1) (V g 2) (V b 4)))) := by
  refine mM.of (cc := cX4_said) (maxL := 6) (ret := (some .int)) (by decide) rfl (Nat.le_of_ble_eq_true rfl) ?_
  intro p e s m below meth c S hr hlk hnm hW ls hl
  obtain ⟨hx, hb, hml, hown, hts⟩ := id S
  have hl : lv_has ls 6 [(0, .ref (ad b)), (1, .int (nI pt)), (2, .ref (ad i)), (3, .ref (ad g)), (4, .int x), (5, .int y)] := hl
  have hS0 : True := trivial
  obtain ⟨ht, ht1, ht2⟩ := hT
  have hn3 := hSc.2.2.2.1
  have neb : b ≠ b + 3 := ne_sh hSc.1 hn3 (fun z => by simp at z)
  have kb : va_up sh (b + 3) (some (mI 6)) b = _ := (show va_up sh (b + 3) (some (mI 6)) b = sh b by simp only [va_up, if_neg neb]).trans hSc.1
  have nei : i ≠ b + 3 := ne_sh hi hn3 (fun z => by simp at z)
  have ki : va_up sh (b + 3) (some (mI 6)) i = _ := (show va_up sh (b + 3) (some (mI 6)) i = sh i by simp only [va_up, if_neg nei]).trans hi
  have neg : g ≠ b + 3 := ne_sh hg hn3 (fun z => by simp at z)
  have kg : va_up sh (b + 3) (some (mI 6)) g = _ := (show va_up sh (b + 3) (some (mI 6)) g = sh g by simp only [va_up, if_neg neg]).trans hg
  have neg1 : (g + 1) ≠ b + 3 := ne_sh hg' hn3 (fun z => by simp at z)
  have kg1 : va_up sh (b + 3) (some (mI 6)) (g + 1) = _ := (show va_up sh (b + 3) (some (mI 6)) (g + 1) = sh (g + 1) by simp only [va_up, if_neg neg1]).trans hg'
  have net : t ≠ b + 3 := ne_sh ht hn3 (fun z => by simp at z)
  have kt : va_up sh (b + 3) (some (mI 6)) t = _ := (show va_up sh (b + 3) (some (mI 6)) t = sh t by simp only [va_up, if_neg net]).trans ht
  have net1 : (t + 1) ≠ b + 3 := ne_sh ht1 hn3 (fun z => by simp at z)
  have kt1 : va_up sh (b + 3) (some (mI 6)) (t + 1) = _ := (show va_up sh (b + 3) (some (mI 6)) (t + 1) = sh (t + 1) by simp only [va_up, if_neg net1]).trans ht1
  have net2 : (t + 2) ≠ b + 3 := ne_sh ht2 hn3 (fun z => by simp at z)
  have kt2 : va_up sh (b + 3) (some (mI 6)) (t + 2) = _ := (show va_up sh (b + 3) (some (mI 6)) (t + 2) = sh (t + 2) by simp only [va_up, if_neg net2]).trans ht2
  have kn : va_up sh (b + 3) (some (mI 6)) (b + 3) = some (mI 6) := by simp [va_up]
  obtain ⟨u, hW⟩ := hW.learn hn3
  generalize hsh : va_up sh (b + 3) (some (mI 6)) = sh1 at hW kb ki kg kg1 kt kt1 kt2 kn
  generalize hV0 : va_up V (b + 3) u = V0 at hW
  have hfr : ∀ a, a ≠ b + 3 → V0 a = V a := fun a ha => by rw [← hV0]; simp [va_up, ha]
  refine lv_aload_n hx hb dX4_said_0 rfl (lv_at hl 0 rfl) ?_
  refine m_getr S hW kb 9 rfl (j := (b + 3)) rfl kX4 (iW4 _) (by decide) (List.mem_cons_of_mem _ (wa_10 _ (List.mem_of_getElem? (i := 2) (by decide +kernel)))) dX4_said_1 ?_
  refine lv_iconst (v := nI 0) hx hb dX4_said_4 (by decide) ?_
  refine lv_iload hx hb dX4_said_5 (lv_at hl 4 rfl) ?_
  refine m_iast S hW kn 0 rfl (by decide) (by decide) dX4_said_7 (fun H locs hW => ?_)
  obtain ⟨V_1, eV_1⟩ : ∃ z : mV, z = mU V0 (b + 3) 0 (x) := ⟨_, rfl⟩
  rw [← eV_1] at hW
  refine lv_aload_n hx hb dX4_said_8 rfl (lv_at hl 0 rfl) ?_
  refine m_getr S hW kb 9 rfl (j := (b + 3)) rfl kX4 (iW4 _) (by decide) (List.mem_cons_of_mem _ (wa_10 _ (List.mem_of_getElem? (i := 2) (by decide +kernel)))) dX4_said_9 ?_
  refine lv_iconst (v := nI 1) hx hb dX4_said_12 (by decide) ?_
  refine lv_iload hx hb dX4_said_13 (lv_at hl 5 rfl) ?_
  refine m_iast S hW kn 1 rfl (by decide) (by decide) dX4_said_15 (fun H locs hW => ?_)
  obtain ⟨V_2, eV_2⟩ : ∃ z : mV, z = mU V_1 (b + 3) 1 (y) := ⟨_, rfl⟩
  rw [← eV_2] at hW
  refine lv_aload_n hx hb dX4_said_16 rfl (lv_at hl 0 rfl) ?_
  refine m_getr S hW kb 9 rfl (j := (b + 3)) rfl kX4 (iW4 _) (by decide) (List.mem_cons_of_mem _ (wa_10 _ (List.mem_of_getElem? (i := 2) (by decide +kernel)))) dX4_said_17 ?_
  refine lv_iconst (v := nI 2) hx hb dX4_said_20 (by decide) ?_
  refine lv_aload_n hx hb dX4_said_21 rfl (lv_at hl 3 rfl) ?_
  refine m_geti S hW kg 1 rfl kX3 (iW3 _) (by decide) (List.mem_cons_of_mem _ (wa_17 _ (List.mem_of_getElem? (i := 19) (by decide +kernel)))) dX4_said_22 ?_
  refine m_top (y := V g 1) (by rw [(show V_2 g = V g by rw [eV_2, mU_no _ _ neg, eV_1, mU_no _ _ neg, hfr _ neg])]) ?_
  refine m_iast S hW kn 2 rfl (by decide) (by decide) dX4_said_25 (fun H locs hW => ?_)
  obtain ⟨V_3, eV_3⟩ : ∃ z : mV, z = mU V_2 (b + 3) 2 (V g 1) := ⟨_, rfl⟩
  rw [← eV_3] at hW
  refine lv_aload_n hx hb dX4_said_26 rfl (lv_at hl 0 rfl) ?_
  refine m_getr S hW kb 9 rfl (j := (b + 3)) rfl kX4 (iW4 _) (by decide) (List.mem_cons_of_mem _ (wa_10 _ (List.mem_of_getElem? (i := 2) (by decide +kernel)))) dX4_said_27 ?_
  refine lv_iconst (v := nI 3) hx hb dX4_said_30 (by decide) ?_
  refine lv_aload_n hx hb dX4_said_31 rfl (lv_at hl 2 rfl) ?_
  refine m_geti S hW ki 1 rfl kX1 (iW1 _) (by decide) (List.mem_cons_of_mem _ (wa_17 _ (List.mem_of_getElem? (i := 20) (by decide +kernel)))) dX4_said_32 ?_
  refine m_top (y := V i 1) (by rw [(show V_3 i = V i by rw [eV_3, mU_no _ _ nei, eV_2, mU_no _ _ nei, eV_1, mU_no _ _ nei, hfr _ nei])]) ?_
  refine m_iast S hW kn 3 rfl (by decide) (by decide) dX4_said_35 (fun H locs hW => ?_)
  obtain ⟨V_4, eV_4⟩ : ∃ z : mV, z = mU V_3 (b + 3) 3 (V i 1) := ⟨_, rfl⟩
  rw [← eV_4] at hW
  refine lv_aload_n hx hb dX4_said_36 rfl (lv_at hl 0 rfl) ?_
  refine m_getr S hW kb 9 rfl (j := (b + 3)) rfl kX4 (iW4 _) (by decide) (List.mem_cons_of_mem _ (wa_10 _ (List.mem_of_getElem? (i := 2) (by decide +kernel)))) dX4_said_37 ?_
  refine lv_iconst (v := nI 4) hx hb dX4_said_40 (by decide) ?_
  refine lv_aload_n hx hb dX4_said_41 rfl (lv_at hl 3 rfl) ?_
  refine m_geti S hW kg 2 rfl kX3 (iW3 _) (by decide) (List.mem_cons_of_mem _ (wa_17 _ (List.mem_of_getElem? (i := 21) (by decide +kernel)))) dX4_said_42 ?_
  refine m_top (y := V g 2) (by rw [(show V_4 g = V g by rw [eV_4, mU_no _ _ neg, eV_3, mU_no _ _ neg, eV_2, mU_no _ _ neg, eV_1, mU_no _ _ neg, hfr _ neg])]) ?_
  refine m_cie (m_rS S hW (c_J6_bitCount_0f7a4 l G ad sh1 V_4 (V g 2)) (va_cwS 1 hts (gCall [.methodLink RX4 70 yJ6_bitCount_0f7a4, .static yJ6_bitCount_0f7a4, .initialized RJ6] (List.forall_mem_cons.mpr ⟨(wa_18 _ (List.mem_of_getElem? (i := 2) (by decide +kernel))), (List.forall_mem_cons.mpr ⟨(wa_17 _ (List.mem_of_getElem? (i := 23) (by decide +kernel))), (List.forall_mem_cons.mpr ⟨(wa_18 _ (List.mem_of_getElem? (i := 0) (by decide +kernel))), (List.forall_mem_cons.mpr ⟨(wa_18 _ (List.mem_of_getElem? (i := 1) (by decide +kernel))), (fun _ h => absurd h List.not_mem_nil)⟩)⟩)⟩)⟩)) rfl rfl rfl (by decide +kernel) ⟨Nat.le_of_ble_eq_true rfl, Nat.le_of_ble_eq_true rfl⟩) rfl hl.1 rfl (Nat.le_of_ble_eq_true rfl) dX4_said_45 ⟨Nat.le_of_ble_eq_true rfl, Nat.le_of_ble_eq_true rfl⟩) hW (fun H locs hW => ?_)
  refine m_iast S hW kn 4 rfl (by decide) (by decide) dX4_said_48 (fun H locs hW => ?_)
  obtain ⟨V_5, eV_5⟩ : ∃ z : mV, z = mU V_4 (b + 3) 4 (fBits (V g 2)) := ⟨_, rfl⟩
  rw [← eV_5] at hW
  refine lv_aload_n hx hb dX4_said_49 rfl (lv_at hl 0 rfl) ?_
  refine m_getr S hW kb 9 rfl (j := (b + 3)) rfl kX4 (iW4 _) (by decide) (List.mem_cons_of_mem _ (wa_10 _ (List.mem_of_getElem? (i := 2) (by decide +kernel)))) dX4_said_50 ?_
  refine lv_iconst (v := nI 5) hx hb dX4_said_53 (by decide) ?_
  refine lv_aload_n hx hb dX4_said_54 rfl (lv_at hl 0 rfl) ?_
  refine m_geti S hW kb 4 rfl kX4 (iW4 _) (by decide) (List.mem_cons_of_mem _ (wa_17 _ (List.mem_of_getElem? (i := 22) (by decide +kernel)))) dX4_said_55 ?_
  refine m_top (y := V b 4) (by rw [(show V_5 b = V b by rw [eV_5, mU_no _ _ neb, eV_4, mU_no _ _ neb, eV_3, mU_no _ _ neb, eV_2, mU_no _ _ neb, eV_1, mU_no _ _ neb, hfr _ neb])]) ?_
  refine m_iast S hW kn 5 rfl (by decide) (by decide) dX4_said_58 (fun H locs hW => ?_)
  obtain ⟨V_6, eV_6⟩ : ∃ z : mV, z = mU V_5 (b + 3) 5 (V b 4) := ⟨_, rfl⟩
  rw [← eV_6] at hW
  refine lv_aload_n hx hb dX4_said_59 rfl (lv_at hl 0 rfl) ?_
  refine m_getr S hW kb 5 rfl (j := t) (by rw [(show V_6 b = V b by rw [eV_6, mU_no _ _ neb, eV_5, mU_no _ _ neb, eV_4, mU_no _ _ neb, eV_3, mU_no _ _ neb, eV_2, mU_no _ _ neb, eV_1, mU_no _ _ neb, hfr _ neb])]; exact congrArg some hI.2.2.2.2.1) kX4 (iW4 _) (by decide) (List.mem_cons_of_mem _ (wa_10 _ (List.mem_of_getElem? (i := 3) (by decide +kernel)))) dX4_said_60 ?_
  refine lv_iload_n hx hb dX4_said_63 rfl (lv_at hl 1 rfl) ?_
  refine lv_aload_n hx hb dX4_said_64 rfl (lv_at hl 0 rfl) ?_
  refine m_getr S hW kb 9 rfl (j := (b + 3)) rfl kX4 (iW4 _) (by decide) (List.mem_cons_of_mem _ (wa_10 _ (List.mem_of_getElem? (i := 2) (by decide +kernel)))) dX4_said_65 ?_
  refine m_cie (m_rV S hW (c_X7_says l G ad sh1 V_6 t tl ta tb (b + 3) pt kt kt1 kt2 (by rw [(show V_6 t = V t by rw [eV_6, mU_no _ _ net, eV_5, mU_no _ _ net, eV_4, mU_no _ _ net, eV_3, mU_no _ _ net, eV_2, mU_no _ _ net, eV_1, mU_no _ _ net, hfr _ net])]; exact hI.2.2.2.2.2.1) (by rw [(show V_6 t = V t by rw [eV_6, mU_no _ _ net, eV_5, mU_no _ _ net, eV_4, mU_no _ _ net, eV_3, mU_no _ _ net, eV_2, mU_no _ _ net, eV_1, mU_no _ _ net, hfr _ net])]; exact hI.2.2.2.2.2.2.1) hI.2.2.2.2.2.2.2 kn (Ne.symm net2) (by first | assumption | omega)) (cwV 2 hts (gCall [.methodLink RX4 76 yX7_says, .instanceMethod yX7_says, .selects RX7 yX7_says yX7_says, .initialized RX7] (List.forall_mem_cons.mpr ⟨(wa_18 _ (List.mem_of_getElem? (i := 9) (by decide +kernel))), (List.forall_mem_cons.mpr ⟨(wa_18 _ (List.mem_of_getElem? (i := 6) (by decide +kernel))), (List.forall_mem_cons.mpr ⟨(wa_18 _ (List.mem_of_getElem? (i := 7) (by decide +kernel))), (List.forall_mem_cons.mpr ⟨(wa_18 _ (List.mem_of_getElem? (i := 8) (by decide +kernel))), (List.forall_mem_cons.mpr ⟨(wa_9 _ (List.mem_of_getElem? (i := 4) (by decide +kernel))), (fun _ h => absurd h List.not_mem_nil)⟩)⟩)⟩)⟩)⟩)) rfl rfl rfl (by decide +kernel) ⟨Nat.le_of_ble_eq_true rfl, Nat.le_of_ble_eq_true rfl⟩) kt kX7 rfl hl.1 rfl (Nat.le_of_ble_eq_true rfl) dX4_said_68 ⟨Nat.le_of_ble_eq_true rfl, Nat.le_of_ble_eq_true rfl⟩) hW (fun H locs hW => ?_)
  have hW := hW.forget (sh' := sh) (V' := V) kn hn3 (fun a ha => by rw [← hsh]; simp [va_up, ha]) (fun a ha => (by simp only [eV_1, eV_2, eV_3, eV_4, eV_5, eV_6]; simp [mU_no, ha, hfr]))
  exact m_iret S hr hlk hW dX4_said_71 ⟨rfl, (by rw [(show V_6 (t + 1) = V (t + 1) by rw [eV_6, mU_no _ _ net1, eV_5, mU_no _ _ net1, eV_4, mU_no _ _ net1, eV_3, mU_no _ _ net1, eV_2, mU_no _ _ net1, eV_1, mU_no _ _ net1, hfr _ net1])]; exact fAsk_congr (fun k hk => by rw [eV_6, eV_5, eV_4, eV_3, eV_2, eV_1]; exact (fNm_row k hk).symm) _ _ _ _ _)⟩
set_option maxHeartbeats 4000000 in
set_option maxRecDepth 100000 in
theorem c_X4_costOf (l : Launch) (G : mG) (ad : Nat → Nat) (sh : Nat → Option mSh) (V : mV) (b t ta tb tl ne ng i g : Nat) (x : Int32) (hSc : ScOk sh b) (hI : ScI V b t ta tb tl ne ng) (hT : TxS sh t tl) (hi : sh i = some sEater) (hg : sh g = some (sGood g)) (hg' : sh (g + 1) = some (mI 10)) : mM l yX4_costOf wsX4_costOf ({ frames := 3, cells := 0, slots := 0, locals := 114 } : Room) G ad sh V [.ref (ad b), .ref (ad i), .ref (ad g), .int x] 0 0 (mPe ad sh V (fCost (fAsk (V (t + 1)) ta tb tl) (V i 0) (V i 1) (V g 1) (V g 2) (V b 4) (V (g + 1)) x)) := by
  refine mM.of (cc := cX4_costOf) (maxL := 5) (ret := (some .int)) (by decide) rfl (Nat.le_of_ble_eq_true rfl) ?_
  intro p e s m below meth c S hr hlk hnm hW ls hl
  obtain ⟨hx, hb, hml, hown, hts⟩ := id S
  have hl : lv_has ls 5 [(0, .ref (ad b)), (1, .ref (ad i)), (2, .ref (ad g)), (3, .int x)] := hl
  have hS0 : True := trivial
  refine lv_iload_n hx hb dX4_costOf_0 rfl (lv_at hl 3 rfl) ?_
  refine m_cie (m_rS S hW (c_J6_bitCount_0f7a4 l G ad sh V x) (va_cwS 1 hts (gCall [.methodLink RX4 70 yJ6_bitCount_0f7a4, .static yJ6_bitCount_0f7a4, .initialized RJ6] (List.forall_mem_cons.mpr ⟨(wa_18 _ (List.mem_of_getElem? (i := 2) (by decide +kernel))), (List.forall_mem_cons.mpr ⟨(wa_17 _ (List.mem_of_getElem? (i := 23) (by decide +kernel))), (List.forall_mem_cons.mpr ⟨(wa_18 _ (List.mem_of_getElem? (i := 0) (by decide +kernel))), (List.forall_mem_cons.mpr ⟨(wa_18 _ (List.mem_of_getElem? (i := 1) (by decide +kernel))), (fun _ h => absurd h List.not_mem_nil)⟩)⟩)⟩)⟩)) rfl rfl rfl (by decide +kernel) ⟨Nat.le_of_ble_eq_true rfl, Nat.le_of_ble_eq_true rfl⟩) rfl hl.1 rfl (Nat.le_of_ble_eq_true rfl) dX4_costOf_1 ⟨Nat.le_of_ble_eq_true rfl, Nat.le_of_ble_eq_true rfl⟩) hW (fun H locs hW => ?_)
  refine lv_istore (lv' := [(4, .int (fBits x)), (0, .ref (ad b)), (1, .ref (ad i)), (2, .ref (ad g)), (3, .int x)]) hx hb dX4_costOf_4 hl (by decide) rfl (fun ls hl => ?_)
  refine lv_aload_n hx hb dX4_costOf_6 rfl (lv_at hl 2 rfl) ?_
  refine lv_aload_n hx hb dX4_costOf_7 rfl (lv_at hl 3 rfl) ?_
  refine lv_aload_n hx hb dX4_costOf_8 rfl (lv_at hl 1 rfl) ?_
  refine lv_iconst (v := nI 0) hx hb dX4_costOf_9 (by decide) ?_
  refine lv_aload_n hx hb dX4_costOf_10 rfl (lv_at hl 2 rfl) ?_
  refine lv_aload_n hx hb dX4_costOf_11 rfl (lv_at hl 3 rfl) ?_
  refine lv_iload hx hb dX4_costOf_12 (lv_at hl 0 rfl) ?_
  refine lv_aload_n hx hb dX4_costOf_14 rfl (lv_at hl 3 rfl) ?_
  refine lv_iload_n hx hb dX4_costOf_15 rfl (lv_at hl 4 rfl) ?_
  refine m_cie (m_rV S hW (c_X3_worthOfCells l G ad sh V g x hg hg') (cwV 1 hts (gCall [.methodLink RX4 82 yX3_worthOfCells, .instanceMethod yX3_worthOfCells, .selects RX3 yX3_worthOfCells yX3_worthOfCells, .initialized RX3] (List.forall_mem_cons.mpr ⟨(wa_25 _ (List.mem_of_getElem? (i := 17) (by decide +kernel))), (List.forall_mem_cons.mpr ⟨(wa_25 _ (List.mem_of_getElem? (i := 14) (by decide +kernel))), (List.forall_mem_cons.mpr ⟨(wa_25 _ (List.mem_of_getElem? (i := 15) (by decide +kernel))), (List.forall_mem_cons.mpr ⟨(wa_25 _ (List.mem_of_getElem? (i := 16) (by decide +kernel))), (List.forall_mem_cons.mpr ⟨(wa_10 _ (List.mem_of_getElem? (i := 5) (by decide +kernel))), (fun _ h => absurd h List.not_mem_nil)⟩)⟩)⟩)⟩)⟩)) rfl rfl rfl (by decide +kernel) ⟨Nat.le_of_ble_eq_true rfl, Nat.le_of_ble_eq_true rfl⟩) hg kX3 rfl hl.1 rfl (Nat.le_of_ble_eq_true rfl) dX4_costOf_16 ⟨Nat.le_of_ble_eq_true rfl, Nat.le_of_ble_eq_true rfl⟩) hW (fun H locs hW => ?_)
  refine m_cie (m_rV S hW (c_X4_said l G ad sh V b t ta tb tl ne ng i g 0 (fBits x) (fWorth (V (g + 1)) x 10) hSc (by first | assumption | omega) (by first | assumption | omega) hi hg hg' (by first | assumption | omega)) (cwV 5 hts (gCall [.methodLink RX4 85 yX4_said, .instanceMethod yX4_said, .selects RX4 yX4_said yX4_said, .initialized RX4] (List.forall_mem_cons.mpr ⟨(wa_17 _ (List.mem_of_getElem? (i := 18) (by decide +kernel))), (List.forall_mem_cons.mpr ⟨(wa_25 _ (List.mem_of_getElem? (i := 18) (by decide +kernel))), (List.forall_mem_cons.mpr ⟨(wa_17 _ (List.mem_of_getElem? (i := 16) (by decide +kernel))), (List.forall_mem_cons.mpr ⟨(wa_17 _ (List.mem_of_getElem? (i := 17) (by decide +kernel))), (List.forall_mem_cons.mpr ⟨(wa_2 _ (List.mem_of_getElem? (i := 7) (by decide +kernel))), (fun _ h => absurd h List.not_mem_nil)⟩)⟩)⟩)⟩)⟩)) rfl rfl rfl (by decide +kernel) ⟨Nat.le_of_ble_eq_true rfl, Nat.le_of_ble_eq_true rfl⟩) hSc.1 kX4 rfl hl.1 rfl (Nat.le_of_ble_eq_true rfl) dX4_costOf_19 ⟨Nat.le_of_ble_eq_true rfl, Nat.le_of_ble_eq_true rfl⟩) hW (fun H locs hW => ?_)
  refine m_cie (m_rV S hW (c_X1_paysFor l G ad sh V i g (fAsk (V (t + 1)) ta tb tl 0 (fNm (fBits x) (fWorth (V (g + 1)) x 10) (V g 1) (V i 1) (V g 2) (V b 4))) hi hg hg') (cwV 2 hts (gCall [.methodLink RX4 89 yX1_paysFor, .instanceMethod yX1_paysFor, .selects RX1 yX1_paysFor yX1_paysFor, .initialized RX1] (List.forall_mem_cons.mpr ⟨(wa_25 _ (List.mem_of_getElem? (i := 22) (by decide +kernel))), (List.forall_mem_cons.mpr ⟨(wa_25 _ (List.mem_of_getElem? (i := 19) (by decide +kernel))), (List.forall_mem_cons.mpr ⟨(wa_25 _ (List.mem_of_getElem? (i := 20) (by decide +kernel))), (List.forall_mem_cons.mpr ⟨(wa_25 _ (List.mem_of_getElem? (i := 21) (by decide +kernel))), (List.forall_mem_cons.mpr ⟨(wa_3 _ (List.mem_of_getElem? (i := 3) (by decide +kernel))), (fun _ h => absurd h List.not_mem_nil)⟩)⟩)⟩)⟩)⟩)) rfl rfl rfl (by decide +kernel) ⟨Nat.le_of_ble_eq_true rfl, Nat.le_of_ble_eq_true rfl⟩) hi kX1 rfl hl.1 rfl (Nat.le_of_ble_eq_true rfl) dX4_costOf_22 ⟨Nat.le_of_ble_eq_true rfl, Nat.le_of_ble_eq_true rfl⟩) hW (fun H locs hW => ?_)
  exact m_iret S hr hlk hW dX4_costOf_25 ⟨rfl, (by rfl)⟩
set_option maxHeartbeats 4000000 in
set_option maxRecDepth 100000 in
theorem c_X4_worthOf (l : Launch) (G : mG) (ad : Nat → Nat) (sh : Nat → Option mSh) (V : mV) (b t ta tb tl ne ng i g : Nat) (x : Int32) (hSc : ScOk sh b) (hI : ScI V b t ta tb tl ne ng) (hT : TxS sh t tl) (hi : sh i = some sEater) (hg : sh g = some (sGood g)) (hg' : sh (g + 1) = some (mI 10)) : mM l yX4_worthOf wsX4_worthOf ({ frames := 3, cells := 0, slots := 0, locals := 114 } : Room) G ad sh V [.ref (ad b), .ref (ad i), .ref (ad g), .int x] 0 0 (mPe ad sh V (fLikes (fAsk (V (t + 1)) ta tb tl) (V i 0) (V i 1) (V g 1) (V g 2) (V b 4) (V (g + 1)) x 10)) := by
  refine mM.of (cc := cX4_worthOf) (maxL := 7) (ret := (some .int)) (by decide) rfl (Nat.le_of_ble_eq_true rfl) ?_
  intro p e s m below meth c S hr hlk hnm hW ls hl
  obtain ⟨hx, hb, hml, hown, hts⟩ := id S
  have hl : lv_has ls 7 [(0, .ref (ad b)), (1, .ref (ad i)), (2, .ref (ad g)), (3, .int x)] := hl
  have hS0 : True := trivial
  refine lv_iload_n hx hb dX4_worthOf_0 rfl (lv_at hl 3 rfl) ?_
  refine m_cie (m_rS S hW (c_J6_bitCount_0f7a4 l G ad sh V x) (va_cwS 1 hts (gCall [.methodLink RX4 70 yJ6_bitCount_0f7a4, .static yJ6_bitCount_0f7a4, .initialized RJ6] (List.forall_mem_cons.mpr ⟨(wa_18 _ (List.mem_of_getElem? (i := 2) (by decide +kernel))), (List.forall_mem_cons.mpr ⟨(wa_17 _ (List.mem_of_getElem? (i := 23) (by decide +kernel))), (List.forall_mem_cons.mpr ⟨(wa_18 _ (List.mem_of_getElem? (i := 0) (by decide +kernel))), (List.forall_mem_cons.mpr ⟨(wa_18 _ (List.mem_of_getElem? (i := 1) (by decide +kernel))), (fun _ h => absurd h List.not_mem_nil)⟩)⟩)⟩)⟩)) rfl rfl rfl (by decide +kernel) ⟨Nat.le_of_ble_eq_true rfl, Nat.le_of_ble_eq_true rfl⟩) rfl hl.1 rfl (Nat.le_of_ble_eq_true rfl) dX4_worthOf_1 ⟨Nat.le_of_ble_eq_true rfl, Nat.le_of_ble_eq_true rfl⟩) hW (fun H locs hW => ?_)
  refine lv_istore (lv' := [(4, .int (fBits x)), (0, .ref (ad b)), (1, .ref (ad i)), (2, .ref (ad g)), (3, .int x)]) hx hb dX4_worthOf_4 hl (by decide) rfl (fun ls hl => ?_)
  refine lv_iconst (v := nI 0) hx hb dX4_worthOf_6 (by decide) ?_
  refine lv_istore (lv' := [(5, .int (nI 0)), (4, .int (fBits x)), (0, .ref (ad b)), (1, .ref (ad i)), (2, .ref (ad g)), (3, .int x)]) hx hb dX4_worthOf_7 hl (by decide) rfl (fun ls hl => ?_)
  refine lv_iconst (v := nI 0) hx hb dX4_worthOf_9 (by decide) ?_
  refine lv_istore (lv' := [(6, .int (nI 0)), (5, .int (nI 0)), (4, .int (fBits x)), (0, .ref (ad b)), (1, .ref (ad i)), (2, .ref (ad g)), (3, .int x)]) hx hb dX4_worthOf_10 hl (by decide) rfl (fun ls hl => ?_)
  have loop_12 : ∀ (n_12 : Nat) (sm : Int32) (k : Nat) (H : Heap) (locs : List Loc) (ls : Array Slot), (k ≤ 10) → (sm = fLikes (fAsk (V (t + 1)) ta tb tl) (V i 0) (V i 1) (V g 1) (V g 2) (V b 4) (V (g + 1)) x k) → (10 - k) < n_12 → mC (mA ad sh s.heap.size) s.heap s G ad sh V H locs → lv_has ls 7 [(4, .int (fBits x)), (0, .ref (ad b)), (1, .ref (ad i)), (2, .ref (ad g)), (3, .int x), (5, .int sm), (6, .int (nI k))] → W p l e ({ frames := 3, cells := 0, slots := 0, locals := 114 } : Room) s m ([.ref (ad b), .ref (ad i), .ref (ad g), .int x] : List Value).toArray below meth c H locs 0 0 (MQ below (mPost G ad sh s.heap.size (mPe ad sh V (fLikes (fAsk (V (t + 1)) ta tb tl) (V i 0) (V i 1) (V g 1) (V g 2) (V b 4) (V (g + 1)) x 10))) ([.ref (ad b), .ref (ad i), .ref (ad g), .int x] : List Value).toArray s 0 0 (mA ad sh s.heap.size)) (F0 m 12 ls []) := by
    intro n_12
    induction n_12 with
    | zero => intro sm k H locs ls hk hs hM_ hW hl; omega
    | succ n_12 ih_12 =>
      intro sm k H locs ls hk hs hM_ hW hl
      refine lv_iload hx hb dX4_worthOf_12 (lv_at hl 6 rfl) ?_
      refine lv_bipush (v := nI 10) hx hb dX4_worthOf_14 (by decide) ?_
      refine lv_icmp_ge (tgt := 59) hx hb dX4_worthOf_16 (by decide) (fun c_1 => ?_) (fun c_1 => ?_)
      · skip
        have c_1 : 10 ≤ k := (nI_leI (by omega) (by omega)).mp c_1
        refine lv_iload hx hb dX4_worthOf_59 (lv_at hl 5 rfl) ?_
        exact m_iret S hr hlk hW dX4_worthOf_61 ⟨rfl, (by rw [hs, show k = 10 by omega])⟩
      · skip
        have c_1 : ¬ 10 ≤ k := mt (nI_leI (by omega) (by omega)).mpr c_1
        refine lv_iload_n hx hb dX4_worthOf_19 rfl (lv_at hl 4 rfl) ?_
        refine lv_iload hx hb dX4_worthOf_20 (lv_at hl 6 rfl) ?_
        refine lv_ishr hx hb dX4_worthOf_22 ?_
        refine lv_iconst (v := nI 1) hx hb dX4_worthOf_23 (by decide) ?_
        refine lv_iand hx hb dX4_worthOf_24 ?_
        refine m_top (y := fBit x k) rfl ?_
        refine m_if_eq (tgt := 53) hx hb dX4_worthOf_25 (by decide) (fun c_2 => ?_) (fun c_2 => ?_)
        · skip
          refine lv_iinc (v := nI (k + 1)) (lv' := [(6, .int (nI (k + 1))), (4, .int (fBits x)), (0, .ref (ad b)), (1, .ref (ad i)), (2, .ref (ad g)), (3, .int x), (5, .int sm)]) hx hb dX4_worthOf_53 hl (k := 6) rfl (m_inc k 1) (by decide) rfl (fun ls hl => ?_)
          refine lv_goto (tgt := 12) hx hb dX4_worthOf_56 (by decide) ?_
          exact ih_12  sm (k + 1)  _ _ _ (by omega) (by simp only [fLikes]; first | rw [if_pos c_2, ← hs] | rw [if_neg c_2, ← hs]) (by omega) hW (lv_sub hl [1, 2, 3, 4, 5, 6, 0] rfl)
        · skip
          refine lv_iload hx hb dX4_worthOf_28 (lv_at hl 5 rfl) ?_
          refine lv_aload_n hx hb dX4_worthOf_30 rfl (lv_at hl 2 rfl) ?_
          refine lv_aload_n hx hb dX4_worthOf_31 rfl (lv_at hl 1 rfl) ?_
          refine lv_iconst (v := nI 1) hx hb dX4_worthOf_32 (by decide) ?_
          refine lv_aload_n hx hb dX4_worthOf_33 rfl (lv_at hl 2 rfl) ?_
          refine lv_aload_n hx hb dX4_worthOf_34 rfl (lv_at hl 3 rfl) ?_
          refine lv_iload hx hb dX4_worthOf_35 (lv_at hl 0 rfl) ?_
          refine lv_aload_n hx hb dX4_worthOf_37 rfl (lv_at hl 3 rfl) ?_
          refine m_getr S hW hg 0 rfl (j := (g + 1)) rfl kX3 (iW3 _) (by decide) (List.mem_cons_of_mem _ (wa_26 _ (List.mem_of_getElem? (i := 3) (by decide +kernel)))) dX4_worthOf_38 ?_
          refine lv_iload hx hb dX4_worthOf_41 (lv_at hl 6 rfl) ?_
          refine m_iald S hW hg' k rfl (by omega) (by decide) dX4_worthOf_43 ?_
          refine m_cie (m_rV S hW (c_X4_said l G ad sh V b t ta tb tl ne ng i g 1 (fBits x) (V (g + 1) k) hSc (by first | assumption | omega) (by first | assumption | omega) hi hg hg' (by first | assumption | omega)) (cwV 5 hts (gCall [.methodLink RX4 85 yX4_said, .instanceMethod yX4_said, .selects RX4 yX4_said yX4_said, .initialized RX4] (List.forall_mem_cons.mpr ⟨(wa_17 _ (List.mem_of_getElem? (i := 18) (by decide +kernel))), (List.forall_mem_cons.mpr ⟨(wa_25 _ (List.mem_of_getElem? (i := 18) (by decide +kernel))), (List.forall_mem_cons.mpr ⟨(wa_17 _ (List.mem_of_getElem? (i := 16) (by decide +kernel))), (List.forall_mem_cons.mpr ⟨(wa_17 _ (List.mem_of_getElem? (i := 17) (by decide +kernel))), (List.forall_mem_cons.mpr ⟨(wa_2 _ (List.mem_of_getElem? (i := 7) (by decide +kernel))), (fun _ h => absurd h List.not_mem_nil)⟩)⟩)⟩)⟩)⟩)) rfl rfl rfl (by decide +kernel) ⟨Nat.le_of_ble_eq_true rfl, Nat.le_of_ble_eq_true rfl⟩) hSc.1 kX4 rfl hl.1 rfl (Nat.le_of_ble_eq_true rfl) dX4_worthOf_44 ⟨Nat.le_of_ble_eq_true rfl, Nat.le_of_ble_eq_true rfl⟩) hW (fun H locs hW => ?_)
          refine m_cie (m_rV S hW (c_X1_likesCell l G ad sh V i (fAsk (V (t + 1)) ta tb tl 1 (fNm (fBits x) (V (g + 1) k) (V g 1) (V i 1) (V g 2) (V b 4))) hi) (cwV 1 hts (gCall [.methodLink RX4 96 yX1_likesCell, .instanceMethod yX1_likesCell, .selects RX1 yX1_likesCell yX1_likesCell, .initialized RX1] (List.forall_mem_cons.mpr ⟨(wa_26 _ (List.mem_of_getElem? (i := 7) (by decide +kernel))), (List.forall_mem_cons.mpr ⟨(wa_26 _ (List.mem_of_getElem? (i := 4) (by decide +kernel))), (List.forall_mem_cons.mpr ⟨(wa_26 _ (List.mem_of_getElem? (i := 5) (by decide +kernel))), (List.forall_mem_cons.mpr ⟨(wa_26 _ (List.mem_of_getElem? (i := 6) (by decide +kernel))), (List.forall_mem_cons.mpr ⟨(wa_3 _ (List.mem_of_getElem? (i := 3) (by decide +kernel))), (fun _ h => absurd h List.not_mem_nil)⟩)⟩)⟩)⟩)⟩)) rfl rfl rfl (by decide +kernel) ⟨Nat.le_of_ble_eq_true rfl, Nat.le_of_ble_eq_true rfl⟩) hi kX1 rfl hl.1 rfl (Nat.le_of_ble_eq_true rfl) dX4_worthOf_47 ⟨Nat.le_of_ble_eq_true rfl, Nat.le_of_ble_eq_true rfl⟩) hW (fun H locs hW => ?_)
          refine lv_iadd hx hb dX4_worthOf_50 ?_
          refine lv_istore (lv' := [(5, .int (sm + (fLike (V i 0) (V i 1) (fAsk (V (t + 1)) ta tb tl 1 (fNm (fBits x) (V (g + 1) k) (V g 1) (V i 1) (V g 2) (V b 4)))))), (4, .int (fBits x)), (0, .ref (ad b)), (1, .ref (ad i)), (2, .ref (ad g)), (3, .int x), (6, .int (nI k))]) hx hb dX4_worthOf_51 hl (by decide) rfl (fun ls hl => ?_)
          refine lv_iinc (v := nI (k + 1)) (lv' := [(6, .int (nI (k + 1))), (5, .int (sm + (fLike (V i 0) (V i 1) (fAsk (V (t + 1)) ta tb tl 1 (fNm (fBits x) (V (g + 1) k) (V g 1) (V i 1) (V g 2) (V b 4)))))), (4, .int (fBits x)), (0, .ref (ad b)), (1, .ref (ad i)), (2, .ref (ad g)), (3, .int x)]) hx hb dX4_worthOf_53 hl (k := 6) rfl (m_inc k 1) (by decide) rfl (fun ls hl => ?_)
          refine lv_goto (tgt := 12) hx hb dX4_worthOf_56 (by decide) ?_
          exact ih_12  (sm + (fLike (V i 0) (V i 1) (fAsk (V (t + 1)) ta tb tl 1 (fNm (fBits x) (V (g + 1) k) (V g 1) (V i 1) (V g 2) (V b 4))))) (k + 1)  _ _ _ (by omega) (by simp only [fLikes]; first | rw [if_pos c_2, ← hs] | rw [if_neg c_2, ← hs]) (by omega) hW (lv_sub hl [2, 3, 4, 5, 6, 1, 0] rfl)
  exact loop_12 (10 - 0 + 1) (nI 0) 0  _ _ _ (by omega) (by rfl) (by omega) hW (lv_sub hl [2, 3, 4, 5, 6, 1, 0] rfl)
set_option maxHeartbeats 4000000 in
set_option maxRecDepth 100000 in
theorem c_X4_leastGain (l : Launch) (G : mG) (ad : Nat → Nat) (sh : Nat → Option mSh) (V : mV) (b t ta tb tl ne ng i g : Nat) (x : Int32) (hSc : ScOk sh b) (hI : ScI V b t ta tb tl ne ng) (hT : TxS sh t tl) (hi : sh i = some sEater) (hg : sh g = some (sGood g)) (hg' : sh (g + 1) = some (mI 10)) : mM l yX4_leastGain wsX4_leastGain ({ frames := 3, cells := 0, slots := 0, locals := 114 } : Room) G ad sh V [.ref (ad b), .ref (ad i), .ref (ad g), .int x] 0 0 (mPe ad sh V (fWait (fAsk (V (t + 1)) ta tb tl) (V i 1) (V g 1) (V g 2) (V b 4) (V (g + 1)) x)) := by
  refine mM.of (cc := cX4_leastGain) (maxL := 4) (ret := (some .int)) (by decide) rfl (Nat.le_of_ble_eq_true rfl) ?_
  intro p e s m below meth c S hr hlk hnm hW ls hl
  obtain ⟨hx, hb, hml, hown, hts⟩ := id S
  have hl : lv_has ls 4 [(0, .ref (ad b)), (1, .ref (ad i)), (2, .ref (ad g)), (3, .int x)] := hl
  have hS0 : True := trivial
  refine lv_aload_n hx hb dX4_leastGain_0 rfl (lv_at hl 0 rfl) ?_
  refine lv_iconst (v := nI 2) hx hb dX4_leastGain_1 (by decide) ?_
  refine lv_aload_n hx hb dX4_leastGain_2 rfl (lv_at hl 1 rfl) ?_
  refine lv_aload_n hx hb dX4_leastGain_3 rfl (lv_at hl 2 rfl) ?_
  refine lv_iload_n hx hb dX4_leastGain_4 rfl (lv_at hl 3 rfl) ?_
  refine m_cie (m_rS S hW (c_J6_bitCount_0f7a4 l G ad sh V x) (va_cwS 1 hts (gCall [.methodLink RX4 70 yJ6_bitCount_0f7a4, .static yJ6_bitCount_0f7a4, .initialized RJ6] (List.forall_mem_cons.mpr ⟨(wa_18 _ (List.mem_of_getElem? (i := 2) (by decide +kernel))), (List.forall_mem_cons.mpr ⟨(wa_17 _ (List.mem_of_getElem? (i := 23) (by decide +kernel))), (List.forall_mem_cons.mpr ⟨(wa_18 _ (List.mem_of_getElem? (i := 0) (by decide +kernel))), (List.forall_mem_cons.mpr ⟨(wa_18 _ (List.mem_of_getElem? (i := 1) (by decide +kernel))), (fun _ h => absurd h List.not_mem_nil)⟩)⟩)⟩)⟩)) rfl rfl rfl (by decide +kernel) ⟨Nat.le_of_ble_eq_true rfl, Nat.le_of_ble_eq_true rfl⟩) rfl hl.1 rfl (Nat.le_of_ble_eq_true rfl) dX4_leastGain_5 ⟨Nat.le_of_ble_eq_true rfl, Nat.le_of_ble_eq_true rfl⟩) hW (fun H locs hW => ?_)
  refine lv_aload_n hx hb dX4_leastGain_8 rfl (lv_at hl 2 rfl) ?_
  refine lv_iload_n hx hb dX4_leastGain_9 rfl (lv_at hl 3 rfl) ?_
  refine m_cie (m_rV S hW (c_X3_worthOfCells l G ad sh V g x hg hg') (cwV 1 hts (gCall [.methodLink RX4 82 yX3_worthOfCells, .instanceMethod yX3_worthOfCells, .selects RX3 yX3_worthOfCells yX3_worthOfCells, .initialized RX3] (List.forall_mem_cons.mpr ⟨(wa_25 _ (List.mem_of_getElem? (i := 17) (by decide +kernel))), (List.forall_mem_cons.mpr ⟨(wa_25 _ (List.mem_of_getElem? (i := 14) (by decide +kernel))), (List.forall_mem_cons.mpr ⟨(wa_25 _ (List.mem_of_getElem? (i := 15) (by decide +kernel))), (List.forall_mem_cons.mpr ⟨(wa_25 _ (List.mem_of_getElem? (i := 16) (by decide +kernel))), (List.forall_mem_cons.mpr ⟨(wa_10 _ (List.mem_of_getElem? (i := 5) (by decide +kernel))), (fun _ h => absurd h List.not_mem_nil)⟩)⟩)⟩)⟩)⟩)) rfl rfl rfl (by decide +kernel) ⟨Nat.le_of_ble_eq_true rfl, Nat.le_of_ble_eq_true rfl⟩) hg kX3 rfl hl.1 rfl (Nat.le_of_ble_eq_true rfl) dX4_leastGain_10 ⟨Nat.le_of_ble_eq_true rfl, Nat.le_of_ble_eq_true rfl⟩) hW (fun H locs hW => ?_)
  refine m_cie (m_rV S hW (c_X4_said l G ad sh V b t ta tb tl ne ng i g 2 (fBits x) (fWorth (V (g + 1)) x 10) hSc (by first | assumption | omega) (by first | assumption | omega) hi hg hg' (by first | assumption | omega)) (cwV 5 hts (gCall [.methodLink RX4 85 yX4_said, .instanceMethod yX4_said, .selects RX4 yX4_said yX4_said, .initialized RX4] (List.forall_mem_cons.mpr ⟨(wa_17 _ (List.mem_of_getElem? (i := 18) (by decide +kernel))), (List.forall_mem_cons.mpr ⟨(wa_25 _ (List.mem_of_getElem? (i := 18) (by decide +kernel))), (List.forall_mem_cons.mpr ⟨(wa_17 _ (List.mem_of_getElem? (i := 16) (by decide +kernel))), (List.forall_mem_cons.mpr ⟨(wa_17 _ (List.mem_of_getElem? (i := 17) (by decide +kernel))), (List.forall_mem_cons.mpr ⟨(wa_2 _ (List.mem_of_getElem? (i := 7) (by decide +kernel))), (fun _ h => absurd h List.not_mem_nil)⟩)⟩)⟩)⟩)⟩)) rfl rfl rfl (by decide +kernel) ⟨Nat.le_of_ble_eq_true rfl, Nat.le_of_ble_eq_true rfl⟩) hSc.1 kX4 rfl hl.1 rfl (Nat.le_of_ble_eq_true rfl) dX4_leastGain_13 ⟨Nat.le_of_ble_eq_true rfl, Nat.le_of_ble_eq_true rfl⟩) hW (fun H locs hW => ?_)
  exact m_iret S hr hlk hW dX4_leastGain_16 ⟨rfl, (by rfl)⟩
set_option maxHeartbeats 4000000 in
set_option maxRecDepth 100000 in
theorem c_X4_tellBite (l : Launch) (G : mG) (ad : Nat → Nat) (sh : Nat → Option mSh) (V : mV) (n : Nat) (hn : n < 2 ^ 20) : mM l yX4_tellBite wsX4_tellBite ({ frames := 0, cells := 0, slots := 0, locals := 0 } : Room) G ad sh V [.int (nI n)] 0 0 (mPe ad sh V (nI (100 * (n / 16) + n % 16))) := by
  refine mM.of (cc := cX4_tellBite) (maxL := 1) (ret := (some .int)) (by decide) rfl (Nat.le_of_ble_eq_true rfl) ?_
  intro p e s m below meth c S hr hlk hnm hW ls hl
  obtain ⟨hx, hb, hml, hown, hts⟩ := id S
  have hl : lv_has ls 1 [(0, .int (nI n))] := hl
  have hS0 : True := trivial
  refine lv_bipush (v := nI 100) hx hb dX4_tellBite_0 (by decide) ?_
  refine lv_iload_n hx hb dX4_tellBite_2 rfl (lv_at hl 0 rfl) ?_
  refine lv_bipush (v := nI 16) hx hb dX4_tellBite_3 (by decide) ?_
  refine lv_idiv hx hb dX4_tellBite_5 (by decide) ?_
  refine m_top (y := nI (n / 16)) (pk_div (by omega) (by omega) (by omega)) ?_
  refine lv_imul hx hb dX4_tellBite_6 ?_
  refine m_top (y := nI (100 * (n / 16))) (pk_mul 100 (n / 16)) ?_
  refine lv_iload_n hx hb dX4_tellBite_7 rfl (lv_at hl 0 rfl) ?_
  refine lv_bipush (v := nI 16) hx hb dX4_tellBite_8 (by decide) ?_
  refine lv_irem hx hb dX4_tellBite_10 (by decide) ?_
  refine m_top (y := nI (n % 16)) (pk_rem (by omega) (by omega) (by omega)) ?_
  refine lv_iadd hx hb dX4_tellBite_11 ?_
  refine m_top (y := nI ((100 * (n / 16)) + (n % 16))) (nI_add (100 * (n / 16)) (n % 16)) ?_
  exact m_iret S hr hlk hW dX4_tellBite_12 ⟨rfl, (by rfl)⟩
set_option maxHeartbeats 4000000 in
set_option maxRecDepth 100000 in
theorem c_X4_tryBite (l : Launch) (G : mG) (ad : Nat → Nat) (sh : Nat → Option mSh) (V : mV) (b t ta tb tl ne ng i g : Nat) (x : Int32) (hSc : ScOk sh b) (hI : ScI V b t ta tb tl ne ng) (hT : TxS sh t tl) (hi : sh i = some sEater) (hg : sh g = some (sGood g)) (hg' : sh (g + 1) = some (mI 10)) (hig : i ≠ g) (hib : b ≠ i) (hgb : b ≠ g) : mM l yX4_tryBite wsX4_tryBite ({ frames := 4, cells := 0, slots := 0, locals := 140 } : Room) G ad sh V [.ref (ad b), .ref (ad i), .ref (ad g), .int x] 0 0 (mPi ad sh (fun r V' => (nI 0 = r ∧ V' = V ∧ (fMark (fShape (V i 0) (V i 1) (V i 2) (V g 1)) (V g 2) x = nI 0 ∨ V i 3 < fCost (fAsk (V (t + 1)) ta tb tl) (V i 0) (V i 1) (V g 1) (V g 2) (V b 4) (V (g + 1)) (fMark (fShape (V i 0) (V i 1) (V i 2) (V g 1)) (V g 2) x))) ∨ (nI 1 = r ∧ (¬ fMark (fShape (V i 0) (V i 1) (V i 2) (V g 1)) (V g 2) x = nI 0) ∧ (¬ V i 3 < fCost (fAsk (V (t + 1)) ta tb tl) (V i 0) (V i 1) (V g 1) (V g 2) (V b 4) (V (g + 1)) (fMark (fShape (V i 0) (V i 1) (V i 2) (V g 1)) (V g 2) x)) ∧ (V' = fBite V b i g (fMark (fShape (V i 0) (V i 1) (V i 2) (V g 1)) (V g 2) x) (fLikes (fAsk (V (t + 1)) ta tb tl) (V i 0) (V i 1) (V g 1) (V g 2) (V b 4) (V (g + 1)) (fMark (fShape (V i 0) (V i 1) (V i 2) (V g 1)) (V g 2) x) 10) (fCost (fAsk (V (t + 1)) ta tb tl) (V i 0) (V i 1) (V g 1) (V g 2) (V b 4) (V (g + 1)) (fMark (fShape (V i 0) (V i 1) (V i 2) (V g 1)) (V g 2) x)))))) := by
  refine mM.of (cc := cX4_tryBite) (maxL := 7) (ret := (some .boolean)) (by decide) rfl (Nat.le_of_ble_eq_true rfl) ?_
  intro p e s m below meth c S hr hlk hnm hW ls hl
  obtain ⟨hx, hb, hml, hown, hts⟩ := id S
  have hl : lv_has ls 7 [(0, .ref (ad b)), (1, .ref (ad i)), (2, .ref (ad g)), (3, .int x)] := hl
  have hS0 : True := trivial
  refine lv_aload_n hx hb dX4_tryBite_0 rfl (lv_at hl 1 rfl) ?_
  refine lv_aload_n hx hb dX4_tryBite_1 rfl (lv_at hl 2 rfl) ?_
  refine lv_iload_n hx hb dX4_tryBite_2 rfl (lv_at hl 3 rfl) ?_
  refine m_cie (m_rV S hW (c_X1_markOf l G ad sh V i g x hi hg hg') (cwV 2 hts (gCall [.methodLink RX4 99 yX1_markOf, .instanceMethod yX1_markOf, .selects RX1 yX1_markOf yX1_markOf, .initialized RX1] (List.forall_mem_cons.mpr ⟨(wa_25 _ (List.mem_of_getElem? (i := 7) (by decide +kernel))), (List.forall_mem_cons.mpr ⟨(wa_27 _ (List.mem_of_getElem? (i := 20) (by decide +kernel))), (List.forall_mem_cons.mpr ⟨(wa_25 _ (List.mem_of_getElem? (i := 5) (by decide +kernel))), (List.forall_mem_cons.mpr ⟨(wa_25 _ (List.mem_of_getElem? (i := 6) (by decide +kernel))), (List.forall_mem_cons.mpr ⟨(wa_3 _ (List.mem_of_getElem? (i := 3) (by decide +kernel))), (fun _ h => absurd h List.not_mem_nil)⟩)⟩)⟩)⟩)⟩)) rfl rfl rfl (by decide +kernel) ⟨Nat.le_of_ble_eq_true rfl, Nat.le_of_ble_eq_true rfl⟩) hi kX1 rfl hl.1 rfl (Nat.le_of_ble_eq_true rfl) dX4_tryBite_3 ⟨Nat.le_of_ble_eq_true rfl, Nat.le_of_ble_eq_true rfl⟩) hW (fun H locs hW => ?_)
  refine lv_topi (fun x_1 ex_1 => ?_)
  refine lv_istore (lv' := [(4, .int x_1), (0, .ref (ad b)), (1, .ref (ad i)), (2, .ref (ad g)), (3, .int x)]) hx hb dX4_tryBite_6 hl (by decide) rfl (fun ls hl => ?_)
  refine lv_iload hx hb dX4_tryBite_8 (lv_at hl 0 rfl) ?_
  refine m_if_ne (tgt := 15) hx hb dX4_tryBite_10 (by decide) (fun c_2 => ?_) (fun c_2 => ?_)
  · skip
    refine lv_aload_n hx hb dX4_tryBite_15 rfl (lv_at hl 1 rfl) ?_
    refine lv_aload_n hx hb dX4_tryBite_16 rfl (lv_at hl 2 rfl) ?_
    refine lv_aload_n hx hb dX4_tryBite_17 rfl (lv_at hl 3 rfl) ?_
    refine lv_iload hx hb dX4_tryBite_18 (lv_at hl 0 rfl) ?_
    refine m_cie (m_rV S hW (c_X4_costOf l G ad sh V b t ta tb tl ne ng i g x_1 hSc (by first | assumption | omega) (by first | assumption | omega) hi hg hg') (cwV 3 hts (gCall [.methodLink RX4 102 yX4_costOf, .instanceMethod yX4_costOf, .selects RX4 yX4_costOf yX4_costOf, .initialized RX4] (List.forall_mem_cons.mpr ⟨(wa_25 _ (List.mem_of_getElem? (i := 13) (by decide +kernel))), (List.forall_mem_cons.mpr ⟨(wa_27 _ (List.mem_of_getElem? (i := 21) (by decide +kernel))), (List.forall_mem_cons.mpr ⟨(wa_25 _ (List.mem_of_getElem? (i := 11) (by decide +kernel))), (List.forall_mem_cons.mpr ⟨(wa_25 _ (List.mem_of_getElem? (i := 12) (by decide +kernel))), (List.forall_mem_cons.mpr ⟨(wa_2 _ (List.mem_of_getElem? (i := 7) (by decide +kernel))), (fun _ h => absurd h List.not_mem_nil)⟩)⟩)⟩)⟩)⟩)) rfl rfl rfl (by decide +kernel) ⟨Nat.le_of_ble_eq_true rfl, Nat.le_of_ble_eq_true rfl⟩) hSc.1 kX4 rfl hl.1 rfl (Nat.le_of_ble_eq_true rfl) dX4_tryBite_20 ⟨Nat.le_of_ble_eq_true rfl, Nat.le_of_ble_eq_true rfl⟩) hW (fun H locs hW => ?_)
    refine lv_topi (fun x_3 ex_3 => ?_)
    refine lv_istore (lv' := [(5, .int x_3), (4, .int x_1), (0, .ref (ad b)), (1, .ref (ad i)), (2, .ref (ad g)), (3, .int x)]) hx hb dX4_tryBite_23 hl (by decide) rfl (fun ls hl => ?_)
    refine lv_iload hx hb dX4_tryBite_25 (lv_at hl 0 rfl) ?_
    refine lv_aload_n hx hb dX4_tryBite_27 rfl (lv_at hl 3 rfl) ?_
    refine m_geti S hW hi 3 rfl kX1 (iW1 _) (by decide) (List.mem_cons_of_mem _ (wa_27 _ (List.mem_of_getElem? (i := 18) (by decide +kernel)))) dX4_tryBite_28 ?_
    refine lv_icmp_le (tgt := 36) hx hb dX4_tryBite_31 (by decide) (fun c_4 => ?_) (fun c_4 => ?_)
    · skip
      refine lv_aload_n hx hb dX4_tryBite_36 rfl (lv_at hl 2 rfl) ?_
      refine lv_aload_n hx hb dX4_tryBite_37 rfl (lv_at hl 3 rfl) ?_
      refine lv_aload_n hx hb dX4_tryBite_38 rfl (lv_at hl 4 rfl) ?_
      refine lv_iload hx hb dX4_tryBite_39 (lv_at hl 1 rfl) ?_
      refine m_cie (m_rV S hW (c_X4_worthOf l G ad sh V b t ta tb tl ne ng i g x_1 hSc (by first | assumption | omega) (by first | assumption | omega) hi hg hg') (cwV 3 hts (gCall [.methodLink RX4 109 yX4_worthOf, .instanceMethod yX4_worthOf, .selects RX4 yX4_worthOf yX4_worthOf, .initialized RX4] (List.forall_mem_cons.mpr ⟨(wa_26 _ (List.mem_of_getElem? (i := 2) (by decide +kernel))), (List.forall_mem_cons.mpr ⟨(wa_27 _ (List.mem_of_getElem? (i := 22) (by decide +kernel))), (List.forall_mem_cons.mpr ⟨(wa_26 _ (List.mem_of_getElem? (i := 0) (by decide +kernel))), (List.forall_mem_cons.mpr ⟨(wa_26 _ (List.mem_of_getElem? (i := 1) (by decide +kernel))), (List.forall_mem_cons.mpr ⟨(wa_2 _ (List.mem_of_getElem? (i := 7) (by decide +kernel))), (fun _ h => absurd h List.not_mem_nil)⟩)⟩)⟩)⟩)⟩)) rfl rfl rfl (by decide +kernel) ⟨Nat.le_of_ble_eq_true rfl, Nat.le_of_ble_eq_true rfl⟩) hSc.1 kX4 rfl hl.1 rfl (Nat.le_of_ble_eq_true rfl) dX4_tryBite_41 ⟨Nat.le_of_ble_eq_true rfl, Nat.le_of_ble_eq_true rfl⟩) hW (fun H locs hW => ?_)
      refine lv_topi (fun x_5 ex_5 => ?_)
      refine lv_istore (lv' := [(6, .int x_5), (5, .int x_3), (4, .int x_1), (0, .ref (ad b)), (1, .ref (ad i)), (2, .ref (ad g)), (3, .int x)]) hx hb dX4_tryBite_44 hl (by decide) rfl (fun ls hl => ?_)
      refine lv_aload_n hx hb dX4_tryBite_46 rfl (lv_at hl 3 rfl) ?_
      refine lv_iload hx hb dX4_tryBite_47 (lv_at hl 0 rfl) ?_
      refine lv_iload hx hb dX4_tryBite_49 (lv_at hl 1 rfl) ?_
      refine lv_isub hx hb dX4_tryBite_51 ?_
      refine m_puti S hW hSc.1 8 rfl kX4 (iW4 _) tyX4 tyX4_ok nmX4 (by decide) (List.mem_cons_of_mem _ (wa_27 _ (List.mem_of_getElem? (i := 19) (by decide +kernel)))) (Or.inl rfl) rfl rfl dX4_tryBite_52 (fun H locs hW => ?_)
      obtain ⟨V_6, eV_6⟩ : ∃ z : mV, z = mU V b 8 ((x_5 - x_3)) := ⟨_, rfl⟩
      rw [← eV_6] at hW
      refine lv_aload_n hx hb dX4_tryBite_55 rfl (lv_at hl 4 rfl) ?_
      refine lv_aload_n hx hb dX4_tryBite_56 rfl (lv_at hl 5 rfl) ?_
      refine lv_iload hx hb dX4_tryBite_57 (lv_at hl 2 rfl) ?_
      refine lv_iload hx hb dX4_tryBite_59 (lv_at hl 0 rfl) ?_
      refine lv_iload hx hb dX4_tryBite_61 (lv_at hl 1 rfl) ?_
      refine m_cv (m_rV S hW (c_X1_swallow l G ad sh V_6 i g x_1 x_5 x_3 hi hg hg' (by first | assumption | omega)) (cwV 4 hts (gCall [.methodLink RX4 115 yX1_swallow, .instanceMethod yX1_swallow, .selects RX1 yX1_swallow yX1_swallow, .initialized RX1] (List.forall_mem_cons.mpr ⟨(wa_28 _ (List.mem_of_getElem? (i := 2) (by decide +kernel))), (List.forall_mem_cons.mpr ⟨(wa_27 _ (List.mem_of_getElem? (i := 23) (by decide +kernel))), (List.forall_mem_cons.mpr ⟨(wa_28 _ (List.mem_of_getElem? (i := 0) (by decide +kernel))), (List.forall_mem_cons.mpr ⟨(wa_28 _ (List.mem_of_getElem? (i := 1) (by decide +kernel))), (List.forall_mem_cons.mpr ⟨(wa_3 _ (List.mem_of_getElem? (i := 3) (by decide +kernel))), (fun _ h => absurd h List.not_mem_nil)⟩)⟩)⟩)⟩)⟩)) rfl rfl rfl (by decide +kernel) ⟨Nat.le_of_ble_eq_true rfl, Nat.le_of_ble_eq_true rfl⟩) hi kX1 rfl hl.1 rfl (Nat.le_of_ble_eq_true rfl) dX4_tryBite_63 ⟨Nat.le_of_ble_eq_true rfl, Nat.le_of_ble_eq_true rfl⟩) hW (fun V_7 H locs hp_8 hW => ?_)
      have eV_7 : V_7 = mU (mU (mU V_6 i 4 (if nI 9999 < V_6 i 4 + x_5 then nI 9999 else V_6 i 4 + x_5)) i 3 (V_6 i 3 - x_3)) g 2 (V_6 g 2 &&& (x_1 ^^^ -1)) := hp_8
      refine lv_iconst (v := nI 1) hx hb dX4_tryBite_66 (by decide) ?_
      exact m_zret S hr hlk hW rfl dX4_tryBite_67 (by have w3 := (show V_7 = _ from eV_7).trans (show _ = fBite V b i g x_1 x_5 x_3 from by rw [eV_6, mU_no _ _ (Ne.symm hib), mU_no _ _ (Ne.symm hgb)]; rfl); subst ex_5; subst ex_3; subst ex_1; exact Or.inr ⟨rfl, c_2, Int32.not_lt.mpr c_4, w3⟩)
    · skip
      refine lv_iconst (v := nI 0) hx hb dX4_tryBite_34 (by decide) ?_
      exact m_zret S hr hlk hW rfl dX4_tryBite_35 (by subst_vars; exact Or.inl ⟨rfl, rfl, Or.inr (Int32.not_le.mp c_4)⟩)
  · skip
    refine lv_iconst (v := nI 0) hx hb dX4_tryBite_13 (by decide) ?_
    exact m_zret S hr hlk hW rfl dX4_tryBite_14 (by subst_vars; exact Or.inl ⟨rfl, rfl, Or.inl c_2⟩)
set_option maxHeartbeats 4000000 in
set_option maxRecDepth 100000 in
theorem c_X4_eaterAt (l : Launch) (G : mG) (ad : Nat → Nat) (sh : Nat → Option mSh) (V : mV) (b t ta tb tl ne ng : Nat) (x : Int32) (hSc : ScOk sh b) (hI : ScI V b t ta tb tl ne ng) : mM l yX4_eaterAt wsX4_eaterAt ({ frames := 1, cells := 0, slots := 0, locals := 22 } : Room) G ad sh V [.ref (ad b), .int x] 0 0 (mPrp ad sh V (fun r => (∃ (n : Nat), some (b + 4 + n) = r ∧ (x = nI n) ∧ (n < ne)) ∨ (none = r ∧ (¬ mIn x 0 ne)))) := by
  refine mM.of (cc := cX4_eaterAt) (maxL := 2) (ret := (some (.object "BiteFirst$Eater"))) (by decide) rfl (Nat.le_of_ble_eq_true rfl) ?_
  intro p e s m below meth c S hr hlk hnm hW ls hl
  obtain ⟨hx, hb, hml, hown, hts⟩ := id S
  have hl : lv_has ls 2 [(0, .ref (ad b)), (1, .int x)] := hl
  have hS0 : True := trivial
  have hne5 := hI.2.2.1
  refine lv_iload_n hx hb dX4_eaterAt_0 rfl (lv_at hl 1 rfl) ?_
  refine lv_iconst (v := nI 0) hx hb dX4_eaterAt_1 (by decide) ?_
  refine lv_aload_n hx hb dX4_eaterAt_2 rfl (lv_at hl 0 rfl) ?_
  refine m_geti S hW hSc.1 2 rfl kX4 (iW4 _) (by decide) (List.mem_cons_of_mem _ (wa_17 _ (List.mem_of_getElem? (i := 9) (by decide +kernel)))) dX4_eaterAt_3 ?_
  refine m_top (y := nI ne) hI.1 ?_
  refine lv_iconst (v := nI 1) hx hb dX4_eaterAt_6 (by decide) ?_
  refine lv_isub hx hb dX4_eaterAt_7 ?_
  refine m_cip (m_rSN S hW (c_X10_within_c l G ad sh V x ((nI ne) - (nI 1)) ne (by exact pk_sub_toInt (by omega) (by decide))) ⟨va_cnB 3 hts (gCall [] (List.forall_mem_cons.mpr ⟨(wa_8 _ (List.mem_of_getElem? (i := 17) (by decide +kernel))), (fun _ h => absurd h List.not_mem_nil)⟩)) rfl rfl rfl (hW.2.2.2.2.2.1 _ (List.mem_of_getElem? (i := 8) rfl)) (hts (.initialized RX10) (List.mem_cons_of_mem _ (wa_1 _ (List.mem_of_getElem? (i := 2) (by decide +kernel))))) (by decide +kernel) ⟨Nat.le_of_ble_eq_true rfl, Nat.le_of_ble_eq_true rfl⟩, hts (.static yX10_within) (List.mem_cons_of_mem _ (wa_8 _ (List.mem_of_getElem? (i := 16) (by decide +kernel)))), trivial⟩ rfl hl.1 rfl (Nat.le_of_ble_eq_true rfl) dX4_eaterAt_8 ⟨Nat.le_of_ble_eq_true rfl, Nat.le_of_ble_eq_true rfl⟩) hW (fun r_2 H locs hp_1 hW => ?_)
  rcases hp_1 with ⟨rfl, w_3⟩ | ⟨rfl, w_4⟩
  · skip
    refine m_if_eq (tgt := 23) hx hb dX4_eaterAt_11 (by decide) (fun c_5 => ?_) (fun c_5 => ?_)
    · exact absurd c_5 (by decide)
    · skip
      refine lv_aload_n hx hb dX4_eaterAt_14 rfl (lv_at hl 0 rfl) ?_
      refine m_getr S hW hSc.1 0 rfl (j := (b + 1)) rfl kX4 (iW4 _) (by decide) (List.mem_cons_of_mem _ (wa_9 _ (List.mem_of_getElem? (i := 23) (by decide +kernel)))) dX4_eaterAt_15 ?_
      refine lv_iload_n hx hb dX4_eaterAt_18 rfl (lv_at hl 1 rfl) ?_
      obtain ⟨ix, eix, -, hix⟩ := w_3.ex
      refine m_aald S hW 1 rfl hSc.2.1 ix eix (by omega) (by decide) (j := (b + 4 + ix)) (if_pos (by omega)) dX4_eaterAt_19 ?_
      refine lv_goto (tgt := 24) hx hb dX4_eaterAt_20 (by decide) ?_
      refine W.eq (g2 := F0 m 24 ls [va_rf (Option.map ad (some (b + 4 + ix)))]) rfl ?_
      exact m_aret S hr hlk hW dX4_eaterAt_24 ⟨rfl, (by exact Or.inl ⟨ix, rfl, eix, hix⟩)⟩
  · skip
    refine m_if_eq (tgt := 23) hx hb dX4_eaterAt_11 (by decide) (fun c_6 => ?_) (fun c_6 => ?_)
    · skip
      refine lv_null hx hb dX4_eaterAt_23 ?_
      refine W.eq (g2 := F0 m 24 ls [va_rf (Option.map ad (none))]) rfl ?_
      exact m_aret S hr hlk hW dX4_eaterAt_24 ⟨rfl, (by exact Or.inr ⟨rfl, w_4⟩)⟩
    · exact absurd c_6 (by decide)
set_option maxHeartbeats 4000000 in
set_option maxRecDepth 100000 in
theorem c_X4_goodAt (l : Launch) (G : mG) (ad : Nat → Nat) (sh : Nat → Option mSh) (V : mV) (b t ta tb tl ne ng : Nat) (x : Int32) (hSc : ScOk sh b) (hI : ScI V b t ta tb tl ne ng) : mM l yX4_goodAt wsX4_goodAt ({ frames := 1, cells := 0, slots := 0, locals := 22 } : Room) G ad sh V [.ref (ad b), .int x] 0 0 (mPrp ad sh V (fun r => (∃ (n : Nat), some (b + 10 + 2 * n) = r ∧ (x = nI n) ∧ (n < ng)) ∨ (none = r ∧ (¬ mIn x 0 ng)))) := by
  refine mM.of (cc := cX4_goodAt) (maxL := 2) (ret := (some (.object "BiteFirst$Good"))) (by decide) rfl (Nat.le_of_ble_eq_true rfl) ?_
  intro p e s m below meth c S hr hlk hnm hW ls hl
  obtain ⟨hx, hb, hml, hown, hts⟩ := id S
  have hl : lv_has ls 2 [(0, .ref (ad b)), (1, .int x)] := hl
  have hS0 : True := trivial
  have hng6 := hI.2.2.2.1
  refine lv_iload_n hx hb dX4_goodAt_0 rfl (lv_at hl 1 rfl) ?_
  refine lv_iconst (v := nI 0) hx hb dX4_goodAt_1 (by decide) ?_
  refine lv_aload_n hx hb dX4_goodAt_2 rfl (lv_at hl 0 rfl) ?_
  refine m_geti S hW hSc.1 3 rfl kX4 (iW4 _) (by decide) (List.mem_cons_of_mem _ (wa_17 _ (List.mem_of_getElem? (i := 14) (by decide +kernel)))) dX4_goodAt_3 ?_
  refine m_top (y := nI ng) hI.2.1 ?_
  refine lv_iconst (v := nI 1) hx hb dX4_goodAt_6 (by decide) ?_
  refine lv_isub hx hb dX4_goodAt_7 ?_
  refine m_cip (m_rSN S hW (c_X10_within_c l G ad sh V x ((nI ng) - (nI 1)) ng (by exact pk_sub_toInt (by omega) (by decide))) ⟨va_cnB 3 hts (gCall [] (List.forall_mem_cons.mpr ⟨(wa_8 _ (List.mem_of_getElem? (i := 17) (by decide +kernel))), (fun _ h => absurd h List.not_mem_nil)⟩)) rfl rfl rfl (hW.2.2.2.2.2.1 _ (List.mem_of_getElem? (i := 8) rfl)) (hts (.initialized RX10) (List.mem_cons_of_mem _ (wa_1 _ (List.mem_of_getElem? (i := 2) (by decide +kernel))))) (by decide +kernel) ⟨Nat.le_of_ble_eq_true rfl, Nat.le_of_ble_eq_true rfl⟩, hts (.static yX10_within) (List.mem_cons_of_mem _ (wa_8 _ (List.mem_of_getElem? (i := 16) (by decide +kernel)))), trivial⟩ rfl hl.1 rfl (Nat.le_of_ble_eq_true rfl) dX4_goodAt_8 ⟨Nat.le_of_ble_eq_true rfl, Nat.le_of_ble_eq_true rfl⟩) hW (fun r_2 H locs hp_1 hW => ?_)
  rcases hp_1 with ⟨rfl, w_3⟩ | ⟨rfl, w_4⟩
  · skip
    refine m_if_eq (tgt := 23) hx hb dX4_goodAt_11 (by decide) (fun c_5 => ?_) (fun c_5 => ?_)
    · exact absurd c_5 (by decide)
    · skip
      refine lv_aload_n hx hb dX4_goodAt_14 rfl (lv_at hl 0 rfl) ?_
      refine m_getr S hW hSc.1 1 rfl (j := (b + 2)) rfl kX4 (iW4 _) (by decide) (List.mem_cons_of_mem _ (wa_10 _ (List.mem_of_getElem? (i := 1) (by decide +kernel)))) dX4_goodAt_15 ?_
      refine lv_iload_n hx hb dX4_goodAt_18 rfl (lv_at hl 1 rfl) ?_
      obtain ⟨ix, eix, -, hix⟩ := w_3.ex
      refine m_aald S hW 2 rfl hSc.2.2.1 ix eix (by omega) (by decide) (j := (b + 10 + 2 * ix)) (if_pos (by omega)) dX4_goodAt_19 ?_
      refine lv_goto (tgt := 24) hx hb dX4_goodAt_20 (by decide) ?_
      refine W.eq (g2 := F0 m 24 ls [va_rf (Option.map ad (some (b + 10 + 2 * ix)))]) rfl ?_
      exact m_aret S hr hlk hW dX4_goodAt_24 ⟨rfl, (by exact Or.inl ⟨ix, rfl, eix, hix⟩)⟩
  · skip
    refine m_if_eq (tgt := 23) hx hb dX4_goodAt_11 (by decide) (fun c_6 => ?_) (fun c_6 => ?_)
    · skip
      refine lv_null hx hb dX4_goodAt_23 ?_
      refine W.eq (g2 := F0 m 24 ls [va_rf (Option.map ad (none))]) rfl ?_
      exact m_aret S hr hlk hW dX4_goodAt_24 ⟨rfl, (by exact Or.inr ⟨rfl, w_4⟩)⟩
    · exact absurd c_6 (by decide)
set_option maxHeartbeats 4000000 in
set_option maxRecDepth 100000 in
theorem c_X4_findBest (l : Launch) (G : mG) (ad : Nat → Nat) (sh : Nat → Option mSh) (V : mV) (b t ta tb tl ne ng i : Nat) (hSc : ScOk sh b) (hI : ScI V b t ta tb tl ne ng) (hT : TxS sh t tl) (hi : sh i = some sEater) : mM l yX4_findBest wsX4_findBest ({ frames := 4, cells := 0, slots := 0, locals := 140 } : Room) G ad sh V [.ref (ad b), .ref (ad i)] 0 0 (mPv ad sh (fun V' => V' = mU (mU V b 6 (fBest (fAsk (V (t + 1)) ta tb tl) (V i 0) (V i 1) (V i 2) (V i 3) (V b 4) (fun g => V (b + 10 + 2 * g) 1) (fun g => V (b + 10 + 2 * g) 2) (fun g => V (b + 10 + 2 * g + 1)) (ng * 16)).1) b 7 (fBest (fAsk (V (t + 1)) ta tb tl) (V i 0) (V i 1) (V i 2) (V i 3) (V b 4) (fun g => V (b + 10 + 2 * g) 1) (fun g => V (b + 10 + 2 * g) 2) (fun g => V (b + 10 + 2 * g + 1)) (ng * 16)).2)) := by
  refine mM.of (cc := cX4_findBest) (maxL := 7) (ret := none) (by decide) rfl (Nat.le_of_ble_eq_true rfl) ?_
  intro p e s m below meth c S hr hlk hnm hW ls hl
  obtain ⟨hx, hb, hml, hown, hts⟩ := id S
  have hl : lv_has ls 7 [(0, .ref (ad b)), (1, .ref (ad i))] := hl
  have hS0 : True := trivial
  have hib : i ≠ b := ne_sh hi hSc.1 (fun z => by simp at z)
  have htb : t ≠ b := ne_sh hT.1 hSc.1 (fun z => by simp at z)
  have ht1b : t + 1 ≠ b := ne_sh hT.2.1 hSc.1 (fun z => by simp at z)
  have hng6 := hI.2.2.2.1
  refine lv_aload_n hx hb dX4_findBest_0 rfl (lv_at hl 0 rfl) ?_
  refine lv_iconst (v := -1) hx hb dX4_findBest_1 (by decide) ?_
  refine m_puti S hW hSc.1 6 rfl kX4 (iW4 _) tyX4 tyX4_ok nmX4 (by decide) (List.mem_cons_of_mem _ (wa_28 _ (List.mem_of_getElem? (i := 22) (by decide +kernel)))) (Or.inl rfl) rfl rfl dX4_findBest_2 (fun H locs hW => ?_)
  obtain ⟨V_1, eV_1⟩ : ∃ z : mV, z = mU V b 6 (-1) := ⟨_, rfl⟩
  rw [← eV_1] at hW
  refine lv_aload_n hx hb dX4_findBest_5 rfl (lv_at hl 0 rfl) ?_
  refine lv_iconst (v := nI 0) hx hb dX4_findBest_6 (by decide) ?_
  refine m_puti S hW hSc.1 7 rfl kX4 (iW4 _) tyX4 tyX4_ok nmX4 (by decide) (List.mem_cons_of_mem _ (wa_28 _ (List.mem_of_getElem? (i := 23) (by decide +kernel)))) (Or.inl rfl) rfl rfl dX4_findBest_7 (fun H locs hW => ?_)
  obtain ⟨V_2, eV_2⟩ : ∃ z : mV, z = mU V_1 b 7 (nI 0) := ⟨_, rfl⟩
  rw [← eV_2] at hW
  refine lv_iconst (v := nI 0) hx hb dX4_findBest_10 (by decide) ?_
  refine lv_istore_n (lv' := [(2, .int (nI 0)), (0, .ref (ad b)), (1, .ref (ad i))]) hx hb dX4_findBest_11 rfl hl (by decide) rfl (fun ls hl => ?_)
  have loop_12 : ∀ (n_12 : Nat) (k : Nat) (V1 : mV) (H : Heap) (locs : List Loc) (ls : Array Slot), (k ≤ ng * 16) → (V1 = mU (mU V b 6 (fBest (fAsk (V (t + 1)) ta tb tl) (V i 0) (V i 1) (V i 2) (V i 3) (V b 4) (fun g => V (b + 10 + 2 * g) 1) (fun g => V (b + 10 + 2 * g) 2) (fun g => V (b + 10 + 2 * g + 1)) k).1) b 7 (fBest (fAsk (V (t + 1)) ta tb tl) (V i 0) (V i 1) (V i 2) (V i 3) (V b 4) (fun g => V (b + 10 + 2 * g) 1) (fun g => V (b + 10 + 2 * g) 2) (fun g => V (b + 10 + 2 * g + 1)) k).2) → (ng * 16 - k) < n_12 → mC (mA ad sh s.heap.size) s.heap s G ad sh V1 H locs → lv_has ls 7 [(0, .ref (ad b)), (1, .ref (ad i)), (2, .int (nI k))] → W p l e ({ frames := 4, cells := 0, slots := 0, locals := 140 } : Room) s m ([.ref (ad b), .ref (ad i)] : List Value).toArray below meth c H locs 0 0 (MQ below (mPost G ad sh s.heap.size (mPv ad sh (fun V' => V' = mU (mU V b 6 (fBest (fAsk (V (t + 1)) ta tb tl) (V i 0) (V i 1) (V i 2) (V i 3) (V b 4) (fun g => V (b + 10 + 2 * g) 1) (fun g => V (b + 10 + 2 * g) 2) (fun g => V (b + 10 + 2 * g + 1)) (ng * 16)).1) b 7 (fBest (fAsk (V (t + 1)) ta tb tl) (V i 0) (V i 1) (V i 2) (V i 3) (V b 4) (fun g => V (b + 10 + 2 * g) 1) (fun g => V (b + 10 + 2 * g) 2) (fun g => V (b + 10 + 2 * g + 1)) (ng * 16)).2))) ([.ref (ad b), .ref (ad i)] : List Value).toArray s 0 0 (mA ad sh s.heap.size)) (F0 m 12 ls []) := by
    intro n_12
    induction n_12 with
    | zero => intro k V1 H locs ls hk hv hM_ hW hl; omega
    | succ n_12 ih_12 =>
      intro k V1 H locs ls hk hv hM_ hW hl
      have v_i : V1 i = V i := by rw [hv, mU_no _ _ hib, mU_no _ _ hib]
      have v_t1 : V1 (t + 1) = V (t + 1) := by rw [hv, mU_no _ _ ht1b, mU_no _ _ ht1b]
      have v_g : V1 (b + 10 + 2 * (k / 16)) = V (b + 10 + 2 * (k / 16)) := by rw [hv, mU_no _ _ (by omega), mU_no _ _ (by omega)]
      have v_w : V1 (b + 10 + 2 * (k / 16) + 1) = V (b + 10 + 2 * (k / 16) + 1) := by rw [hv, mU_no _ _ (by omega), mU_no _ _ (by omega)]
      have v_4 : V1 b 4 = V b 4 := by rw [hv, mU_ne _ _ (by omega), mU_ne _ _ (by omega)]
      have v_6 : V1 b 6 = (fBest (fAsk (V (t + 1)) ta tb tl) (V i 0) (V i 1) (V i 2) (V i 3) (V b 4) (fun g => V (b + 10 + 2 * g) 1) (fun g => V (b + 10 + 2 * g) 2) (fun g => V (b + 10 + 2 * g + 1)) k).1 := by rw [hv, mU_ne _ _ (by omega), mU_eq]
      have v_7 : V1 b 7 = (fBest (fAsk (V (t + 1)) ta tb tl) (V i 0) (V i 1) (V i 2) (V i 3) (V b 4) (fun g => V (b + 10 + 2 * g) 1) (fun g => V (b + 10 + 2 * g) 2) (fun g => V (b + 10 + 2 * g + 1)) k).2 := by rw [hv, mU_eq]
      have hI1 : ScI V1 b t ta tb tl ne ng := by rw [hv]; exact (hI.put _ htb (Or.inr ⟨by decide, by decide, by decide⟩)).put _ htb (Or.inr ⟨by decide, by decide, by decide⟩)
      refine lv_iload_n hx hb dX4_findBest_12 rfl (lv_at hl 2 rfl) ?_
      refine lv_aload_n hx hb dX4_findBest_13 rfl (lv_at hl 0 rfl) ?_
      refine m_geti S hW hSc.1 3 rfl kX4 (iW4 _) (by decide) (List.mem_cons_of_mem _ (wa_17 _ (List.mem_of_getElem? (i := 14) (by decide +kernel)))) dX4_findBest_14 ?_
      refine m_top (y := nI ng) hI1.2.1 ?_
      refine lv_bipush (v := nI 16) hx hb dX4_findBest_17 (by decide) ?_
      refine lv_imul hx hb dX4_findBest_19 ?_
      refine m_top (y := nI (ng * 16)) (pk_mul ng 16) ?_
      refine lv_icmp_ge (tgt := 143) hx hb dX4_findBest_20 (by decide) (fun c_3 => ?_) (fun c_3 => ?_)
      · skip
        have c_3 : (ng * 16) ≤ k := (nI_leI (by omega) (by omega)).mp c_3
        exact m_vret S hr hlk hW dX4_findBest_143 (by rw [hv, show k = ng * 16 by omega])
      · skip
        have c_3 : ¬ (ng * 16) ≤ k := mt (nI_leI (by omega) (by omega)).mpr c_3
        refine lv_aload_n hx hb dX4_findBest_23 rfl (lv_at hl 0 rfl) ?_
        refine m_getr S hW hSc.1 1 rfl (j := (b + 2)) rfl kX4 (iW4 _) (by decide) (List.mem_cons_of_mem _ (wa_10 _ (List.mem_of_getElem? (i := 1) (by decide +kernel)))) dX4_findBest_24 ?_
        refine lv_iload_n hx hb dX4_findBest_27 rfl (lv_at hl 2 rfl) ?_
        refine lv_bipush (v := nI 16) hx hb dX4_findBest_28 (by decide) ?_
        refine lv_idiv hx hb dX4_findBest_30 (by decide) ?_
        refine m_top (y := nI (k / 16)) (pk_div (by omega) (by omega) (by omega)) ?_
        refine m_aald S hW 2 rfl hSc.2.2.1 (k / 16) rfl (by omega) (by decide) (j := (b + 10 + 2 * (k / 16))) (if_pos (by omega)) dX4_findBest_31 ?_
        refine lv_astore_n (lv' := [(3, .ref (ad (b + 10 + 2 * (k / 16)))), (0, .ref (ad b)), (1, .ref (ad i)), (2, .int (nI k))]) hx hb dX4_findBest_32 rfl hl (by decide) rfl (fun ls hl => ?_)
        refine lv_aload_n hx hb dX4_findBest_33 rfl (lv_at hl 2 rfl) ?_
        refine lv_aload_n hx hb dX4_findBest_34 rfl (lv_at hl 0 rfl) ?_
        refine lv_iload_n hx hb dX4_findBest_35 rfl (lv_at hl 3 rfl) ?_
        refine lv_bipush (v := nI 16) hx hb dX4_findBest_36 (by decide) ?_
        refine lv_irem hx hb dX4_findBest_38 (by decide) ?_
        refine m_top (y := nI (k % 16)) (pk_rem (by omega) (by omega) (by omega)) ?_
        refine m_cie (m_rV S hW (c_X1_markOf l G ad sh V1 i (b + 10 + 2 * (k / 16)) (nI (k % 16)) hi (hSc.2.2.2.2.2.1 (k / 16) (by omega)) (hSc.2.2.2.2.2.2 (k / 16) (by omega))) (cwV 2 hts (gCall [.methodLink RX4 99 yX1_markOf, .instanceMethod yX1_markOf, .selects RX1 yX1_markOf yX1_markOf, .initialized RX1] (List.forall_mem_cons.mpr ⟨(wa_25 _ (List.mem_of_getElem? (i := 7) (by decide +kernel))), (List.forall_mem_cons.mpr ⟨(wa_27 _ (List.mem_of_getElem? (i := 20) (by decide +kernel))), (List.forall_mem_cons.mpr ⟨(wa_25 _ (List.mem_of_getElem? (i := 5) (by decide +kernel))), (List.forall_mem_cons.mpr ⟨(wa_25 _ (List.mem_of_getElem? (i := 6) (by decide +kernel))), (List.forall_mem_cons.mpr ⟨(wa_3 _ (List.mem_of_getElem? (i := 3) (by decide +kernel))), (fun _ h => absurd h List.not_mem_nil)⟩)⟩)⟩)⟩)⟩)) rfl rfl rfl (by decide +kernel) ⟨Nat.le_of_ble_eq_true rfl, Nat.le_of_ble_eq_true rfl⟩) hi kX1 rfl hl.1 rfl (Nat.le_of_ble_eq_true rfl) dX4_findBest_39 ⟨Nat.le_of_ble_eq_true rfl, Nat.le_of_ble_eq_true rfl⟩) hW (fun H locs hW => ?_)
        refine lv_topi (fun x_4 ex_4 => ?_)
        refine lv_istore (lv' := [(4, .int x_4), (3, .ref (ad (b + 10 + 2 * (k / 16)))), (0, .ref (ad b)), (1, .ref (ad i)), (2, .int (nI k))]) hx hb dX4_findBest_42 hl (by decide) rfl (fun ls hl => ?_)
        refine lv_iload hx hb dX4_findBest_44 (lv_at hl 0 rfl) ?_
        refine m_if_ne (tgt := 53) hx hb dX4_findBest_46 (by decide) (fun c_5 => ?_) (fun c_5 => ?_)
        · skip
          refine lv_aload_n hx hb dX4_findBest_53 rfl (lv_at hl 2 rfl) ?_
          refine lv_aload_n hx hb dX4_findBest_54 rfl (lv_at hl 3 rfl) ?_
          refine lv_aload_n hx hb dX4_findBest_55 rfl (lv_at hl 1 rfl) ?_
          refine lv_iload hx hb dX4_findBest_56 (lv_at hl 0 rfl) ?_
          refine m_cie (m_rV S hW (c_X4_costOf l G ad sh V1 b t ta tb tl ne ng i (b + 10 + 2 * (k / 16)) x_4 hSc (by first | assumption | omega) (by first | assumption | omega) hi (hSc.2.2.2.2.2.1 (k / 16) (by omega)) (hSc.2.2.2.2.2.2 (k / 16) (by omega))) (cwV 3 hts (gCall [.methodLink RX4 102 yX4_costOf, .instanceMethod yX4_costOf, .selects RX4 yX4_costOf yX4_costOf, .initialized RX4] (List.forall_mem_cons.mpr ⟨(wa_25 _ (List.mem_of_getElem? (i := 13) (by decide +kernel))), (List.forall_mem_cons.mpr ⟨(wa_27 _ (List.mem_of_getElem? (i := 21) (by decide +kernel))), (List.forall_mem_cons.mpr ⟨(wa_25 _ (List.mem_of_getElem? (i := 11) (by decide +kernel))), (List.forall_mem_cons.mpr ⟨(wa_25 _ (List.mem_of_getElem? (i := 12) (by decide +kernel))), (List.forall_mem_cons.mpr ⟨(wa_2 _ (List.mem_of_getElem? (i := 7) (by decide +kernel))), (fun _ h => absurd h List.not_mem_nil)⟩)⟩)⟩)⟩)⟩)) rfl rfl rfl (by decide +kernel) ⟨Nat.le_of_ble_eq_true rfl, Nat.le_of_ble_eq_true rfl⟩) hSc.1 kX4 rfl hl.1 rfl (Nat.le_of_ble_eq_true rfl) dX4_findBest_58 ⟨Nat.le_of_ble_eq_true rfl, Nat.le_of_ble_eq_true rfl⟩) hW (fun H locs hW => ?_)
          refine lv_topi (fun x_6 ex_6 => ?_)
          refine lv_istore (lv' := [(5, .int x_6), (4, .int x_4), (3, .ref (ad (b + 10 + 2 * (k / 16)))), (0, .ref (ad b)), (1, .ref (ad i)), (2, .int (nI k))]) hx hb dX4_findBest_61 hl (by decide) rfl (fun ls hl => ?_)
          refine lv_iload hx hb dX4_findBest_63 (lv_at hl 1 rfl) ?_
          refine m_if_eq (tgt := 137) hx hb dX4_findBest_65 (by decide) (fun c_7 => ?_) (fun c_7 => ?_)
          · first | exact absurd c_7 c_5 | exact absurd c_5 c_7 | (exfalso; simp_all; done)
          · skip
            refine lv_iload hx hb dX4_findBest_68 (lv_at hl 0 rfl) ?_
            refine lv_aload_n hx hb dX4_findBest_70 rfl (lv_at hl 4 rfl) ?_
            refine m_geti S hW hi 3 rfl kX1 (iW1 _) (by decide) (List.mem_cons_of_mem _ (wa_27 _ (List.mem_of_getElem? (i := 18) (by decide +kernel)))) dX4_findBest_71 ?_
            refine lv_icmp_le (tgt := 80) hx hb dX4_findBest_74 (by decide) (fun c_8 => ?_) (fun c_8 => ?_)
            · skip
              refine lv_aload_n hx hb dX4_findBest_80 rfl (lv_at hl 3 rfl) ?_
              refine lv_aload_n hx hb dX4_findBest_81 rfl (lv_at hl 4 rfl) ?_
              refine lv_aload_n hx hb dX4_findBest_82 rfl (lv_at hl 2 rfl) ?_
              refine lv_iload hx hb dX4_findBest_83 (lv_at hl 1 rfl) ?_
              refine m_cie (m_rV S hW (c_X4_worthOf l G ad sh V1 b t ta tb tl ne ng i (b + 10 + 2 * (k / 16)) x_4 hSc (by first | assumption | omega) (by first | assumption | omega) hi (hSc.2.2.2.2.2.1 (k / 16) (by omega)) (hSc.2.2.2.2.2.2 (k / 16) (by omega))) (cwV 3 hts (gCall [.methodLink RX4 109 yX4_worthOf, .instanceMethod yX4_worthOf, .selects RX4 yX4_worthOf yX4_worthOf, .initialized RX4] (List.forall_mem_cons.mpr ⟨(wa_26 _ (List.mem_of_getElem? (i := 2) (by decide +kernel))), (List.forall_mem_cons.mpr ⟨(wa_27 _ (List.mem_of_getElem? (i := 22) (by decide +kernel))), (List.forall_mem_cons.mpr ⟨(wa_26 _ (List.mem_of_getElem? (i := 0) (by decide +kernel))), (List.forall_mem_cons.mpr ⟨(wa_26 _ (List.mem_of_getElem? (i := 1) (by decide +kernel))), (List.forall_mem_cons.mpr ⟨(wa_2 _ (List.mem_of_getElem? (i := 7) (by decide +kernel))), (fun _ h => absurd h List.not_mem_nil)⟩)⟩)⟩)⟩)⟩)) rfl rfl rfl (by decide +kernel) ⟨Nat.le_of_ble_eq_true rfl, Nat.le_of_ble_eq_true rfl⟩) hSc.1 kX4 rfl hl.1 rfl (Nat.le_of_ble_eq_true rfl) dX4_findBest_85 ⟨Nat.le_of_ble_eq_true rfl, Nat.le_of_ble_eq_true rfl⟩) hW (fun H locs hW => ?_)
              refine lv_iload hx hb dX4_findBest_88 (lv_at hl 0 rfl) ?_
              refine lv_isub hx hb dX4_findBest_90 ?_
              refine lv_topi (fun x_9 ex_9 => ?_)
              refine lv_istore (lv' := [(6, .int x_9), (5, .int x_6), (4, .int x_4), (3, .ref (ad (b + 10 + 2 * (k / 16)))), (0, .ref (ad b)), (1, .ref (ad i)), (2, .int (nI k))]) hx hb dX4_findBest_91 hl (by decide) rfl (fun ls hl => ?_)
              refine lv_aload_n hx hb dX4_findBest_93 rfl (lv_at hl 4 rfl) ?_
              refine m_geti S hW hSc.1 6 rfl kX4 (iW4 _) (by decide) (List.mem_cons_of_mem _ (wa_28 _ (List.mem_of_getElem? (i := 22) (by decide +kernel)))) dX4_findBest_94 ?_
              refine m_top (y := (fBest (fAsk (V (t + 1)) ta tb tl) (V i 0) (V i 1) (V i 2) (V i 3) (V b 4) (fun g => V (b + 10 + 2 * g) 1) (fun g => V (b + 10 + 2 * g) 2) (fun g => V (b + 10 + 2 * g + 1)) k).1) v_6 ?_
              refine lv_iconst (v := -1) hx hb dX4_findBest_97 (by decide) ?_
              refine lv_icmp_eq (tgt := 110) hx hb dX4_findBest_98 (by decide) (fun c_10 => ?_) (fun c_10 => ?_)
              · skip
                refine lv_iload hx hb dX4_findBest_110 (lv_at hl 0 rfl) ?_
                refine lv_aload_n hx hb dX4_findBest_112 rfl (lv_at hl 4 rfl) ?_
                refine lv_aload_n hx hb dX4_findBest_113 rfl (lv_at hl 5 rfl) ?_
                refine lv_aload_n hx hb dX4_findBest_114 rfl (lv_at hl 3 rfl) ?_
                refine lv_iload hx hb dX4_findBest_115 (lv_at hl 2 rfl) ?_
                refine m_cie (m_rV S hW (c_X4_leastGain l G ad sh V1 b t ta tb tl ne ng i (b + 10 + 2 * (k / 16)) x_4 hSc (by first | assumption | omega) (by first | assumption | omega) hi (hSc.2.2.2.2.2.1 (k / 16) (by omega)) (hSc.2.2.2.2.2.2 (k / 16) (by omega))) (cwV 3 hts (gCall [.methodLink RX4 125 yX4_leastGain, .instanceMethod yX4_leastGain, .selects RX4 yX4_leastGain yX4_leastGain, .initialized RX4] (List.forall_mem_cons.mpr ⟨(wa_29 _ (List.mem_of_getElem? (i := 3) (by decide +kernel))), (List.forall_mem_cons.mpr ⟨(wa_29 _ (List.mem_of_getElem? (i := 0) (by decide +kernel))), (List.forall_mem_cons.mpr ⟨(wa_29 _ (List.mem_of_getElem? (i := 1) (by decide +kernel))), (List.forall_mem_cons.mpr ⟨(wa_29 _ (List.mem_of_getElem? (i := 2) (by decide +kernel))), (List.forall_mem_cons.mpr ⟨(wa_2 _ (List.mem_of_getElem? (i := 7) (by decide +kernel))), (fun _ h => absurd h List.not_mem_nil)⟩)⟩)⟩)⟩)⟩)) rfl rfl rfl (by decide +kernel) ⟨Nat.le_of_ble_eq_true rfl, Nat.le_of_ble_eq_true rfl⟩) hSc.1 kX4 rfl hl.1 rfl (Nat.le_of_ble_eq_true rfl) dX4_findBest_117 ⟨Nat.le_of_ble_eq_true rfl, Nat.le_of_ble_eq_true rfl⟩) hW (fun H locs hW => ?_)
                refine lv_icmp_lt (tgt := 137) hx hb dX4_findBest_120 (by decide) (fun c_11 => ?_) (fun c_11 => ?_)
                · skip
                  refine lv_iinc (v := nI (k + 1)) (lv' := [(2, .int (nI (k + 1))), (6, .int x_9), (5, .int x_6), (4, .int x_4), (3, .ref (ad (b + 10 + 2 * (k / 16)))), (0, .ref (ad b)), (1, .ref (ad i))]) hx hb dX4_findBest_137 hl (k := 6) rfl (m_inc k 1) (by decide) rfl (fun ls hl => ?_)
                  refine lv_goto (tgt := 12) hx hb dX4_findBest_140 (by decide) ?_
                  exact ih_12  (k + 1) V1 _ _ _ (by omega) (by rw [fBest_s2 k (x := x_4) (co := x_6) (ga := x_9) (by rw [ex_4, v_i, v_g]) c_5 (by rw [ex_6, v_i, v_g, v_w, v_4, v_t1]) (by rw [← v_i]; exact Int32.not_lt.mpr c_8) (by rw [ex_9, v_i, v_g, v_w, v_4, v_t1]) (Or.inr (by rw [v_i, v_g, v_w, v_4, v_t1] at c_11; exact c_11))]; exact hv) (by omega) hW (lv_sub hl [5, 6, 0] rfl)
                · skip
                  refine lv_aload_n hx hb dX4_findBest_123 rfl (lv_at hl 4 rfl) ?_
                  refine lv_iload_n hx hb dX4_findBest_124 rfl (lv_at hl 6 rfl) ?_
                  refine m_cie (m_rS S hW (c_X4_tellBite l G ad sh V1 k (by first | assumption | omega)) (va_cwS 1 hts (gCall [.methodLink RX4 128 yX4_tellBite, .static yX4_tellBite, .initialized RX4] (List.forall_mem_cons.mpr ⟨(wa_29 _ (List.mem_of_getElem? (i := 6) (by decide +kernel))), (List.forall_mem_cons.mpr ⟨(wa_29 _ (List.mem_of_getElem? (i := 4) (by decide +kernel))), (List.forall_mem_cons.mpr ⟨(wa_29 _ (List.mem_of_getElem? (i := 5) (by decide +kernel))), (List.forall_mem_cons.mpr ⟨(wa_2 _ (List.mem_of_getElem? (i := 7) (by decide +kernel))), (fun _ h => absurd h List.not_mem_nil)⟩)⟩)⟩)⟩)) rfl rfl rfl (by decide +kernel) ⟨Nat.le_of_ble_eq_true rfl, Nat.le_of_ble_eq_true rfl⟩) rfl hl.1 rfl (Nat.le_of_ble_eq_true rfl) dX4_findBest_125 ⟨Nat.le_of_ble_eq_true rfl, Nat.le_of_ble_eq_true rfl⟩) hW (fun H locs hW => ?_)
                  refine m_puti S hW hSc.1 6 rfl kX4 (iW4 _) tyX4 tyX4_ok nmX4 (by decide) (List.mem_cons_of_mem _ (wa_28 _ (List.mem_of_getElem? (i := 22) (by decide +kernel)))) (Or.inl rfl) rfl rfl dX4_findBest_128 (fun H locs hW => ?_)
                  obtain ⟨V_12, eV_12⟩ : ∃ z : mV, z = mU V1 b 6 (nI (100 * (k / 16) + k % 16)) := ⟨_, rfl⟩
                  rw [← eV_12] at hW
                  refine lv_aload_n hx hb dX4_findBest_131 rfl (lv_at hl 4 rfl) ?_
                  refine lv_iload hx hb dX4_findBest_132 (lv_at hl 0 rfl) ?_
                  refine m_puti S hW hSc.1 7 rfl kX4 (iW4 _) tyX4 tyX4_ok nmX4 (by decide) (List.mem_cons_of_mem _ (wa_28 _ (List.mem_of_getElem? (i := 23) (by decide +kernel)))) (Or.inl rfl) rfl rfl dX4_findBest_134 (fun H locs hW => ?_)
                  obtain ⟨V_13, eV_13⟩ : ∃ z : mV, z = mU V_12 b 7 (x_9) := ⟨_, rfl⟩
                  rw [← eV_13] at hW
                  refine lv_iinc (v := nI (k + 1)) (lv' := [(2, .int (nI (k + 1))), (6, .int x_9), (5, .int x_6), (4, .int x_4), (3, .ref (ad (b + 10 + 2 * (k / 16)))), (0, .ref (ad b)), (1, .ref (ad i))]) hx hb dX4_findBest_137 hl (k := 6) rfl (m_inc k 1) (by decide) rfl (fun ls hl => ?_)
                  refine lv_goto (tgt := 12) hx hb dX4_findBest_140 (by decide) ?_
                  exact ih_12  (k + 1) V_13 _ _ _ (by omega) (by rw [fBest_s3 k (x := x_4) (co := x_6) (ga := x_9) (by rw [ex_4, v_i, v_g]) c_5 (by rw [ex_6, v_i, v_g, v_w, v_4, v_t1]) (by rw [← v_i]; exact Int32.not_lt.mpr c_8) (by rw [ex_9, v_i, v_g, v_w, v_4, v_t1]) (Or.inl c_10) (by rw [v_i, v_g, v_w, v_4, v_t1] at c_11; exact Int32.not_lt.mp c_11), eV_13, eV_12, hv]; exact fBest_set _ _ _ _ _ _) (by omega) hW (lv_sub hl [5, 6, 0] rfl)
              · skip
                refine lv_iload hx hb dX4_findBest_101 (lv_at hl 0 rfl) ?_
                refine lv_aload_n hx hb dX4_findBest_103 rfl (lv_at hl 4 rfl) ?_
                refine m_geti S hW hSc.1 7 rfl kX4 (iW4 _) (by decide) (List.mem_cons_of_mem _ (wa_28 _ (List.mem_of_getElem? (i := 23) (by decide +kernel)))) dX4_findBest_104 ?_
                refine m_top (y := (fBest (fAsk (V (t + 1)) ta tb tl) (V i 0) (V i 1) (V i 2) (V i 3) (V b 4) (fun g => V (b + 10 + 2 * g) 1) (fun g => V (b + 10 + 2 * g) 2) (fun g => V (b + 10 + 2 * g + 1)) k).2) v_7 ?_
                refine lv_icmp_le (tgt := 137) hx hb dX4_findBest_107 (by decide) (fun c_14 => ?_) (fun c_14 => ?_)
                · skip
                  refine lv_iinc (v := nI (k + 1)) (lv' := [(2, .int (nI (k + 1))), (6, .int x_9), (5, .int x_6), (4, .int x_4), (3, .ref (ad (b + 10 + 2 * (k / 16)))), (0, .ref (ad b)), (1, .ref (ad i))]) hx hb dX4_findBest_137 hl (k := 6) rfl (m_inc k 1) (by decide) rfl (fun ls hl => ?_)
                  refine lv_goto (tgt := 12) hx hb dX4_findBest_140 (by decide) ?_
                  exact ih_12  (k + 1) V1 _ _ _ (by omega) (by rw [fBest_s2 k (x := x_4) (co := x_6) (ga := x_9) (by rw [ex_4, v_i, v_g]) c_5 (by rw [ex_6, v_i, v_g, v_w, v_4, v_t1]) (by rw [← v_i]; exact Int32.not_lt.mpr c_8) (by rw [ex_9, v_i, v_g, v_w, v_4, v_t1]) (Or.inl (fun z => z.elim (fun y => c_10 y) (fun y => absurd y (Int32.not_lt.mpr c_14))))]; exact hv) (by omega) hW (lv_sub hl [5, 6, 0] rfl)
                · skip
                  refine lv_iload hx hb dX4_findBest_110 (lv_at hl 0 rfl) ?_
                  refine lv_aload_n hx hb dX4_findBest_112 rfl (lv_at hl 4 rfl) ?_
                  refine lv_aload_n hx hb dX4_findBest_113 rfl (lv_at hl 5 rfl) ?_
                  refine lv_aload_n hx hb dX4_findBest_114 rfl (lv_at hl 3 rfl) ?_
                  refine lv_iload hx hb dX4_findBest_115 (lv_at hl 2 rfl) ?_
                  refine m_cie (m_rV S hW (c_X4_leastGain l G ad sh V1 b t ta tb tl ne ng i (b + 10 + 2 * (k / 16)) x_4 hSc (by first | assumption | omega) (by first | assumption | omega) hi (hSc.2.2.2.2.2.1 (k / 16) (by omega)) (hSc.2.2.2.2.2.2 (k / 16) (by omega))) (cwV 3 hts (gCall [.methodLink RX4 125 yX4_leastGain, .instanceMethod yX4_leastGain, .selects RX4 yX4_leastGain yX4_leastGain, .initialized RX4] (List.forall_mem_cons.mpr ⟨(wa_29 _ (List.mem_of_getElem? (i := 3) (by decide +kernel))), (List.forall_mem_cons.mpr ⟨(wa_29 _ (List.mem_of_getElem? (i := 0) (by decide +kernel))), (List.forall_mem_cons.mpr ⟨(wa_29 _ (List.mem_of_getElem? (i := 1) (by decide +kernel))), (List.forall_mem_cons.mpr ⟨(wa_29 _ (List.mem_of_getElem? (i := 2) (by decide +kernel))), (List.forall_mem_cons.mpr ⟨(wa_2 _ (List.mem_of_getElem? (i := 7) (by decide +kernel))), (fun _ h => absurd h List.not_mem_nil)⟩)⟩)⟩)⟩)⟩)) rfl rfl rfl (by decide +kernel) ⟨Nat.le_of_ble_eq_true rfl, Nat.le_of_ble_eq_true rfl⟩) hSc.1 kX4 rfl hl.1 rfl (Nat.le_of_ble_eq_true rfl) dX4_findBest_117 ⟨Nat.le_of_ble_eq_true rfl, Nat.le_of_ble_eq_true rfl⟩) hW (fun H locs hW => ?_)
                  refine lv_icmp_lt (tgt := 137) hx hb dX4_findBest_120 (by decide) (fun c_15 => ?_) (fun c_15 => ?_)
                  · skip
                    refine lv_iinc (v := nI (k + 1)) (lv' := [(2, .int (nI (k + 1))), (6, .int x_9), (5, .int x_6), (4, .int x_4), (3, .ref (ad (b + 10 + 2 * (k / 16)))), (0, .ref (ad b)), (1, .ref (ad i))]) hx hb dX4_findBest_137 hl (k := 6) rfl (m_inc k 1) (by decide) rfl (fun ls hl => ?_)
                    refine lv_goto (tgt := 12) hx hb dX4_findBest_140 (by decide) ?_
                    exact ih_12  (k + 1) V1 _ _ _ (by omega) (by rw [fBest_s2 k (x := x_4) (co := x_6) (ga := x_9) (by rw [ex_4, v_i, v_g]) c_5 (by rw [ex_6, v_i, v_g, v_w, v_4, v_t1]) (by rw [← v_i]; exact Int32.not_lt.mpr c_8) (by rw [ex_9, v_i, v_g, v_w, v_4, v_t1]) (Or.inr (by rw [v_i, v_g, v_w, v_4, v_t1] at c_15; exact c_15))]; exact hv) (by omega) hW (lv_sub hl [5, 6, 0] rfl)
                  · skip
                    refine lv_aload_n hx hb dX4_findBest_123 rfl (lv_at hl 4 rfl) ?_
                    refine lv_iload_n hx hb dX4_findBest_124 rfl (lv_at hl 6 rfl) ?_
                    refine m_cie (m_rS S hW (c_X4_tellBite l G ad sh V1 k (by first | assumption | omega)) (va_cwS 1 hts (gCall [.methodLink RX4 128 yX4_tellBite, .static yX4_tellBite, .initialized RX4] (List.forall_mem_cons.mpr ⟨(wa_29 _ (List.mem_of_getElem? (i := 6) (by decide +kernel))), (List.forall_mem_cons.mpr ⟨(wa_29 _ (List.mem_of_getElem? (i := 4) (by decide +kernel))), (List.forall_mem_cons.mpr ⟨(wa_29 _ (List.mem_of_getElem? (i := 5) (by decide +kernel))), (List.forall_mem_cons.mpr ⟨(wa_2 _ (List.mem_of_getElem? (i := 7) (by decide +kernel))), (fun _ h => absurd h List.not_mem_nil)⟩)⟩)⟩)⟩)) rfl rfl rfl (by decide +kernel) ⟨Nat.le_of_ble_eq_true rfl, Nat.le_of_ble_eq_true rfl⟩) rfl hl.1 rfl (Nat.le_of_ble_eq_true rfl) dX4_findBest_125 ⟨Nat.le_of_ble_eq_true rfl, Nat.le_of_ble_eq_true rfl⟩) hW (fun H locs hW => ?_)
                    refine m_puti S hW hSc.1 6 rfl kX4 (iW4 _) tyX4 tyX4_ok nmX4 (by decide) (List.mem_cons_of_mem _ (wa_28 _ (List.mem_of_getElem? (i := 22) (by decide +kernel)))) (Or.inl rfl) rfl rfl dX4_findBest_128 (fun H locs hW => ?_)
                    obtain ⟨V_16, eV_16⟩ : ∃ z : mV, z = mU V1 b 6 (nI (100 * (k / 16) + k % 16)) := ⟨_, rfl⟩
                    rw [← eV_16] at hW
                    refine lv_aload_n hx hb dX4_findBest_131 rfl (lv_at hl 4 rfl) ?_
                    refine lv_iload hx hb dX4_findBest_132 (lv_at hl 0 rfl) ?_
                    refine m_puti S hW hSc.1 7 rfl kX4 (iW4 _) tyX4 tyX4_ok nmX4 (by decide) (List.mem_cons_of_mem _ (wa_28 _ (List.mem_of_getElem? (i := 23) (by decide +kernel)))) (Or.inl rfl) rfl rfl dX4_findBest_134 (fun H locs hW => ?_)
                    obtain ⟨V_17, eV_17⟩ : ∃ z : mV, z = mU V_16 b 7 (x_9) := ⟨_, rfl⟩
                    rw [← eV_17] at hW
                    refine lv_iinc (v := nI (k + 1)) (lv' := [(2, .int (nI (k + 1))), (6, .int x_9), (5, .int x_6), (4, .int x_4), (3, .ref (ad (b + 10 + 2 * (k / 16)))), (0, .ref (ad b)), (1, .ref (ad i))]) hx hb dX4_findBest_137 hl (k := 6) rfl (m_inc k 1) (by decide) rfl (fun ls hl => ?_)
                    refine lv_goto (tgt := 12) hx hb dX4_findBest_140 (by decide) ?_
                    exact ih_12  (k + 1) V_17 _ _ _ (by omega) (by rw [fBest_s3 k (x := x_4) (co := x_6) (ga := x_9) (by rw [ex_4, v_i, v_g]) c_5 (by rw [ex_6, v_i, v_g, v_w, v_4, v_t1]) (by rw [← v_i]; exact Int32.not_lt.mpr c_8) (by rw [ex_9, v_i, v_g, v_w, v_4, v_t1]) (Or.inr (Int32.not_le.mp c_14)) (by rw [v_i, v_g, v_w, v_4, v_t1] at c_15; exact Int32.not_lt.mp c_15), eV_17, eV_16, hv]; exact fBest_set _ _ _ _ _ _) (by omega) hW (lv_sub hl [5, 6, 0] rfl)
            · skip
              refine lv_goto (tgt := 137) hx hb dX4_findBest_77 (by decide) ?_
              refine lv_iinc (v := nI (k + 1)) (lv' := [(2, .int (nI (k + 1))), (5, .int x_6), (4, .int x_4), (3, .ref (ad (b + 10 + 2 * (k / 16)))), (0, .ref (ad b)), (1, .ref (ad i))]) hx hb dX4_findBest_137 hl (k := 5) rfl (m_inc k 1) (by decide) rfl (fun ls hl => ?_)
              refine lv_goto (tgt := 12) hx hb dX4_findBest_140 (by decide) ?_
              exact ih_12  (k + 1) V1 _ _ _ (by omega) (by rw [fBest_s1 k (x := x_4) (co := x_6) (by rw [ex_4, v_i, v_g]) c_5 (by rw [ex_6, v_i, v_g, v_w, v_4, v_t1]) (by rw [← v_i]; exact Int32.not_le.mp c_8)]; exact hv) (by omega) hW (lv_sub hl [4, 5, 0] rfl)
        · skip
          refine lv_iconst (v := nI 0) hx hb dX4_findBest_49 (by decide) ?_
          refine lv_goto (tgt := 61) hx hb dX4_findBest_50 (by decide) ?_
          refine lv_istore (lv' := [(5, .int (nI 0)), (4, .int x_4), (3, .ref (ad (b + 10 + 2 * (k / 16)))), (0, .ref (ad b)), (1, .ref (ad i)), (2, .int (nI k))]) hx hb dX4_findBest_61 hl (by decide) rfl (fun ls hl => ?_)
          refine lv_iload hx hb dX4_findBest_63 (lv_at hl 1 rfl) ?_
          refine m_if_eq (tgt := 137) hx hb dX4_findBest_65 (by decide) (fun c_18 => ?_) (fun c_18 => ?_)
          · skip
            refine lv_iinc (v := nI (k + 1)) (lv' := [(2, .int (nI (k + 1))), (5, .int (nI 0)), (4, .int x_4), (3, .ref (ad (b + 10 + 2 * (k / 16)))), (0, .ref (ad b)), (1, .ref (ad i))]) hx hb dX4_findBest_137 hl (k := 5) rfl (m_inc k 1) (by decide) rfl (fun ls hl => ?_)
            refine lv_goto (tgt := 12) hx hb dX4_findBest_140 (by decide) ?_
            exact ih_12  (k + 1) V1 _ _ _ (by omega) (by rw [fBest_s0 k (x := x_4) (by rw [ex_4, v_i, v_g]) c_5]; exact hv) (by omega) hW (lv_sub hl [4, 5, 0] rfl)
          · first | exact absurd c_18 c_5 | exact absurd c_5 c_18 | (exfalso; simp_all; done)
  exact loop_12 (ng * 16 - 0 + 1) 0 V_2 _ _ _ (by omega) (by simp only [eV_1, eV_2]; rfl) (by omega) hW (lv_sub hl [1, 2, 0] rfl)
