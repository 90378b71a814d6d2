/-! answers by an expression, by cases; counters; the shapes -/
def mPe (ad : Nat → Nat) (sh : Nat → Option mSh) (V : mV) (e : Int32) : mQ := mPi ad sh (fun r V' => V = V' ∧ e = r)
def mPle (ad : Nat → Nat) (sh : Nat → Option mSh) (V : mV) (e : Int64) : mQ := mPl ad sh (fun r V' => V = V' ∧ e = r)
def mPip (ad : Nat → Nat) (sh : Nat → Option mSh) (V : mV) (P : Int32 → Prop) : mQ := mPi ad sh (fun r V' => V = V' ∧ P r)
def mPlp (ad : Nat → Nat) (sh : Nat → Option mSh) (V : mV) (P : Int64 → Prop) : mQ := mPl ad sh (fun r V' => V = V' ∧ P r)
def mPrp (ad : Nat → Nat) (sh : Nat → Option mSh) (V : mV) (P : Option Nat → Prop) : mQ := mPr ad sh (fun r V' => V = V' ∧ P r)
section MMore
variable {p : Program} {l : Launch} {e : Env} {R : Room} {s : State} {m : MethodId} {args : Array Value} {below : List Frame} {meth : Method} {c : Code} {H : Heap} {locs : List Loc} {cells slots : Nat} {Q : State → Prop}
variable {cc : ByteArray} {pc nL : Nat} {ls : Array Slot} {rest st0 : List Value} {A : Nat → Prop} {H0 : Heap} {G : mG} {ad : Nat → Nat} {sh : Nat → Option mSh} {V : mV}
theorem m_cie {x : Int32} {a : Array Value} (hr : va_Run p l e R s m args below meth c H locs cells slots 0 0 (F0 m pc ls st0) rest (mPost G ad sh H.size (mPe ad sh V x) a) (mA ad sh H.size)) (hW : mC A H0 s G ad sh V H locs)
    (kk : ∀ (H1 : Heap) (locs1 : List Loc), mC A H0 s G ad sh V H1 locs1 → W p l e R s m args below meth c H1 locs1 cells slots Q (F0 m (pc + 3) ls (.int x :: rest))) : W p l e R s m args below meth c H locs cells slots Q (F0 m pc ls st0) :=
  m_ci hr hW (fun r V' H1 locs1 hp h => by
    obtain ⟨rfl, rfl⟩ := hp
    exact kk H1 locs1 h)
theorem m_cle {x : Int64} {a : Array Value} (hr : va_Run p l e R s m args below meth c H locs cells slots 0 0 (F0 m pc ls st0) rest (mPost G ad sh H.size (mPle ad sh V x) a) (mA ad sh H.size)) (hW : mC A H0 s G ad sh V H locs)
    (kk : ∀ (H1 : Heap) (locs1 : List Loc), mC A H0 s G ad sh V H1 locs1 → W p l e R s m args below meth c H1 locs1 cells slots Q (F0 m (pc + 3) ls (.long x :: rest))) : W p l e R s m args below meth c H locs cells slots Q (F0 m pc ls st0) :=
  m_cl hr hW (fun r V' H1 locs1 hp h => by
    obtain ⟨rfl, rfl⟩ := hp
    exact kk H1 locs1 h)
theorem m_cip {P : Int32 → Prop} {a : Array Value} (hr : va_Run p l e R s m args below meth c H locs cells slots 0 0 (F0 m pc ls st0) rest (mPost G ad sh H.size (mPip ad sh V P) a) (mA ad sh H.size)) (hW : mC A H0 s G ad sh V H locs)
    (kk : ∀ (r : Int32) (H1 : Heap) (locs1 : List Loc), P r → mC A H0 s G ad sh V H1 locs1 → W p l e R s m args below meth c H1 locs1 cells slots Q (F0 m (pc + 3) ls (.int r :: rest))) : W p l e R s m args below meth c H locs cells slots Q (F0 m pc ls st0) :=
  m_ci hr hW (fun r V' H1 locs1 hp h => by
    obtain ⟨rfl, hp⟩ := hp
    exact kk r H1 locs1 hp h)
theorem m_clp {P : Int64 → Prop} {a : Array Value} (hr : va_Run p l e R s m args below meth c H locs cells slots 0 0 (F0 m pc ls st0) rest (mPost G ad sh H.size (mPlp ad sh V P) a) (mA ad sh H.size)) (hW : mC A H0 s G ad sh V H locs)
    (kk : ∀ (r : Int64) (H1 : Heap) (locs1 : List Loc), P r → mC A H0 s G ad sh V H1 locs1 → W p l e R s m args below meth c H1 locs1 cells slots Q (F0 m (pc + 3) ls (.long r :: rest))) : W p l e R s m args below meth c H locs cells slots Q (F0 m pc ls st0) :=
  m_cl hr hW (fun r V' H1 locs1 hp h => by
    obtain ⟨rfl, hp⟩ := hp
    exact kk r H1 locs1 hp h)
theorem m_crp {P : Option Nat → Prop} {a : Array Value} (hr : va_Run p l e R s m args below meth c H locs cells slots 0 0 (F0 m pc ls st0) rest (mPost G ad sh H.size (mPrp ad sh V P) a) (mA ad sh H.size)) (hW : mC A H0 s G ad sh V H locs)
    (kk : ∀ (r : Option Nat) (H1 : Heap) (locs1 : List Loc), P r → mC A H0 s G ad sh V H1 locs1 → W p l e R s m args below meth c H1 locs1 cells slots Q (F0 m (pc + 3) ls (va_rf (r.map ad) :: rest))) : W p l e R s m args below meth c H locs cells slots Q (F0 m pc ls st0) :=
  m_cr hr hW (fun r V' H1 locs1 hp h => by
    obtain ⟨rfl, hp⟩ := hp
    exact kk r H1 locs1 hp h)
theorem m_top {x y : Int32} (h : x = y) (k : W p l e R s m args below meth c H locs cells slots Q (F0 m pc ls (.int y :: rest))) : W p l e R s m args below meth c H locs cells slots Q (F0 m pc ls (.int x :: rest)) := h ▸ k
theorem m_topl {x y : Int64} (h : x = y) (k : W p l e R s m args below meth c H locs cells slots Q (F0 m pc ls (.long y :: rest))) : W p l e R s m args below meth c H locs cells slots Q (F0 m pc ls (.long x :: rest)) := h ▸ k
theorem m_inc (a n : Nat) : nI a + Int32.ofInt (n : Int) = nI (a + n) := by
  rw [← nI_add]
  rfl
theorem m_nneg {a : Nat} (h : a < 2 ^ 31) {x : Int32} (hx : x < 0 := by decide) : ¬ nI a = x := fun q => absurd hx (by rw [← q]; exact nI_pos h)
theorem m_if_lt (hexec : p.tables.exec = Jvm.exec) (hb : c.code = cc) {x : Int32} {off : Int} {tgt : Nat} (hdg : decode cc pc = .ok (.ifCond .lt off, 3)) (ht : (pc : Int) + off = (tgt : Int)) (kt : x < nI 0 → W p l e R s m args below meth c H locs cells slots Q (F0 m tgt ls rest)) (kf : ¬ x < nI 0 → W p l e R s m args below meth c H locs cells slots Q (F0 m (pc + 3) ls rest)) : W p l e R s m args below meth c H locs cells slots Q (F0 m pc ls (.int x :: rest)) := lv_if_lt hexec hb hdg ht kt kf
theorem m_if_ge (hexec : p.tables.exec = Jvm.exec) (hb : c.code = cc) {x : Int32} {off : Int} {tgt : Nat} (hdg : decode cc pc = .ok (.ifCond .ge off, 3)) (ht : (pc : Int) + off = (tgt : Int)) (kt : nI 0 ≤ x → W p l e R s m args below meth c H locs cells slots Q (F0 m tgt ls rest)) (kf : ¬ nI 0 ≤ x → W p l e R s m args below meth c H locs cells slots Q (F0 m (pc + 3) ls rest)) : W p l e R s m args below meth c H locs cells slots Q (F0 m pc ls (.int x :: rest)) := lv_if_ge hexec hb hdg ht kt kf
theorem m_if_eq (hexec : p.tables.exec = Jvm.exec) (hb : c.code = cc) {x : Int32} {off : Int} {tgt : Nat} (hdg : decode cc pc = .ok (.ifCond .eq off, 3)) (ht : (pc : Int) + off = (tgt : Int)) (kt : x = nI 0 → W p l e R s m args below meth c H locs cells slots Q (F0 m tgt ls rest)) (kf : ¬ x = nI 0 → W p l e R s m args below meth c H locs cells slots Q (F0 m (pc + 3) ls rest)) : W p l e R s m args below meth c H locs cells slots Q (F0 m pc ls (.int x :: rest)) := lv_if_eq hexec hb hdg ht kt kf
theorem m_if_ne (hexec : p.tables.exec = Jvm.exec) (hb : c.code = cc) {x : Int32} {off : Int} {tgt : Nat} (hdg : decode cc pc = .ok (.ifCond .ne off, 3)) (ht : (pc : Int) + off = (tgt : Int)) (kt : ¬ x = nI 0 → W p l e R s m args below meth c H locs cells slots Q (F0 m tgt ls rest)) (kf : x = nI 0 → W p l e R s m args below meth c H locs cells slots Q (F0 m (pc + 3) ls rest)) : W p l e R s m args below meth c H locs cells slots Q (F0 m pc ls (.int x :: rest)) := lv_if_ne hexec hb hdg ht kt kf
theorem m_if_gt (hexec : p.tables.exec = Jvm.exec) (hb : c.code = cc) {x : Int32} {off : Int} {tgt : Nat} (hdg : decode cc pc = .ok (.ifCond .gt off, 3)) (ht : (pc : Int) + off = (tgt : Int)) (kt : nI 0 < x → W p l e R s m args below meth c H locs cells slots Q (F0 m tgt ls rest)) (kf : ¬ nI 0 < x → W p l e R s m args below meth c H locs cells slots Q (F0 m (pc + 3) ls rest)) : W p l e R s m args below meth c H locs cells slots Q (F0 m pc ls (.int x :: rest)) := lv_if_gt hexec hb hdg ht kt kf
theorem m_if_le (hexec : p.tables.exec = Jvm.exec) (hb : c.code = cc) {x : Int32} {off : Int} {tgt : Nat} (hdg : decode cc pc = .ok (.ifCond .le off, 3)) (ht : (pc : Int) + off = (tgt : Int)) (kt : x ≤ nI 0 → W p l e R s m args below meth c H locs cells slots Q (F0 m tgt ls rest)) (kf : ¬ x ≤ nI 0 → W p l e R s m args below meth c H locs cells slots Q (F0 m (pc + 3) ls rest)) : W p l e R s m args below meth c H locs cells slots Q (F0 m pc ls (.int x :: rest)) := lv_if_le hexec hb hdg ht kt kf
end MMore
theorem kX0 : vwCl[0]? = some (RX0, TX0, 1) := rfl
theorem kX1 : vwCl[1]? = some (RX1, TX1, 5) := rfl
theorem kX2 : vwCl[2]? = some (RX2, TX2, 2) := rfl
theorem kX3 : vwCl[3]? = some (RX3, TX3, 3) := rfl
theorem kX4 : vwCl[4]? = some (RX4, TX4, 10) := rfl
theorem kX5 : vwCl[5]? = some (RX5, TX5, 3) := rfl
theorem kX6 : vwCl[6]? = some (RX6, TX6, 11) := rfl
theorem kX7 : vwCl[7]? = some (RX7, TX7, 5) := rfl
theorem kX8 : vwCl[8]? = some (RX8, TX8, 4) := rfl
theorem kX10 : vwCl[9]? = some (RX10, TX10, 10) := rfl
theorem kX11 : vwCl[10]? = some (RX11, TX11, 38) := rfl
/-! the shapes: 0 BiteFirst; 1 tape, 2 its bytes, 3 its steps; 4 texts; 5 thought; 6 fitting, 7 who is fitted; 8 cover, 9 its row; 10 sheets, 11 .. 14, 15 .. 18 their rows; a scene b: b, b+1 eaters, b+2 goods, b+3 names, b+4 .. an eater each, b+10, b+12 .. a good each, behind each its worths (20 now, 50 imaged, 80 thought's); text t: 110+3t, its steps, its stack; 200 the model, 201 .. its rows -/
abbrev sEater : mSh := mO 1 [none, none, none, none, none]
abbrev sGood (g : Nat) : mSh := mO 3 [some (fun _ => some (g + 1)), none, none]
abbrev sScene (b : Nat) : mSh := mO 4 [some (fun _ => some (b + 1)), some (fun _ => some (b + 2)), none, none, none, some (fun t => some (110 + 3 * t.toNatClampNeg)), none, none, none, some (fun _ => some (b + 3))]
abbrev sEArr (b : Nat) : mSh := mR 1 5 (fun j _ => if j < 5 then some (b + 4 + j) else none)
abbrev sGArr (b : Nat) : mSh := mR 3 6 (fun j _ => if j < 6 then some (b + 10 + 2 * j) else none)
abbrev sSheet (i : Nat) : mSh := mO 5 [none, none, some (fun _ => some (i + 4))]
abbrev sTape : mSh := mO 6 [some (fun _ => some 2), none, none, none, none, none, none, some (fun _ => some 3), none, none, none]
abbrev sText (i : Nat) : mSh := mO 7 [none, some (fun _ => some (i + 1)), none, none, some (fun _ => some (i + 2))]
abbrev sThought : mSh := mO 8 [some (fun _ => some 80), none, none, none]
abbrev sFit : mSh := mO 2 [some (fun _ => some 7), none]
abbrev sCover : mSh := mO 0 [some (fun _ => some 9)]
abbrev sBF : mSh := mO 9 [some (fun _ => some 1), some (fun _ => some 4), none, some (fun _ => some 20), some (fun _ => some 50), none, some (fun _ => some 5), some (fun _ => some 6), some (fun _ => some 8), some (fun _ => some 10)]
abbrev sTexts : mSh := mR 7 6 (fun j x => if j < 6 ∧ x = 1 then some (110 + 3 * j) else none)
abbrev sSheets : mSh := mR 5 4 (fun j _ => if j < 4 then some (11 + j) else none)
def mRef (k : Nat) : Option (Int32 → Option Nat) := some (fun _ => some k)
abbrev sM : mSh := mO 10 [none, some (fun _ => some 201), none, some (fun _ => some 202), some (fun _ => some 203), some (fun _ => some 204), none, some (fun _ => some 205), none, some (fun _ => some 206), some (fun _ => some 207), none, none, none, some (fun _ => some 208), some (fun _ => some 209), some (fun _ => some 210), some (fun _ => some 211), some (fun _ => some 212), some (fun _ => some 213), some (fun _ => some 214), none, none, none, none, some (fun _ => some 215), some (fun _ => some 216), none, none, none, some (fun _ => some 217), some (fun _ => some 218), none, some (fun _ => some 219), some (fun _ => some 220), some (fun _ => some 221), none, none]
/-- all shapes of a scene -/
def ScOk (sh : Nat → Option mSh) (b : Nat) : Prop := sh b = some (sScene b) ∧ sh (b + 1) = some (sEArr b) ∧ sh (b + 2) = some (sGArr b) ∧ sh (b + 3) = some (mS 6) ∧ (∀ e, e < 5 → sh (b + 4 + e) = some sEater) ∧ (∀ g, g < 6 → sh (b + 10 + 2 * g) = some (sGood (b + 10 + 2 * g))) ∧ (∀ g, g < 6 → sh (b + 10 + 2 * g + 1) = some (mI 10))
