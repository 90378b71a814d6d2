/-! contracts over the world of numbered objects: their start, their end, calls of them -/
def mA (ad : Nat → Nat) (sh : Nat → Option mSh) (sz : Nat) : Nat → Prop := fun q => (∃ i : Nat, sh i ≠ none ∧ q = ad i) ∨ sz ≤ q
def mPre (G : mG) (ad : Nat → Nat) (sh : Nat → Option mSh) (V : mV) (av : List Value) (sz : Nat) : Array Value → State → Prop := va_Pc av (fun U => U.heap.size = sz ∧ mW G ad sh V U.heap ∧ va_K G.1 vwCl (mTy G) U ∧ mEnv G (mA ad sh sz) U U.heap)
abbrev mQ : Type := Option Value → (Nat → Nat) → (Nat → Option mSh) → mV → Prop
def mPost (G : mG) (ad : Nat → Nat) (sh : Nat → Option mSh) (sz : Nat) (P : mQ) : Array Value → State → Outcome → State → Prop := fun _ st o t =>
  (∃ (v : Option Value) (ad' : Nat → Nat) (sh' : Nat → Option mSh) (V' : mV), o = .returned v ∧ P v ad' sh' V' ∧ mW G ad' sh' V' t.heap ∧ (∀ i : Nat, sh' i ≠ none → mA ad sh sz (ad' i)) ∧ va_K G.1 vwCl (mTy G) t) ∧ va_F (mA ad sh sz) st t
def mM (l : Launch) (y : MethodName) (ws : List Cond) (rm : Room) (G : mG) (ad : Nat → Nat) (sh : Nat → Option mSh) (V : mV) (av : List Value) (mc ms : Nat) (P : mQ) : Prop := ∀ sz : Nat, Met l y ws rm (mPre G ad sh V av sz) (mPost G ad sh sz P) mc ms (mA ad sh sz)
/-- what an answer is, and the ints behind it; no object comes -/
def mPi (ad : Nat → Nat) (sh : Nat → Option mSh) (P : Int32 → mV → Prop) : mQ := fun v ad' sh' V' => ad' = ad ∧ sh' = sh ∧ ∃ r : Int32, v = some (.int r) ∧ P r V'
def mPl (ad : Nat → Nat) (sh : Nat → Option mSh) (P : Int64 → mV → Prop) : mQ := fun v ad' sh' V' => ad' = ad ∧ sh' = sh ∧ ∃ r : Int64, v = some (.long r) ∧ P r V'
def mPv (ad : Nat → Nat) (sh : Nat → Option mSh) (P : mV → Prop) : mQ := fun v ad' sh' V' => ad' = ad ∧ sh' = sh ∧ v = none ∧ P V'
def mPr (ad : Nat → Nat) (sh : Nat → Option mSh) (P : Option Nat → mV → Prop) : mQ := fun v ad' sh' V' => ad' = ad ∧ sh' = sh ∧ ∃ r : Option Nat, v = some (va_rf (r.map ad)) ∧ P r V'
theorem mM.weak {l : Launch} {y : MethodName} {ws : List Cond} {rm : Room} {G : mG} {ad : Nat → Nat} {sh : Nat → Option mSh} {V : mV} {av : List Value} {mc ms : Nat} {P P' : mQ} (h : mM l y ws rm G ad sh V av mc ms P) (hp : ∀ v ad' sh' V', P v ad' sh' V' → P' v ad' sh' V') : mM l y ws rm G ad sh V av mc ms P' := by
  intro sz p e ha hc hk s m args below hf hfit hheap happ
  obtain ⟨t, o, h1, h2, h3, ⟨⟨v, ad', sh', V', q1, q2, q3⟩, h5⟩, h6⟩ := h sz p e ha hc hk s m args below hf hfit hheap happ
  exact ⟨t, o, h1, h2, h3, ⟨⟨v, ad', sh', V', q1, hp _ _ _ _ q2, q3⟩, h5⟩, h6⟩
theorem mM.of {l : Launch} {y : MethodName} {ws ws' : List Cond} {rm : Room} {G : mG} {ad : Nat → Nat} {sh : Nat → Option mSh} {V : mV} {av : List Value} {mc ms : Nat} {P : mQ} {cc : ByteArray} {maxL : Nat} {ret : Option FieldType} (hy : plainName y.cls = true) (hw : ws = Cond.code y cc maxL ret :: ws') (hav : (lg_sl av).length ≤ maxL)
    (body : ∀ (p : Program) (e : Env) (s : State) (m : MethodId) (below : List Frame) (meth : Method) (c : Code), CallFix p m c cc maxL s av.toArray ws y.cls → meth.sig.returnType = ret → meth.locks = false → (meth.name = y.name) → mC (mA ad sh s.heap.size) s.heap s G ad sh V s.heap [] → ∀ ls : Array Slot, lv_has ls maxL (lv_args 0 av) →
      W p l e rm s m av.toArray below meth c s.heap [] 0 0 (MQ below (mPost G ad sh s.heap.size P) av.toArray s mc ms (mA ad sh s.heap.size)) (F0 m 0 ls [])) : mM l y ws rm G ad sh V av mc ms P := by
  intro sz
  refine Met.ofW (cc := cc) (maxL := maxL) (ret := ret) hy hw ?_
  intro p e s m args below meth c s₁ B hml hv
  obtain ⟨rfl, hsz, hP, hK, hE⟩ := hv
  subst hsz
  have hl := lv_entry av (n := maxL) hav
  rw [lg_entry_eq]
  exact body p e s m below meth c ⟨B.exec, B.bytes, hml, findClass_of_methodNamed B.named, atoms_spec (ws := ws) B.pre⟩ B.returns B.notSynchronized (name_of_methodNamed B.named B.method).1 ⟨hP, fun i hi => Or.inl ⟨i, hi, rfl⟩, va_S.rf, hK, fun q h => Or.inr h, hE⟩ _ hl
section MCalls
variable {p : Program} {l : Launch} {e : Env} {R : Room} {s : State} {m : MethodId} {args : Array Value} {below : List Frame} {meth : Method} {c : Code} {H : Heap} {locs : List Loc} {cells slots : Nat} {Q : State → Prop}
variable {cc : ByteArray} {pc nL : Nat} {ls : Array Slot} {rest st0 : List Value} {A : Nat → Prop} {H0 : Heap} {G : mG} {ad ad0 : Nat → Nat} {sh sh0 : Nat → Option mSh} {V : mV} {Ts : List Cond} {own : String}
theorem mC.free (hW : mC A H0 s G ad sh V H locs) : ∀ q, mA ad sh H.size q → A q := by
  intro q h
  rcases h with ⟨i, hi, rfl⟩ | h
  · exact hW.2.1 i hi
  · exact hW.2.2.2.2.1 q (Nat.le_trans hW.2.2.1.1 h)
theorem m_fin {P : mQ} {mc ms : Nat} {a : Array Value} (hr : va_Run p l e R s m args below meth c H locs cells slots mc ms (F0 m pc ls st0) rest (mPost G ad sh H.size P a) (mA ad sh H.size)) (hW : mC A H0 s G ad sh V H locs)
    (kk : ∀ (v : Option Value) (ad' : Nat → Nat) (sh' : Nat → Option mSh) (V' : mV) (H1 : Heap) (locs1 : List Loc), P v ad' sh' V' → mC A H0 s G ad' sh' V' H1 locs1 → W p l e R s m args below meth c H1 locs1 (cells + mc) (slots + ms) Q (F0 m (pc + 3) ls (v.toList ++ rest))) : W p l e R s m args below meth c H locs cells slots Q (F0 m pc ls st0) := by
  intro T hT X
  obtain ⟨v, st₀, t, T', L, h0, X', hL, e1, e2, ⟨⟨v', ad', sh', V', hv, hp, hW1, hA1, hK1⟩, hz, hk⟩, st⟩ := hr T hT X
  cases hv
  rw [h0] at hz hk
  have hf := hW.free
  have hS := hW.2.2.1
  obtain ⟨t2, a1, b1⟩ := kk v ad' sh' V' T'.heap (locs ++ L) hp ⟨by rw [e1]; exact hW1, fun i hi => hf _ (hA1 i hi), ⟨Nat.le_trans hS.1 (by rw [e1]; exact hz), fun q h1 h2 => by
      rw [e1, hk q (Nat.lt_of_lt_of_le h1 hS.1) (fun z => h2 (hf q z))]; exact hS.2.1 q h1 h2, fun q hq => by
      rcases List.mem_append.mp hq with h | h
      · exact hS.2.2 q h
      · exact hf _ (hL q h)⟩, hW.2.2.2⟩ T' rfl X'
  exact ⟨t2, st t2 a1, b1⟩
theorem mPre.blind {av : List Value} {sz : Nat} : FrameBlind (mPre G ad sh V av sz) := fun a U g mk q => by
  obtain ⟨q0, q1, qP, qK, qE⟩ := q
  exact ⟨q0, q1, qP, va_K.moved (u := U) (U := U.calling g mk a) (Vm.Alike.refl U.vm) qK, qE.calling g mk a⟩
theorem mC.env (hW : mC A H0 s G ad sh V H locs) {U : State} (hU : U.heap = H) (hWm : s.WarmedH U.vm) : mEnv G (mA ad sh H.size) U U.heap := by
  rw [hU]
  exact ((hW.2.2.2.2.2.kept hW.2.2.1.2.1).warm hWm).narrow hW.free
theorem m_preV (hW : mC A H0 s G ad sh V H locs) {b ci N : Nat} {C : String} {T : u_T} {ks : List (Option (Int32 → Option Nat))} {As : List Value} (hb : sh b = some (mO ci ks)) (hC : vwCl[ci]? = some (C, T, N)) : PreV s H C (ad b) (mPre G ad sh V (.ref (ad b) :: As) H.size) As :=
  ⟨mPre.blind, va_recv hW.K0 (hW.at hb rfl) (q0 := 0) hC rfl, fun U hU hWm => ⟨rfl, by rw [hU], by rw [hU]; exact hW.1, va_K.moved hWm.alike hW.K0, hW.env hU hWm⟩⟩
theorem m_preS (hW : mC A H0 s G ad sh V H locs) {As : List Value} : PreS s H (mPre G ad sh V As H.size) As :=
  ⟨mPre.blind, fun U hU hWm => ⟨rfl, by rw [hU], by rw [hU]; exact hW.1, va_K.moved hWm.alike hW.K0, hW.env hU hWm⟩⟩
variable {y : MethodName} {bytes : ByteArray} {maxL mc ms n index : Nat} {ret : Option FieldType} {ws : List Cond} {rm : Room} {C host : String} {As : List Value} {P : mQ}
/-- the four calls -/
theorem m_rV (S : CallFix p m c cc nL s args Ts own) (hW : mC A H0 s G ad sh V H locs) {b ci N : Nat} {T : u_T} {ks : List (Option (Int32 → Option Nat))} (hM : mM l y ws rm G ad sh V (.ref (ad b) :: As) mc ms P) (cw : CallW R s args own C index y bytes maxL ret ws rm mc ms n) (hb : sh b = some (mO ci ks)) (hC : vwCl[ci]? = some (C, T, N)) (hn : As.length = n) (hl : ls.size = nL) (hst : st0 = As.reverse ++ .ref (ad b) :: rest) (hroom : (rest.map fun v => v.category).sum ≤ 8) (hdg : decode cc pc = .ok (.invokevirtual index, 3)) (hf : cells + mc ≤ R.cells ∧ slots + ms ≤ R.slots) : va_Run p l e R s m args below meth c H locs cells slots mc ms (F0 m pc ls st0) rest (mPost G ad sh H.size P (Value.ref (ad b) :: As).toArray) (mA ad sh H.size) :=
  va_runV (g := F0 m pc ls st0) S (hM H.size) cw (m_preV hW hb hC) rfl hn hl hst (lv_room hroom) hdg hf
theorem m_rVN (S : CallFix p m c cc nL s args Ts own) (hW : mC A H0 s G ad sh V H locs) {b ci N : Nat} {T : u_T} {ks : List (Option (Int32 → Option Nat))} (hM : mM l y ws rm G ad sh V (.ref (ad b) :: As) mc ms P) (cw : va_CN R s args own index y host bytes maxL ret ws rm mc ms n ∧ (Cond.instanceMethod y).before args s = true ∧ (Cond.selects C y y).before args s = true) (hb : sh b = some (mO ci ks)) (hC : vwCl[ci]? = some (C, T, N)) (hn : As.length = n) (hl : ls.size = nL) (hst : st0 = As.reverse ++ .ref (ad b) :: rest) (hroom : (rest.map fun v => v.category).sum ≤ 8) (hdg : decode cc pc = .ok (.invokevirtual index, 3)) (hf : cells + mc ≤ R.cells ∧ slots + ms ≤ R.slots) : va_Run p l e R s m args below meth c H locs cells slots mc ms (F0 m pc ls st0) rest (mPost G ad sh H.size P (Value.ref (ad b) :: As).toArray) (mA ad sh H.size) :=
  va_runVN (g := F0 m pc ls st0) S (hM H.size) cw (m_preV hW hb hC) rfl hn hl hst (lv_room hroom) hdg hf
theorem m_rS (S : CallFix p m c cc nL s args Ts own) (hW : mC A H0 s G ad sh V H locs) (hM : mM l y ws rm G ad sh V As mc ms P) (cw : CallB R s args own index y bytes maxL ret ws rm mc ms n ∧ (Cond.static y).before args s = true) (hn : As.length = n) (hl : ls.size = nL) (hst : st0 = As.reverse ++ rest) (hroom : (rest.map fun v => v.category).sum ≤ 8) (hdg : decode cc pc = .ok (.invokestatic index, 3)) (hf : cells + mc ≤ R.cells ∧ slots + ms ≤ R.slots) : va_Run p l e R s m args below meth c H locs cells slots mc ms (F0 m pc ls st0) rest (mPost G ad sh H.size P As.toArray) (mA ad sh H.size) :=
  va_runS (g := F0 m pc ls st0) S (hM H.size) cw (m_preS hW) rfl hn hl hst (lv_room hroom) hdg hf
theorem m_rSN (S : CallFix p m c cc nL s args Ts own) (hW : mC A H0 s G ad sh V H locs) (hM : mM l y ws rm G ad sh V As mc ms P) (cw : va_CN R s args own index y host bytes maxL ret ws rm mc ms n ∧ (Cond.static y).before args s = true ∧ True) (hn : As.length = n) (hl : ls.size = nL) (hst : st0 = As.reverse ++ rest) (hroom : (rest.map fun v => v.category).sum ≤ 8) (hdg : decode cc pc = .ok (.invokestatic index, 3)) (hf : cells + mc ≤ R.cells ∧ slots + ms ≤ R.slots) : va_Run p l e R s m args below meth c H locs cells slots mc ms (F0 m pc ls st0) rest (mPost G ad sh H.size P As.toArray) (mA ad sh H.size) :=
  va_runSN (g := F0 m pc ls st0) S (hM H.size) cw (m_preS hW) rfl hn hl hst (lv_room hroom) hdg hf
theorem m_rI (S : CallFix p m c cc nL s args Ts own) (hW : mC A H0 s G ad sh V H locs) {b : Nat} (hM : mM l y ws rm G ad sh V (.ref (ad b) :: As) mc ms P) (cw : CallB R s args own index y bytes maxL none ws rm mc ms n ∧ y.name = "<init>" ∧ (Cond.instanceMethod y).before args s = true) (hn : As.length = n) (hl : ls.size = nL) (hst : st0 = As.reverse ++ .ref (ad b) :: rest) (hroom : (rest.map fun v => v.category).sum ≤ 8) (hdg : decode cc pc = .ok (.invokespecial index, 3)) (hf : cells + mc ≤ R.cells ∧ slots + ms ≤ R.slots) : va_Run p l e R s m args below meth c H locs cells slots mc ms (F0 m pc ls st0) rest (mPost G ad sh H.size P (Value.ref (ad b) :: As).toArray) (mA ad sh H.size) :=
  va_runI (g := F0 m pc ls st0) S (hM H.size) cw (m_preS hW) rfl hn hl hst (lv_room hroom) hdg hf
theorem m_rIN (S : CallFix p m c cc nL s args Ts own) (hW : mC A H0 s G ad sh V H locs) {b : Nat} (hM : mM l y ws rm G ad sh V (.ref (ad b) :: As) mc ms P) (cw : va_CN R s args own index y host bytes maxL none ws rm mc ms n ∧ y.name = "<init>" ∧ (Cond.instanceMethod y).before args s = true) (hn : As.length = n) (hl : ls.size = nL) (hst : st0 = As.reverse ++ .ref (ad b) :: rest) (hroom : (rest.map fun v => v.category).sum ≤ 8) (hdg : decode cc pc = .ok (.invokespecial index, 3)) (hf : cells + mc ≤ R.cells ∧ slots + ms ≤ R.slots) : va_Run p l e R s m args below meth c H locs cells slots mc ms (F0 m pc ls st0) rest (mPost G ad sh H.size P (Value.ref (ad b) :: As).toArray) (mA ad sh H.size) :=
  va_runIN (g := F0 m pc ls st0) S (hM H.size) cw (m_preS hW) rfl hn hl hst (lv_room hroom) hdg hf
/-- behind a call that answers an int (a long, nothing, a reference or null) and makes nothing -/
theorem m_ci {P : Int32 → mV → Prop} {a : Array Value} (hr : va_Run p l e R s m args below meth c H locs cells slots 0 0 (F0 m pc ls st0) rest (mPost G ad sh H.size (mPi ad sh P) a) (mA ad sh H.size)) (hW : mC A H0 s G ad sh V H locs)
    (kk : ∀ (r : Int32) (V' : mV) (H1 : Heap) (locs1 : List Loc), P r V' → mC A H0 s G ad sh V' H1 locs1 → W p l e R s m args below meth c H1 locs1 cells slots Q (F0 m (pc + 3) ls (.int r :: rest))) : W p l e R s m args below meth c H locs cells slots Q (F0 m pc ls st0) :=
  m_fin hr hW (fun v ad' sh' V' H1 locs1 hp h => by
    obtain ⟨rfl, rfl, r, rfl, hp⟩ := hp
    exact kk r V' H1 locs1 hp h)
theorem m_cl {P : Int64 → mV → Prop} {a : Array Value} (hr : va_Run p l e R s m args below meth c H locs cells slots 0 0 (F0 m pc ls st0) rest (mPost G ad sh H.size (mPl ad sh P) a) (mA ad sh H.size)) (hW : mC A H0 s G ad sh V H locs)
    (kk : ∀ (r : Int64) (V' : mV) (H1 : Heap) (locs1 : List Loc), P r V' → mC A H0 s G ad sh V' H1 locs1 → W p l e R s m args below meth c H1 locs1 cells slots Q (F0 m (pc + 3) ls (.long r :: rest))) : W p l e R s m args below meth c H locs cells slots Q (F0 m pc ls st0) :=
  m_fin hr hW (fun v ad' sh' V' H1 locs1 hp h => by
    obtain ⟨rfl, rfl, r, rfl, hp⟩ := hp
    exact kk r V' H1 locs1 hp h)
theorem m_cv {P : mV → Prop} {a : Array Value} (hr : va_Run p l e R s m args below meth c H locs cells slots 0 0 (F0 m pc ls st0) rest (mPost G ad sh H.size (mPv ad sh P) a) (mA ad sh H.size)) (hW : mC A H0 s G ad sh V H locs)
    (kk : ∀ (V' : mV) (H1 : Heap) (locs1 : List Loc), P V' → mC A H0 s G ad sh V' H1 locs1 → W p l e R s m args below meth c H1 locs1 cells slots Q (F0 m (pc + 3) ls rest)) : W p l e R s m args below meth c H locs cells slots Q (F0 m pc ls st0) :=
  m_fin hr hW (fun v ad' sh' V' H1 locs1 hp h => by
    obtain ⟨rfl, rfl, rfl, hp⟩ := hp
    exact kk V' H1 locs1 hp h)
theorem m_cr {P : Option Nat → mV → Prop} {a : Array Value} (hr : va_Run p l e R s m args below meth c H locs cells slots 0 0 (F0 m pc ls st0) rest (mPost G ad sh H.size (mPr ad sh P) a) (mA ad sh H.size)) (hW : mC A H0 s G ad sh V H locs)
    (kk : ∀ (r : Option Nat) (V' : mV) (H1 : Heap) (locs1 : List Loc), P r V' → mC A H0 s G ad sh V' H1 locs1 → W p l e R s m args below meth c H1 locs1 cells slots Q (F0 m (pc + 3) ls (va_rf (r.map ad) :: rest))) : W p l e R s m args below meth c H locs cells slots Q (F0 m pc ls st0) :=
  m_fin hr hW (fun v ad' sh' V' H1 locs1 hp h => by
    obtain ⟨rfl, rfl, r, rfl, hp⟩ := hp
    exact kk r V' H1 locs1 hp h)
/-- a method's end -/
theorem m_post {P : mQ} {v : Option Value} (hW : mC (mA ad0 sh0 s.heap.size) s.heap s G ad sh V H locs) (hp : P v ad sh V) : ∀ t : State, t.heap = H → s.WarmedH t.vm → mPost G ad0 sh0 s.heap.size P args s (.returned v) t := fun t ht hWm =>
  ⟨⟨v, ad, sh, V, rfl, hp, by rw [ht]; exact hW.1, hW.2.1, va_K.moved hWm.alike hW.K0⟩, hW.2.2.1.F ht⟩
theorem m_iret (S : CallFix p m c cc nL s args Ts own) (hr : meth.sig.returnType = some .int) (hlk : meth.locks = false) {P : Int32 → mV → Prop} {r : Int32} (hW : mC (mA ad sh s.heap.size) s.heap s G ad sh V H locs) (hdg : decode cc pc = .ok (.ireturn, 1)) (hp : P r V) : W p l e R s m args below meth c H locs cells slots (MQ below (mPost G ad sh s.heap.size (mPi ad sh P)) args s cells slots (mA ad sh s.heap.size)) (F0 m pc ls [.int r]) :=
  W.iret S.1 S.2.1 hr (m_post hW ⟨rfl, rfl, r, rfl, hp⟩) hW.2.2.1.2.2 hdg hlk
theorem m_zret (S : CallFix p m c cc nL s args Ts own) (hr : meth.sig.returnType = some .boolean) (hlk : meth.locks = false) {P : Int32 → mV → Prop} {r : Int32} (hW : mC (mA ad sh s.heap.size) s.heap s G ad sh V H locs) (hn : narrow .boolean (.int r) = .int r) (hdg : decode cc pc = .ok (.ireturn, 1)) (hp : P r V) : W p l e R s m args below meth c H locs cells slots (MQ below (mPost G ad sh s.heap.size (mPi ad sh P)) args s cells slots (mA ad sh s.heap.size)) (F0 m pc ls [.int r]) :=
  W.zret S.1 S.2.1 hr hn (m_post hW ⟨rfl, rfl, r, rfl, hp⟩) hW.2.2.1.2.2 hdg hlk
theorem m_lret (S : CallFix p m c cc nL s args Ts own) (hr : meth.sig.returnType = some .long) (hlk : meth.locks = false) {P : Int64 → mV → Prop} {r : Int64} (hW : mC (mA ad sh s.heap.size) s.heap s G ad sh V H locs) (hdg : decode cc pc = .ok (.lreturn, 1)) (hp : P r V) : W p l e R s m args below meth c H locs cells slots (MQ below (mPost G ad sh s.heap.size (mPl ad sh P)) args s cells slots (mA ad sh s.heap.size)) (F0 m pc ls [.long r]) :=
  W.lret S.1 S.2.1 hr (m_post hW ⟨rfl, rfl, r, rfl, hp⟩) hW.2.2.1.2.2 hdg hlk
theorem m_vret (S : CallFix p m c cc nL s args Ts own) (hr : meth.sig.returnType = none) (hlk : meth.locks = false) {P : mV → Prop} (hW : mC (mA ad sh s.heap.size) s.heap s G ad sh V H locs) (hdg : decode cc pc = .ok (.return_, 1)) (hp : P V) : W p l e R s m args below meth c H locs cells slots (MQ below (mPost G ad sh s.heap.size (mPv ad sh P)) args s cells slots (mA ad sh s.heap.size)) (F0 m pc ls []) :=
  W.vret S.1 S.2.1 hr (m_post hW ⟨rfl, rfl, rfl, hp⟩) hW.2.2.1.2.2 hdg hlk
theorem m_aret (S : CallFix p m c cc nL s args Ts own) {C : String} (hr : meth.sig.returnType = some (.object C)) (hlk : meth.locks = false) {P : Option Nat → mV → Prop} {r : Option Nat} (hW : mC (mA ad sh s.heap.size) s.heap s G ad sh V H locs) (hdg : decode cc pc = .ok (.areturn, 1)) (hp : P r V) : W p l e R s m args below meth c H locs cells slots (MQ below (mPost G ad sh s.heap.size (mPr ad sh P)) args s cells slots (mA ad sh s.heap.size)) (F0 m pc ls [va_rf (r.map ad)]) :=
  W.aret S.1 S.2.1 hr (Or.inl ⟨C, rfl⟩) (by cases r with
    | none => exact Or.inl rfl
    | some a => exact Or.inr ⟨_, rfl⟩) (m_post hW ⟨rfl, rfl, r, rfl, hp⟩) hW.2.2.1.2.2 hdg hlk
end MCalls
