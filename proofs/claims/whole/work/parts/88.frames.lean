/-! what lies beside is kept -/
section FRM
variable {sh sh' : Nat → Option mSh} {V V' : mV} {q : Sg}
theorem XI.lo (h : XI sh V q) (hv : ∀ a, a < 200 → V' a = V a) : XI sh V' q := by
  have hn := h.tn
  refine ⟨h.sp, ⟨by rw [hv 0 (by omega)]; exact h.tn.1, h.tn.2⟩, by rw [hv 0 (by omega)]; exact h.has, ⟨h.now.eq (fun a h1 h2 => hv a (by omega)) (fun k _ => by rw [hv 20 (by omega)]), h.rl⟩, ⟨h.im.eq (fun a h1 h2 => hv a (by omega)) (fun j _ => by rw [hv 50 (by omega)]), h.imr⟩, fun t ht => ?_, ?_, ?_, by rw [hv 9 (by omega)]; exact h.cov, fun i hi => ?_⟩
  · obtain ⟨⟨b1, b2, b3, b4, b5⟩, b6⟩ := h.tx t ht
    exact ⟨⟨by rw [hv _ (by omega)]; exact b1, by rw [hv _ (by omega)]; exact b2, by rw [hv _ (by omega)]; exact b3, by rw [hv _ (by omega)]; exact b4, b5⟩, by rw [hv 4 (by omega)]; exact b6⟩
  · rw [hv 1 (by omega), hv 2 (by omega)]
    exact h.tp
  · rw [hv 1 (by omega)]
    exact h.ta
  · rw [hv (11 + i) (by omega), hv (15 + i) (by omega)]
    exact h.shs i hi
theorem XI.los (h : XI sh V q) (hs : ∀ a, a < 200 → sh' a = sh a) (hv : ∀ a, a < 200 → V' a = V a) : XI sh' V' q := by
  obtain ⟨h1, h2⟩ := h.lo hv
  exact ⟨h1.eq (fun a ha => hs a (by have := h.tn.2.2; omega)), h2⟩
theorem MSh.hi (h : MSh sh) (hs : ∀ a, 200 ≤ a → sh' a = sh a) : MSh sh' := by
  obtain ⟨h0, h1, h2, h3, h4, h5, h6, h7, h8, h9, h10, h11, h12, h13, h14, h15, h16, h17, h18, h19, h20, h21⟩ := h
  exact ⟨(hs _ (by omega)).trans h0, (hs _ (by omega)).trans h1, (hs _ (by omega)).trans h2, (hs _ (by omega)).trans h3, (hs _ (by omega)).trans h4, (hs _ (by omega)).trans h5, (hs _ (by omega)).trans h6, (hs _ (by omega)).trans h7, (hs _ (by omega)).trans h8, (hs _ (by omega)).trans h9, (hs _ (by omega)).trans h10, (hs _ (by omega)).trans h11, (hs _ (by omega)).trans h12, (hs _ (by omega)).trans h13, (hs _ (by omega)).trans h14, (hs _ (by omega)).trans h15, (hs _ (by omega)).trans h16, (hs _ (by omega)).trans h17, (hs _ (by omega)).trans h18, (hs _ (by omega)).trans h19, (hs _ (by omega)).trans h20, (hs _ (by omega)).trans h21⟩
theorem MI.hi (h : MI sh V q) (hs : ∀ a, 200 ≤ a → sh' a = sh a) (hv : ∀ a, 200 ≤ a → V' a = V a) : MI sh' V' q := by
  obtain ⟨⟨z1, ⟨z2, z3, z4, z5⟩, z6, z7, ⟨z8, z9⟩, z10, z11⟩, ⟨t1, t2, t3, t4⟩, tx, ⟨p1, p2, p3⟩, ⟨i1, i2⟩, s1, w1⟩ := h
  have e200 := hv 200 (by omega)
  have e206 := hv 206 (by omega)
  have e207 := hv 207 (by omega)
  refine ⟨⟨z1.hi hs, ⟨by rw [e200]; exact z2, by rw [e200]; exact z3, z4, z5⟩, ?_, z7, ⟨by rw [e200]; exact z8, z9⟩, z10.eq e206 e207, z11⟩, ⟨by rw [e200]; exact t1, t2, t3, t4⟩, fun t ht => ⟨(tx t ht).1.eq e206 e207, (tx t ht).2⟩, ⟨by rw [e200]; exact p1, p2, by rw [hv 205 (by omega)]; exact p3⟩, ⟨by rw [e200]; exact i1, fun hh => ?_⟩, fun i hi => ?_, by rw [hv 215 (by omega)]; exact w1⟩
  · rw [z6]
    exact (mv_congr V (V' := V') z4 (by rw [e200]) (fun e _ => ⟨by rw [hv 202 (by omega)], by rw [hv 203 (by omega)]⟩) (fun k _ => by rw [hv 204 (by omega)]) (fun k _ => by rw [hv 201 (by omega)])).symm
  · exact (i2 hh).eq rfl (Nat.le_refl _) (i2 hh).2.2.1 z4 (hv 208 (by omega)) (hv 209 (by omega)) (hv 210 (by omega)) (fun e _ => ⟨by rw [hv 202 (by omega)], by rw [hv 203 (by omega)]⟩)
  · rw [hv 211 (by omega), hv 212 (by omega), hv 213 (by omega)]
    exact s1 i hi
theorem MI.zok (h : MI sh V q) : ZOk (gZ q) (gNe q) (gNg q) := h.1.2.2.2.1
theorem MI.s200 (h : MI sh V q) : sh 200 = some sM := h.1.1.1
end FRM
/-! how many texts there are -/
theorem ite_tx {cc : Prop} [Decidable cc] {x y : Sg} {t : List sT} (h1 : gTxs x = t) (h2 : gTxs y = t) : gTxs (if cc then x else y) = t := by
  split
  · exact h1
  · exact h2
theorem nSet_tx (q : Sg) (x : Int32) : gTxs (nSet q x) = gTxs q := by
  unfold nSet
  repeat' (first | apply ite_tx | rfl)
theorem nFeed_tx (q : Sg) (n a b c d w : Int32) : gTxs (nFeed q n a b c d w) = gTxs q := by
  unfold nFeed
  repeat' (first | apply ite_tx | rfl)
theorem nForce_tx (q : Sg) (x : Int32) : gTxs (nForce q x) = gTxs q := by
  unfold nForce
  repeat' (first | apply ite_tx | rfl)
theorem nGood_tx (q : Sg) (x y : Int32) : gTxs (nGood q x y) = gTxs q := by
  unfold nGood
  repeat' (first | apply ite_tx | rfl)
theorem nPut_tx (q : Sg) (x y v : Int32) : gTxs (nPut q x y v) = gTxs q := by
  unfold nPut
  repeat' (first | apply ite_tx | rfl)
theorem nEater_tx (q : Sg) (x y : Int32) : gTxs (nEater q x y) = gTxs q := by
  unfold nEater
  repeat' (first | apply ite_tx | rfl)
theorem nLend_tx (q : Sg) (x w v : Int32) : gTxs (nLend q x w v) = gTxs q := by
  unfold nLend
  repeat' (first | apply ite_tx | rfl)
theorem nBite_tx (q : Sg) (x y pl : Int32) : gTxs (nBite q x y pl) = gTxs q := by
  unfold nBite
  repeat' (first | apply ite_tx | rfl)
theorem nFilm_tx (q : Sg) (x n : Int32) : gTxs (nFilm q x n) = gTxs q := by
  unfold nFilm
  repeat' (first | apply ite_tx | rfl)
theorem nImage_tx (q : Sg) : gTxs (nImage q) = gTxs q := by
  unfold nImage
  repeat' (first | apply ite_tx | rfl)
theorem nBack_tx (q : Sg) : gTxs (nBack q) = gTxs q := by
  unfold nBack
  repeat' (first | apply ite_tx | rfl)
theorem nSheet_tx (q : Sg) (x so n : Int32) : gTxs (nSheet q x so n) = gTxs q := by
  unfold nSheet
  repeat' (first | apply ite_tx | rfl)
theorem nCell_tx (q : Sg) (x y v : Int32) : gTxs (nCell q x y v) = gTxs q := by
  unfold nCell
  repeat' (first | apply ite_tx | rfl)
theorem nCopy_tx (q : Sg) (x y o j n : Int32) : gTxs (nCopy q x y o j n) = gTxs q := by
  unfold nCopy
  repeat' (first | apply ite_tx | rfl)
theorem fBy_tx (c : Nat → Int32) (sz : Nat) (y : Int32) : ∀ (f k : Nat) (q : Sg) (m : Nat), gTxs (fBy c sz y f k q m).1 = gTxs q
  | 0, _, q, _ => rfl
  | f + 1, k, q, m => by
    rw [fBy]
    split
    · rw [fBy_tx c sz y f, nEater_tx]
    · rfl
theorem nBy_tx (q : Sg) (x so y n : Int32) : gTxs (nBy q x so y n) = gTxs q := by
  unfold nBy
  repeat' (first | apply ite_tx | exact fBy_tx _ _ _ _ _ _ _ | rfl)
/-! the law's words -/
/-! THE CLAIM OUT OF ONE WALK OF THE LAW'S BODY. Your part is whole_start (and what it stands on); all else here is the same for every law, but numbers. -/
def R_law : String := "BiteFirstLaw"
def lw_P (b : Addr) (xs : List Int32) (args : Array Value) (s : State) : Prop := args = #[.ref b] ∧ s.IntsAt b xs ∧ xs.length ≤ 3584 ∧ (Jvm.Cond.and given_1 narrow_1).before args s = true
def lw_Q (_ : Array Value) (s : State) (o : Outcome) (t : State) : Prop := o = .returned (some (.int 1)) ∧ Framed s o t [] 600000 7302249
def lw_Z (below : List Frame) (a : Array Value) (s : State) : State → Prop := fun t => ∃ o, t.status = .running ∧ Ended t below o ∧ lw_Q a s o t
/-- the law's own end, with 1 on the stack, nothing written that was there before, its room as the claim has it -/
theorem lw_ret {p : Program} {l : Launch} {e : Env} {s : State} {m : MethodId} {below : List Frame} {meth : Method} {c : Code} {b : Nat} (hx : p.tables.exec = Jvm.exec) (hb : c.code = code) (hr : meth.sig.returnType = ret) (hlocks : meth.locks = false) {pc : Nat} {H : Heap} {ls : Array Slot} (hdg : decode code pc = .ok (.ireturn, 1)) : W p l e room_1 s m #[Value.ref b] below meth c H [] 600000 7302249 (lw_Z below #[Value.ref b] s) (F0 m pc ls [.int 1]) := by
  intro T hT X
  obtain ⟨fs, hret, hrun, hended, hW, hframe⟩ := X.leave (v := some (.int 1)) (hlocks := hlocks) (fun h => by rw [hr] at h; cases h)
  have hmeth' : T.vm.method? m = some meth := X.method'
  refine ⟨T.setFrames fs, ?_, .returned (some (.int 1)), hrun, hended, rfl, ⟨_, rfl⟩, hW, hframe⟩
  jvm_step X.here [X.here.top, hx, hb, hdg, hmeth', hr, ret, narrow_b1]
  (try refine ⟨rfl, ?_⟩); (try refine ⟨rfl, ?_⟩)
  first | (intro acts; rw [hret _ acts rfl rfl rfl]) | rw [hret _ _ rfl rfl rfl]
  exact Steps.refl _
/-- what holds at the law's entry: the machine, the code, the tables' words (any of lw_tbl by 'hts w (by decide +kernel)'), the script of L ints xs at the cell b, what the Statement gives of the start (any of its parts by flat_of_before) -/
def lw_At (p : Program) (s : State) (m : MethodId) (meth : Method) (c : Code) (b L : Nat) (xs : Nat → Int32) : Prop :=
  p.tables.exec = Jvm.exec ∧ c.code = code ∧ meth.sig.returnType = ret ∧ c.maxLocals = 4 ∧ s.vm.findClass R_law = some m.cls ∧ (∀ w ∈ lw_tbl, w.before #[Value.ref b] s = true) ∧ va_X b L xs s s.heap ∧ b < s.heap.size ∧ meth.locks = false ∧ (Jvm.Cond.and given_1 narrow_1).before #[Value.ref b] s = true
abbrev wsLaw : List Cond := Cond.initialized RX10 :: wsL_law
/-- texts that are still to come have no place yet -/
def NoT (sh : Nat → Option mSh) (n : Nat) : Prop := ∀ t, n ≤ t → t < 6 → sh (110 + 3 * t) = none ∧ sh (110 + 3 * t + 1) = none ∧ sh (110 + 3 * t + 2) = none
