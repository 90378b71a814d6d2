/-! objects are made -/
section MNew
variable {p : Program} {l : Launch} {e : Env} {R : Room} {s : State} {m : MethodId} {args : Array Value} {below : List Frame} {meth : Method} {c : Code} {H : Heap} {locs : List Loc} {cells slots : Nat} {Q : State → Prop}
variable {cc : ByteArray} {pc nL : Nat} {ls : Array Slot} {rest : List Value} {A : Nat → Prop} {H0 : Heap} {G : mG} {ad : Nat → Nat} {sh : Nat → Option mSh} {V : mV} {Ts : List Cond} {own : String}
/-- a new object's place in the bundle -/
theorem mC.new (hW : mC A H0 s G ad sh V H locs) {i : Nat} {S0 : mSh} {v : Nat → Int32} {H1 : Heap} (hi : sh i = none) (hnr : ∀ r, ¬ mRf S0 v r) (hat : va_at G.1 vwCl (H.size, mE G (va_up ad i H.size) S0 v) H1) (z1 : H1.size = H.size + 1) (o1 : ∀ x : Nat, x < H.size → H1[x]? = H[x]?) : mC A H0 s G (va_up ad i H.size) (va_up sh i (some S0)) (va_up V i v) H1 locs := by
  have hS := hW.2.2.1
  refine ⟨hW.1.new hi rfl (fun r hr => absurd hr (hnr r)) hat o1, fun b hb => ?_, ⟨Nat.le_trans hS.1 (by omega), fun x h1 h2 => (o1 x (Nat.lt_of_lt_of_le h1 hS.1)).trans (hS.2.1 x h1 h2), hS.2.2⟩, hW.2.2.2⟩
  by_cases hbi : b = i
  · rw [hbi]
    simp only [va_up, if_pos]
    exact hW.2.2.2.2.1 _ hS.1
  · simp only [va_up, if_neg hbi] at hb ⊢
    exact hW.2.1 b hb
theorem m_new (S : CallFix p m c cc nL s args Ts own) (hW : mC A H0 s G ad sh V H locs) {C : String} {T : u_T} {N ci index : Nat} {ks : List (Option (Int32 → Option Nat))} (i : Nat) (hi : sh i = none) (hc : vwCl[ci]? = some (C, T, N)) (hin : ∀ w ∈ u_ws C T N, w ∈ Ts) (ty : Nat → FieldType) (hty : ∀ k, k < N → parseFieldDescriptor (T k).2.2.1 = some (ty k)) (hcl : Cond.classLink own index C ∈ Ts) (hinst : Cond.instantiable C N ∈ Ts) (hini : Cond.initialized C ∈ Ts) (hnr : ∀ r, ¬ mRf (mO ci ks) (fun _ => 0) r) (hdef : ∀ (ad : Nat → Nat) (j : Nat), j < N → defaultValue (ty j) = vp_V (mFs ad (fun _ => 0) 0 ks) j) (hcells : cells + 1 ≤ R.cells) (hslots : slots + N ≤ R.slots) (hdg : decode cc pc = .ok (.new index, 3))
    (kk : ∀ (ad1 : Nat → Nat) (H1 : Heap), (∀ b, b ≠ i → ad1 b = ad b) → mC A H0 s G ad1 (va_up sh i (some (mO ci ks))) (va_up V i (fun _ => 0)) H1 locs → W p l e R s m args below meth c H1 locs (cells + 1) (slots + N) Q (F0 m (pc + 3) ls (.ref (ad1 i) :: rest))) : W p l e R s m args below meth c H locs cells slots Q (F0 m pc ls rest) := by
  have hKn := hW.K0.1 ci _ hc
  refine W.newcK S.1 S.2.1 S.2.2.2.1 (S.2.2.2.2 _ hcl) (S.2.2.2.2 _ hinst) (S.2.2.2.2 _ hini) rfl hdg hcells hslots hKn.2.1 rfl fun H1 kC hkC e1 z1 o1 => ?_
  have g := kk (va_up ad i H.size) H1 (fun b hb => by simp [va_up, hb]) (hW.new hi hnr ⟨_, hc, (u_born ty S.2.2.2.2 hin hKn hkC e1 hty).to (hdef _)⟩ z1 o1)
  rw [show va_up ad i H.size i = H.size by simp [va_up]] at g
  exact g
theorem m_newI (S : CallFix p m c cc nL s args Ts own) (hW : mC A H0 s G ad sh V H locs) (i n : Nat) (kn : Bool) (hi : sh i = none) (harr : Cond.arrayClass .int ∈ Ts) (hn : n < 2 ^ 20) (hcells : cells + 1 ≤ R.cells) (hslots : slots + n ≤ R.slots) (hdg : decode cc pc = .ok (.newarray .int, 2))
    (kk : ∀ (ad1 : Nat → Nat) (H1 : Heap), (∀ b, b ≠ i → ad1 b = ad b) → mC A H0 s G ad1 (va_up sh i (some (.inr (.inl (n, kn))))) (va_up V i (fun _ => 0)) H1 locs → W p l e R s m args below meth c H1 locs (cells + 1) (slots + n) Q (F0 m (pc + 2) ls (.ref (ad1 i) :: rest))) : W p l e R s m args below meth c H locs cells slots Q (F0 m pc ls (.int (nI n) :: rest)) := by
  refine va_newaK (atype := .int) S.1 S.2.1 (S.2.2.2.2 _ harr) rfl hdg rfl (nI_pos (by omega)) (nI_clamp (by omega)) (by show n * 4 ≤ _; omega) hcells hslots rfl fun H1 cA e1 z1 o1 hAr hNm => ?_
  have hcA : cA = G.2.1 := Option.some.inj (hNm.symm.trans (hW.K0.2 0 (G.2.1, .int) rfl).2)
  subst hcA
  have g := kk (va_up ad i H.size) H1 (fun b hb => by simp [va_up, hb]) (hW.new (S0 := .inr (.inl (n, kn))) hi (fun r z => z) (show H1[H.size]? = some _ from e1) z1 o1)
  rw [show va_up ad i H.size i = H.size by simp [va_up]] at g
  exact g
theorem m_newR (S : CallFix p m c cc nL s args Ts own) (hW : mC A H0 s G ad sh V H locs) (i n : Nat) {C : String} {index ci : Nat} (t0 : Nat) (ht : (mTy G)[t0]? = some (G.2.2.1 ci, .object C)) (hC : C ∈ [RX1, RX3, RX5, RX7]) (ch : Nat → Int32 → Option Nat) (hch : ∀ j, ch j 0 = none) (hi : sh i = none) (hcl : Cond.classLink own index C ∈ Ts) (hn : n < 2 ^ 20) (hcells : cells + 1 ≤ R.cells) (hslots : slots + n ≤ R.slots) (hdg : decode cc pc = .ok (.anewarray index, 3))
    (kk : ∀ (ad1 : Nat → Nat) (H1 : Heap), (∀ b, b ≠ i → ad1 b = ad b) → mC A H0 s G ad1 (va_up sh i (some (mR ci n ch))) (va_up V i (fun _ => 0)) H1 locs → W p l e R s m args below meth c H1 locs (cells + 1) (slots + n) Q (F0 m (pc + 3) ls (.ref (ad1 i) :: rest))) : W p l e R s m args below meth c H locs cells slots Q (F0 m pc ls (.int (nI n) :: rest)) := by
  have hcla : (nI n).toNatClampNeg = n := nI_clamp (by omega)
  refine W.anew S.1 S.2.1 S.2.2.2.1 (S.2.2.2.2 _ hcl) (va_AO.use (hW.2.2.2.2.2.2.2.2.2.2 C hC)) rfl hdg rfl (nI_pos (by omega)) (by rw [hcla]; omega) hcells (by rw [hcla]; exact hslots) fun cA kA comp f1 f2 f3 f4 => ?_
  rw [hcla]
  obtain ⟨kA', comp', g1, g2, g3, g4⟩ := (hW.K0.2 t0 _ ht).2
  have hcA : cA = G.2.2.1 ci := Option.some.inj (f1.symm.trans g4)
  subst hcA
  generalize hH1 : H.push ({ cls := G.2.2.1 ci, slots := Array.replicate n .null, vm := .none } : Cell) = H1
  have z1 : H1.size = H.size + 1 := by rw [← hH1, Array.size_push]
  have e1 : H1[H.size]? = some (arrV (G.2.2.1 ci) n (fun _ => .null)) := by rw [← hH1, Array.getElem?_push_size, ← arrV_new]
  have o1 : ∀ q : Nat, q < H.size → H1[q]? = H[q]? := fun q hq => by rw [← hH1, Array.getElem?_push, if_neg (Nat.ne_of_lt hq)]
  have g := kk (va_up ad i H.size) H1 (fun b hb => by simp [va_up, hb]) (hW.new (S0 := mR ci n ch) (v := fun _ => 0) hi (fun r z => by obtain ⟨j, hj⟩ := z; rw [hch j] at hj; cases hj) (by
    show H1[H.size]? = some (vp_cell _ (n, .inr (.inr (.inr (.inr (fun j => (ch j 0).map (va_up ad i H.size)))))))
    rw [vp_cell_q, e1]
    congr 2
    funext j
    rw [hch j]
    rfl) z1 o1)
  rw [show va_up ad i H.size i = H.size by simp [va_up]] at g
  exact g
/-- a row of references gets one -/
theorem m_astR (S : CallFix p m c cc nL s args Ts own) (hW : mC A H0 s G ad sh V H locs) {i n ci : Nat} {Cn : String} {T : u_T} {N : Nat} {ks : List (Option (Int32 → Option Nat))} (t0 : Nat) (hc : vwCl[ci]? = some (Cn, T, N)) (ht : (mTy G)[t0]? = some (G.2.2.1 ci, .object Cn)) {ch : Nat → Int32 → Option Nat} (hi : sh i = some (mR ci n ch)) (k : Nat) (hk : k < n) (hn : n < 2 ^ 31) {j : Nat} (hj : sh j = some (mO ci ks)) (x : Int32) (hx : ch k x = some j) (hdg : decode cc pc = .ok (.aastore, 1))
    (kk : ∀ (H1 : Heap) (locs1 : List Loc), mC A H0 s G ad sh (mU V i k x) H1 locs1 → W p l e R s m args below meth c H1 locs1 cells slots Q (F0 m (pc + 1) ls rest)) : W p l e R s m args below meth c H locs cells slots Q (F0 m pc ls (.ref (ad j) :: .int (nI k) :: .ref (ad i) :: rest)) := by
  have hlt : (nI k).toNatClampNeg = k := nI_clamp (by omega)
  obtain ⟨r', hr', cellV, g1, g2, g3, -⟩ := hW.at hj rfl 0 _ rfl
  obtain rfl : r' = (Cn, T, N) := Option.some.inj (hr'.symm.trans hc)
  have hcls := (hW.K0.1 ci _ hc).2
  obtain ⟨hArr, kA, comp, k1, k2, k3, -⟩ := hW.K0.2 t0 _ ht
  have hcomp : comp = G.1.1 ci := Option.some.inj (k3.symm.trans hcls.1)
  subst hcomp
  obtain ⟨kC, hkC, -⟩ := hcls.2
  have hne : sh i ≠ none := by rw [hi]; exact fun z => by cases z
  refine W.aast S.1 S.2.1 (hW.at hi rfl 0 _ rfl) (fun q h => by cases h) (fun h => by cases h) k1 k2 rfl hkC ⟨nI_pos (by omega), by show _ < (arrV _ _ _).slots.size; rw [arrV_size, hlt]; exact hk⟩ g1 (fun q h => by rw [g3] at h; cases h) (by rw [g2]; exact hkC) (by rw [g2]; exact va_assign hcls) rfl rfl hdg fun H1 e z oq => ?_
  refine kk H1 _ ⟨hW.1.put (i := i) (S := mR ci n ch) hne hi (fun a _ => rfl) (fun a ha => mU_no _ _ ha) (u := mU V i k x i) (fun _ => rfl) ?_ oq ?_, hW.2.1, hW.2.2.1.put z oq (hW.2.1 i hne), hW.2.2.2⟩
  · show H1[ad i]? = some (vp_cell (G.2.2.1 ci) (n, .inr (.inr (.inr (.inr (fun j => (ch j (mU V i k x i j)).map ad))))))
    rw [e, hlt]
    show some (Cell.setSlot (vp_cell (G.2.2.1 ci) (n, .inr (.inr (.inr (.inr (fun j => (ch j (V i j)).map ad)))))) k (Value.ref (ad j))) = _
    rw [vp_cell_q, vp_cell_q, arrV_store]
    congr 2
    funext q
    by_cases hq : q = k
    · subst hq
      rw [mU_eq, hx]
      simp [updV, va_rf]
    · rw [mU_ne _ _ (fun z => hq z.2)]
      simp [updV, hq]
  · intro r hr
    obtain ⟨q, hq⟩ := hr
    by_cases hqk : q = k
    · subst hqk
      rw [mU_eq, hx] at hq
      cases hq
      rw [hj]
      exact fun z => by cases z
    · rw [mU_ne _ _ (fun z => hqk z.2)] at hq
      exact hW.ne hi ⟨q, hq⟩
/-- the same cell by another shape -/
theorem mC.shape (hW : mC A H0 s G ad sh V H locs) {i : Nat} {S0 S1 : mSh} {v : Nat → Int32} (hi : sh i = some S0) (h0 : mKn S0 = true) (hE : mE G ad S1 v = mE G ad S0 (V i)) (hr : ∀ r, mRf S1 v r → sh r ≠ none) : mC A H0 s G ad (va_up sh i (some S1)) (va_up V i v) H locs := by
  have hne : sh i ≠ none := by rw [hi]; exact fun z => by cases z
  obtain ⟨u, h1, h2⟩ := hW.1.1 i _ hi
  obtain rfl := h1 h0
  refine ⟨hW.1.put (i := i) (S := S1) hne (by simp [va_up]) (fun a ha => by simp [va_up, ha]) (fun a ha => by simp [va_up, ha]) (u := v) (fun _ => by simp [va_up]) (by rw [hE]; exact h2) (fun q _ => rfl) (fun r h => hr r (by simpa [va_up] using h)), fun a ha => ?_, hW.2.2⟩
  by_cases hai : a = i
  · rw [hai]; exact hW.2.1 i hne
  · exact hW.2.1 a (by simpa [va_up, hai] using ha)
end MNew
