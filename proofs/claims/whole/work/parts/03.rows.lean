/-! rows over the world of numbered objects -/
section MRows
variable {p : Program} {l : Launch} {e : Env} {R : Room} {s : State} {m : MethodId} {args : Array Value} {below : List Frame} {meth : Method} {c : Code} {H : Heap} {locs : List Loc} {cells slots : Nat} {Q : State → Prop}
variable {cc : ByteArray} {pc nL : Nat} {ls : Array Slot} {rest : List Value} {A : Nat → Prop} {H0 : Heap} {G : mG} {ad : Nat → Nat} {sh : Nat → Option mSh} {V : mV} {Ts : List Cond} {own : String}
theorem mC.K0 (h : mC A H0 s G ad sh V H locs) : va_K G.1 vwCl (mTy G) s := h.2.2.2.1
theorem m_geti (S : CallFix p m c cc nL s args Ts own) (hW : mC A H0 s G ad sh V H locs) {i ci N index : Nat} {ks : List (Option (Int32 → Option Nat))} {Cn : String} {T : u_T} (hi : sh i = some (mO ci ks)) (k : Nat) (hk : ks[k]? = some none) (hc : vwCl[ci]? = some (Cn, T, N)) (hin : ∀ w ∈ u_ws Cn T N, w ∈ Ts) (hkN : k < N) (hlink : Cond.fieldLink own index (T k).1 (T k).2.1 (T k).2.2.1 ∈ Ts) (hdg : decode cc pc = .ok (.getfield index, 3))
    (kk : W p l e R s m args below meth c H locs cells slots Q (F0 m (pc + 3) ls (.int (V i k) :: rest))) : W p l e R s m args below meth c H locs cells slots Q (F0 m pc ls (.ref (ad i) :: rest)) :=
  va_get (D := G.1) (ci := ci) (fs := mFs ad (V i) 0 ks) S.1 S.2.1 S.2.2.2.2 hin S.2.2.2.1 hW.K0 (hW.at hi rfl) 0 rfl hc k hkN (S.2.2.2.2 _ hlink) (fun _ h => h) (by rw [mFs_get, hk, Nat.zero_add]; rfl) hdg kk
theorem m_getr (S : CallFix p m c cc nL s args Ts own) (hW : mC A H0 s G ad sh V H locs) {i ci N index : Nat} {ks : List (Option (Int32 → Option Nat))} {Cn : String} {T : u_T} (hi : sh i = some (mO ci ks)) (k : Nat) {g : Int32 → Option Nat} (hk : ks[k]? = some (some g)) {j : Nat} (hj : g (V i k) = some j) (hc : vwCl[ci]? = some (Cn, T, N)) (hin : ∀ w ∈ u_ws Cn T N, w ∈ Ts) (hkN : k < N) (hlink : Cond.fieldLink own index (T k).1 (T k).2.1 (T k).2.2.1 ∈ Ts) (hdg : decode cc pc = .ok (.getfield index, 3))
    (kk : W p l e R s m args below meth c H locs cells slots Q (F0 m (pc + 3) ls (.ref (ad j) :: rest))) : W p l e R s m args below meth c H locs cells slots Q (F0 m pc ls (.ref (ad i) :: rest)) :=
  va_get (D := G.1) (ci := ci) (fs := mFs ad (V i) 0 ks) S.1 S.2.1 S.2.2.2.2 hin S.2.2.2.1 hW.K0 (hW.at hi rfl) 0 rfl hc k hkN (S.2.2.2.2 _ hlink) (fun _ h => h) (by rw [mFs_get, hk, Nat.zero_add, Option.map_some, mFv, hj]; rfl) hdg kk
/-- a put: any value that a slot of kind o can hold -/
theorem m_put0 (S : CallFix p m c cc nL s args Ts own) (hW : mC A H0 s G ad sh V H locs) {i ci N index : Nat} {ks ks' : List (Option (Int32 → Option Nat))} {Cn : String} {T : u_T} {w : Value} {V' : mV} {o : Option (Int32 → Option Nat)} (hi : sh i = some (mO ci ks)) (k : Nat) (hk : k < ks.length) (hk' : ks'[k]? = some o) (hks : ∀ j, j ≠ k → ks'[j]? = ks[j]?) (hln : ks'.length = ks.length) (hw : w = mFv ad (V' i k) o) (hV : ∀ a, a ≠ i → V' a = V a) (hVk : ∀ b, b ≠ k → V' i b = V i b) (hr : ∀ r, mRf (mO ci ks') (V' i) r → sh r ≠ none) (hc : vwCl[ci]? = some (Cn, T, N)) (hin : ∀ w ∈ u_ws Cn T N, w ∈ Ts) (ty0 : Nat → FieldType) (hty : ∀ k, k < N → parseFieldDescriptor (T k).2.2.1 = some (ty0 k)) (hnm : ∀ a, a < N → ∀ b, b < N → a ≠ b → (T a).2.1 ≠ (T b).2.1) (hkN : k < N) (hlink : Cond.fieldLink own index (T k).1 (T k).2.1 (T k).2.2.1 ∈ Ts) (hfin : (T k).2.2.2 = false ∨ ((T k).2.2.2 = true ∧ meth.name = "<init>" ∧ (T k).1 = own)) (hn : narrow (ty0 k) w = w) (hfit : fits (ty0 k) w = true) (hdg : decode cc pc = .ok (.putfield index, 3))
    (kk : ∀ (H1 : Heap) (locs1 : List Loc), mC A H0 s G ad (va_up sh i (some (mO ci ks'))) V' H1 locs1 → W p l e R s m args below meth c H1 locs1 cells slots Q (F0 m (pc + 3) ls rest)) : W p l e R s m args below meth c H locs cells slots Q (F0 m pc ls (w :: .ref (ad i) :: rest)) := by
  have hK := hW.K0
  have hts := S.2.2.2.2
  have hap := va_apart (own := own) hts hin ty0 hty hnm hK hc
  have hne : sh i ≠ none := by rw [hi]; exact fun z => by cases z
  have hset : (mFs ad (V i) 0 ks).set k w = mFs ad (V' i) 0 ks' := mFs_set hk' hks hln hw hVk
  obtain ⟨r, h1, cell, q1, q2, q3, q4⟩ := hW.at hi rfl 0 _ rfl
  have hr0 : r = (Cn, T, N) := Option.some.inj (h1.symm.trans hc)
  subst hr0
  obtain ⟨hS, hfc, kC, hkC, hkind⟩ := hK.1 ci _ hc
  obtain ⟨cf, kf, fi, f, hif, hsl⟩ := hS k hkN
  have hlay := hts _ (hin _ (u_in_lay hkN))
  unfold u_lay at hlay
  have hst := (u_facts hfc hkC (u_lays hts hin hkN) hif).1
  have fin : ∀ (H' : Heap), H'[ad i]? = some (cell.setSlot ((G.1.2 ci) k) w) → H'.size = H.size → (∀ q : Nat, q ≠ ad i → H'[q]? = H[q]?) → mC A H0 s G ad (va_up sh i (some (mO ci ks'))) V' H' (locs ++ [⟨ad i, (G.1.2 ci) k⟩]) := by
    intro H' e1 e2 e3
    refine ⟨hW.1.put (i := i) (S := mO ci ks') hne (by simp [va_up]) (fun a ha => by simp [va_up, ha]) hV (u := V' i) (fun _ => rfl) ?_ e3 hr, fun a ha => ?_, hW.2.2.1.put e2 e3 (hW.2.1 i hne), hW.2.2.2⟩
    · refine ⟨_, hc, ?_⟩
      refine t_OB.to (V := updV (vp_V (mFs ad (V i) 0 ks)) k w) ⟨_, e1, q2, q3, t_set q4 hap hkN w⟩ (fun j _ => ?_)
      rw [vp_updV_set (by rw [mFs_len]; exact hk), hset]
    · by_cases hai : a = i
      · rw [hai]; exact hW.2.1 i hne
      · exact hW.2.1 a (by simpa [va_up, hai] using ha)
  rcases hfin with hfin | ⟨hfin, hin2, hdecl⟩
  · rw [if_neg (by rw [hfin]; decide)] at hlay
    have h6 := u_store hfc hkC hkind hlay hif (hty k hkN) hn hfit
    refine W.putK S.1 S.2.1 (f := f) ⟨S.2.2.2.1, hts _ hlink, ⟨_, _, _, hif⟩, hst⟩ (by rw [q2]; exact h6) q1 q3 (by rw [hsl]; exact k2_hasslot (q4 k hkN)) rfl rfl hdg fun H' e1 e2 e3 => ?_
    rw [hsl] at e1 ⊢
    exact kk H' _ (fin H' e1 e2 e3)
  · rw [if_pos hfin] at hlay
    have hcf : m.cls = cf := by
      obtain ⟨_, _, c', _, _, _, -, -, hf', -, -, -, hown2, -⟩ := Cond.laysFinal_spec hlay
      have e1 : c' = cf := by have := hif.symm.trans hf'; simp at this; exact this.1.symm
      rw [hdecl] at hown2
      rw [← e1]; exact Option.some.inj (S.2.2.2.1.symm.trans hown2)
    have h6 := u_fits hfc hkC hkind (Or.inr hlay) hif (hty k hkN) hn hfit
    refine W.putFinK S.1 S.2.1 S.2.2.2.1 (hts _ hlink) hif hst hcf hin2 (by rw [q2]; exact h6) q1 q3 (by rw [hsl]; exact k2_hasslot (q4 k hkN)) rfl rfl hdg fun H' e1 e2 e3 => ?_
    rw [hsl] at e1 ⊢
    exact kk H' _ (fin H' e1 e2 e3)
theorem mUp_self {α : Type} {f : Nat → Option α} {i : Nat} {x : α} (h : f i = some x) : va_up f i (some x) = f := by
  funext a
  by_cases ha : a = i
  · subst ha; simp [va_up, h]
  · simp [va_up, ha]
/-- an int is put into a field -/
theorem m_puti (S : CallFix p m c cc nL s args Ts own) (hW : mC A H0 s G ad sh V H locs) {i ci N index : Nat} {ks : List (Option (Int32 → Option Nat))} {Cn : String} {T : u_T} {x : Int32} (hi : sh i = some (mO ci ks)) (k : Nat) (hk : ks[k]? = some none) (hc : vwCl[ci]? = some (Cn, T, N)) (hin : ∀ w ∈ u_ws Cn T N, w ∈ Ts) (ty0 : Nat → FieldType) (hty : ∀ k, k < N → parseFieldDescriptor (T k).2.2.1 = some (ty0 k)) (hnm : ∀ a, a < N → ∀ b, b < N → a ≠ b → (T a).2.1 ≠ (T b).2.1) (hkN : k < N) (hlink : Cond.fieldLink own index (T k).1 (T k).2.1 (T k).2.2.1 ∈ Ts) (hfin : (T k).2.2.2 = false ∨ ((T k).2.2.2 = true ∧ meth.name = "<init>" ∧ (T k).1 = own)) (hn : narrow (ty0 k) (.int x) = .int x) (hfit : fits (ty0 k) (.int x) = true) (hdg : decode cc pc = .ok (.putfield index, 3))
    (kk : ∀ (H1 : Heap) (locs1 : List Loc), mC A H0 s G ad sh (mU V i k x) H1 locs1 → W p l e R s m args below meth c H1 locs1 cells slots Q (F0 m (pc + 3) ls rest)) : W p l e R s m args below meth c H locs cells slots Q (F0 m pc ls (.int x :: .ref (ad i) :: rest)) := by
  refine m_put0 (V' := mU V i k x) (ks' := ks) (o := none) S hW hi k (List.getElem?_eq_some_iff.mp hk).1 hk (fun _ _ => rfl) rfl (by rw [mU_eq]; rfl) (fun a ha => mU_no V x ha) (fun b hb => mU_ne V x (fun z => hb z.2)) (fun r hr => ?_) hc hin ty0 hty hnm hkN hlink hfin hn hfit hdg (fun H1 locs1 h => ?_)
  · obtain ⟨k', g, h1, h2⟩ := hr
    refine hW.ne hi ⟨k', g, h1, ?_⟩
    rw [← h2, mU_ne V x (fun z => ?_)]
    rw [z.2, hk] at h1
    cases h1
  · rw [mUp_self hi] at h
    exact kk H1 locs1 h
/-- a reference is put into a field whose slot says which -/
theorem m_putr (S : CallFix p m c cc nL s args Ts own) (hW : mC A H0 s G ad sh V H locs) {i ci N index : Nat} {ks : List (Option (Int32 → Option Nat))} {Cn : String} {T : u_T} (x : Int32) {j : Nat} (hi : sh i = some (mO ci ks)) (k : Nat) {g : Int32 → Option Nat} (hk : ks[k]? = some (some g)) (hj : g x = some j) (hjn : sh j ≠ none) (hc : vwCl[ci]? = some (Cn, T, N)) (hin : ∀ w ∈ u_ws Cn T N, w ∈ Ts) (ty0 : Nat → FieldType) (hty : ∀ k, k < N → parseFieldDescriptor (T k).2.2.1 = some (ty0 k)) (hnm : ∀ a, a < N → ∀ b, b < N → a ≠ b → (T a).2.1 ≠ (T b).2.1) (hkN : k < N) (hlink : Cond.fieldLink own index (T k).1 (T k).2.1 (T k).2.2.1 ∈ Ts) (hfin : (T k).2.2.2 = false ∨ ((T k).2.2.2 = true ∧ meth.name = "<init>" ∧ (T k).1 = own)) (hn : ∀ a : Nat, narrow (ty0 k) (.ref a) = .ref a) (hfit : ∀ a : Nat, fits (ty0 k) (.ref a) = true) (hdg : decode cc pc = .ok (.putfield index, 3))
    (kk : ∀ (H1 : Heap) (locs1 : List Loc), mC A H0 s G ad sh (mU V i k x) H1 locs1 → W p l e R s m args below meth c H1 locs1 cells slots Q (F0 m (pc + 3) ls rest)) : W p l e R s m args below meth c H locs cells slots Q (F0 m pc ls (.ref (ad j) :: .ref (ad i) :: rest)) := by
  refine m_put0 (V' := mU V i k x) (ks' := ks) (o := some g) S hW hi k (List.getElem?_eq_some_iff.mp hk).1 hk (fun _ _ => rfl) rfl (by rw [mU_eq, mFv, hj]; rfl) (fun a ha => mU_no V x ha) (fun b hb => mU_ne V x (fun z => hb z.2)) (fun r hr => ?_) hc hin ty0 hty hnm hkN hlink hfin (hn _) (hfit _) hdg (fun H1 locs1 h => ?_)
  · obtain ⟨k', g', h1, h2⟩ := hr
    by_cases hkk : k' = k
    · subst hkk
      rw [hk] at h1
      cases h1
      rw [mU_eq, hj] at h2
      cases h2
      exact hjn
    · refine hW.ne hi ⟨k', g', h1, ?_⟩
      rw [← h2, mU_ne V x (fun z => hkk z.2)]
  · rw [mUp_self hi] at h
    exact kk H1 locs1 h
/-- a constructor's reference: the shape is told anew -/
theorem m_putc (S : CallFix p m c cc nL s args Ts own) (hW : mC A H0 s G ad sh V H locs) {i ci N index : Nat} {ks : List (Option (Int32 → Option Nat))} {Cn : String} {T : u_T} {j : Nat} (g : Int32 → Option Nat) (hi : sh i = some (mO ci ks)) (k : Nat) (hk : k < ks.length) (hj : g (V i k) = some j) (hjn : sh j ≠ none) (hc : vwCl[ci]? = some (Cn, T, N)) (hin : ∀ w ∈ u_ws Cn T N, w ∈ Ts) (ty0 : Nat → FieldType) (hty : ∀ k, k < N → parseFieldDescriptor (T k).2.2.1 = some (ty0 k)) (hnm : ∀ a, a < N → ∀ b, b < N → a ≠ b → (T a).2.1 ≠ (T b).2.1) (hkN : k < N) (hlink : Cond.fieldLink own index (T k).1 (T k).2.1 (T k).2.2.1 ∈ Ts) (hfin : (T k).2.2.2 = false ∨ ((T k).2.2.2 = true ∧ meth.name = "<init>" ∧ (T k).1 = own)) (hn : ∀ a : Nat, narrow (ty0 k) (.ref a) = .ref a) (hfit : ∀ a : Nat, fits (ty0 k) (.ref a) = true) (hdg : decode cc pc = .ok (.putfield index, 3))
    (kk : ∀ (H1 : Heap) (locs1 : List Loc), mC A H0 s G ad (va_up sh i (some (mO ci (ks.set k (some g))))) V H1 locs1 → W p l e R s m args below meth c H1 locs1 cells slots Q (F0 m (pc + 3) ls rest)) : W p l e R s m args below meth c H locs cells slots Q (F0 m pc ls (.ref (ad j) :: .ref (ad i) :: rest)) := by
  refine m_put0 (V' := V) (ks' := ks.set k (some g)) (o := some g) S hW hi k hk (by rw [List.getElem?_set_self hk]) (fun j hj => by rw [List.getElem?_set_ne (Ne.symm hj)]) (List.length_set ..) (by rw [mFv, hj]; rfl) (fun a ha => rfl) (fun b hb => rfl) (fun r hr => ?_) hc hin ty0 hty hnm hkN hlink hfin (hn _) (hfit _) hdg kk
  obtain ⟨k', g', h1, h2⟩ := hr
  by_cases hkk : k' = k
  · subst hkk
    rw [List.getElem?_set_self hk] at h1
    cases h1
    rw [hj] at h2
    cases h2
    exact hjn
  · rw [List.getElem?_set_ne (Ne.symm hkk)] at h1
    exact hW.ne hi ⟨k', g', h1, h2⟩
theorem m_iald (S : CallFix p m c cc nL s args Ts own) (hW : mC A H0 s G ad sh V H locs) {i n : Nat} (hi : sh i = some (mI n)) {x : Int32} (k : Nat) (hx : x = nI k) (hk : k < n) (hn : n < 2 ^ 31) (hdg : decode cc pc = .ok (.iaload, 1))
    (kk : W p l e R s m args below meth c H locs cells slots Q (F0 m (pc + 1) ls (.int (V i k) :: rest))) : W p l e R s m args below meth c H locs cells slots Q (F0 m pc ls (.int x :: .ref (ad i) :: rest)) := by
  refine va_iald (D := G.1) (cA := G.2.1) (n := n) (f := V i) S.1 S.2.1 hW.K0 (hW.at hi rfl) 0 0 rfl rfl (by rw [hx]; exact vp_in_nI hk hn) hdg ?_
  rw [hx, nI_clamp (Nat.lt_trans hk hn)]
  exact kk
theorem m_iast (S : CallFix p m c cc nL s args Ts own) (hW : mC A H0 s G ad sh V H locs) {i n : Nat} (hi : sh i = some (mI n)) {x y : Int32} (k : Nat) (hx : x = nI k) (hk : k < n) (hn : n < 2 ^ 31) (hdg : decode cc pc = .ok (.iastore, 1))
    (kk : ∀ (H1 : Heap) (locs1 : List Loc), mC A H0 s G ad sh (mU V i k y) H1 locs1 → W p l e R s m args below meth c H1 locs1 cells slots Q (F0 m (pc + 1) ls rest)) : W p l e R s m args below meth c H locs cells slots Q (F0 m pc ls (.int y :: .int x :: .ref (ad i) :: rest)) := by
  have hne : sh i ≠ none := by rw [hi]; exact fun z => by cases z
  have hin : vp_in x n := by rw [hx]; exact vp_in_nI hk hn
  refine W.iast S.1 S.2.1 (hW.at hi rfl 0 _ rfl) ((hW.K0.2 0 (G.2.1, .int) rfl).1 n (fun j => .int (V i j))) (fun q => by cases q) (by show ¬ (x < 0 ∨ (arrV _ _ _).slots.size ≤ _); rw [arrV_size]; exact hin) rfl rfl hdg fun H1 e z oq => ?_
  refine kk H1 _ ⟨hW.1.put (i := i) (S := mI n) hne hi (fun a _ => rfl) (fun a ha => mU_no V y ha) (u := mU V i k y i) (fun _ => rfl) ?_ oq (fun r hr => absurd hr (fun z => z)), hW.2.1, hW.2.2.1.put z oq (hW.2.1 i hne), hW.2.2.2⟩
  show H1[ad i]? = some (vp_cell G.2.1 (n, .inl (mU V i k y i)))
  rw [e, mU_row]
  show some ((vp_cell G.2.1 (n, .inl (V i))).setSlot _ _) = _
  rw [vp_cell_i, vp_cell_i, arrV_store, hx, nI_clamp (Nat.lt_trans hk hn)]
  congr 2
  funext q
  by_cases hq : q = k
  · subst hq
    simp [updV, upd]
  · simp [updV, upd, hq]
theorem m_alen (S : CallFix p m c cc nL s args Ts own) (hW : mC A H0 s G ad sh V H locs) {i n : Nat} (hi : sh i = some (mI n)) (hdg : decode cc pc = .ok (.arraylength, 1))
    (kk : W p l e R s m args below meth c H locs cells slots Q (F0 m (pc + 1) ls (.int (nI n) :: rest))) : W p l e R s m args below meth c H locs cells slots Q (F0 m pc ls (.ref (ad i) :: rest)) :=
  va_alen (D := G.1) (cA := G.2.1) (x := (n, .inl (V i))) (ty := .int) S.1 S.2.1 hW.K0 (hW.at hi rfl) 0 0 rfl rfl rfl hdg kk
/-- an element of a row of references -/
theorem m_aald (S : CallFix p m c cc nL s args Ts own) (hW : mC A H0 s G ad sh V H locs) {i n ci : Nat} {C : String} (t0 : Nat) (ht : (mTy G)[t0]? = some (G.2.2.1 ci, .object C)) {ch : Nat → Int32 → Option Nat} (hi : sh i = some (mR ci n ch)) {x : Int32} (k : Nat) (hx : x = nI k) (hk : k < n) (hn : n < 2 ^ 31) {j : Nat} (hj : ch k (V i k) = some j) (hdg : decode cc pc = .ok (.aaload, 1))
    (kk : W p l e R s m args below meth c H locs cells slots Q (F0 m (pc + 1) ls (.ref (ad j) :: rest))) : W p l e R s m args below meth c H locs cells slots Q (F0 m pc ls (.int x :: .ref (ad i) :: rest)) := by
  refine va_aldq (D := G.1) (cA := G.2.2.1 ci) (n := n) (f := fun j => (ch j (V i j)).map ad) S.1 S.2.1 hW.K0 (hW.at hi rfl) 0 t0 rfl ht (by rw [hx]; exact vp_in_nI hk hn) hdg ?_
  rw [hx, nI_clamp (Nat.lt_trans hk hn)]
  show W p l e R s m args below meth c H locs cells slots Q (F0 m (pc + 1) ls (va_rf ((ch k (V i k)).map ad) :: rest))
  rw [hj]
  exact kk
end MRows
