/-! the reference: what is thought -/
def fLe (P : Nat → Bool) : Nat → Int32
  | 0 => -1
  | n + 1 => if fLe P n = -1 ∧ P (n + 1) = true then nI (n + 1) else fLe P n
theorem fLe_some {P : Nat → Bool} {m : Nat} (h : ¬ fLe P m = -1) : ∀ f, fLe P (m + f) = fLe P m
  | 0 => rfl
  | f + 1 => by
    rw [← Nat.add_assoc, fLe, fLe_some h f, if_neg (fun z => h z.1)]
theorem fLe_least {P : Nat → Bool} : ∀ f n, fLe P n = -1 → n + f < 2 ^ 30 → fLeast P f (n + 1) = fLe P (n + f)
  | 0, n, h, _ => by rw [fLeast, Nat.add_zero, h]
  | f + 1, n, h, hb => by
    rw [fLeast]
    by_cases hp : P (n + 1) = true
    · have h2 : fLe P (n + 1) = nI (n + 1) := by rw [fLe, if_pos ⟨h, hp⟩]
      rw [if_pos hp, show n + (f + 1) = (n + 1) + f by omega, fLe_some (by rw [h2]; exact m_nneg (by omega)) f, h2]
    · have h2 : fLe P (n + 1) = -1 := by rw [fLe, if_neg (fun z => hp z.2), h]
      rw [if_neg hp, fLe_least f (n + 1) h2 (by omega), show n + 1 + f = n + (f + 1) by omega]
def zOneF (ask : fAsks) (z : fZ) (u : Nat) : Nat → Bool × Int32
  | 0 => (false, nI 0)
  | k + 1 => if zCan ask z u (k / 16) (k % 16) then (true, if (zOneF ask z u k).1 = false ∨ (zOneF ask z u k).2 < zGa ask z u (k / 16) (k % 16) then zGa ask z u (k / 16) (k % 16) else (zOneF ask z u k).2) else zOneF ask z u k
theorem zOneF_n {ask : fAsks} {z : fZ} {u k : Nat} (h : ¬ zCan ask z u (k / 16) (k % 16)) : zOneF ask z u (k + 1) = zOneF ask z u k := by rw [zOneF, if_neg h]
theorem zOneF_u {ask : fAsks} {z : fZ} {u k : Nat} (h : zCan ask z u (k / 16) (k % 16)) (h2 : (zOneF ask z u k).1 = false ∨ (zOneF ask z u k).2 < zGa ask z u (k / 16) (k % 16)) : zOneF ask z u (k + 1) = (true, zGa ask z u (k / 16) (k % 16)) := by rw [zOneF, if_pos h, if_pos h2]
theorem zOneF_k {ask : fAsks} {z : fZ} {u k : Nat} (h : zCan ask z u (k / 16) (k % 16)) (h1 : (zOneF ask z u k).1 = true) (h2 : ¬ (zOneF ask z u k).2 < zGa ask z u (k / 16) (k % 16)) : zOneF ask z u (k + 1) = (true, (zOneF ask z u k).2) := by
  rw [zOneF, if_pos h, if_neg]
  rintro (h3 | h3)
  · rw [h1] at h3
    cases h3
  · exact h2 h3
/-- digits of a number: the lowest is 0 -/
def dgt (n m j : Nat) : Nat := m / n ^ j % n
def seenD (n m : Nat) : Nat → Nat
  | 0 => 0
  | j + 1 => seenD n m j ||| 2 ^ dgt n m j
abbrev tellB (n m : Nat) : Prop := seenD n m n = 2 ^ n - 1
def odO (n m k : Nat) : Nat := dgt n m (n - 1 - k)
theorem dgt_lt {n m j : Nat} (h : 0 < n) : dgt n m j < n := Nat.mod_lt _ h
theorem seenD_lt {n m : Nat} (h : 0 < n) (h5 : n ≤ 5) : ∀ j, seenD n m j < 32
  | 0 => show 0 < 32 by decide
  | j + 1 => by
    rw [seenD]
    have h1 := seenD_lt (m := m) h h5 j
    have h2 := dgt_lt (n := n) (m := m) (j := j) h
    have h3 : 2 ^ dgt n m j ≤ 2 ^ 4 := Nat.pow_le_pow_right (by decide) (by omega)
    exact Nat.or_lt_two_pow (n := 5) h1 (by omega)
/-- the gains of an order, and the scene behind it -/
def gnO (ask : fAsks) (ng : Nat) (z : fZ) (od : Nat → Nat) : Nat → fZ × Int32
  | 0 => (z, nI 0)
  | k + 1 => if (zBest ask (gnO ask ng z od k).1 (od k) (ng * 16)).1 = -1 then gnO ask ng z od k else (zBi ask (gnO ask ng z od k).1 (od k) ((zBest ask (gnO ask ng z od k).1 (od k) (ng * 16)).1.toNatClampNeg / 100) ((zBest ask (gnO ask ng z od k).1 (od k) (ng * 16)).1.toNatClampNeg % 100), (gnO ask ng z od k).2 + (zBest ask (gnO ask ng z od k).1 (od k) (ng * 16)).2)
theorem gnO_n {ask : fAsks} {ng : Nat} {z : fZ} {od : Nat → Nat} {k : Nat} (h : zBest ask (gnO ask ng z od k).1 (od k) (ng * 16) = (-1, nI 0)) : gnO ask ng z od (k + 1) = gnO ask ng z od k := by rw [gnO, h, if_pos rfl]
theorem gnO_s {ask : fAsks} {ng : Nat} {z : fZ} {od : Nat → Nat} {k gg pp : Nat} {ga : Int32} (h : zBest ask (gnO ask ng z od k).1 (od k) (ng * 16) = (nI (100 * gg + pp), ga)) (h1 : gg < 6) (h2 : pp < 16) : gnO ask ng z od (k + 1) = (zBi ask (gnO ask ng z od k).1 (od k) gg pp, (gnO ask ng z od k).2 + ga) := by
  rw [gnO, h, if_neg (m_nneg (by omega)), nI_clamp (by omega), show (100 * gg + pp) / 100 = gg by omega, show (100 * gg + pp) % 100 = pp by omega]
def digO (od : Nat → Nat) : Nat → Nat
  | 0 => 0
  | k + 1 => 10 * digO od k + od k + 1
def ordF (ask : fAsks) (ne ng : Nat) (z : fZ) : Nat → Int32 × Int32
  | 0 => (-1, nI 0)
  | m + 1 => if tellB ne m then (if (ordF ask ne ng z m).1 = -1 ∨ (ordF ask ne ng z m).2 < (gnO ask ng z (odO ne m) ne).2 then (nI (digO (odO ne m) ne), (gnO ask ng z (odO ne m) ne).2) else ordF ask ne ng z m) else ordF ask ne ng z m
/-! the fewest bites, as the reference has them: by sets within what is left -/
def fwP (sp c : Nat) (t : Nat → Int32) : Nat → Int32
  | 0 => -1
  | p + 1 => if ¬ (if mkN sp c p = 0 then -1 else t (fRest c (mkN sp c p))) = -1 ∧ (fwP sp c t p = -1 ∨ (if mkN sp c p = 0 then -1 else t (fRest c (mkN sp c p))) + nI 1 < fwP sp c t p) then (if mkN sp c p = 0 then -1 else t (fRest c (mkN sp c p))) + nI 1 else fwP sp c t p
/-- c lies within le -/
abbrev fIn (c le : Nat) : Prop := c &&& (1023 ^^^ (le % 1024)) = 0
def fwT (sp le : Nat) : Nat → Nat → Int32
  | 0 => fun _ => nI 0
  | c + 1 => fun j => if j = c then (if c = 0 then nI 0 else if fIn c le then fwP sp c (fwT sp le c) 16 else -1) else fwT sp le c j
theorem fwT_zero (sp le : Nat) : ∀ c, fwT sp le c 0 = nI 0
  | 0 => rfl
  | c + 1 => by
    unfold fwT
    by_cases h : 0 = c
    · rw [if_pos h, if_pos h.symm]
    · rw [if_neg h]
      exact fwT_zero sp le c
theorem MZ.uJa {sh : Nat → Option mSh} {V : mV} {z : fZ} {ne ng rl : Nat} {x : sT} {u v : Nat} (h : MZ sh V z ne ng rl x) (hu : u < ne) (h1 : 1 ≤ v) (h2 : v < 64) : MZ sh (mU V 204 (3 * u) (nI v)) (mU z (4 + u) 2 (nI v)) ne ng rl x := by
  have hne := h.ne5
  obtain ⟨a1, ⟨a2, a3, a4⟩, a5, a6, ⟨a7, a8⟩, a9, a10⟩ := h
  refine ⟨a1, ⟨by rw [mU_no _ _ (by decide)]; exact a2, by rw [mU_no _ _ (by decide)]; exact a3, a4⟩, ?_, ?_, ⟨by rw [mU_no _ _ (by decide)]; exact a7, a8⟩, a9.eq (by rw [mU_no _ _ (by decide)]) (by rw [mU_no _ _ (by decide)]), a10⟩
  · have := mv_uRo (ng := ng) V (nI v) hne hu (show 0 < 3 by decide)
    rw [Nat.add_zero, Nat.add_zero] at this
    rw [this, ← a5]
  · refine ⟨by rw [mU_ne _ _ (by omega)]; exact a6.1, fun w hw => ⟨by rw [mU_ne _ _ (by omega)]; exact (a6.2.1 w hw).1, by rw [mU_ne _ _ (by omega)]; exact (a6.2.1 w hw).2.1, ?_, by rw [mU_ne _ _ (by omega)]; exact (a6.2.1 w hw).2.2.2.1, by rw [mU_ne _ _ (by omega)]; exact (a6.2.1 w hw).2.2.2.2⟩, fun g hg => ⟨by rw [mU_ne _ _ (by omega)]; exact (a6.2.2 g hg).1, by rw [mU_ne _ _ (by omega)]; exact (a6.2.2 g hg).2.1, fun c hc => by rw [mU_ne _ _ (by omega)]; exact (a6.2.2 g hg).2.2 c hc⟩⟩
    by_cases hwu : w = u
    · subst hwu
      rw [mU_eq]
      exact ⟨v, h1, h2, rfl⟩
    · rw [mU_ne _ _ (by omega)]
      exact (a6.2.1 w hw).2.2.1
theorem zJw_u (z : fZ) (u g v : Nat) (y : Int32) (hu : u < 6) : fCan (zSp (mU z (4 + u) 2 (nI v)) u g) (mU z (4 + u) 2 (nI v) (10 + 2 * g) 2) y = zJw z u g y v := by
  rw [zSp, zJw, mU_eq, mU_ne _ _ (by omega), mU_ne _ _ (by omega), mU_ne _ _ (by omega), mU_ne _ _ (by omega)]
set_option maxHeartbeats 4000000 in
set_option maxRecDepth 100000 in
theorem c_X11_keeps (l : Launch) (G : mG) (ad : Nat → Nat) (sh : Nat → Option mSh) (V : mV)  (hM : MSh sh) : mM l yX11_keeps wsX11_keeps ({ frames := 0, cells := 0, slots := 0, locals := 0 } : Room) G ad sh V [.ref (ad 200)] 0 0 (mPv ad sh (fun V' => ((∀ a, a ≠ 219 → V' a = V a) ∧ MKept V' V))) := by
  refine mM.of (cc := cX11_keeps) (maxL := 2) (ret := none) (by decide) rfl (Nat.le_of_ble_eq_true rfl) ?_
  intro p e s m below meth c S hr hlk hnm hW ls hl
  obtain ⟨hx, hb, hml, hown, hts⟩ := id S
  have hl : lv_has ls 2 [(0, .ref (ad 200))] := hl
  have hS0 : True := trivial
  refine lv_iconst (v := nI 0) hx hb dX11_keeps_0 (by decide) ?_
  refine lv_istore_n (lv' := [(1, .int (nI 0)), (0, .ref (ad 200))]) hx hb dX11_keeps_1 rfl hl (by decide) rfl (fun ls hl => ?_)
  have loop_2 : ∀ (n_2 : Nat) (k : Nat) (V1 : mV) (H : Heap) (locs : List Loc) (ls : Array Slot), (k ≤ 15) → (∀ a, a ≠ 219 → V1 a = V a) → (∀ j, j < k → V1 219 j = V 204 j) → (15 - k) < n_2 → mC (mA ad sh s.heap.size) s.heap s G ad sh V1 H locs → lv_has ls 2 [(0, .ref (ad 200)), (1, .int (nI k))] → W p l e ({ frames := 0, cells := 0, slots := 0, locals := 0 } : Room) s m ([.ref (ad 200)] : List Value).toArray below meth c H locs 0 0 (MQ below (mPost G ad sh s.heap.size (mPv ad sh (fun V' => ((∀ a, a ≠ 219 → V' a = V a) ∧ MKept V' V)))) ([.ref (ad 200)] : List Value).toArray s 0 0 (mA ad sh s.heap.size)) (F0 m 2 ls []) := by
    intro n_2
    induction n_2 with
    | zero => intro k V1 H locs ls hk hf h1 hM_ hW hl; omega
    | succ n_2 ih_2 =>
      intro k V1 H locs ls hk hf h1 hM_ hW hl
      refine lv_iload_n hx hb dX11_keeps_2 rfl (lv_at hl 1 rfl) ?_
      refine lv_bipush (v := nI 15) hx hb dX11_keeps_3 (by decide) ?_
      refine lv_icmp_ge (tgt := 26) hx hb dX11_keeps_5 (by decide) (fun c_1 => ?_) (fun c_1 => ?_)
      · skip
        have c_1 : 15 ≤ k := (nI_leI (by omega) (by omega)).mp c_1
        refine lv_iconst (v := nI 0) hx hb dX11_keeps_26 (by decide) ?_
        refine lv_istore_n (lv' := [(1, .int (nI 0)), (0, .ref (ad 200))]) hx hb dX11_keeps_27 rfl hl (by decide) rfl (fun ls hl => ?_)
        have loop_28 : ∀ (n_28 : Nat) (k2 : Nat) (V2 : mV) (H : Heap) (locs : List Loc) (ls : Array Slot), (k2 ≤ 6) → (∀ a, a ≠ 219 → V2 a = V a) → (∀ j, j < 15 → V2 219 j = V 204 j) → (∀ g, g < k2 → V2 219 (15 + g) = V 201 (12 * g + 11)) → (6 - k2) < n_28 → mC (mA ad sh s.heap.size) s.heap s G ad sh V2 H locs → lv_has ls 2 [(0, .ref (ad 200)), (1, .int (nI k2))] → W p l e ({ frames := 0, cells := 0, slots := 0, locals := 0 } : Room) s m ([.ref (ad 200)] : List Value).toArray below meth c H locs 0 0 (MQ below (mPost G ad sh s.heap.size (mPv ad sh (fun V' => ((∀ a, a ≠ 219 → V' a = V a) ∧ MKept V' V)))) ([.ref (ad 200)] : List Value).toArray s 0 0 (mA ad sh s.heap.size)) (F0 m 28 ls []) := by
          intro n_28
          induction n_28 with
          | zero => intro k2 V2 H locs ls hk2 hf2 h12 h22 hM_ hW hl; omega
          | succ n_28 ih_28 =>
            intro k2 V2 H locs ls hk2 hf2 h12 h22 hM_ hW hl
            refine lv_iload_n hx hb dX11_keeps_28 rfl (lv_at hl 1 rfl) ?_
            refine lv_bipush (v := nI 6) hx hb dX11_keeps_29 (by decide) ?_
            refine lv_icmp_ge (tgt := 61) hx hb dX11_keeps_31 (by decide) (fun c_2 => ?_) (fun c_2 => ?_)
            · skip
              have c_2 : 6 ≤ k2 := (nI_leI (by omega) (by omega)).mp c_2
              exact m_vret S hr hlk hW dX11_keeps_61 (by exact ⟨hf2, h12, fun j hj => h22 j (by omega)⟩)
            · skip
              have c_2 : ¬ 6 ≤ k2 := mt (nI_leI (by omega) (by omega)).mpr c_2
              refine lv_aload_n hx hb dX11_keeps_34 rfl (lv_at hl 0 rfl) ?_
              refine m_getr S hW hM.1 33 rfl (j := 219) rfl kX11 (iW11 _) (by decide) (List.mem_cons_of_mem _ (wa_11 _ (List.mem_of_getElem? (i := 20) (by decide +kernel)))) dX11_keeps_35 ?_
              refine lv_bipush (v := nI 15) hx hb dX11_keeps_38 (by decide) ?_
              refine lv_iload_n hx hb dX11_keeps_40 rfl (lv_at hl 1 rfl) ?_
              refine lv_iadd hx hb dX11_keeps_41 ?_
              refine m_top (y := nI (15 + k2)) (nI_add 15 k2) ?_
              refine lv_aload_n hx hb dX11_keeps_42 rfl (lv_at hl 0 rfl) ?_
              refine m_getr S hW hM.1 1 rfl (j := 201) rfl kX11 (iW11 _) (by decide) (List.mem_cons_of_mem _ (wa_11 _ (List.mem_of_getElem? (i := 2) (by decide +kernel)))) dX11_keeps_43 ?_
              refine lv_bipush (v := nI 12) hx hb dX11_keeps_46 (by decide) ?_
              refine lv_iload_n hx hb dX11_keeps_48 rfl (lv_at hl 1 rfl) ?_
              refine lv_imul hx hb dX11_keeps_49 ?_
              refine m_top (y := nI (12 * k2)) (pk_mul 12 k2) ?_
              refine lv_bipush (v := nI 11) hx hb dX11_keeps_50 (by decide) ?_
              refine lv_iadd hx hb dX11_keeps_52 ?_
              refine m_top (y := nI ((12 * k2) + 11)) (nI_add (12 * k2) 11) ?_
              refine m_iald S hW hM.2.1 ((12 * k2) + 11) rfl (by omega) (by decide) dX11_keeps_53 ?_
              refine m_iast S hW hM.2.2.2.2.2.2.2.2.2.2.2.2.2.2.2.2.2.2.2.1 (15 + k2) rfl (by omega) (by decide) dX11_keeps_54 (fun H locs hW => ?_)
              obtain ⟨V_3, eV_3⟩ : ∃ vv_ : mV, vv_ = mU V2 219 (15 + k2) (V2 201 ((12 * k2) + 11)) := ⟨_, rfl⟩
              rw [← eV_3] at hW
              refine lv_iinc (v := nI (k2 + 1)) (lv' := [(1, .int (nI (k2 + 1))), (0, .ref (ad 200))]) hx hb dX11_keeps_55 hl (k := 1) rfl (m_inc k2 1) (by decide) rfl (fun ls hl => ?_)
              refine lv_goto (tgt := 28) hx hb dX11_keeps_58 (by decide) ?_
              exact ih_28  (k2 + 1) V_3 _ _ _ (by omega) (by intro a ha; rw [eV_3, mU_no _ _ ha]; exact hf2 a ha) (by intro j hj; rw [eV_3, mU_ne _ _ (by omega)]; exact h12 j hj) (by intro j hj; rw [eV_3]; exact (Nat.lt_succ_iff_lt_or_eq.mp hj).elim (fun h => by rw [mU_ne _ _ (by omega)]; exact h22 j h) (fun h => by rw [h, mU_eq, hf2 201 (by decide)])) (by omega) hW (lv_sub hl [1, 0] rfl)
        exact loop_28 (6 - 0 + 1) 0 V1 _ _ _ (by omega) (by exact hf) (by exact fun j hj => h1 j (by omega)) (by intro j hj; omega) (by omega) hW (lv_sub hl [1, 0] rfl)
      · skip
        have c_1 : ¬ 15 ≤ k := mt (nI_leI (by omega) (by omega)).mpr c_1
        refine lv_aload_n hx hb dX11_keeps_8 rfl (lv_at hl 0 rfl) ?_
        refine m_getr S hW hM.1 33 rfl (j := 219) rfl kX11 (iW11 _) (by decide) (List.mem_cons_of_mem _ (wa_11 _ (List.mem_of_getElem? (i := 20) (by decide +kernel)))) dX11_keeps_9 ?_
        refine lv_iload_n hx hb dX11_keeps_12 rfl (lv_at hl 1 rfl) ?_
        refine lv_aload_n hx hb dX11_keeps_13 rfl (lv_at hl 0 rfl) ?_
        refine m_getr S hW hM.1 5 rfl (j := 204) rfl kX11 (iW11 _) (by decide) (List.mem_cons_of_mem _ (wa_11 _ (List.mem_of_getElem? (i := 5) (by decide +kernel)))) dX11_keeps_14 ?_
        refine lv_iload_n hx hb dX11_keeps_17 rfl (lv_at hl 1 rfl) ?_
        refine m_iald S hW hM.2.2.2.2.1 k rfl (by omega) (by decide) dX11_keeps_18 ?_
        refine m_iast S hW hM.2.2.2.2.2.2.2.2.2.2.2.2.2.2.2.2.2.2.2.1 k rfl (by omega) (by decide) dX11_keeps_19 (fun H locs hW => ?_)
        obtain ⟨V_4, eV_4⟩ : ∃ vv_ : mV, vv_ = mU V1 219 k (V1 204 k) := ⟨_, rfl⟩
        rw [← eV_4] at hW
        refine lv_iinc (v := nI (k + 1)) (lv' := [(1, .int (nI (k + 1))), (0, .ref (ad 200))]) hx hb dX11_keeps_20 hl (k := 1) rfl (m_inc k 1) (by decide) rfl (fun ls hl => ?_)
        refine lv_goto (tgt := 2) hx hb dX11_keeps_23 (by decide) ?_
        exact ih_2  (k + 1) V_4 _ _ _ (by omega) (by intro a ha; rw [eV_4, mU_no _ _ ha]; exact hf a ha) (by intro j hj; rw [eV_4]; exact (Nat.lt_succ_iff_lt_or_eq.mp hj).elim (fun h => by rw [mU_ne _ _ (by omega)]; exact h1 j h) (fun h => by rw [h, mU_eq, hf 204 (by decide)])) (by omega) hW (lv_sub hl [1, 0] rfl)
  exact loop_2 (15 - 0 + 1) 0 V _ _ _ (by omega) (by exact fun _ _ => rfl) (by intro j hj; omega) (by omega) hW (lv_sub hl [1, 0] rfl)
set_option maxHeartbeats 4000000 in
set_option maxRecDepth 100000 in
theorem c_X11_laysBack (l : Launch) (G : mG) (ad : Nat → Nat) (sh : Nat → Option mSh) (V : mV)  (hM : MSh sh) : mM l yX11_laysBack wsX11_laysBack ({ frames := 0, cells := 0, slots := 0, locals := 0 } : Room) G ad sh V [.ref (ad 200)] 0 0 (mPv ad sh (fun V' => (MLaid V V'))) := by
  refine mM.of (cc := cX11_laysBack) (maxL := 2) (ret := none) (by decide) rfl (Nat.le_of_ble_eq_true rfl) ?_
  intro p e s m below meth c S hr hlk hnm hW ls hl
  obtain ⟨hx, hb, hml, hown, hts⟩ := id S
  have hl : lv_has ls 2 [(0, .ref (ad 200))] := hl
  have hS0 : True := trivial
  refine lv_iconst (v := nI 0) hx hb dX11_laysBack_0 (by decide) ?_
  refine lv_istore_n (lv' := [(1, .int (nI 0)), (0, .ref (ad 200))]) hx hb dX11_laysBack_1 rfl hl (by decide) rfl (fun ls hl => ?_)
  have loop_2 : ∀ (n_2 : Nat) (k : Nat) (V1 : mV) (H : Heap) (locs : List Loc) (ls : Array Slot), (k ≤ 15) → (∀ a, a ≠ 204 → V1 a = V a) → (∀ j, j < k → V1 204 j = V 219 j) → (15 - k) < n_2 → mC (mA ad sh s.heap.size) s.heap s G ad sh V1 H locs → lv_has ls 2 [(0, .ref (ad 200)), (1, .int (nI k))] → W p l e ({ frames := 0, cells := 0, slots := 0, locals := 0 } : Room) s m ([.ref (ad 200)] : List Value).toArray below meth c H locs 0 0 (MQ below (mPost G ad sh s.heap.size (mPv ad sh (fun V' => (MLaid V V')))) ([.ref (ad 200)] : List Value).toArray s 0 0 (mA ad sh s.heap.size)) (F0 m 2 ls []) := by
    intro n_2
    induction n_2 with
    | zero => intro k V1 H locs ls hk hf h1 hM_ hW hl; omega
    | succ n_2 ih_2 =>
      intro k V1 H locs ls hk hf h1 hM_ hW hl
      refine lv_iload_n hx hb dX11_laysBack_2 rfl (lv_at hl 1 rfl) ?_
      refine lv_bipush (v := nI 15) hx hb dX11_laysBack_3 (by decide) ?_
      refine lv_icmp_ge (tgt := 26) hx hb dX11_laysBack_5 (by decide) (fun c_1 => ?_) (fun c_1 => ?_)
      · skip
        have c_1 : 15 ≤ k := (nI_leI (by omega) (by omega)).mp c_1
        refine lv_iconst (v := nI 0) hx hb dX11_laysBack_26 (by decide) ?_
        refine lv_istore_n (lv' := [(1, .int (nI 0)), (0, .ref (ad 200))]) hx hb dX11_laysBack_27 rfl hl (by decide) rfl (fun ls hl => ?_)
        have loop_28 : ∀ (n_28 : Nat) (k2 : Nat) (V2 : mV) (H : Heap) (locs : List Loc) (ls : Array Slot), (k2 ≤ 6) → (∀ a, a ≠ 201 → a ≠ 204 → V2 a = V a) → (∀ j, j < 15 → V2 204 j = V 219 j) → (∀ g, g < k2 → V2 201 (12 * g + 11) = V 219 (15 + g)) → (∀ k, k % 12 ≠ 11 → V2 201 k = V 201 k) → (6 - k2) < n_28 → mC (mA ad sh s.heap.size) s.heap s G ad sh V2 H locs → lv_has ls 2 [(0, .ref (ad 200)), (1, .int (nI k2))] → W p l e ({ frames := 0, cells := 0, slots := 0, locals := 0 } : Room) s m ([.ref (ad 200)] : List Value).toArray below meth c H locs 0 0 (MQ below (mPost G ad sh s.heap.size (mPv ad sh (fun V' => (MLaid V V')))) ([.ref (ad 200)] : List Value).toArray s 0 0 (mA ad sh s.heap.size)) (F0 m 28 ls []) := by
          intro n_28
          induction n_28 with
          | zero => intro k2 V2 H locs ls hk2 hf2 h12 h22 h32 hM_ hW hl; omega
          | succ n_28 ih_28 =>
            intro k2 V2 H locs ls hk2 hf2 h12 h22 h32 hM_ hW hl
            refine lv_iload_n hx hb dX11_laysBack_28 rfl (lv_at hl 1 rfl) ?_
            refine lv_bipush (v := nI 6) hx hb dX11_laysBack_29 (by decide) ?_
            refine lv_icmp_ge (tgt := 61) hx hb dX11_laysBack_31 (by decide) (fun c_2 => ?_) (fun c_2 => ?_)
            · skip
              have c_2 : 6 ≤ k2 := (nI_leI (by omega) (by omega)).mp c_2
              exact m_vret S hr hlk hW dX11_laysBack_61 (by exact ⟨hf2, h12, fun j hj => h22 j (by omega), h32⟩)
            · skip
              have c_2 : ¬ 6 ≤ k2 := mt (nI_leI (by omega) (by omega)).mpr c_2
              refine lv_aload_n hx hb dX11_laysBack_34 rfl (lv_at hl 0 rfl) ?_
              refine m_getr S hW hM.1 1 rfl (j := 201) rfl kX11 (iW11 _) (by decide) (List.mem_cons_of_mem _ (wa_11 _ (List.mem_of_getElem? (i := 2) (by decide +kernel)))) dX11_laysBack_35 ?_
              refine lv_bipush (v := nI 12) hx hb dX11_laysBack_38 (by decide) ?_
              refine lv_iload_n hx hb dX11_laysBack_40 rfl (lv_at hl 1 rfl) ?_
              refine lv_imul hx hb dX11_laysBack_41 ?_
              refine m_top (y := nI (12 * k2)) (pk_mul 12 k2) ?_
              refine lv_bipush (v := nI 11) hx hb dX11_laysBack_42 (by decide) ?_
              refine lv_iadd hx hb dX11_laysBack_44 ?_
              refine m_top (y := nI ((12 * k2) + 11)) (nI_add (12 * k2) 11) ?_
              refine lv_aload_n hx hb dX11_laysBack_45 rfl (lv_at hl 0 rfl) ?_
              refine m_getr S hW hM.1 33 rfl (j := 219) rfl kX11 (iW11 _) (by decide) (List.mem_cons_of_mem _ (wa_11 _ (List.mem_of_getElem? (i := 20) (by decide +kernel)))) dX11_laysBack_46 ?_
              refine lv_bipush (v := nI 15) hx hb dX11_laysBack_49 (by decide) ?_
              refine lv_iload_n hx hb dX11_laysBack_51 rfl (lv_at hl 1 rfl) ?_
              refine lv_iadd hx hb dX11_laysBack_52 ?_
              refine m_top (y := nI (15 + k2)) (nI_add 15 k2) ?_
              refine m_iald S hW hM.2.2.2.2.2.2.2.2.2.2.2.2.2.2.2.2.2.2.2.1 (15 + k2) rfl (by omega) (by decide) dX11_laysBack_53 ?_
              refine m_iast S hW hM.2.1 ((12 * k2) + 11) rfl (by omega) (by decide) dX11_laysBack_54 (fun H locs hW => ?_)
              obtain ⟨V_3, eV_3⟩ : ∃ vv_ : mV, vv_ = mU V2 201 ((12 * k2) + 11) (V2 219 (15 + k2)) := ⟨_, rfl⟩
              rw [← eV_3] at hW
              refine lv_iinc (v := nI (k2 + 1)) (lv' := [(1, .int (nI (k2 + 1))), (0, .ref (ad 200))]) hx hb dX11_laysBack_55 hl (k := 1) rfl (m_inc k2 1) (by decide) rfl (fun ls hl => ?_)
              refine lv_goto (tgt := 28) hx hb dX11_laysBack_58 (by decide) ?_
              exact ih_28  (k2 + 1) V_3 _ _ _ (by omega) (by intro a ha hb; rw [eV_3, mU_no _ _ ha]; exact hf2 a ha hb) (by intro j hj; rw [eV_3, mU_no _ _ (by decide)]; exact h12 j hj) (by intro j hj; rw [eV_3]; exact (Nat.lt_succ_iff_lt_or_eq.mp hj).elim (fun h => by rw [mU_ne _ _ (by omega)]; exact h22 j h) (fun h => by rw [h, mU_eq, hf2 219 (by decide) (by decide)])) (by intro j hj; rw [eV_3, mU_ne _ _ (by omega)]; exact h32 j hj) (by omega) hW (lv_sub hl [1, 0] rfl)
        exact loop_28 (6 - 0 + 1) 0 V1 _ _ _ (by omega) (by exact fun a _ ha => hf a ha) (by exact fun j hj => h1 j (by omega)) (by intro j hj; omega) (by exact fun k _ => by rw [hf 201 (by decide)]) (by omega) hW (lv_sub hl [1, 0] rfl)
      · skip
        have c_1 : ¬ 15 ≤ k := mt (nI_leI (by omega) (by omega)).mpr c_1
        refine lv_aload_n hx hb dX11_laysBack_8 rfl (lv_at hl 0 rfl) ?_
        refine m_getr S hW hM.1 5 rfl (j := 204) rfl kX11 (iW11 _) (by decide) (List.mem_cons_of_mem _ (wa_11 _ (List.mem_of_getElem? (i := 5) (by decide +kernel)))) dX11_laysBack_9 ?_
        refine lv_iload_n hx hb dX11_laysBack_12 rfl (lv_at hl 1 rfl) ?_
        refine lv_aload_n hx hb dX11_laysBack_13 rfl (lv_at hl 0 rfl) ?_
        refine m_getr S hW hM.1 33 rfl (j := 219) rfl kX11 (iW11 _) (by decide) (List.mem_cons_of_mem _ (wa_11 _ (List.mem_of_getElem? (i := 20) (by decide +kernel)))) dX11_laysBack_14 ?_
        refine lv_iload_n hx hb dX11_laysBack_17 rfl (lv_at hl 1 rfl) ?_
        refine m_iald S hW hM.2.2.2.2.2.2.2.2.2.2.2.2.2.2.2.2.2.2.2.1 k rfl (by omega) (by decide) dX11_laysBack_18 ?_
        refine m_iast S hW hM.2.2.2.2.1 k rfl (by omega) (by decide) dX11_laysBack_19 (fun H locs hW => ?_)
        obtain ⟨V_4, eV_4⟩ : ∃ vv_ : mV, vv_ = mU V1 204 k (V1 219 k) := ⟨_, rfl⟩
        rw [← eV_4] at hW
        refine lv_iinc (v := nI (k + 1)) (lv' := [(1, .int (nI (k + 1))), (0, .ref (ad 200))]) hx hb dX11_laysBack_20 hl (k := 1) rfl (m_inc k 1) (by decide) rfl (fun ls hl => ?_)
        refine lv_goto (tgt := 2) hx hb dX11_laysBack_23 (by decide) ?_
        exact ih_2  (k + 1) V_4 _ _ _ (by omega) (by intro a ha; rw [eV_4, mU_no _ _ ha]; exact hf a ha) (by intro j hj; rw [eV_4]; exact (Nat.lt_succ_iff_lt_or_eq.mp hj).elim (fun h => by rw [mU_ne _ _ (by omega)]; exact h1 j h) (fun h => by rw [h, mU_eq, hf 219 (by decide)])) (by omega) hW (lv_sub hl [1, 0] rfl)
  exact loop_2 (15 - 0 + 1) 0 V _ _ _ (by omega) (by exact fun _ _ => rfl) (by intro j hj; omega) (by omega) hW (lv_sub hl [1, 0] rfl)
set_option maxHeartbeats 4000000 in
set_option maxRecDepth 100000 in
theorem c_X11_makes (l : Launch) (G : mG) (ad : Nat → Nat) (sh : Nat → Option mSh) (V : mV) (z : fZ) (ne ng rl : Nat) (tx : sT) (u g : Nat) (y : Int32) (hZ : MZ sh V z ne ng rl tx) (he : u < ne) (hg : g < ng) : mM l yX11_makes wsX11_makes ({ frames := 3, cells := 0, slots := 0, locals := 71 } : Room) G ad sh V [.ref (ad 200), .int (nI u), .int (nI g), .int y] 0 0 (mPip ad sh V (fun r => (nI 1 = r ∧ (fCan (zSp z u g) (z (10 + 2 * g) 2) y = true)) ∨ (nI 0 = r ∧ (¬ fCan (zSp z u g) (z (10 + 2 * g) 2) y = true)))) := by
  refine mM.of (cc := cX11_makes) (maxL := 5) (ret := (some .boolean)) (by decide) rfl (Nat.le_of_ble_eq_true rfl) ?_
  intro p e s m below meth c S hr hlk hnm hW ls hl
  obtain ⟨hx, hb, hml, hown, hts⟩ := id S
  have hl : lv_has ls 5 [(0, .ref (ad 200)), (1, .int (nI u)), (2, .int (nI g)), (3, .int y)] := hl
  have hS0 : True := trivial
  have hne5 := hZ.ne5
  have hng6 := hZ.ng6
  refine lv_iconst (v := nI 0) hx hb dX11_makes_0 (by decide) ?_
  refine lv_istore (lv' := [(4, .int (nI 0)), (0, .ref (ad 200)), (1, .int (nI u)), (2, .int (nI g)), (3, .int y)]) hx hb dX11_makes_1 hl (by decide) rfl (fun ls hl => ?_)
  have loop_3 : ∀ (n_3 : Nat) (k : Nat) (H : Heap) (locs : List Loc) (ls : Array Slot), (k ≤ 16) → (∀ n, n < k → ¬ zMk z u g n = y) → (16 - k) < n_3 → mC (mA ad sh s.heap.size) s.heap s G ad sh V H locs → lv_has ls 5 [(0, .ref (ad 200)), (1, .int (nI u)), (2, .int (nI g)), (3, .int y), (4, .int (nI k))] → W p l e ({ frames := 3, cells := 0, slots := 0, locals := 71 } : Room) s m ([.ref (ad 200), .int (nI u), .int (nI g), .int y] : List Value).toArray below meth c H locs 0 0 (MQ below (mPost G ad sh s.heap.size (mPip ad sh V (fun r => (nI 1 = r ∧ (fCan (zSp z u g) (z (10 + 2 * g) 2) y = true)) ∨ (nI 0 = r ∧ (¬ fCan (zSp z u g) (z (10 + 2 * g) 2) y = true))))) ([.ref (ad 200), .int (nI u), .int (nI g), .int y] : List Value).toArray s 0 0 (mA ad sh s.heap.size)) (F0 m 3 ls []) := by
    intro n_3
    induction n_3 with
    | zero => intro k H locs ls hk hno hM_ hW hl; omega
    | succ n_3 ih_3 =>
      intro k H locs ls hk hno hM_ hW hl
      refine lv_iload hx hb dX11_makes_3 (lv_at hl 4 rfl) ?_
      refine lv_bipush (v := nI 16) hx hb dX11_makes_5 (by decide) ?_
      refine lv_icmp_ge (tgt := 30) hx hb dX11_makes_7 (by decide) (fun c_1 => ?_) (fun c_1 => ?_)
      · skip
        have c_1 : 16 ≤ k := (nI_leI (by omega) (by omega)).mp c_1
        refine lv_iconst (v := nI 0) hx hb dX11_makes_30 (by decide) ?_
        exact m_zret S hr hlk hW rfl dX11_makes_31 ⟨rfl, (by exact Or.inr ⟨rfl, fCan_f (fun n hn => hno n (by omega))⟩)⟩
      · skip
        have c_1 : ¬ 16 ≤ k := mt (nI_leI (by omega) (by omega)).mpr c_1
        refine lv_aload_n hx hb dX11_makes_10 rfl (lv_at hl 0 rfl) ?_
        refine lv_iload_n hx hb dX11_makes_11 rfl (lv_at hl 1 rfl) ?_
        refine lv_iload_n hx hb dX11_makes_12 rfl (lv_at hl 2 rfl) ?_
        refine lv_iload hx hb dX11_makes_13 (lv_at hl 4 rfl) ?_
        refine m_cie (m_rV S hW (c_X11_markOf l G ad sh V z ne ng rl tx u g k hZ (by first | assumption | omega) (by first | assumption | omega) (by first | assumption | omega)) (cwV 3 hts (gCall [.methodLink RX11 198 yX11_markOf, .instanceMethod yX11_markOf, .selects RX11 yX11_markOf yX11_markOf, .initialized RX11] (List.forall_mem_cons.mpr ⟨(wa_26 _ (List.mem_of_getElem? (i := 18) (by decide +kernel))), (List.forall_mem_cons.mpr ⟨(wa_26 _ (List.mem_of_getElem? (i := 15) (by decide +kernel))), (List.forall_mem_cons.mpr ⟨(wa_26 _ (List.mem_of_getElem? (i := 16) (by decide +kernel))), (List.forall_mem_cons.mpr ⟨(wa_26 _ (List.mem_of_getElem? (i := 17) (by decide +kernel))), (List.forall_mem_cons.mpr ⟨(wa_1 _ (List.mem_of_getElem? (i := 5) (by decide +kernel))), (fun _ h => absurd h List.not_mem_nil)⟩)⟩)⟩)⟩)⟩)) rfl rfl rfl (by decide +kernel) ⟨Nat.le_of_ble_eq_true rfl, Nat.le_of_ble_eq_true rfl⟩) hZ.sp.1 kX11 rfl hl.1 rfl (Nat.le_of_ble_eq_true rfl) dX11_makes_15 ⟨Nat.le_of_ble_eq_true rfl, Nat.le_of_ble_eq_true rfl⟩) hW (fun H locs hW => ?_)
        refine lv_iload_n hx hb dX11_makes_18 rfl (lv_at hl 3 rfl) ?_
        refine lv_icmp_ne (tgt := 24) hx hb dX11_makes_19 (by decide) (fun c_2 => ?_) (fun c_2 => ?_)
        · skip
          refine lv_iinc (v := nI (k + 1)) (lv' := [(4, .int (nI (k + 1))), (0, .ref (ad 200)), (1, .int (nI u)), (2, .int (nI g)), (3, .int y)]) hx hb dX11_makes_24 hl (k := 4) rfl (m_inc k 1) (by decide) rfl (fun ls hl => ?_)
          refine lv_goto (tgt := 3) hx hb dX11_makes_27 (by decide) ?_
          exact ih_3  (k + 1)  _ _ _ (by omega) (by intro n hn; exact (Nat.lt_succ_iff_lt_or_eq.mp hn).elim (fun h => hno n h) (fun h => by rw [h, (hZ.ok.mkm he hg (by omega)).1]; exact c_2)) (by omega) hW (lv_sub hl [1, 2, 3, 4, 0] rfl)
        · skip
          refine lv_iconst (v := nI 1) hx hb dX11_makes_22 (by decide) ?_
          exact m_zret S hr hlk hW rfl dX11_makes_23 ⟨rfl, (by exact Or.inl ⟨rfl, fCan_t ⟨k, by omega, ((hZ.ok.mkm he hg (by omega)).1.trans c_2)⟩⟩)⟩
  exact loop_3 (16 - 0 + 1) 0  _ _ _ (by omega) (by intro n hn; omega) (by omega) hW (lv_sub hl [1, 2, 3, 4, 0] rfl)
set_option maxHeartbeats 4000000 in
set_option maxRecDepth 100000 in
theorem c_X11_jaws (l : Launch) (G : mG) (ad : Nat → Nat) (sh : Nat → Option mSh) (V : mV) (z : fZ) (ne ng rl : Nat) (tx : sT) (u g bf : Nat) (y : Int32) (hZ : MZ sh V z ne ng rl tx) (he : u < ne) (hg : g < ng) (hbf : bf < 2) : mM l yX11_jaws wsX11_jaws ({ frames := 4, cells := 0, slots := 0, locals := 95 } : Room) G ad sh V [.ref (ad 200), .int (nI u), .int (nI g), .int y, .int (nI bf)] 0 0 (mPi ad sh (fun r V' => (if bf = 0 then nI (fCount (zJw z u g y) 63) else fLeast (zJw z u g y) 63 1) = r ∧ V' = V)) := by
  refine mM.of (cc := cX11_jaws) (maxL := 10) (ret := (some .int)) (by decide) rfl (Nat.le_of_ble_eq_true rfl) ?_
  intro p e s m below meth c S hr hlk hnm hW ls hl
  obtain ⟨hx, hb, hml, hown, hts⟩ := id S
  have hl : lv_has ls 10 [(0, .ref (ad 200)), (1, .int (nI u)), (2, .int (nI g)), (3, .int y), (4, .int (nI bf))] := hl
  have hS0 : True := trivial
  have hne5 := hZ.ne5
  have hng6 := hZ.ng6
  refine lv_aload_n hx hb dX11_jaws_0 rfl (lv_at hl 0 rfl) ?_
  refine m_getr S hW hZ.sp.1 5 rfl (j := 204) rfl kX11 (iW11 _) (by decide) (List.mem_cons_of_mem _ (wa_11 _ (List.mem_of_getElem? (i := 5) (by decide +kernel)))) dX11_jaws_1 ?_
  refine lv_iconst (v := nI 3) hx hb dX11_jaws_4 (by decide) ?_
  refine lv_iload_n hx hb dX11_jaws_5 rfl (lv_at hl 1 rfl) ?_
  refine lv_imul hx hb dX11_jaws_6 ?_
  refine m_top (y := nI (3 * u)) (pk_mul 3 u) ?_
  refine m_iald S hW hZ.sp.2.2.2.2.1 (3 * u) rfl (by omega) (by decide) dX11_jaws_7 ?_
  refine lv_istore (lv' := [(5, .int (V 204 (3 * u))), (0, .ref (ad 200)), (1, .int (nI u)), (2, .int (nI g)), (3, .int y), (4, .int (nI bf))]) hx hb dX11_jaws_8 hl (by decide) rfl (fun ls hl => ?_)
  refine lv_iconst (v := nI 0) hx hb dX11_jaws_10 (by decide) ?_
  refine lv_istore (lv' := [(6, .int (nI 0)), (5, .int (V 204 (3 * u))), (0, .ref (ad 200)), (1, .int (nI u)), (2, .int (nI g)), (3, .int y), (4, .int (nI bf))]) hx hb dX11_jaws_11 hl (by decide) rfl (fun ls hl => ?_)
  refine lv_iconst (v := -1) hx hb dX11_jaws_13 (by decide) ?_
  refine lv_istore (lv' := [(7, .int (-1)), (6, .int (nI 0)), (5, .int (V 204 (3 * u))), (0, .ref (ad 200)), (1, .int (nI u)), (2, .int (nI g)), (3, .int y), (4, .int (nI bf))]) hx hb dX11_jaws_14 hl (by decide) rfl (fun ls hl => ?_)
  refine lv_iconst (v := nI 1) hx hb dX11_jaws_16 (by decide) ?_
  refine lv_istore (lv' := [(8, .int (nI 1)), (7, .int (-1)), (6, .int (nI 0)), (5, .int (V 204 (3 * u))), (0, .ref (ad 200)), (1, .int (nI u)), (2, .int (nI g)), (3, .int y), (4, .int (nI bf))]) hx hb dX11_jaws_17 hl (by decide) rfl (fun ls hl => ?_)
  have loop_19 : ∀ (n_19 : Nat) (cn : Nat) (ls0 wx : Int32) (k : Nat) (V1 : mV) (H : Heap) (locs : List Loc) (ls : Array Slot), (1 ≤ k ∧ k ≤ 64) → (V1 = mU V 204 (3 * u) wx) → (cn = fCount (zJw z u g y) (k - 1)) → (ls0 = fLe (zJw z u g y) (k - 1)) → (64 - k) < n_19 → mC (mA ad sh s.heap.size) s.heap s G ad sh V1 H locs → lv_has ls 10 [(0, .ref (ad 200)), (1, .int (nI u)), (2, .int (nI g)), (3, .int y), (4, .int (nI bf)), (5, .int (V 204 (3 * u))), (6, .int (nI cn)), (7, .int ls0), (8, .int (nI k))] → W p l e ({ frames := 4, cells := 0, slots := 0, locals := 95 } : Room) s m ([.ref (ad 200), .int (nI u), .int (nI g), .int y, .int (nI bf)] : List Value).toArray below meth c H locs 0 0 (MQ below (mPost G ad sh s.heap.size (mPi ad sh (fun r V' => (if bf = 0 then nI (fCount (zJw z u g y) 63) else fLeast (zJw z u g y) 63 1) = r ∧ V' = V))) ([.ref (ad 200), .int (nI u), .int (nI g), .int y, .int (nI bf)] : List Value).toArray s 0 0 (mA ad sh s.heap.size)) (F0 m 19 ls []) := by
    intro n_19
    induction n_19 with
    | zero => intro cn ls0 wx k V1 H locs ls hk hv hn hls hM_ hW hl; omega
    | succ n_19 ih_19 =>
      intro cn ls0 wx k V1 H locs ls hk hv hn hls hM_ hW hl
      refine lv_iload hx hb dX11_jaws_19 (lv_at hl 8 rfl) ?_
      refine lv_bipush (v := nI 63) hx hb dX11_jaws_21 (by decide) ?_
      refine lv_icmp_gt (tgt := 86) hx hb dX11_jaws_23 (by decide) (fun c_1 => ?_) (fun c_1 => ?_)
      · skip
        have c_1 : 63 < k := (nI_ltI (by omega) (by omega)).mp c_1
        refine lv_aload_n hx hb dX11_jaws_86 rfl (lv_at hl 0 rfl) ?_
        refine m_getr S hW hZ.sp.1 5 rfl (j := 204) rfl kX11 (iW11 _) (by decide) (List.mem_cons_of_mem _ (wa_11 _ (List.mem_of_getElem? (i := 5) (by decide +kernel)))) dX11_jaws_87 ?_
        refine lv_iconst (v := nI 3) hx hb dX11_jaws_90 (by decide) ?_
        refine lv_iload_n hx hb dX11_jaws_91 rfl (lv_at hl 1 rfl) ?_
        refine lv_imul hx hb dX11_jaws_92 ?_
        refine m_top (y := nI (3 * u)) (pk_mul 3 u) ?_
        refine lv_iload hx hb dX11_jaws_93 (lv_at hl 5 rfl) ?_
        refine m_iast S hW hZ.sp.2.2.2.2.1 (3 * u) rfl (by omega) (by decide) dX11_jaws_95 (fun H locs hW => ?_)
        obtain ⟨V_2, eV_2⟩ : ∃ vv_ : mV, vv_ = mU V1 204 (3 * u) ((V 204 (3 * u))) := ⟨_, rfl⟩
        rw [← eV_2] at hW
        refine lv_iload hx hb dX11_jaws_96 (lv_at hl 4 rfl) ?_
        refine m_if_eq (tgt := 106) hx hb dX11_jaws_98 (by decide) (fun c_3 => ?_) (fun c_3 => ?_)
        · skip
          have c_3 : bf = 0 := (nI_eq (by omega) (by omega)).mp c_3
          refine lv_iload hx hb dX11_jaws_106 (lv_at hl 6 rfl) ?_
          exact m_iret S hr hlk hW dX11_jaws_108 (by refine ⟨?_, by rw [eV_2, hv, mU_mU, mU_self]; rfl⟩; rw [show k - 1 = 63 by omega] at hn hls; rw [if_pos c_3, hn])
        · skip
          have c_3 : ¬ bf = 0 := mt (nI_eq (by omega) (by omega)).mpr c_3
          refine lv_iload hx hb dX11_jaws_101 (lv_at hl 7 rfl) ?_
          refine lv_goto (tgt := 108) hx hb dX11_jaws_103 (by decide) ?_
          exact m_iret S hr hlk hW dX11_jaws_108 (by refine ⟨?_, by rw [eV_2, hv, mU_mU, mU_self]; rfl⟩; rw [show k - 1 = 63 by omega] at hn hls; rw [if_neg c_3]; rw [fLe_least 63 0 rfl (by omega), hls])
      · skip
        have c_1 : ¬ 63 < k := mt (nI_ltI (by omega) (by omega)).mpr c_1
        refine lv_aload_n hx hb dX11_jaws_26 rfl (lv_at hl 0 rfl) ?_
        refine m_getr S hW hZ.sp.1 5 rfl (j := 204) rfl kX11 (iW11 _) (by decide) (List.mem_cons_of_mem _ (wa_11 _ (List.mem_of_getElem? (i := 5) (by decide +kernel)))) dX11_jaws_27 ?_
        refine lv_iconst (v := nI 3) hx hb dX11_jaws_30 (by decide) ?_
        refine lv_iload_n hx hb dX11_jaws_31 rfl (lv_at hl 1 rfl) ?_
        refine lv_imul hx hb dX11_jaws_32 ?_
        refine m_top (y := nI (3 * u)) (pk_mul 3 u) ?_
        refine lv_iload hx hb dX11_jaws_33 (lv_at hl 8 rfl) ?_
        refine m_iast S hW hZ.sp.2.2.2.2.1 (3 * u) rfl (by omega) (by decide) dX11_jaws_35 (fun H locs hW => ?_)
        obtain ⟨V_4, eV_4⟩ : ∃ vv_ : mV, vv_ = mU V1 204 (3 * u) (nI k) := ⟨_, rfl⟩
        rw [← eV_4] at hW
        have hZj := hZ.uJa he hk.1 (show k < 64 by omega)
        have eVj : V_4 = mU V 204 (3 * u) (nI k) := by rw [eV_4, hv, mU_mU]
        rw [← eVj] at hZj
        refine lv_aload_n hx hb dX11_jaws_36 rfl (lv_at hl 0 rfl) ?_
        refine lv_iload_n hx hb dX11_jaws_37 rfl (lv_at hl 1 rfl) ?_
        refine lv_iload_n hx hb dX11_jaws_38 rfl (lv_at hl 2 rfl) ?_
        refine lv_iload_n hx hb dX11_jaws_39 rfl (lv_at hl 3 rfl) ?_
        refine m_cip (m_rV S hW (c_X11_makes l G ad sh V_4 (mU z (4 + u) 2 (nI k)) ne ng rl tx u g y hZj (by first | assumption | omega) (by first | assumption | omega)) (cwV 3 hts (gCall [.methodLink RX11 246 yX11_makes, .instanceMethod yX11_makes, .selects RX11 yX11_makes yX11_makes, .initialized RX11] (List.forall_mem_cons.mpr ⟨(wa_37 _ (List.mem_of_getElem? (i := 3) (by decide +kernel))), (List.forall_mem_cons.mpr ⟨(wa_37 _ (List.mem_of_getElem? (i := 0) (by decide +kernel))), (List.forall_mem_cons.mpr ⟨(wa_37 _ (List.mem_of_getElem? (i := 1) (by decide +kernel))), (List.forall_mem_cons.mpr ⟨(wa_37 _ (List.mem_of_getElem? (i := 2) (by decide +kernel))), (List.forall_mem_cons.mpr ⟨(wa_1 _ (List.mem_of_getElem? (i := 5) (by decide +kernel))), (fun _ h => absurd h List.not_mem_nil)⟩)⟩)⟩)⟩)⟩)) rfl rfl rfl (by decide +kernel) ⟨Nat.le_of_ble_eq_true rfl, Nat.le_of_ble_eq_true rfl⟩) hZ.sp.1 kX11 rfl hl.1 rfl (Nat.le_of_ble_eq_true rfl) dX11_jaws_40 ⟨Nat.le_of_ble_eq_true rfl, Nat.le_of_ble_eq_true rfl⟩) hW (fun r_6 H locs hp_5 hW => ?_)
        rcases hp_5 with ⟨rfl, w_7⟩ | ⟨rfl, w_8⟩
        · skip
          refine lv_istore (lv' := [(9, .int (nI 1)), (0, .ref (ad 200)), (1, .int (nI u)), (2, .int (nI g)), (3, .int y), (4, .int (nI bf)), (5, .int (V 204 (3 * u))), (6, .int (nI cn)), (7, .int ls0), (8, .int (nI k))]) hx hb dX11_jaws_43 hl (by decide) rfl (fun ls hl => ?_)
          refine lv_iload hx hb dX11_jaws_45 (lv_at hl 7 rfl) ?_
          refine lv_iload hx hb dX11_jaws_47 (lv_at hl 0 rfl) ?_
          refine m_if_eq (tgt := 56) hx hb dX11_jaws_49 (by decide) (fun c_9 => ?_) (fun c_9 => ?_)
          · exact absurd c_9 (by decide)
          · skip
            refine lv_iconst (v := nI 1) hx hb dX11_jaws_52 (by decide) ?_
            refine lv_goto (tgt := 57) hx hb dX11_jaws_53 (by decide) ?_
            refine lv_iadd hx hb dX11_jaws_57 ?_
            refine m_top (y := nI (cn + 1)) (nI_add cn 1) ?_
            refine lv_istore (lv' := [(6, .int (nI (cn + 1))), (9, .int (nI 1)), (0, .ref (ad 200)), (1, .int (nI u)), (2, .int (nI g)), (3, .int y), (4, .int (nI bf)), (5, .int (V 204 (3 * u))), (7, .int ls0), (8, .int (nI k))]) hx hb dX11_jaws_58 hl (by decide) rfl (fun ls hl => ?_)
            refine lv_iload hx hb dX11_jaws_60 (lv_at hl 1 rfl) ?_
            refine m_if_eq (tgt := 76) hx hb dX11_jaws_62 (by decide) (fun c_10 => ?_) (fun c_10 => ?_)
            · exact absurd c_10 (by decide)
            · skip
              refine lv_iload hx hb dX11_jaws_65 (lv_at hl 8 rfl) ?_
              refine lv_iconst (v := -1) hx hb dX11_jaws_67 (by decide) ?_
              refine lv_icmp_ne (tgt := 76) hx hb dX11_jaws_68 (by decide) (fun c_11 => ?_) (fun c_11 => ?_)
              · skip
                refine lv_iload hx hb dX11_jaws_76 (lv_at hl 8 rfl) ?_
                refine lv_istore (lv' := [(7, .int ls0), (6, .int (nI (cn + 1))), (9, .int (nI 1)), (0, .ref (ad 200)), (1, .int (nI u)), (2, .int (nI g)), (3, .int y), (4, .int (nI bf)), (5, .int (V 204 (3 * u))), (8, .int (nI k))]) hx hb dX11_jaws_78 hl (by decide) rfl (fun ls hl => ?_)
                refine lv_iinc (v := nI (k + 1)) (lv' := [(8, .int (nI (k + 1))), (7, .int ls0), (6, .int (nI (cn + 1))), (9, .int (nI 1)), (0, .ref (ad 200)), (1, .int (nI u)), (2, .int (nI g)), (3, .int y), (4, .int (nI bf)), (5, .int (V 204 (3 * u)))]) hx hb dX11_jaws_80 hl (k := 9) rfl (m_inc k 1) (by decide) rfl (fun ls hl => ?_)
                refine lv_goto (tgt := 19) hx hb dX11_jaws_83 (by decide) ?_
                exact ih_19  (cn + 1) ls0 (nI k) (k + 1) V_4 _ _ _ (by omega) (by rw [eV_4, hv, mU_mU]) (by have hjw := w_7; rw [zJw_u _ _ _ _ _ (by omega)] at hjw; rw [show k + 1 - 1 = k by omega, fCount_s (by omega)]; rw [if_pos hjw, ← hn]) (by have hjw := w_7; rw [zJw_u _ _ _ _ _ (by omega)] at hjw; rw [show k + 1 - 1 = (k - 1) + 1 by omega, fLe, ← hls, show k - 1 + 1 = k by omega]; first | (rw [if_pos ⟨c_11, hjw⟩]; done) | (rw [if_neg (fun z => c_11 z.1)]; done)) (by omega) hW (lv_sub hl [4, 5, 6, 7, 8, 9, 2, 1, 0] rfl)
              · skip
                refine lv_iload hx hb dX11_jaws_71 (lv_at hl 9 rfl) ?_
                refine lv_goto (tgt := 78) hx hb dX11_jaws_73 (by decide) ?_
                refine lv_istore (lv' := [(7, .int (nI k)), (6, .int (nI (cn + 1))), (9, .int (nI 1)), (0, .ref (ad 200)), (1, .int (nI u)), (2, .int (nI g)), (3, .int y), (4, .int (nI bf)), (5, .int (V 204 (3 * u))), (8, .int (nI k))]) hx hb dX11_jaws_78 hl (by decide) rfl (fun ls hl => ?_)
                refine lv_iinc (v := nI (k + 1)) (lv' := [(8, .int (nI (k + 1))), (7, .int (nI k)), (6, .int (nI (cn + 1))), (9, .int (nI 1)), (0, .ref (ad 200)), (1, .int (nI u)), (2, .int (nI g)), (3, .int y), (4, .int (nI bf)), (5, .int (V 204 (3 * u)))]) hx hb dX11_jaws_80 hl (k := 9) rfl (m_inc k 1) (by decide) rfl (fun ls hl => ?_)
                refine lv_goto (tgt := 19) hx hb dX11_jaws_83 (by decide) ?_
                exact ih_19  (cn + 1) (nI k) (nI k) (k + 1) V_4 _ _ _ (by omega) (by rw [eV_4, hv, mU_mU]) (by have hjw := w_7; rw [zJw_u _ _ _ _ _ (by omega)] at hjw; rw [show k + 1 - 1 = k by omega, fCount_s (by omega)]; rw [if_pos hjw, ← hn]) (by have hjw := w_7; rw [zJw_u _ _ _ _ _ (by omega)] at hjw; rw [show k + 1 - 1 = (k - 1) + 1 by omega, fLe, ← hls, show k - 1 + 1 = k by omega]; first | (rw [if_pos ⟨c_11, hjw⟩]; done) | (rw [if_neg (fun z => c_11 z.1)]; done)) (by omega) hW (lv_sub hl [4, 5, 6, 7, 8, 9, 2, 1, 0] rfl)
        · skip
          refine lv_istore (lv' := [(9, .int (nI 0)), (0, .ref (ad 200)), (1, .int (nI u)), (2, .int (nI g)), (3, .int y), (4, .int (nI bf)), (5, .int (V 204 (3 * u))), (6, .int (nI cn)), (7, .int ls0), (8, .int (nI k))]) hx hb dX11_jaws_43 hl (by decide) rfl (fun ls hl => ?_)
          refine lv_iload hx hb dX11_jaws_45 (lv_at hl 7 rfl) ?_
          refine lv_iload hx hb dX11_jaws_47 (lv_at hl 0 rfl) ?_
          refine m_if_eq (tgt := 56) hx hb dX11_jaws_49 (by decide) (fun c_12 => ?_) (fun c_12 => ?_)
          · skip
            refine lv_iconst (v := nI 0) hx hb dX11_jaws_56 (by decide) ?_
            refine lv_iadd hx hb dX11_jaws_57 ?_
            refine m_top (y := nI (cn + 0)) (nI_add cn 0) ?_
            refine lv_istore (lv' := [(6, .int (nI (cn + 0))), (9, .int (nI 0)), (0, .ref (ad 200)), (1, .int (nI u)), (2, .int (nI g)), (3, .int y), (4, .int (nI bf)), (5, .int (V 204 (3 * u))), (7, .int ls0), (8, .int (nI k))]) hx hb dX11_jaws_58 hl (by decide) rfl (fun ls hl => ?_)
            refine lv_iload hx hb dX11_jaws_60 (lv_at hl 1 rfl) ?_
            refine m_if_eq (tgt := 76) hx hb dX11_jaws_62 (by decide) (fun c_13 => ?_) (fun c_13 => ?_)
            · skip
              refine lv_iload hx hb dX11_jaws_76 (lv_at hl 8 rfl) ?_
              refine lv_istore (lv' := [(7, .int ls0), (6, .int (nI (cn + 0))), (9, .int (nI 0)), (0, .ref (ad 200)), (1, .int (nI u)), (2, .int (nI g)), (3, .int y), (4, .int (nI bf)), (5, .int (V 204 (3 * u))), (8, .int (nI k))]) hx hb dX11_jaws_78 hl (by decide) rfl (fun ls hl => ?_)
              refine lv_iinc (v := nI (k + 1)) (lv' := [(8, .int (nI (k + 1))), (7, .int ls0), (6, .int (nI (cn + 0))), (9, .int (nI 0)), (0, .ref (ad 200)), (1, .int (nI u)), (2, .int (nI g)), (3, .int y), (4, .int (nI bf)), (5, .int (V 204 (3 * u)))]) hx hb dX11_jaws_80 hl (k := 9) rfl (m_inc k 1) (by decide) rfl (fun ls hl => ?_)
              refine lv_goto (tgt := 19) hx hb dX11_jaws_83 (by decide) ?_
              exact ih_19  (cn + 0) ls0 (nI k) (k + 1) V_4 _ _ _ (by omega) (by rw [eV_4, hv, mU_mU]) (by have hjw := w_8; rw [zJw_u _ _ _ _ _ (by omega)] at hjw; rw [show k + 1 - 1 = k by omega, fCount_s (by omega)]; rw [if_neg hjw, ← hn] <;> rfl) (by have hjw := w_8; rw [zJw_u _ _ _ _ _ (by omega)] at hjw; rw [show k + 1 - 1 = (k - 1) + 1 by omega, fLe, ← hls, show k - 1 + 1 = k by omega]; rw [if_neg (fun z => hjw z.2)]) (by omega) hW (lv_sub hl [4, 5, 6, 7, 8, 9, 2, 1, 0] rfl)
            · exact absurd c_13 (by decide)
          · exact absurd c_12 (by decide)
  exact loop_19 (64 - 1 + 1) 0 (-1) (V 204 (3 * u)) 1 V _ _ _ (by omega) (by rw [mU_self]; rfl) (by rfl) (by rfl) (by omega) hW (lv_sub hl [4, 5, 6, 7, 8, 3, 2, 1, 0] rfl)
set_option maxHeartbeats 4000000 in
set_option maxRecDepth 100000 in
theorem c_X11_isMark (l : Launch) (G : mG) (ad : Nat → Nat) (sh : Nat → Option mSh) (V : mV) (z : fZ) (ne ng rl : Nat) (tx : sT) (g : Nat) (y : Int32) (hZ : MZ sh V z ne ng rl tx) (hg : g < ng) : mM l yX11_isMark wsX11_isMark ({ frames := 1, cells := 0, slots := 0, locals := 22 } : Room) G ad sh V [.ref (ad 200), .int (nI g), .int y] 0 0 (mPip ad sh V (fun r => (nI 1 = r ∧ (zMkOk z g y)) ∨ (nI 0 = r ∧ (¬ zMkOk z g y)))) := by
  refine mM.of (cc := cX11_isMark) (maxL := 3) (ret := (some .boolean)) (by decide) rfl (Nat.le_of_ble_eq_true rfl) ?_
  intro p e s m below meth c S hr hlk hnm hW ls hl
  obtain ⟨hx, hb, hml, hown, hts⟩ := id S
  have hl : lv_has ls 3 [(0, .ref (ad 200)), (1, .int (nI g)), (2, .int y)] := hl
  have hS0 : True := trivial
  have hne5 := hZ.ne5
  have hng6 := hZ.ng6
  refine lv_iload_n hx hb dX11_isMark_0 rfl (lv_at hl 2 rfl) ?_
  refine lv_iconst (v := nI 1) hx hb dX11_isMark_1 (by decide) ?_
  refine lv_sipush (v := nI 1023) hx hb dX11_isMark_2 (by decide) ?_
  refine m_cip (m_rS S hW (c_X11_in l G ad sh V y 1 1023 (by first | assumption | omega) (by first | assumption | omega)) (va_cwS 3 hts (gCall [.methodLink RX11 84 yX11_in, .static yX11_in, .initialized RX11] (List.forall_mem_cons.mpr ⟨(wa_12 _ (List.mem_of_getElem? (i := 16) (by decide +kernel))), (List.forall_mem_cons.mpr ⟨(wa_12 _ (List.mem_of_getElem? (i := 14) (by decide +kernel))), (List.forall_mem_cons.mpr ⟨(wa_12 _ (List.mem_of_getElem? (i := 15) (by decide +kernel))), (List.forall_mem_cons.mpr ⟨(wa_1 _ (List.mem_of_getElem? (i := 5) (by decide +kernel))), (fun _ h => absurd h List.not_mem_nil)⟩)⟩)⟩)⟩)) rfl rfl rfl (by decide +kernel) ⟨Nat.le_of_ble_eq_true rfl, Nat.le_of_ble_eq_true rfl⟩) rfl hl.1 rfl (Nat.le_of_ble_eq_true rfl) dX11_isMark_5 ⟨Nat.le_of_ble_eq_true rfl, Nat.le_of_ble_eq_true rfl⟩) hW (fun r_2 H locs hp_1 hW => ?_)
  rcases hp_1 with ⟨rfl, w_3⟩ | ⟨rfl, w_4⟩
  · skip
    refine m_if_eq (tgt := 27) hx hb dX11_isMark_8 (by decide) (fun c_5 => ?_) (fun c_5 => ?_)
    · exact absurd c_5 (by decide)
    · skip
      refine lv_iload_n hx hb dX11_isMark_11 rfl (lv_at hl 2 rfl) ?_
      refine lv_aload_n hx hb dX11_isMark_12 rfl (lv_at hl 0 rfl) ?_
      refine lv_iload_n hx hb dX11_isMark_13 rfl (lv_at hl 1 rfl) ?_
      refine m_cie (m_rV S hW (c_X11_leftOf l G ad sh V g (zn z (10 + 2 * g) 2) hZ.sp.1 hZ.sp.2.1 (hZ.rLe (by first | assumption | omega)) (by omega)) (cwV 1 hts (gCall [.methodLink RX11 167 yX11_leftOf, .instanceMethod yX11_leftOf, .selects RX11 yX11_leftOf yX11_leftOf, .initialized RX11] (List.forall_mem_cons.mpr ⟨(wa_19 _ (List.mem_of_getElem? (i := 19) (by decide +kernel))), (List.forall_mem_cons.mpr ⟨(wa_19 _ (List.mem_of_getElem? (i := 16) (by decide +kernel))), (List.forall_mem_cons.mpr ⟨(wa_19 _ (List.mem_of_getElem? (i := 17) (by decide +kernel))), (List.forall_mem_cons.mpr ⟨(wa_19 _ (List.mem_of_getElem? (i := 18) (by decide +kernel))), (List.forall_mem_cons.mpr ⟨(wa_1 _ (List.mem_of_getElem? (i := 5) (by decide +kernel))), (fun _ h => absurd h List.not_mem_nil)⟩)⟩)⟩)⟩)⟩)) rfl rfl rfl (by decide +kernel) ⟨Nat.le_of_ble_eq_true rfl, Nat.le_of_ble_eq_true rfl⟩) hZ.sp.1 kX11 rfl hl.1 rfl (Nat.le_of_ble_eq_true rfl) dX11_isMark_14 ⟨Nat.le_of_ble_eq_true rfl, Nat.le_of_ble_eq_true rfl⟩) hW (fun H locs hW => ?_)
      refine lv_iconst (v := -1) hx hb dX11_isMark_17 (by decide) ?_
      refine lv_ixor hx hb dX11_isMark_18 ?_
      refine lv_iand hx hb dX11_isMark_19 ?_
      refine m_if_ne (tgt := 27) hx hb dX11_isMark_20 (by decide) (fun c_6 => ?_) (fun c_6 => ?_)
      · skip
        refine lv_iconst (v := nI 0) hx hb dX11_isMark_27 (by decide) ?_
        exact m_zret S hr hlk hW rfl dX11_isMark_28 ⟨rfl, (by rw [zMkOk, (hZ.ok.le hg).1]; exact Or.inr ⟨rfl, fun h => c_6 h.2⟩)⟩
      · skip
        refine lv_iconst (v := nI 1) hx hb dX11_isMark_23 (by decide) ?_
        refine lv_goto (tgt := 28) hx hb dX11_isMark_24 (by decide) ?_
        exact m_zret S hr hlk hW rfl dX11_isMark_28 ⟨rfl, (by rw [zMkOk, (hZ.ok.le hg).1]; exact Or.inl ⟨rfl, w_3, c_6⟩)⟩
  · skip
    refine m_if_eq (tgt := 27) hx hb dX11_isMark_8 (by decide) (fun c_7 => ?_) (fun c_7 => ?_)
    · skip
      refine lv_iconst (v := nI 0) hx hb dX11_isMark_27 (by decide) ?_
      exact m_zret S hr hlk hW rfl dX11_isMark_28 ⟨rfl, (by rw [zMkOk, (hZ.ok.le hg).1]; exact Or.inr ⟨rfl, fun h => w_4 h.1⟩)⟩
    · exact absurd c_7 (by decide)
set_option maxHeartbeats 4000000 in
set_option maxRecDepth 100000 in
theorem c_X11_duelOne (l : Launch) (G : mG) (ad : Nat → Nat) (sh : Nat → Option mSh) (V : mV) (z : fZ) (ne ng rl : Nat) (tx : sT) (u : Nat) (hZ : MZ sh V z ne ng rl tx) (he : u < ne) : mM l yX11_duelOne wsX11_duelOne ({ frames := 5, cells := 0, slots := 0, locals := 119 } : Room) G ad sh V [.ref (ad 200), .int (nI u)] 0 0 (mPe ad sh V ((zOneF (askT tx) z u (ng * 16)).2)) := by
  refine mM.of (cc := cX11_duelOne) (maxL := 7) (ret := (some .int)) (by decide) rfl (Nat.le_of_ble_eq_true rfl) ?_
  intro p e s m below meth c S hr hlk hnm hW ls hl
  obtain ⟨hx, hb, hml, hown, hts⟩ := id S
  have hl : lv_has ls 7 [(0, .ref (ad 200)), (1, .int (nI u))] := hl
  have hS0 : True := trivial
  have hne5 := hZ.ne5
  have hng6 := hZ.ng6
  refine lv_iconst (v := nI 0) hx hb dX11_duelOne_0 (by decide) ?_
  refine lv_istore_n (lv' := [(2, .int (nI 0)), (0, .ref (ad 200)), (1, .int (nI u))]) hx hb dX11_duelOne_1 rfl hl (by decide) rfl (fun ls hl => ?_)
  refine lv_iconst (v := nI 0) hx hb dX11_duelOne_2 (by decide) ?_
  refine lv_istore_n (lv' := [(3, .int (nI 0)), (2, .int (nI 0)), (0, .ref (ad 200)), (1, .int (nI u))]) hx hb dX11_duelOne_3 rfl hl (by decide) rfl (fun ls hl => ?_)
  refine lv_iconst (v := nI 0) hx hb dX11_duelOne_4 (by decide) ?_
  refine lv_istore (lv' := [(4, .int (nI 0)), (3, .int (nI 0)), (2, .int (nI 0)), (0, .ref (ad 200)), (1, .int (nI u))]) hx hb dX11_duelOne_5 hl (by decide) rfl (fun ls hl => ?_)
  have loop_7 : ∀ (n_7 : Nat) (hn : Nat) (sm : Int32) (k : Nat) (H : Heap) (locs : List Loc) (ls : Array Slot), (k ≤ 16 * ng) → ((hn = 0 ∧ (zOneF (askT tx) z u k).1 = false) ∨ (hn = 1 ∧ (zOneF (askT tx) z u k).1 = true)) → (sm = (zOneF (askT tx) z u k).2) → (16 * ng - k) < n_7 → mC (mA ad sh s.heap.size) s.heap s G ad sh V H locs → lv_has ls 7 [(0, .ref (ad 200)), (1, .int (nI u)), (2, .int (nI hn)), (3, .int sm), (4, .int (nI k))] → W p l e ({ frames := 5, cells := 0, slots := 0, locals := 119 } : Room) s m ([.ref (ad 200), .int (nI u)] : List Value).toArray below meth c H locs 0 0 (MQ below (mPost G ad sh s.heap.size (mPe ad sh V ((zOneF (askT tx) z u (ng * 16)).2))) ([.ref (ad 200), .int (nI u)] : List Value).toArray s 0 0 (mA ad sh s.heap.size)) (F0 m 7 ls []) := by
    intro n_7
    induction n_7 with
    | zero => intro hn sm k H locs ls hk hh hs hM_ hW hl; omega
    | succ n_7 ih_7 =>
      intro hn sm k H locs ls hk hh hs hM_ hW hl
      refine lv_iload hx hb dX11_duelOne_7 (lv_at hl 4 rfl) ?_
      refine lv_bipush (v := nI 16) hx hb dX11_duelOne_9 (by decide) ?_
      refine lv_aload_n hx hb dX11_duelOne_11 rfl (lv_at hl 0 rfl) ?_
      refine m_geti S hW hZ.sp.1 0 rfl kX11 (iW11 _) (by decide) (List.mem_cons_of_mem _ (wa_15 _ (List.mem_of_getElem? (i := 1) (by decide +kernel)))) dX11_duelOne_12 ?_
      refine m_top (y := nI ng) hZ.ng_ ?_
      refine lv_imul hx hb dX11_duelOne_15 ?_
      refine m_top (y := nI (16 * ng)) (pk_mul 16 ng) ?_
      refine lv_icmp_ge (tgt := 106) hx hb dX11_duelOne_16 (by decide) (fun c_1 => ?_) (fun c_1 => ?_)
      · skip
        have c_1 : (16 * ng) ≤ k := (nI_leI (by omega) (by omega)).mp c_1
        refine lv_iload_n hx hb dX11_duelOne_106 rfl (lv_at hl 3 rfl) ?_
        exact m_iret S hr hlk hW dX11_duelOne_107 ⟨rfl, (by rw [show k = ng * 16 by omega] at hs; exact hs.symm)⟩
      · skip
        have c_1 : ¬ (16 * ng) ≤ k := mt (nI_leI (by omega) (by omega)).mpr c_1
        have hg16 : k / 16 < ng := by omega
        have hp16 : k % 16 < 16 := Nat.mod_lt _ (by decide)
        refine lv_aload_n hx hb dX11_duelOne_19 rfl (lv_at hl 0 rfl) ?_
        refine lv_iload_n hx hb dX11_duelOne_20 rfl (lv_at hl 1 rfl) ?_
        refine lv_iload hx hb dX11_duelOne_21 (lv_at hl 4 rfl) ?_
        refine lv_bipush (v := nI 16) hx hb dX11_duelOne_23 (by decide) ?_
        refine lv_idiv hx hb dX11_duelOne_25 (by decide) ?_
        refine m_top (y := nI (k / 16)) (pk_div (by omega) (by omega) (by omega)) ?_
        refine lv_iload hx hb dX11_duelOne_26 (lv_at hl 4 rfl) ?_
        refine lv_bipush (v := nI 16) hx hb dX11_duelOne_28 (by decide) ?_
        refine lv_irem hx hb dX11_duelOne_30 (by decide) ?_
        refine m_top (y := nI (k % 16)) (pk_rem (by omega) (by omega) (by omega)) ?_
        refine m_cip (m_rV S hW (c_X11_canBe l G ad sh V z ne ng rl tx u (k / 16) (k % 16) hZ (by first | assumption | omega) hg16 hp16) (cwV 3 hts (gCall [.methodLink RX11 216 yX11_canBe, .instanceMethod yX11_canBe, .selects RX11 yX11_canBe yX11_canBe, .initialized RX11] (List.forall_mem_cons.mpr ⟨(wa_29 _ (List.mem_of_getElem? (i := 19) (by decide +kernel))), (List.forall_mem_cons.mpr ⟨(wa_29 _ (List.mem_of_getElem? (i := 16) (by decide +kernel))), (List.forall_mem_cons.mpr ⟨(wa_29 _ (List.mem_of_getElem? (i := 17) (by decide +kernel))), (List.forall_mem_cons.mpr ⟨(wa_29 _ (List.mem_of_getElem? (i := 18) (by decide +kernel))), (List.forall_mem_cons.mpr ⟨(wa_1 _ (List.mem_of_getElem? (i := 5) (by decide +kernel))), (fun _ h => absurd h List.not_mem_nil)⟩)⟩)⟩)⟩)⟩)) rfl rfl rfl (by decide +kernel) ⟨Nat.le_of_ble_eq_true rfl, Nat.le_of_ble_eq_true rfl⟩) hZ.sp.1 kX11 rfl hl.1 rfl (Nat.le_of_ble_eq_true rfl) dX11_duelOne_31 ⟨Nat.le_of_ble_eq_true rfl, Nat.le_of_ble_eq_true rfl⟩) hW (fun r_3 H locs hp_2 hW => ?_)
        rcases hp_2 with ⟨rfl, w_4⟩ | ⟨rfl, w_5⟩
        · skip
          refine m_if_eq (tgt := 100) hx hb dX11_duelOne_34 (by decide) (fun c_6 => ?_) (fun c_6 => ?_)
          · exact absurd c_6 (by decide)
          · skip
            have hmk := hZ.ok.mkm he hg16 hp16
            refine lv_aload_n hx hb dX11_duelOne_37 rfl (lv_at hl 0 rfl) ?_
            refine lv_iload_n hx hb dX11_duelOne_38 rfl (lv_at hl 1 rfl) ?_
            refine lv_iload hx hb dX11_duelOne_39 (lv_at hl 4 rfl) ?_
            refine lv_bipush (v := nI 16) hx hb dX11_duelOne_41 (by decide) ?_
            refine lv_idiv hx hb dX11_duelOne_43 (by decide) ?_
            refine m_top (y := nI (k / 16)) (pk_div (by omega) (by omega) (by omega)) ?_
            refine lv_iload hx hb dX11_duelOne_44 (lv_at hl 4 rfl) ?_
            refine lv_bipush (v := nI 16) hx hb dX11_duelOne_46 (by decide) ?_
            refine lv_irem hx hb dX11_duelOne_48 (by decide) ?_
            refine m_top (y := nI (k % 16)) (pk_rem (by omega) (by omega) (by omega)) ?_
            refine m_cie (m_rV S hW (c_X11_markOf l G ad sh V z ne ng rl tx u (k / 16) (k % 16) hZ (by first | assumption | omega) hg16 hp16) (cwV 3 hts (gCall [.methodLink RX11 198 yX11_markOf, .instanceMethod yX11_markOf, .selects RX11 yX11_markOf yX11_markOf, .initialized RX11] (List.forall_mem_cons.mpr ⟨(wa_26 _ (List.mem_of_getElem? (i := 18) (by decide +kernel))), (List.forall_mem_cons.mpr ⟨(wa_26 _ (List.mem_of_getElem? (i := 15) (by decide +kernel))), (List.forall_mem_cons.mpr ⟨(wa_26 _ (List.mem_of_getElem? (i := 16) (by decide +kernel))), (List.forall_mem_cons.mpr ⟨(wa_26 _ (List.mem_of_getElem? (i := 17) (by decide +kernel))), (List.forall_mem_cons.mpr ⟨(wa_1 _ (List.mem_of_getElem? (i := 5) (by decide +kernel))), (fun _ h => absurd h List.not_mem_nil)⟩)⟩)⟩)⟩)⟩)) rfl rfl rfl (by decide +kernel) ⟨Nat.le_of_ble_eq_true rfl, Nat.le_of_ble_eq_true rfl⟩) hZ.sp.1 kX11 rfl hl.1 rfl (Nat.le_of_ble_eq_true rfl) dX11_duelOne_49 ⟨Nat.le_of_ble_eq_true rfl, Nat.le_of_ble_eq_true rfl⟩) hW (fun H locs hW => ?_)
            refine lv_istore (lv' := [(5, .int (nI (zm z u (k / 16) (k % 16)))), (0, .ref (ad 200)), (1, .int (nI u)), (2, .int (nI hn)), (3, .int sm), (4, .int (nI k))]) hx hb dX11_duelOne_52 hl (by decide) rfl (fun ls hl => ?_)
            refine lv_aload_n hx hb dX11_duelOne_54 rfl (lv_at hl 1 rfl) ?_
            refine lv_iload_n hx hb dX11_duelOne_55 rfl (lv_at hl 2 rfl) ?_
            refine lv_iload hx hb dX11_duelOne_56 (lv_at hl 5 rfl) ?_
            refine lv_bipush (v := nI 16) hx hb dX11_duelOne_58 (by decide) ?_
            refine lv_idiv hx hb dX11_duelOne_60 (by decide) ?_
            refine m_top (y := nI (k / 16)) (pk_div (by omega) (by omega) (by omega)) ?_
            refine lv_iload hx hb dX11_duelOne_61 (lv_at hl 0 rfl) ?_
            refine m_cie (m_rV S hW (c_X11_likesOf l G ad sh V z ne ng rl tx u (k / 16) (zm z u (k / 16) (k % 16)) hZ (by first | assumption | omega) hg16 hmk.2) (cwV 3 hts (gCall [.methodLink RX11 207 yX11_likesOf, .instanceMethod yX11_likesOf, .selects RX11 yX11_likesOf yX11_likesOf, .initialized RX11] (List.forall_mem_cons.mpr ⟨(wa_27 _ (List.mem_of_getElem? (i := 9) (by decide +kernel))), (List.forall_mem_cons.mpr ⟨(wa_27 _ (List.mem_of_getElem? (i := 6) (by decide +kernel))), (List.forall_mem_cons.mpr ⟨(wa_27 _ (List.mem_of_getElem? (i := 7) (by decide +kernel))), (List.forall_mem_cons.mpr ⟨(wa_27 _ (List.mem_of_getElem? (i := 8) (by decide +kernel))), (List.forall_mem_cons.mpr ⟨(wa_1 _ (List.mem_of_getElem? (i := 5) (by decide +kernel))), (fun _ h => absurd h List.not_mem_nil)⟩)⟩)⟩)⟩)⟩)) rfl rfl rfl (by decide +kernel) ⟨Nat.le_of_ble_eq_true rfl, Nat.le_of_ble_eq_true rfl⟩) hZ.sp.1 kX11 rfl hl.1 rfl (Nat.le_of_ble_eq_true rfl) dX11_duelOne_63 ⟨Nat.le_of_ble_eq_true rfl, Nat.le_of_ble_eq_true rfl⟩) hW (fun H locs hW => ?_)
            refine lv_aload_n hx hb dX11_duelOne_66 rfl (lv_at hl 1 rfl) ?_
            refine lv_iload_n hx hb dX11_duelOne_67 rfl (lv_at hl 2 rfl) ?_
            refine lv_iload hx hb dX11_duelOne_68 (lv_at hl 5 rfl) ?_
            refine lv_bipush (v := nI 16) hx hb dX11_duelOne_70 (by decide) ?_
            refine lv_idiv hx hb dX11_duelOne_72 (by decide) ?_
            refine m_top (y := nI (k / 16)) (pk_div (by omega) (by omega) (by omega)) ?_
            refine lv_iload hx hb dX11_duelOne_73 (lv_at hl 0 rfl) ?_
            refine m_cie (m_rV S hW (c_X11_costsOf l G ad sh V z ne ng rl tx u (k / 16) (zm z u (k / 16) (k % 16)) hZ (by first | assumption | omega) hg16 hmk.2) (cwV 3 hts (gCall [.methodLink RX11 201 yX11_costsOf, .instanceMethod yX11_costsOf, .selects RX11 yX11_costsOf yX11_costsOf, .initialized RX11] (List.forall_mem_cons.mpr ⟨(wa_27 _ (List.mem_of_getElem? (i := 1) (by decide +kernel))), (List.forall_mem_cons.mpr ⟨(wa_26 _ (List.mem_of_getElem? (i := 22) (by decide +kernel))), (List.forall_mem_cons.mpr ⟨(wa_26 _ (List.mem_of_getElem? (i := 23) (by decide +kernel))), (List.forall_mem_cons.mpr ⟨(wa_27 _ (List.mem_of_getElem? (i := 0) (by decide +kernel))), (List.forall_mem_cons.mpr ⟨(wa_1 _ (List.mem_of_getElem? (i := 5) (by decide +kernel))), (fun _ h => absurd h List.not_mem_nil)⟩)⟩)⟩)⟩)⟩)) rfl rfl rfl (by decide +kernel) ⟨Nat.le_of_ble_eq_true rfl, Nat.le_of_ble_eq_true rfl⟩) hZ.sp.1 kX11 rfl hl.1 rfl (Nat.le_of_ble_eq_true rfl) dX11_duelOne_75 ⟨Nat.le_of_ble_eq_true rfl, Nat.le_of_ble_eq_true rfl⟩) hW (fun H locs hW => ?_)
            refine lv_isub hx hb dX11_duelOne_78 ?_
            refine m_top (y := (zGa (askT tx) z u (k / 16) (k % 16))) (by rw [zGa, hmk.1]) ?_
            refine lv_istore (lv' := [(6, .int (zGa (askT tx) z u (k / 16) (k % 16))), (5, .int (nI (zm z u (k / 16) (k % 16)))), (0, .ref (ad 200)), (1, .int (nI u)), (2, .int (nI hn)), (3, .int sm), (4, .int (nI k))]) hx hb dX11_duelOne_79 hl (by decide) rfl (fun ls hl => ?_)
            refine lv_iload_n hx hb dX11_duelOne_81 rfl (lv_at hl 4 rfl) ?_
            refine m_if_eq (tgt := 91) hx hb dX11_duelOne_82 (by decide) (fun c_7 => ?_) (fun c_7 => ?_)
            · skip
              have c_7 : hn = 0 := (nI_eq (by omega) (by omega)).mp c_7
              refine lv_iload hx hb dX11_duelOne_91 (lv_at hl 0 rfl) ?_
              refine lv_goto (tgt := 97) hx hb dX11_duelOne_93 (by decide) ?_
              refine lv_istore_n (lv' := [(3, .int (zGa (askT tx) z u (k / 16) (k % 16))), (6, .int (zGa (askT tx) z u (k / 16) (k % 16))), (5, .int (nI (zm z u (k / 16) (k % 16)))), (0, .ref (ad 200)), (1, .int (nI u)), (2, .int (nI hn)), (4, .int (nI k))]) hx hb dX11_duelOne_97 rfl hl (by decide) rfl (fun ls hl => ?_)
              refine lv_iconst (v := nI 1) hx hb dX11_duelOne_98 (by decide) ?_
              refine lv_istore_n (lv' := [(2, .int (nI 1)), (3, .int (zGa (askT tx) z u (k / 16) (k % 16))), (6, .int (zGa (askT tx) z u (k / 16) (k % 16))), (5, .int (nI (zm z u (k / 16) (k % 16)))), (0, .ref (ad 200)), (1, .int (nI u)), (4, .int (nI k))]) hx hb dX11_duelOne_99 rfl hl (by decide) rfl (fun ls hl => ?_)
              refine lv_iinc (v := nI (k + 1)) (lv' := [(4, .int (nI (k + 1))), (2, .int (nI 1)), (3, .int (zGa (askT tx) z u (k / 16) (k % 16))), (6, .int (zGa (askT tx) z u (k / 16) (k % 16))), (5, .int (nI (zm z u (k / 16) (k % 16)))), (0, .ref (ad 200)), (1, .int (nI u))]) hx hb dX11_duelOne_100 hl (k := 6) rfl (m_inc k 1) (by decide) rfl (fun ls hl => ?_)
              refine lv_goto (tgt := 7) hx hb dX11_duelOne_103 (by decide) ?_
              exact ih_7  1 (zGa (askT tx) z u (k / 16) (k % 16)) (k + 1)  _ _ _ (by omega) (by rw [zOneF_u w_4 (Or.inl (hh.elim (fun z => z.2) (fun z => absurd c_7 (by omega))))]; exact Or.inr ⟨rfl, rfl⟩) (by rw [zOneF_u w_4 (Or.inl (hh.elim (fun z => z.2) (fun z => absurd c_7 (by omega))))]; ) (by omega) hW (lv_sub hl [5, 6, 1, 2, 0] rfl)
            · skip
              have c_7 : ¬ hn = 0 := mt (nI_eq (by omega) (by omega)).mpr c_7
              refine lv_iload hx hb dX11_duelOne_85 (lv_at hl 0 rfl) ?_
              refine lv_iload_n hx hb dX11_duelOne_87 rfl (lv_at hl 5 rfl) ?_
              refine lv_icmp_le (tgt := 96) hx hb dX11_duelOne_88 (by decide) (fun c_8 => ?_) (fun c_8 => ?_)
              · skip
                refine lv_iload_n hx hb dX11_duelOne_96 rfl (lv_at hl 5 rfl) ?_
                refine lv_istore_n (lv' := [(3, .int sm), (6, .int (zGa (askT tx) z u (k / 16) (k % 16))), (5, .int (nI (zm z u (k / 16) (k % 16)))), (0, .ref (ad 200)), (1, .int (nI u)), (2, .int (nI hn)), (4, .int (nI k))]) hx hb dX11_duelOne_97 rfl hl (by decide) rfl (fun ls hl => ?_)
                refine lv_iconst (v := nI 1) hx hb dX11_duelOne_98 (by decide) ?_
                refine lv_istore_n (lv' := [(2, .int (nI 1)), (3, .int sm), (6, .int (zGa (askT tx) z u (k / 16) (k % 16))), (5, .int (nI (zm z u (k / 16) (k % 16)))), (0, .ref (ad 200)), (1, .int (nI u)), (4, .int (nI k))]) hx hb dX11_duelOne_99 rfl hl (by decide) rfl (fun ls hl => ?_)
                refine lv_iinc (v := nI (k + 1)) (lv' := [(4, .int (nI (k + 1))), (2, .int (nI 1)), (3, .int sm), (6, .int (zGa (askT tx) z u (k / 16) (k % 16))), (5, .int (nI (zm z u (k / 16) (k % 16)))), (0, .ref (ad 200)), (1, .int (nI u))]) hx hb dX11_duelOne_100 hl (k := 6) rfl (m_inc k 1) (by decide) rfl (fun ls hl => ?_)
                refine lv_goto (tgt := 7) hx hb dX11_duelOne_103 (by decide) ?_
                exact ih_7  1 sm (k + 1)  _ _ _ (by omega) (by rw [zOneF_k w_4 (hh.elim (fun z => absurd z.1 c_7) (fun z => z.2)) (by rw [← hs]; exact Int32.not_lt.mpr c_8)]; exact Or.inr ⟨rfl, rfl⟩) (by rw [zOneF_k w_4 (hh.elim (fun z => absurd z.1 c_7) (fun z => z.2)) (by rw [← hs]; exact Int32.not_lt.mpr c_8)]; exact hs) (by omega) hW (lv_sub hl [5, 6, 1, 2, 0] rfl)
              · skip
                refine lv_iload hx hb dX11_duelOne_91 (lv_at hl 0 rfl) ?_
                refine lv_goto (tgt := 97) hx hb dX11_duelOne_93 (by decide) ?_
                refine lv_istore_n (lv' := [(3, .int (zGa (askT tx) z u (k / 16) (k % 16))), (6, .int (zGa (askT tx) z u (k / 16) (k % 16))), (5, .int (nI (zm z u (k / 16) (k % 16)))), (0, .ref (ad 200)), (1, .int (nI u)), (2, .int (nI hn)), (4, .int (nI k))]) hx hb dX11_duelOne_97 rfl hl (by decide) rfl (fun ls hl => ?_)
                refine lv_iconst (v := nI 1) hx hb dX11_duelOne_98 (by decide) ?_
                refine lv_istore_n (lv' := [(2, .int (nI 1)), (3, .int (zGa (askT tx) z u (k / 16) (k % 16))), (6, .int (zGa (askT tx) z u (k / 16) (k % 16))), (5, .int (nI (zm z u (k / 16) (k % 16)))), (0, .ref (ad 200)), (1, .int (nI u)), (4, .int (nI k))]) hx hb dX11_duelOne_99 rfl hl (by decide) rfl (fun ls hl => ?_)
                refine lv_iinc (v := nI (k + 1)) (lv' := [(4, .int (nI (k + 1))), (2, .int (nI 1)), (3, .int (zGa (askT tx) z u (k / 16) (k % 16))), (6, .int (zGa (askT tx) z u (k / 16) (k % 16))), (5, .int (nI (zm z u (k / 16) (k % 16)))), (0, .ref (ad 200)), (1, .int (nI u))]) hx hb dX11_duelOne_100 hl (k := 6) rfl (m_inc k 1) (by decide) rfl (fun ls hl => ?_)
                refine lv_goto (tgt := 7) hx hb dX11_duelOne_103 (by decide) ?_
                exact ih_7  1 (zGa (askT tx) z u (k / 16) (k % 16)) (k + 1)  _ _ _ (by omega) (by rw [zOneF_u w_4 (Or.inr (by rw [← hs]; exact Int32.not_le.mp c_8))]; exact Or.inr ⟨rfl, rfl⟩) (by rw [zOneF_u w_4 (Or.inr (by rw [← hs]; exact Int32.not_le.mp c_8))]; ) (by omega) hW (lv_sub hl [5, 6, 1, 2, 0] rfl)
        · skip
          refine m_if_eq (tgt := 100) hx hb dX11_duelOne_34 (by decide) (fun c_9 => ?_) (fun c_9 => ?_)
          · skip
            refine lv_iinc (v := nI (k + 1)) (lv' := [(4, .int (nI (k + 1))), (0, .ref (ad 200)), (1, .int (nI u)), (2, .int (nI hn)), (3, .int sm)]) hx hb dX11_duelOne_100 hl (k := 4) rfl (m_inc k 1) (by decide) rfl (fun ls hl => ?_)
            refine lv_goto (tgt := 7) hx hb dX11_duelOne_103 (by decide) ?_
            exact ih_7  hn sm (k + 1)  _ _ _ (by omega) (by rw [zOneF_n w_5]; exact hh) (by rw [zOneF_n w_5]; exact hs) (by omega) hW (lv_sub hl [1, 2, 3, 4, 0] rfl)
          · exact absurd c_9 (by decide)
  exact loop_7 (16 * ng - 0 + 1) 0 (nI 0) 0  _ _ _ (by omega) (by exact Or.inl ⟨rfl, rfl⟩) (by rfl) (by omega) hW (lv_sub hl [3, 4, 2, 1, 0] rfl)
