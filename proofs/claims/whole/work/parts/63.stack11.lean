/-! the reference's reading: its stack, its tokens -/
def rkN (n : Nat) : Nat := if n = 0 then 0 else if n = 11 then 1 else if n = 12 then 2 else if n = 13 then 3 else if n ≤ 15 then 4 else if n ≤ 17 then 5 else if n = 18 then 6 else 7
/-- how many are open in what is held -/
def cntO : List Nat → Nat
  | [] => 0
  | x :: h => (if x = 0 ∨ x = 13 ∨ x = 19 then 1 else 0) + cntO h
/-- what is held, top first, as it lies -/
def HdOk (V : mV) : List Nat → Prop
  | [] => True
  | x :: h => V 216 h.length = nI x ∧ HdOk V h
/-- signs that bind so much come -/
def unw (l : Nat) : List Nat → List Nat → List Nat × List Nat
  | [], cs => ([], cs)
  | x :: h, cs => if l ≤ rkN x then unw l h (cs ++ [x]) else (x :: h, cs)
/-- the reading's stack and codes (of text tn) -/
def SkOk (V : mV) (tn : Nat) (th cs : List Nat) : Prop := (V 200 27 = nI th.length ∧ HdOk V th ∧ (∀ x ∈ th, x < 20) ∧ V 200 28 = nI (cntO th)) ∧ (V 200 29 = nI cs.length ∧ ∀ k x, cs[k]? = some x → V 206 (200 * tn + k) = nI x) ∧ th.length + cs.length ≤ 170 ∧ tn < 6 ∧ V 200 11 = nI tn
/-- what the reading's stack leaves alone -/
def SkF (tn : Nat) (V V' : mV) : Prop := (∀ a, a ≠ 200 → a ≠ 206 → a ≠ 216 → V' a = V a) ∧ (∀ k, k ≠ 27 → k ≠ 28 → k ≠ 29 → V' 200 k = V 200 k) ∧ (∀ k, k < 200 * tn → V' 206 k = V 206 k)
theorem SkF.rfl (tn : Nat) (V : mV) : SkF tn V V := ⟨fun _ _ _ _ => Eq.refl _, fun _ _ _ _ => Eq.refl _, fun _ _ => Eq.refl _⟩
theorem SkF.trans {tn : Nat} {V V1 V2 : mV} (h : SkF tn V V1) (h' : SkF tn V1 V2) : SkF tn V V2 := ⟨fun a a1 a2 a3 => (h'.1 a a1 a2 a3).trans (h.1 a a1 a2 a3), fun k a1 a2 a3 => (h'.2.1 k a1 a2 a3).trans (h.2.1 k a1 a2 a3), fun k hk => (h'.2.2 k hk).trans (h.2.2 k hk)⟩
theorem SkF.p200 {tn : Nat} {V V' : mV} (h : SkF tn V V') {k : Nat} (x : Int32) (hk : k = 27 ∨ k = 28 ∨ k = 29) : SkF tn V (mU V' 200 k x) := ⟨fun a a1 a2 a3 => by rw [mU_no _ _ a1]; exact h.1 a a1 a2 a3, fun j a1 a2 a3 => by rw [mU_ne _ _ (by omega)]; exact h.2.1 j a1 a2 a3, fun j hj => by rw [mU_no _ _ (by decide)]; exact h.2.2 j hj⟩
theorem SkF.p206 {tn : Nat} {V V' : mV} (h : SkF tn V V') (k : Nat) (x : Int32) : SkF tn V (mU V' 206 (200 * tn + k) x) := ⟨fun a a1 a2 a3 => by rw [mU_no _ _ a2]; exact h.1 a a1 a2 a3, fun j a1 a2 a3 => by rw [mU_no _ _ (by decide)]; exact h.2.1 j a1 a2 a3, fun j hj => by rw [mU_ne _ _ (by omega)]; exact h.2.2 j hj⟩
theorem SkF.p216 {tn : Nat} {V V' : mV} (h : SkF tn V V') (k : Nat) (x : Int32) : SkF tn V (mU V' 216 k x) := ⟨fun a a1 a2 a3 => by rw [mU_no _ _ a3]; exact h.1 a a1 a2 a3, fun j a1 a2 a3 => by rw [mU_no _ _ (by decide)]; exact h.2.1 j a1 a2 a3, fun j hj => by rw [mU_no _ _ (by decide)]; exact h.2.2 j hj⟩
theorem HdOk.eq {V V' : mV} : ∀ {th : List Nat}, HdOk V th → (∀ k, k < th.length → V' 216 k = V 216 k) → HdOk V' th
  | [], _, _ => trivial
  | x :: h, hh, hf => ⟨by rw [hf _ (by simp)]; exact hh.1, HdOk.eq hh.2 (fun k hk => hf k (by simp; omega))⟩
theorem cntO_le : ∀ th, cntO th ≤ th.length
  | [] => Nat.le_refl _
  | x :: h => by
    have := cntO_le h
    rw [cntO, List.length_cons]
    split <;> omega
section SKS
variable {V : mV} {tn : Nat} {th cs : List Nat}
theorem SkOk.hm (h : SkOk V tn th cs) : V 200 27 = nI th.length := h.1.1
theorem SkOk.hd (h : SkOk V tn th cs) : HdOk V th := h.1.2.1
theorem SkOk.h20 (h : SkOk V tn th cs) : ∀ x ∈ th, x < 20 := h.1.2.2.1
theorem SkOk.op (h : SkOk V tn th cs) : V 200 28 = nI (cntO th) := h.1.2.2.2
theorem SkOk.out (h : SkOk V tn th cs) : V 200 29 = nI cs.length := h.2.1.1
theorem SkOk.cd (h : SkOk V tn th cs) : ∀ k x, cs[k]? = some x → V 206 (200 * tn + k) = nI x := h.2.1.2
theorem SkOk.len (h : SkOk V tn th cs) : th.length + cs.length ≤ 170 := h.2.2.1
theorem SkOk.tn6 (h : SkOk V tn th cs) : tn < 6 := h.2.2.2.1
theorem SkOk.tn_ (h : SkOk V tn th cs) : V 200 11 = nI tn := h.2.2.2.2
theorem SkOk.put (h : SkOk V tn th cs) (hl : th.length + cs.length < 170) (x : Nat) : SkOk (mU (mU V 206 (200 * tn + cs.length) (nI x)) 200 29 (nI (cs.length + 1))) tn th (cs ++ [x]) := by
  have hr : ∀ k, k ≠ 29 → mU (mU V 206 (200 * tn + cs.length) (nI x)) 200 29 (nI (cs.length + 1)) 200 k = V 200 k := fun k hk => by rw [mU_ne _ _ (by omega), mU_no _ _ (by decide)]
  refine ⟨⟨by rw [hr 27 (by decide)]; exact h.hm, h.hd.eq (fun k _ => by rw [mU_no _ _ (by decide), mU_no _ _ (by decide)]), h.h20, by rw [hr 28 (by decide)]; exact h.op⟩, ⟨by rw [mU_eq]; simp, fun k y hy => ?_⟩, by simp; omega, h.tn6, by rw [hr 11 (by decide)]; exact h.tn_⟩
  rw [mU_no _ _ (by decide)]
  by_cases hk : k = cs.length
  · subst hk
    rw [mU_eq]
    simp at hy
    rw [hy]
  · rw [mU_ne _ _ (by omega)]
    have := (List.getElem?_eq_some_iff.mp hy).1
    simp at this
    rw [List.getElem?_append_left (by omega)] at hy
    exact h.cd k y hy
theorem SkOk.push (h : SkOk V tn th cs) (hl : th.length + cs.length < 170) {x : Nat} (hx : x < 20) {V' : mV} (h1 : V' 200 27 = nI (th.length + 1)) (h2 : V' 200 28 = nI (cntO (x :: th))) (h3 : V' 216 = upd (V 216) th.length (nI x)) (h4 : ∀ k, k ≠ 27 → k ≠ 28 → V' 200 k = V 200 k) (h5 : V' 206 = V 206) : SkOk V' tn (x :: th) cs := by
  refine ⟨⟨by rw [h1]; simp, ⟨by rw [h3]; simp [upd], h.hd.eq (fun k hk => by rw [h3]; simp only [upd, if_neg (show ¬ k = th.length by omega)])⟩, fun y hy => (List.mem_cons.mp hy).elim (fun e => by rw [e]; exact hx) (h.h20 y), h2⟩, ⟨by rw [h4 29 (by decide) (by decide)]; exact h.out, by rw [h5]; exact h.cd⟩, by simp; omega, h.tn6, by rw [h4 11 (by decide) (by decide)]; exact h.tn_⟩
theorem SkOk.pop {x : Nat} (h : SkOk V tn (x :: th) cs) {V' : mV} (h1 : V' 200 27 = nI th.length) (h2 : V' 200 28 = nI (cntO th)) (h3 : V' 216 = V 216) (h4 : ∀ k, k ≠ 27 → k ≠ 28 → V' 200 k = V 200 k) (h5 : V' 206 = V 206) : SkOk V' tn th cs := by
  have hl := h.len
  rw [List.length_cons] at hl
  exact ⟨⟨h1, h.hd.2.eq (fun k _ => by rw [h3]), fun y hy => h.h20 y (List.mem_cons_of_mem _ hy), h2⟩, ⟨by rw [h4 29 (by decide) (by decide)]; exact h.out, by rw [h5]; exact h.cd⟩, by omega, h.tn6, by rw [h4 11 (by decide) (by decide)]; exact h.tn_⟩
end SKS
/-- a token, as the reference calls it; its value -/
def mTk (t : Int32) : Int32 := if mIn t 2 8 then nI 2 else if mIn t 8 11 then nI 3 else if t = nI 11 then nI 4 else if t = nI 12 then nI 5 else if t = nI 13 then nI 6 else t
def mVl (t : Int32) : Int32 := if mIn t 2 8 then t - nI 2 else t - nI 8
/-- the binary sign of a token (0: none) -/
def mSg (t : Int32) : Nat := if t = nI 11 then 11 else if t = nI 12 then 12 else if t = nI 60 then 14 else if t = nI 61 then 15 else if t = nI 43 then 16 else if t = nI 45 then 17 else if t = nI 42 then 18 else 0
/-- a token that can be: of those that the tape gives -/
def tkC (t : Int32) : Prop := t = -1 ∨ t = nI 0 ∨ t = nI 1 ∨ mIn t 2 8 ∨ mIn t 8 11 ∨ t = nI 11 ∨ t = nI 12 ∨ t = nI 13 ∨ t = nI 40 ∨ t = nI 41 ∨ t = nI 42 ∨ t = nI 43 ∨ t = nI 45 ∨ t = nI 59 ∨ t = nI 60 ∨ t = nI 61
set_option maxHeartbeats 4000000 in
set_option maxRecDepth 100000 in
theorem c_X11_rank (l : Launch) (G : mG) (ad : Nat → Nat) (sh : Nat → Option mSh) (V : mV) (n : Nat) (hn : n < 20) : mM l yX11_rank wsX11_rank ({ frames := 0, cells := 0, slots := 0, locals := 0 } : Room) G ad sh V [.int (nI n)] 0 0 (mPe ad sh V (nI (rkN n))) := by
  refine mM.of (cc := cX11_rank) (maxL := 1) (ret := (some .int)) (by decide) rfl (Nat.le_of_ble_eq_true rfl) ?_
  intro p e s m below meth c S hr hlk hnm hW ls hl
  obtain ⟨hx, hb, hml, hown, hts⟩ := id S
  have hl : lv_has ls 1 [(0, .int (nI n))] := hl
  have hS0 : True := trivial
  refine lv_iload_n hx hb dX11_rank_0 rfl (lv_at hl 0 rfl) ?_
  refine m_if_ne (tgt := 8) hx hb dX11_rank_1 (by decide) (fun c_1 => ?_) (fun c_1 => ?_)
  · skip
    have c_1 : ¬ n = 0 := mt (nI_eq (by omega) (by omega)).mpr c_1
    refine lv_iload_n hx hb dX11_rank_8 rfl (lv_at hl 0 rfl) ?_
    refine lv_bipush (v := nI 11) hx hb dX11_rank_9 (by decide) ?_
    refine lv_icmp_ne (tgt := 18) hx hb dX11_rank_11 (by decide) (fun c_2 => ?_) (fun c_2 => ?_)
    · skip
      have c_2 : ¬ n = 11 := mt (nI_eq (by omega) (by omega)).mpr c_2
      refine lv_iload_n hx hb dX11_rank_18 rfl (lv_at hl 0 rfl) ?_
      refine lv_bipush (v := nI 12) hx hb dX11_rank_19 (by decide) ?_
      refine lv_icmp_ne (tgt := 28) hx hb dX11_rank_21 (by decide) (fun c_3 => ?_) (fun c_3 => ?_)
      · skip
        have c_3 : ¬ n = 12 := mt (nI_eq (by omega) (by omega)).mpr c_3
        refine lv_iload_n hx hb dX11_rank_28 rfl (lv_at hl 0 rfl) ?_
        refine lv_bipush (v := nI 13) hx hb dX11_rank_29 (by decide) ?_
        refine lv_icmp_ne (tgt := 38) hx hb dX11_rank_31 (by decide) (fun c_4 => ?_) (fun c_4 => ?_)
        · skip
          have c_4 : ¬ n = 13 := mt (nI_eq (by omega) (by omega)).mpr c_4
          refine lv_iload_n hx hb dX11_rank_38 rfl (lv_at hl 0 rfl) ?_
          refine lv_bipush (v := nI 15) hx hb dX11_rank_39 (by decide) ?_
          refine lv_icmp_gt (tgt := 48) hx hb dX11_rank_41 (by decide) (fun c_5 => ?_) (fun c_5 => ?_)
          · skip
            have c_5 : 15 < n := (nI_ltI (by omega) (by omega)).mp c_5
            refine lv_iload_n hx hb dX11_rank_48 rfl (lv_at hl 0 rfl) ?_
            refine lv_bipush (v := nI 17) hx hb dX11_rank_49 (by decide) ?_
            refine lv_icmp_gt (tgt := 58) hx hb dX11_rank_51 (by decide) (fun c_6 => ?_) (fun c_6 => ?_)
            · skip
              have c_6 : 17 < n := (nI_ltI (by omega) (by omega)).mp c_6
              refine lv_iload_n hx hb dX11_rank_58 rfl (lv_at hl 0 rfl) ?_
              refine lv_bipush (v := nI 18) hx hb dX11_rank_59 (by decide) ?_
              refine lv_icmp_ne (tgt := 69) hx hb dX11_rank_61 (by decide) (fun c_7 => ?_) (fun c_7 => ?_)
              · skip
                have c_7 : ¬ n = 18 := mt (nI_eq (by omega) (by omega)).mpr c_7
                refine lv_bipush (v := nI 7) hx hb dX11_rank_69 (by decide) ?_
                exact m_iret S hr hlk hW dX11_rank_71 ⟨rfl, (by rw [show rkN n = 7 by unfold rkN; (repeat (first | rw [if_pos (by omega)] | rw [if_neg (by omega)]))])⟩
              · skip
                have c_7 : n = 18 := (nI_eq (by omega) (by omega)).mp c_7
                refine lv_bipush (v := nI 6) hx hb dX11_rank_64 (by decide) ?_
                refine lv_goto (tgt := 71) hx hb dX11_rank_66 (by decide) ?_
                exact m_iret S hr hlk hW dX11_rank_71 ⟨rfl, (by rw [show rkN n = 6 by unfold rkN; (repeat (first | rw [if_pos (by omega)] | rw [if_neg (by omega)]))])⟩
            · skip
              have c_6 : ¬ 17 < n := mt (nI_ltI (by omega) (by omega)).mpr c_6
              refine lv_iconst (v := nI 5) hx hb dX11_rank_54 (by decide) ?_
              refine lv_goto (tgt := 71) hx hb dX11_rank_55 (by decide) ?_
              exact m_iret S hr hlk hW dX11_rank_71 ⟨rfl, (by rw [show rkN n = 5 by unfold rkN; (repeat (first | rw [if_pos (by omega)] | rw [if_neg (by omega)]))])⟩
          · skip
            have c_5 : ¬ 15 < n := mt (nI_ltI (by omega) (by omega)).mpr c_5
            refine lv_iconst (v := nI 4) hx hb dX11_rank_44 (by decide) ?_
            refine lv_goto (tgt := 71) hx hb dX11_rank_45 (by decide) ?_
            exact m_iret S hr hlk hW dX11_rank_71 ⟨rfl, (by rw [show rkN n = 4 by unfold rkN; (repeat (first | rw [if_pos (by omega)] | rw [if_neg (by omega)]))])⟩
        · skip
          have c_4 : n = 13 := (nI_eq (by omega) (by omega)).mp c_4
          refine lv_iconst (v := nI 3) hx hb dX11_rank_34 (by decide) ?_
          refine lv_goto (tgt := 71) hx hb dX11_rank_35 (by decide) ?_
          exact m_iret S hr hlk hW dX11_rank_71 ⟨rfl, (by rw [show rkN n = 3 by unfold rkN; (repeat (first | rw [if_pos (by omega)] | rw [if_neg (by omega)]))])⟩
      · skip
        have c_3 : n = 12 := (nI_eq (by omega) (by omega)).mp c_3
        refine lv_iconst (v := nI 2) hx hb dX11_rank_24 (by decide) ?_
        refine lv_goto (tgt := 71) hx hb dX11_rank_25 (by decide) ?_
        exact m_iret S hr hlk hW dX11_rank_71 ⟨rfl, (by rw [show rkN n = 2 by unfold rkN; (repeat (first | rw [if_pos (by omega)] | rw [if_neg (by omega)]))])⟩
    · skip
      have c_2 : n = 11 := (nI_eq (by omega) (by omega)).mp c_2
      refine lv_iconst (v := nI 1) hx hb dX11_rank_14 (by decide) ?_
      refine lv_goto (tgt := 71) hx hb dX11_rank_15 (by decide) ?_
      exact m_iret S hr hlk hW dX11_rank_71 ⟨rfl, (by rw [show rkN n = 1 by unfold rkN; (repeat (first | rw [if_pos (by omega)] | rw [if_neg (by omega)]))])⟩
  · skip
    have c_1 : n = 0 := (nI_eq (by omega) (by omega)).mp c_1
    refine lv_iconst (v := nI 0) hx hb dX11_rank_4 (by decide) ?_
    refine lv_goto (tgt := 71) hx hb dX11_rank_5 (by decide) ?_
    exact m_iret S hr hlk hW dX11_rank_71 ⟨rfl, (by rw [show rkN n = 0 by unfold rkN; (repeat (first | rw [if_pos (by omega)] | rw [if_neg (by omega)]))])⟩
set_option maxHeartbeats 4000000 in
set_option maxRecDepth 100000 in
theorem c_X11_puts (l : Launch) (G : mG) (ad : Nat → Nat) (sh : Nat → Option mSh) (V : mV) (tn : Nat) (th cs : List Nat) (x : Nat) (hM : MSh sh) (hS : SkOk V tn th cs) (hlt : th.length + cs.length < 170) : mM l yX11_puts wsX11_puts ({ frames := 0, cells := 0, slots := 0, locals := 0 } : Room) G ad sh V [.ref (ad 200), .int (nI x)] 0 0 (mPv ad sh (fun V' => (SkOk V' tn th (cs ++ [x])) ∧ (SkF tn V V'))) := by
  refine mM.of (cc := cX11_puts) (maxL := 2) (ret := none) (by decide) rfl (Nat.le_of_ble_eq_true rfl) ?_
  intro p e s m below meth c S hr hlk hnm hW ls hl
  obtain ⟨hx, hb, hml, hown, hts⟩ := id S
  have hl : lv_has ls 2 [(0, .ref (ad 200)), (1, .int (nI x))] := hl
  have hS0 : True := trivial
  have hlen := hS.len
  have htn6 := hS.tn6
  have hcnt := cntO_le th
  refine lv_aload_n hx hb dX11_puts_0 rfl (lv_at hl 0 rfl) ?_
  refine m_getr S hW hM.1 9 rfl (j := 206) rfl kX11 (iW11 _) (by decide) (List.mem_cons_of_mem _ (wa_11 _ (List.mem_of_getElem? (i := 7) (by decide +kernel)))) dX11_puts_1 ?_
  refine lv_sipush (v := nI 200) hx hb dX11_puts_4 (by decide) ?_
  refine lv_aload_n hx hb dX11_puts_7 rfl (lv_at hl 0 rfl) ?_
  refine m_geti S hW hM.1 11 rfl kX11 (iW11 _) (by decide) (List.mem_cons_of_mem _ (wa_12 _ (List.mem_of_getElem? (i := 4) (by decide +kernel)))) dX11_puts_8 ?_
  refine m_top (y := nI tn) hS.tn_ ?_
  refine lv_imul hx hb dX11_puts_11 ?_
  refine m_top (y := nI (200 * tn)) (pk_mul 200 tn) ?_
  refine lv_aload_n hx hb dX11_puts_12 rfl (lv_at hl 0 rfl) ?_
  refine m_geti S hW hM.1 29 rfl kX11 (iW11 _) (by decide) (List.mem_cons_of_mem _ (wa_12 _ (List.mem_of_getElem? (i := 6) (by decide +kernel)))) dX11_puts_13 ?_
  refine m_top (y := nI cs.length) hS.out ?_
  refine lv_iadd hx hb dX11_puts_16 ?_
  refine m_top (y := nI ((200 * tn) + cs.length)) (nI_add (200 * tn) cs.length) ?_
  refine lv_iload_n hx hb dX11_puts_17 rfl (lv_at hl 1 rfl) ?_
  refine m_iast S hW hM.2.2.2.2.2.2.1 ((200 * tn) + cs.length) rfl (by omega) (by decide) dX11_puts_18 (fun H locs hW => ?_)
  obtain ⟨V_1, eV_1⟩ : ∃ vv_ : mV, vv_ = mU V 206 ((200 * tn) + cs.length) (nI x) := ⟨_, rfl⟩
  rw [← eV_1] at hW
  refine lv_aload_n hx hb dX11_puts_19 rfl (lv_at hl 0 rfl) ?_
  refine lv_dup hx hb dX11_puts_20 rfl ?_
  refine m_geti S hW hM.1 29 rfl kX11 (iW11 _) (by decide) (List.mem_cons_of_mem _ (wa_12 _ (List.mem_of_getElem? (i := 6) (by decide +kernel)))) dX11_puts_21 ?_
  refine m_top (y := nI cs.length) (by rw [eV_1, mU_no _ _ (by decide)]; exact hS.out) ?_
  refine lv_iconst (v := nI 1) hx hb dX11_puts_24 (by decide) ?_
  refine lv_iadd hx hb dX11_puts_25 ?_
  refine m_top (y := nI (cs.length + 1)) (nI_add cs.length 1) ?_
  refine m_puti S hW hM.1 29 rfl kX11 (iW11 _) tyX11 tyX11_ok nmX11 (by decide) (List.mem_cons_of_mem _ (wa_12 _ (List.mem_of_getElem? (i := 6) (by decide +kernel)))) (Or.inl rfl) rfl rfl dX11_puts_26 (fun H locs hW => ?_)
  obtain ⟨V_2, eV_2⟩ : ∃ vv_ : mV, vv_ = mU V_1 200 29 (nI (cs.length + 1)) := ⟨_, rfl⟩
  rw [← eV_2] at hW
  exact m_vret S hr hlk hW dX11_puts_29 (by rw [eV_2, eV_1]; exact ⟨hS.put hlt x, ((SkF.rfl tn V).p206 _ _).p200 _ (Or.inr (Or.inr rfl))⟩)
set_option maxHeartbeats 4000000 in
set_option maxRecDepth 100000 in
theorem c_X11_holds (l : Launch) (G : mG) (ad : Nat → Nat) (sh : Nat → Option mSh) (V : mV) (hn x : Nat) (hM : MSh sh) (hhm : V 200 27 = nI hn) (hhl : hn < 200) : mM l yX11_holds wsX11_holds ({ frames := 0, cells := 0, slots := 0, locals := 0 } : Room) G ad sh V [.ref (ad 200), .int (nI x)] 0 0 (mPv ad sh (fun V' => V' = mU (mU V 216 hn (nI x)) 200 27 (nI (hn + 1)))) := by
  refine mM.of (cc := cX11_holds) (maxL := 2) (ret := none) (by decide) rfl (Nat.le_of_ble_eq_true rfl) ?_
  intro p e s m below meth c S hr hlk hnm hW ls hl
  obtain ⟨hx, hb, hml, hown, hts⟩ := id S
  have hl : lv_has ls 2 [(0, .ref (ad 200)), (1, .int (nI x))] := hl
  have hS0 : True := trivial
  refine lv_aload_n hx hb dX11_holds_0 rfl (lv_at hl 0 rfl) ?_
  refine m_getr S hW hM.1 26 rfl (j := 216) rfl kX11 (iW11 _) (by decide) (List.mem_cons_of_mem _ (wa_11 _ (List.mem_of_getElem? (i := 17) (by decide +kernel)))) dX11_holds_1 ?_
  refine lv_aload_n hx hb dX11_holds_4 rfl (lv_at hl 0 rfl) ?_
  refine m_geti S hW hM.1 27 rfl kX11 (iW11 _) (by decide) (List.mem_cons_of_mem _ (wa_13 _ (List.mem_of_getElem? (i := 1) (by decide +kernel)))) dX11_holds_5 ?_
  refine m_top (y := nI hn) hhm ?_
  refine lv_iload_n hx hb dX11_holds_8 rfl (lv_at hl 1 rfl) ?_
  refine m_iast S hW hM.2.2.2.2.2.2.2.2.2.2.2.2.2.2.2.2.1 hn rfl (by omega) (by decide) dX11_holds_9 (fun H locs hW => ?_)
  obtain ⟨V_1, eV_1⟩ : ∃ vv_ : mV, vv_ = mU V 216 hn (nI x) := ⟨_, rfl⟩
  rw [← eV_1] at hW
  refine lv_aload_n hx hb dX11_holds_10 rfl (lv_at hl 0 rfl) ?_
  refine lv_dup hx hb dX11_holds_11 rfl ?_
  refine m_geti S hW hM.1 27 rfl kX11 (iW11 _) (by decide) (List.mem_cons_of_mem _ (wa_13 _ (List.mem_of_getElem? (i := 1) (by decide +kernel)))) dX11_holds_12 ?_
  refine m_top (y := nI hn) (by rw [eV_1, mU_no _ _ (by decide)]; exact hhm) ?_
  refine lv_iconst (v := nI 1) hx hb dX11_holds_15 (by decide) ?_
  refine lv_iadd hx hb dX11_holds_16 ?_
  refine m_top (y := nI (hn + 1)) (nI_add hn 1) ?_
  refine m_puti S hW hM.1 27 rfl kX11 (iW11 _) tyX11 tyX11_ok nmX11 (by decide) (List.mem_cons_of_mem _ (wa_13 _ (List.mem_of_getElem? (i := 1) (by decide +kernel)))) (Or.inl rfl) rfl rfl dX11_holds_17 (fun H locs hW => ?_)
  obtain ⟨V_2, eV_2⟩ : ∃ vv_ : mV, vv_ = mU V_1 200 27 (nI (hn + 1)) := ⟨_, rfl⟩
  rw [← eV_2] at hW
  exact m_vret S hr hlk hW dX11_holds_20 (by rw [eV_2, eV_1])
set_option maxHeartbeats 4000000 in
set_option maxRecDepth 100000 in
theorem c_X11_opensOne (l : Launch) (G : mG) (ad : Nat → Nat) (sh : Nat → Option mSh) (V : mV) (tn : Nat) (th cs : List Nat) (x : Nat) (hM : MSh sh) (hS : SkOk V tn th cs) (hlt : th.length + cs.length < 170) (hx20 : x < 20) (hop : x = 0 ∨ x = 13 ∨ x = 19) : mM l yX11_opensOne wsX11_opensOne ({ frames := 1, cells := 0, slots := 0, locals := 21 } : Room) G ad sh V [.ref (ad 200), .int (nI x)] 0 0 (mPi ad sh (fun r V' => (nI 0 = r ∧ V' = V ∧ (cntO th = 5)) ∨ (nI 1 = r ∧ (¬ cntO th = 5) ∧ (SkOk V' tn (x :: th) cs) ∧ (SkF tn V V')))) := by
  refine mM.of (cc := cX11_opensOne) (maxL := 2) (ret := (some .boolean)) (by decide) rfl (Nat.le_of_ble_eq_true rfl) ?_
  intro p e s m below meth c S hr hlk hnm hW ls hl
  obtain ⟨hx, hb, hml, hown, hts⟩ := id S
  have hl : lv_has ls 2 [(0, .ref (ad 200)), (1, .int (nI x))] := hl
  have hS0 : True := trivial
  have hlen := hS.len
  have htn6 := hS.tn6
  have hcnt := cntO_le th
  refine lv_aload_n hx hb dX11_opensOne_0 rfl (lv_at hl 0 rfl) ?_
  refine m_geti S hW hM.1 28 rfl kX11 (iW11 _) (by decide) (List.mem_cons_of_mem _ (wa_13 _ (List.mem_of_getElem? (i := 2) (by decide +kernel)))) dX11_opensOne_1 ?_
  refine m_top (y := nI (cntO th)) hS.op ?_
  refine lv_iconst (v := nI 5) hx hb dX11_opensOne_4 (by decide) ?_
  refine lv_icmp_ne (tgt := 10) hx hb dX11_opensOne_5 (by decide) (fun c_1 => ?_) (fun c_1 => ?_)
  · skip
    have c_1 : ¬ (cntO th) = 5 := mt (nI_eq (by omega) (by omega)).mpr c_1
    refine lv_aload_n hx hb dX11_opensOne_10 rfl (lv_at hl 0 rfl) ?_
    refine lv_dup hx hb dX11_opensOne_11 rfl ?_
    refine m_geti S hW hM.1 28 rfl kX11 (iW11 _) (by decide) (List.mem_cons_of_mem _ (wa_13 _ (List.mem_of_getElem? (i := 2) (by decide +kernel)))) dX11_opensOne_12 ?_
    refine m_top (y := nI (cntO th)) hS.op ?_
    refine lv_iconst (v := nI 1) hx hb dX11_opensOne_15 (by decide) ?_
    refine lv_iadd hx hb dX11_opensOne_16 ?_
    refine m_top (y := nI ((cntO th) + 1)) (nI_add (cntO th) 1) ?_
    refine m_puti S hW hM.1 28 rfl kX11 (iW11 _) tyX11 tyX11_ok nmX11 (by decide) (List.mem_cons_of_mem _ (wa_13 _ (List.mem_of_getElem? (i := 2) (by decide +kernel)))) (Or.inl rfl) rfl rfl dX11_opensOne_17 (fun H locs hW => ?_)
    obtain ⟨V_2, eV_2⟩ : ∃ vv_ : mV, vv_ = mU V 200 28 (nI ((cntO th) + 1)) := ⟨_, rfl⟩
    rw [← eV_2] at hW
    refine lv_aload_n hx hb dX11_opensOne_20 rfl (lv_at hl 0 rfl) ?_
    refine lv_iload_n hx hb dX11_opensOne_21 rfl (lv_at hl 1 rfl) ?_
    refine m_cv (m_rV S hW (c_X11_holds l G ad sh V_2 th.length x hM (by rw [eV_2, mU_ne _ _ (by decide)]; exact hS.hm) (by omega)) (cwV 1 hts (gCall [.methodLink RX11 137 yX11_holds, .instanceMethod yX11_holds, .selects RX11 yX11_holds yX11_holds, .initialized RX11] (List.forall_mem_cons.mpr ⟨(wa_13 _ (List.mem_of_getElem? (i := 22) (by decide +kernel))), (List.forall_mem_cons.mpr ⟨(wa_13 _ (List.mem_of_getElem? (i := 19) (by decide +kernel))), (List.forall_mem_cons.mpr ⟨(wa_13 _ (List.mem_of_getElem? (i := 20) (by decide +kernel))), (List.forall_mem_cons.mpr ⟨(wa_13 _ (List.mem_of_getElem? (i := 21) (by decide +kernel))), (List.forall_mem_cons.mpr ⟨(wa_1 _ (List.mem_of_getElem? (i := 5) (by decide +kernel))), (fun _ h => absurd h List.not_mem_nil)⟩)⟩)⟩)⟩)⟩)) rfl rfl rfl (by decide +kernel) ⟨Nat.le_of_ble_eq_true rfl, Nat.le_of_ble_eq_true rfl⟩) hM.1 kX11 rfl hl.1 rfl (Nat.le_of_ble_eq_true rfl) dX11_opensOne_22 ⟨Nat.le_of_ble_eq_true rfl, Nat.le_of_ble_eq_true rfl⟩) hW (fun V_3 H locs hp_4 hW => ?_)
    have eV_3 : V_3 = mU (mU V_2 216 th.length (nI x)) 200 27 (nI (th.length + 1)) := hp_4
    refine lv_iconst (v := nI 1) hx hb dX11_opensOne_25 (by decide) ?_
    exact m_zret S hr hlk hW rfl dX11_opensOne_26 (by exact Or.inr ⟨rfl, c_1, hS.push hlt hx20 (by rw [eV_3, mU_eq]) (by rw [eV_3, mU_ne _ _ (by decide), mU_no _ _ (by decide), eV_2, mU_eq, cntO, if_pos hop, Nat.add_comm]) (by rw [eV_3, mU_no _ _ (by decide), mU_row, eV_2, mU_no _ _ (by decide)]) (fun k h1 h2 => by rw [eV_3, mU_ne _ _ (by omega), mU_no _ _ (by decide), eV_2, mU_ne _ _ (by omega)]) (by rw [eV_3, mU_no _ _ (by decide), mU_no _ _ (by decide), eV_2, mU_no _ _ (by decide)]), by rw [eV_3, eV_2]; exact (((SkF.rfl tn V).p200 _ (Or.inr (Or.inl rfl))).p216 _ _).p200 _ (Or.inl rfl)⟩)
  · skip
    have c_1 : (cntO th) = 5 := (nI_eq (by omega) (by omega)).mp c_1
    refine lv_iconst (v := nI 0) hx hb dX11_opensOne_8 (by decide) ?_
    exact m_zret S hr hlk hW rfl dX11_opensOne_9 (by exact Or.inl ⟨rfl, rfl, c_1⟩)
