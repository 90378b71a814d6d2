/-! the reference: goods, eaters, the tape come; marks; teeth -/
theorem zKd_u (z : fZ) (u g v : Nat) (y : Int32) (hu : u < 6) : fCan (zSp (mU z (4 + u) 0 (nI v)) u g) (mU z (4 + u) 0 (nI v) (10 + 2 * g) 2) y = zKd z u g y v := by
  rw [zSp, zKd, mU_eq, mU_ne _ _ (by omega), mU_ne _ _ (by omega), mU_ne _ _ (by omega), mU_ne _ _ (by omega)]
theorem zMo_u (z : fZ) (u g v : Nat) (y : Int32) (hu : u < 6) : fCan (zSp (mU z (4 + u) 1 (nI v)) u g) (mU z (4 + u) 1 (nI v) (10 + 2 * g) 2) y = zMo z u g y v := by
  rw [zSp, zMo, mU_eq, mU_ne _ _ (by omega), mU_ne _ _ (by omega), mU_ne _ _ (by omega), mU_ne _ _ (by omega)]
section UKM
variable {sh : Nat → Option mSh} {V : mV} {z : fZ} {ne ng rl : Nat} {x : sT} {u v : Nat}
theorem MZ.uKi (h : MZ sh V z ne ng rl x) (hu : u < ne) (hv : v < 6) : MZ sh (mU V 202 u (nI v)) (mU z (4 + u) 0 (nI v)) ne ng rl x := by
  have h5 := h.ne5
  exact (h.put (a := 4 + u) (k := 0) (Or.inr (Or.inl (by omega))) (by rw [mvL_e (by omega)]; rfl) (by rw [mvL_e (by omega)]; rfl) (by rw [zB, if_neg (by omega), if_pos (by omega), if_pos rfl]; exact ⟨v, hv, rfl⟩)).1
theorem MZ.uMo (h : MZ sh V z ne ng rl x) (hu : u < ne) (hv : v < 10) : MZ sh (mU V 203 u (nI v)) (mU z (4 + u) 1 (nI v)) ne ng rl x := by
  have h5 := h.ne5
  exact (h.put (a := 4 + u) (k := 1) (Or.inr (Or.inl (by omega))) (by rw [mvL_e (by omega)]; rfl) (by rw [mvL_e (by omega)]; rfl) (by rw [zB, if_neg (by omega), if_pos (by omega), if_neg (by decide), if_pos rfl]; exact ⟨v, hv, rfl⟩)).1
end UKM
theorem mU_sw (V : mV) {i j k l : Nat} (x y : Int32) (h : i ≠ j ∨ k ≠ l) : mU (mU V i k x) j l y = mU (mU V j l y) i k x := by
  funext a b
  simp only [mU]
  by_cases h1 : a = j ∧ b = l
  · rw [if_pos h1, if_neg (by omega), if_pos h1]
  · rw [if_neg h1, if_neg h1]
theorem bitOf_n {P : Nat → Bool} {k : Nat} {sm : Int32} (h : ¬ P k = true) (hs : sm = fBitsOf P k) : sm ||| nI 0 = fBitsOf P (k + 1) := by rw [fBitsOf_f h, m_or0, hs]
theorem bitOf_y {P : Nat → Bool} {k : Nat} {sm : Int32} (h : P k = true) (hs : sm = fBitsOf P k) : sm ||| (nI 1 <<< (nI k &&& 31)) = fBitsOf P (k + 1) := by rw [fBitsOf_t h, hs]
theorem hire_s {g0 : Int32} {B : Nat → Int32} {k : Nat} {q : Int32 × Int32} (h : 1 ≤ k) (hq : q = fHire g0 B (k - 1)) {w : Int32} (hw : w = B k) : fHire g0 B (k + 1 - 1) = if q.2 < w then (nI k, w) else q := by
  rw [hw]
  exact fHire_s h hq
def fd5 (l : List Int32) (k : Nat) : Int32 := l.getD k 0
theorem fd5_take {a b c d f : Int32} {k : Nat} (h : k < 5) : [a, b, c, d, f].take (k + 1) = [a, b, c, d, f].take k ++ [fd5 [a, b, c, d, f] k] := by
  match k, h with
  | 0, _ => rfl
  | 1, _ => rfl
  | 2, _ => rfl
  | 3, _ => rfl
  | 4, _ => rfl
theorem fd5_len {q : Sg} {a b c d f : Int32} {k : Nat} (h : k ≤ 5) : (gTp (gTape q (gTp q ++ [a, b, c, d, f].take k))).length = (gTp q).length + k := by
  show (gTp q ++ [a, b, c, d, f].take k).length = _
  simp
  omega
set_option maxHeartbeats 4000000 in
set_option maxRecDepth 100000 in
theorem c_X11_good (l : Launch) (G : mG) (ad : Nat → Nat) (sh : Nat → Option mSh) (V : mV) (q : Sg) (x y : Int32) (hI : MI sh V q) : mM l yX11_good wsX11_good ({ frames := 1, cells := 0, slots := 0, locals := 22 } : Room) G ad sh V [.ref (ad 200), .int x, .int y] 0 0 (mPi ad sh (fun r V' => (aGood q x y) = r ∧ (MI sh V' (nGood q x y)) ∧ (∀ a, a < 200 → V' a = V a))) := by
  refine mM.of (cc := cX11_good) (maxL := 4) (ret := (some .int)) (by decide) rfl (Nat.le_of_ble_eq_true rfl) ?_
  intro p e s m below meth c S hr hlk hnm hW ls hl
  obtain ⟨hx, hb, hml, hown, hts⟩ := id S
  have hl : lv_has ls 4 [(0, .ref (ad 200)), (1, .int x), (2, .int y)] := hl
  have hS0 : True := trivial
  have hZ := hI.z
  have hne5 := hZ.ne5
  have hng6 := hZ.ng6
  have htn := hI.tn
  refine lv_iload_n hx hb dX11_good_0 rfl (lv_at hl 1 rfl) ?_
  refine lv_iconst (v := nI 0) hx hb dX11_good_1 (by decide) ?_
  refine lv_bipush (v := nI 9) hx hb dX11_good_2 (by decide) ?_
  refine m_cip (m_rS S hW (c_X11_in l G ad sh V x 0 9 (by first | assumption | omega) (by first | assumption | omega)) (va_cwS 3 hts (gCall [.methodLink RX11 84 yX11_in, .static yX11_in, .initialized RX11] (List.forall_mem_cons.mpr ⟨(wa_12 _ (List.mem_of_getElem? (i := 16) (by decide +kernel))), (List.forall_mem_cons.mpr ⟨(wa_12 _ (List.mem_of_getElem? (i := 14) (by decide +kernel))), (List.forall_mem_cons.mpr ⟨(wa_12 _ (List.mem_of_getElem? (i := 15) (by decide +kernel))), (List.forall_mem_cons.mpr ⟨(wa_1 _ (List.mem_of_getElem? (i := 5) (by decide +kernel))), (fun _ h => absurd h List.not_mem_nil)⟩)⟩)⟩)⟩)) rfl rfl rfl (by decide +kernel) ⟨Nat.le_of_ble_eq_true rfl, Nat.le_of_ble_eq_true rfl⟩) rfl hl.1 rfl (Nat.le_of_ble_eq_true rfl) dX11_good_4 ⟨Nat.le_of_ble_eq_true rfl, Nat.le_of_ble_eq_true rfl⟩) hW (fun r_2 H locs hp_1 hW => ?_)
  rcases hp_1 with ⟨rfl, w_3⟩ | ⟨rfl, w_4⟩
  · skip
    refine m_if_eq (tgt := 20) hx hb dX11_good_7 (by decide) (fun c_5 => ?_) (fun c_5 => ?_)
    · exact absurd c_5 (by decide)
    · skip
      refine lv_iload_n hx hb dX11_good_10 rfl (lv_at hl 2 rfl) ?_
      refine lv_iconst (v := nI 0) hx hb dX11_good_11 (by decide) ?_
      refine lv_bipush (v := nI 99) hx hb dX11_good_12 (by decide) ?_
      refine m_cip (m_rS S hW (c_X11_in l G ad sh V y 0 99 (by first | assumption | omega) (by first | assumption | omega)) (va_cwS 3 hts (gCall [.methodLink RX11 84 yX11_in, .static yX11_in, .initialized RX11] (List.forall_mem_cons.mpr ⟨(wa_12 _ (List.mem_of_getElem? (i := 16) (by decide +kernel))), (List.forall_mem_cons.mpr ⟨(wa_12 _ (List.mem_of_getElem? (i := 14) (by decide +kernel))), (List.forall_mem_cons.mpr ⟨(wa_12 _ (List.mem_of_getElem? (i := 15) (by decide +kernel))), (List.forall_mem_cons.mpr ⟨(wa_1 _ (List.mem_of_getElem? (i := 5) (by decide +kernel))), (fun _ h => absurd h List.not_mem_nil)⟩)⟩)⟩)⟩)) rfl rfl rfl (by decide +kernel) ⟨Nat.le_of_ble_eq_true rfl, Nat.le_of_ble_eq_true rfl⟩) rfl hl.1 rfl (Nat.le_of_ble_eq_true rfl) dX11_good_14 ⟨Nat.le_of_ble_eq_true rfl, Nat.le_of_ble_eq_true rfl⟩) hW (fun r_7 H locs hp_6 hW => ?_)
      rcases hp_6 with ⟨rfl, w_8⟩ | ⟨rfl, w_9⟩
      · skip
        refine m_if_ne (tgt := 23) hx hb dX11_good_17 (by decide) (fun c_10 => ?_) (fun c_10 => ?_)
        · skip
          refine lv_aload_n hx hb dX11_good_23 rfl (lv_at hl 0 rfl) ?_
          refine m_geti S hW hZ.sp.1 0 rfl kX11 (iW11 _) (by decide) (List.mem_cons_of_mem _ (wa_15 _ (List.mem_of_getElem? (i := 1) (by decide +kernel)))) dX11_good_24 ?_
          refine m_top (y := nI (gNg q)) hI.z.ng_ ?_
          refine lv_bipush (v := nI 6) hx hb dX11_good_27 (by decide) ?_
          refine lv_icmp_ne (tgt := 35) hx hb dX11_good_29 (by decide) (fun c_11 => ?_) (fun c_11 => ?_)
          · skip
            have c_11 : ¬ (gNg q) = 6 := mt (nI_eq (by omega) (by omega)).mpr c_11
            refine lv_iconst (v := nI 0) hx hb dX11_good_35 (by decide) ?_
            refine lv_istore_n (lv' := [(3, .int (nI 0)), (0, .ref (ad 200)), (1, .int x), (2, .int y)]) hx hb dX11_good_36 rfl hl (by decide) rfl (fun ls hl => ?_)
            have loop_37 : ∀ (n_37 : Nat) (k : Nat) (V1 : mV) (H : Heap) (locs : List Loc) (ls : Array Slot), (k ≤ 10) → (V1 = mFill V 201 (12 * gNg q) k y) → (10 - k) < n_37 → mC (mA ad sh s.heap.size) s.heap s G ad sh V1 H locs → lv_has ls 4 [(0, .ref (ad 200)), (1, .int x), (2, .int y), (3, .int (nI k))] → W p l e ({ frames := 1, cells := 0, slots := 0, locals := 22 } : Room) s m ([.ref (ad 200), .int x, .int y] : List Value).toArray below meth c H locs 0 0 (MQ below (mPost G ad sh s.heap.size (mPi ad sh (fun r V' => (aGood q x y) = r ∧ (MI sh V' (nGood q x y)) ∧ (∀ a, a < 200 → V' a = V a)))) ([.ref (ad 200), .int x, .int y] : List Value).toArray s 0 0 (mA ad sh s.heap.size)) (F0 m 37 ls []) := by
              intro n_37
              induction n_37 with
              | zero => intro k V1 H locs ls hk hv hM_ hW hl; omega
              | succ n_37 ih_37 =>
                intro k V1 H locs ls hk hv hM_ hW hl
                refine lv_iload_n hx hb dX11_good_37 rfl (lv_at hl 3 rfl) ?_
                refine lv_bipush (v := nI 10) hx hb dX11_good_38 (by decide) ?_
                refine lv_icmp_ge (tgt := 64) hx hb dX11_good_40 (by decide) (fun c_12 => ?_) (fun c_12 => ?_)
                · skip
                  have c_12 : 10 ≤ k := (nI_leI (by omega) (by omega)).mp c_12
                  refine lv_aload_n hx hb dX11_good_64 rfl (lv_at hl 0 rfl) ?_
                  refine m_getr S hW hZ.sp.1 1 rfl (j := 201) rfl kX11 (iW11 _) (by decide) (List.mem_cons_of_mem _ (wa_11 _ (List.mem_of_getElem? (i := 2) (by decide +kernel)))) dX11_good_65 ?_
                  refine lv_bipush (v := nI 12) hx hb dX11_good_68 (by decide) ?_
                  refine lv_aload_n hx hb dX11_good_70 rfl (lv_at hl 0 rfl) ?_
                  refine m_geti S hW hZ.sp.1 0 rfl kX11 (iW11 _) (by decide) (List.mem_cons_of_mem _ (wa_15 _ (List.mem_of_getElem? (i := 1) (by decide +kernel)))) dX11_good_71 ?_
                  refine m_top (y := nI (gNg q)) (by rw [hv, mFill_no _ _ (by decide)]; exact hZ.ng_) ?_
                  refine lv_imul hx hb dX11_good_74 ?_
                  refine m_top (y := nI (12 * (gNg q))) (pk_mul 12 (gNg q)) ?_
                  refine lv_bipush (v := nI 10) hx hb dX11_good_75 (by decide) ?_
                  refine lv_iadd hx hb dX11_good_77 ?_
                  refine m_top (y := nI ((12 * (gNg q)) + 10)) (nI_add (12 * (gNg q)) 10) ?_
                  refine lv_iload_n hx hb dX11_good_78 rfl (lv_at hl 1 rfl) ?_
                  refine m_iast S hW hZ.sp.2.1 ((12 * (gNg q)) + 10) rfl (by omega) (by decide) dX11_good_79 (fun H locs hW => ?_)
                  obtain ⟨V_13, eV_13⟩ : ∃ vv_ : mV, vv_ = mU V1 201 ((12 * (gNg q)) + 10) (x) := ⟨_, rfl⟩
                  rw [← eV_13] at hW
                  refine lv_aload_n hx hb dX11_good_80 rfl (lv_at hl 0 rfl) ?_
                  refine m_getr S hW hZ.sp.1 1 rfl (j := 201) rfl kX11 (iW11 _) (by decide) (List.mem_cons_of_mem _ (wa_11 _ (List.mem_of_getElem? (i := 2) (by decide +kernel)))) dX11_good_81 ?_
                  refine lv_bipush (v := nI 12) hx hb dX11_good_84 (by decide) ?_
                  refine lv_aload_n hx hb dX11_good_86 rfl (lv_at hl 0 rfl) ?_
                  refine m_geti S hW hZ.sp.1 0 rfl kX11 (iW11 _) (by decide) (List.mem_cons_of_mem _ (wa_15 _ (List.mem_of_getElem? (i := 1) (by decide +kernel)))) dX11_good_87 ?_
                  refine m_top (y := nI (gNg q)) (by rw [eV_13, mU_no _ _ (by decide), hv, mFill_no _ _ (by decide)]; exact hZ.ng_) ?_
                  refine lv_imul hx hb dX11_good_90 ?_
                  refine m_top (y := nI (12 * (gNg q))) (pk_mul 12 (gNg q)) ?_
                  refine lv_bipush (v := nI 11) hx hb dX11_good_91 (by decide) ?_
                  refine lv_iadd hx hb dX11_good_93 ?_
                  refine m_top (y := nI ((12 * (gNg q)) + 11)) (nI_add (12 * (gNg q)) 11) ?_
                  refine lv_sipush (v := nI 1023) hx hb dX11_good_94 (by decide) ?_
                  refine m_iast S hW hZ.sp.2.1 ((12 * (gNg q)) + 11) rfl (by omega) (by decide) dX11_good_97 (fun H locs hW => ?_)
                  obtain ⟨V_14, eV_14⟩ : ∃ vv_ : mV, vv_ = mU V_13 201 ((12 * (gNg q)) + 11) (nI 1023) := ⟨_, rfl⟩
                  rw [← eV_14] at hW
                  refine lv_aload_n hx hb dX11_good_98 rfl (lv_at hl 0 rfl) ?_
                  refine lv_dup hx hb dX11_good_99 rfl ?_
                  refine m_geti S hW hZ.sp.1 0 rfl kX11 (iW11 _) (by decide) (List.mem_cons_of_mem _ (wa_15 _ (List.mem_of_getElem? (i := 1) (by decide +kernel)))) dX11_good_100 ?_
                  refine m_top (y := nI (gNg q)) (by rw [eV_14, mU_no _ _ (by decide), eV_13, mU_no _ _ (by decide), hv, mFill_no _ _ (by decide)]; exact hZ.ng_) ?_
                  refine lv_iconst (v := nI 1) hx hb dX11_good_103 (by decide) ?_
                  refine lv_iadd hx hb dX11_good_104 ?_
                  refine m_top (y := nI ((gNg q) + 1)) (nI_add (gNg q) 1) ?_
                  refine m_puti S hW hZ.sp.1 0 rfl kX11 (iW11 _) tyX11 tyX11_ok nmX11 (by decide) (List.mem_cons_of_mem _ (wa_15 _ (List.mem_of_getElem? (i := 1) (by decide +kernel)))) (Or.inl rfl) rfl rfl dX11_good_105 (fun H locs hW => ?_)
                  obtain ⟨V_15, eV_15⟩ : ∃ vv_ : mV, vv_ = mU V_14 200 0 (nI ((gNg q) + 1)) := ⟨_, rfl⟩
                  rw [← eV_15] at hW
                  refine lv_aload_n hx hb dX11_good_108 rfl (lv_at hl 0 rfl) ?_
                  refine m_geti S hW hZ.sp.1 0 rfl kX11 (iW11 _) (by decide) (List.mem_cons_of_mem _ (wa_15 _ (List.mem_of_getElem? (i := 1) (by decide +kernel)))) dX11_good_109 ?_
                  refine m_top (y := nI (gNg q + 1)) (by rw [eV_15, mU_eq]) ?_
                  refine lv_iconst (v := nI 1) hx hb dX11_good_112 (by decide) ?_
                  refine lv_isub hx hb dX11_good_113 ?_
                  refine m_top (y := nI ((gNg q + 1) - 1)) (pk_sub (by omega)) ?_
                  refine m_top (y := nI (gNg q)) (congrArg nI (Nat.add_sub_cancel _ 1)) ?_
                  exact m_iret S hr hlk hW dX11_good_114 (by have hne6 : ¬ gNg q = 6 := c_11; have hvv : V_15 = mU (mU (mU (mFill V 201 (12 * gNg q) 10 y) 201 (12 * gNg q + 10) x) 201 (12 * gNg q + 11) (nI 1023)) 200 0 (nI (gNg q + 1)) := (by rw [eV_15, eV_14, eV_13, hv, show k = 10 by omega]); have hf : ∀ a, a ≠ 200 → a ≠ 201 → V_15 a = V a := (fun a h0 h1 => by rw [hvv, mU_no _ _ h0, mU_no _ _ h1, mU_no _ _ h1, mFill_no _ _ h1]); have hf2 : ∀ k, k ≠ 0 → V_15 200 k = V 200 k := (fun k hk => by rw [hvv, mU_ne _ _ (by omega), mU_no _ _ (by decide), mU_no _ _ (by decide), mFill_no _ _ (by decide)]); have hz9 := hZ.addG (V' := V_15) (by omega) (y := x) (w := y) (by obtain ⟨n, e1, -, e2⟩ := w_3.ex; exact ⟨n, e2, e1⟩) (by obtain ⟨n, e1, -, e2⟩ := w_8.ex; exact ⟨n, e2, e1⟩) hf (by rw [hvv, mU_eq]) hf2 (fun c hc => by rw [hvv, mU_no _ _ (by decide), mU_ne _ _ (by omega), mU_ne _ _ (by omega), mFill, if_pos (by omega)]) (by rw [hvv, mU_no _ _ (by decide), mU_ne _ _ (by omega), mU_eq]) (by rw [hvv, mU_no _ _ (by decide), mU_eq]) (fun k hk => by rw [hvv, mU_no _ _ (by decide), mU_ne _ _ (by omega), mU_ne _ _ (by omega), mFill, if_neg (by omega)]); exact ⟨by simp only [aGood, if_pos w_3, if_pos w_8, if_neg c_11], by simp only [nGood, if_pos w_3, if_pos w_8, if_neg c_11]; exact hI.scene (s' := (zAddG (gZ q) (gNg q) x y, gNe q, gNg q + 1, gRl q)) hz9 htn.2.2.2 (fun a ha _ _ => hf a (by omega) (by omega)) ⟨hf2 8 (by decide), hf2 11 (by decide), hf2 13 (by decide)⟩ (fun u _ => ⟨by rw [hf 202 (by decide) (by decide)], by rw [hf 203 (by decide) (by decide)]⟩) (fun hh => (hI.im hh).2.2.1), fun a ha => hf a (by omega) (by omega)⟩)
                · skip
                  have c_12 : ¬ 10 ≤ k := mt (nI_leI (by omega) (by omega)).mpr c_12
                  refine lv_aload_n hx hb dX11_good_43 rfl (lv_at hl 0 rfl) ?_
                  refine m_getr S hW hZ.sp.1 1 rfl (j := 201) rfl kX11 (iW11 _) (by decide) (List.mem_cons_of_mem _ (wa_11 _ (List.mem_of_getElem? (i := 2) (by decide +kernel)))) dX11_good_44 ?_
                  refine lv_bipush (v := nI 12) hx hb dX11_good_47 (by decide) ?_
                  refine lv_aload_n hx hb dX11_good_49 rfl (lv_at hl 0 rfl) ?_
                  refine m_geti S hW hZ.sp.1 0 rfl kX11 (iW11 _) (by decide) (List.mem_cons_of_mem _ (wa_15 _ (List.mem_of_getElem? (i := 1) (by decide +kernel)))) dX11_good_50 ?_
                  refine m_top (y := nI (gNg q)) (by rw [hv, mFill_no _ _ (by decide)]; exact hZ.ng_) ?_
                  refine lv_imul hx hb dX11_good_53 ?_
                  refine m_top (y := nI (12 * (gNg q))) (pk_mul 12 (gNg q)) ?_
                  refine lv_iload_n hx hb dX11_good_54 rfl (lv_at hl 3 rfl) ?_
                  refine lv_iadd hx hb dX11_good_55 ?_
                  refine m_top (y := nI ((12 * (gNg q)) + k)) (nI_add (12 * (gNg q)) k) ?_
                  refine lv_iload_n hx hb dX11_good_56 rfl (lv_at hl 2 rfl) ?_
                  refine m_iast S hW hZ.sp.2.1 ((12 * (gNg q)) + k) rfl (by omega) (by decide) dX11_good_57 (fun H locs hW => ?_)
                  obtain ⟨V_16, eV_16⟩ : ∃ vv_ : mV, vv_ = mU V1 201 ((12 * (gNg q)) + k) (y) := ⟨_, rfl⟩
                  rw [← eV_16] at hW
                  refine lv_iinc (v := nI (k + 1)) (lv' := [(3, .int (nI (k + 1))), (0, .ref (ad 200)), (1, .int x), (2, .int y)]) hx hb dX11_good_58 hl (k := 3) rfl (m_inc k 1) (by decide) rfl (fun ls hl => ?_)
                  refine lv_goto (tgt := 37) hx hb dX11_good_61 (by decide) ?_
                  exact ih_37  (k + 1) V_16 _ _ _ (by omega) (by rw [eV_16, hv, mFill_1]; rfl) (by omega) hW (lv_sub hl [1, 2, 3, 0] rfl)
            exact loop_37 (10 - 0 + 1) 0 V _ _ _ (by omega) (by exact mFill_0 _ _ _ _) (by omega) hW (lv_sub hl [1, 2, 3, 0] rfl)
          · skip
            have c_11 : (gNg q) = 6 := (nI_eq (by omega) (by omega)).mp c_11
            refine lv_bipush (v := -4) hx hb dX11_good_32 (by decide) ?_
            exact m_iret S hr hlk hW dX11_good_34 (by exact ⟨by simp only [aGood, if_pos w_3, if_pos w_8, if_pos c_11]; try rfl, by simp only [nGood, if_pos w_3, if_pos w_8, if_pos c_11]; exact hI, fun _ _ => rfl⟩)
        · exact absurd c_10 (by decide)
      · skip
        refine m_if_ne (tgt := 23) hx hb dX11_good_17 (by decide) (fun c_17 => ?_) (fun c_17 => ?_)
        · exact absurd c_17 (by decide)
        · skip
          refine lv_bipush (v := -2) hx hb dX11_good_20 (by decide) ?_
          exact m_iret S hr hlk hW dX11_good_22 (by exact ⟨by simp only [aGood, if_pos w_3, if_neg w_9]; try rfl, by simp only [nGood, if_pos w_3, if_neg w_9]; exact hI, fun _ _ => rfl⟩)
  · skip
    refine m_if_eq (tgt := 20) hx hb dX11_good_7 (by decide) (fun c_18 => ?_) (fun c_18 => ?_)
    · skip
      refine lv_bipush (v := -2) hx hb dX11_good_20 (by decide) ?_
      exact m_iret S hr hlk hW dX11_good_22 (by exact ⟨by simp only [aGood, if_neg w_4]; try rfl, by simp only [nGood, if_neg w_4]; exact hI, fun _ _ => rfl⟩)
    · exact absurd c_18 (by decide)
set_option maxHeartbeats 4000000 in
set_option maxRecDepth 100000 in
theorem c_X11_eater (l : Launch) (G : mG) (ad : Nat → Nat) (sh : Nat → Option mSh) (V : mV) (q : Sg) (x y : Int32) (hI : MI sh V q) : mM l yX11_eater wsX11_eater ({ frames := 1, cells := 0, slots := 0, locals := 22 } : Room) G ad sh V [.ref (ad 200), .int x, .int y] 0 0 (mPi ad sh (fun r V' => (aEater q x y) = r ∧ (MI sh V' (nEater q x y)) ∧ (∀ a, a < 200 → V' a = V a))) := by
  refine mM.of (cc := cX11_eater) (maxL := 3) (ret := (some .int)) (by decide) rfl (Nat.le_of_ble_eq_true rfl) ?_
  intro p e s m below meth c S hr hlk hnm hW ls hl
  obtain ⟨hx, hb, hml, hown, hts⟩ := id S
  have hl : lv_has ls 3 [(0, .ref (ad 200)), (1, .int x), (2, .int y)] := hl
  have hS0 : True := trivial
  have hZ := hI.z
  have hne5 := hZ.ne5
  have hng6 := hZ.ng6
  have htn := hI.tn
  refine lv_iload_n hx hb dX11_eater_0 rfl (lv_at hl 1 rfl) ?_
  refine lv_iconst (v := nI 0) hx hb dX11_eater_1 (by decide) ?_
  refine lv_bipush (v := nI 59) hx hb dX11_eater_2 (by decide) ?_
  refine m_cip (m_rS S hW (c_X11_in l G ad sh V x 0 59 (by first | assumption | omega) (by first | assumption | omega)) (va_cwS 3 hts (gCall [.methodLink RX11 84 yX11_in, .static yX11_in, .initialized RX11] (List.forall_mem_cons.mpr ⟨(wa_12 _ (List.mem_of_getElem? (i := 16) (by decide +kernel))), (List.forall_mem_cons.mpr ⟨(wa_12 _ (List.mem_of_getElem? (i := 14) (by decide +kernel))), (List.forall_mem_cons.mpr ⟨(wa_12 _ (List.mem_of_getElem? (i := 15) (by decide +kernel))), (List.forall_mem_cons.mpr ⟨(wa_1 _ (List.mem_of_getElem? (i := 5) (by decide +kernel))), (fun _ h => absurd h List.not_mem_nil)⟩)⟩)⟩)⟩)) rfl rfl rfl (by decide +kernel) ⟨Nat.le_of_ble_eq_true rfl, Nat.le_of_ble_eq_true rfl⟩) rfl hl.1 rfl (Nat.le_of_ble_eq_true rfl) dX11_eater_4 ⟨Nat.le_of_ble_eq_true rfl, Nat.le_of_ble_eq_true rfl⟩) hW (fun r_2 H locs hp_1 hW => ?_)
  rcases hp_1 with ⟨rfl, w_3⟩ | ⟨rfl, w_4⟩
  · skip
    obtain ⟨nx, hnx, hwnx, hlnx⟩ := w_3.ex
    have hcx : x.toNatClampNeg = nx := by rw [hnx]; exact nI_clamp (by omega)
    refine m_if_eq (tgt := 20) hx hb dX11_eater_7 (by decide) (fun c_5 => ?_) (fun c_5 => ?_)
    · exact absurd c_5 (by decide)
    · skip
      refine lv_iload_n hx hb dX11_eater_10 rfl (lv_at hl 2 rfl) ?_
      refine lv_iconst (v := nI 1) hx hb dX11_eater_11 (by decide) ?_
      refine lv_bipush (v := nI 63) hx hb dX11_eater_12 (by decide) ?_
      refine m_cip (m_rS S hW (c_X11_in l G ad sh V y 1 63 (by first | assumption | omega) (by first | assumption | omega)) (va_cwS 3 hts (gCall [.methodLink RX11 84 yX11_in, .static yX11_in, .initialized RX11] (List.forall_mem_cons.mpr ⟨(wa_12 _ (List.mem_of_getElem? (i := 16) (by decide +kernel))), (List.forall_mem_cons.mpr ⟨(wa_12 _ (List.mem_of_getElem? (i := 14) (by decide +kernel))), (List.forall_mem_cons.mpr ⟨(wa_12 _ (List.mem_of_getElem? (i := 15) (by decide +kernel))), (List.forall_mem_cons.mpr ⟨(wa_1 _ (List.mem_of_getElem? (i := 5) (by decide +kernel))), (fun _ h => absurd h List.not_mem_nil)⟩)⟩)⟩)⟩)) rfl rfl rfl (by decide +kernel) ⟨Nat.le_of_ble_eq_true rfl, Nat.le_of_ble_eq_true rfl⟩) rfl hl.1 rfl (Nat.le_of_ble_eq_true rfl) dX11_eater_14 ⟨Nat.le_of_ble_eq_true rfl, Nat.le_of_ble_eq_true rfl⟩) hW (fun r_7 H locs hp_6 hW => ?_)
      rcases hp_6 with ⟨rfl, w_8⟩ | ⟨rfl, w_9⟩
      · skip
        refine m_if_ne (tgt := 23) hx hb dX11_eater_17 (by decide) (fun c_10 => ?_) (fun c_10 => ?_)
        · skip
          refine lv_aload_n hx hb dX11_eater_23 rfl (lv_at hl 0 rfl) ?_
          refine m_geti S hW hZ.sp.1 2 rfl kX11 (iW11 _) (by decide) (List.mem_cons_of_mem _ (wa_15 _ (List.mem_of_getElem? (i := 0) (by decide +kernel)))) dX11_eater_24 ?_
          refine m_top (y := nI (gNe q)) hI.z.ne_ ?_
          refine lv_iconst (v := nI 5) hx hb dX11_eater_27 (by decide) ?_
          refine lv_icmp_ne (tgt := 34) hx hb dX11_eater_28 (by decide) (fun c_11 => ?_) (fun c_11 => ?_)
          · skip
            have c_11 : ¬ (gNe q) = 5 := mt (nI_eq (by omega) (by omega)).mpr c_11
            refine lv_aload_n hx hb dX11_eater_34 rfl (lv_at hl 0 rfl) ?_
            refine m_getr S hW hZ.sp.1 3 rfl (j := 202) rfl kX11 (iW11 _) (by decide) (List.mem_cons_of_mem _ (wa_11 _ (List.mem_of_getElem? (i := 3) (by decide +kernel)))) dX11_eater_35 ?_
            refine lv_aload_n hx hb dX11_eater_38 rfl (lv_at hl 0 rfl) ?_
            refine m_geti S hW hZ.sp.1 2 rfl kX11 (iW11 _) (by decide) (List.mem_cons_of_mem _ (wa_15 _ (List.mem_of_getElem? (i := 0) (by decide +kernel)))) dX11_eater_39 ?_
            refine m_top (y := nI (gNe q)) hI.z.ne_ ?_
            refine lv_iload_n hx hb dX11_eater_42 rfl (lv_at hl 1 rfl) ?_
            refine m_top (y := nI nx) hnx ?_
            refine lv_bipush (v := nI 10) hx hb dX11_eater_43 (by decide) ?_
            refine lv_idiv hx hb dX11_eater_45 (by decide) ?_
            refine m_top (y := nI (nx / 10)) (pk_div (by omega) (by omega) (by omega)) ?_
            refine m_iast S hW hZ.sp.2.2.1 (gNe q) rfl (by omega) (by decide) dX11_eater_46 (fun H locs hW => ?_)
            obtain ⟨V_12, eV_12⟩ : ∃ vv_ : mV, vv_ = mU V 202 (gNe q) (nI (nx / 10)) := ⟨_, rfl⟩
            rw [← eV_12] at hW
            refine lv_aload_n hx hb dX11_eater_47 rfl (lv_at hl 0 rfl) ?_
            refine m_getr S hW hZ.sp.1 4 rfl (j := 203) rfl kX11 (iW11 _) (by decide) (List.mem_cons_of_mem _ (wa_11 _ (List.mem_of_getElem? (i := 4) (by decide +kernel)))) dX11_eater_48 ?_
            refine lv_aload_n hx hb dX11_eater_51 rfl (lv_at hl 0 rfl) ?_
            refine m_geti S hW hZ.sp.1 2 rfl kX11 (iW11 _) (by decide) (List.mem_cons_of_mem _ (wa_15 _ (List.mem_of_getElem? (i := 0) (by decide +kernel)))) dX11_eater_52 ?_
            refine m_top (y := nI (gNe q)) (by rw [eV_12, mU_no _ _ (by decide)]; exact hZ.ne_) ?_
            refine lv_iload_n hx hb dX11_eater_55 rfl (lv_at hl 1 rfl) ?_
            refine m_top (y := nI nx) hnx ?_
            refine lv_bipush (v := nI 10) hx hb dX11_eater_56 (by decide) ?_
            refine lv_irem hx hb dX11_eater_58 (by decide) ?_
            refine m_top (y := nI (nx % 10)) (pk_rem (by omega) (by omega) (by omega)) ?_
            refine m_iast S hW hZ.sp.2.2.2.1 (gNe q) rfl (by omega) (by decide) dX11_eater_59 (fun H locs hW => ?_)
            obtain ⟨V_13, eV_13⟩ : ∃ vv_ : mV, vv_ = mU V_12 203 (gNe q) (nI (nx % 10)) := ⟨_, rfl⟩
            rw [← eV_13] at hW
            refine lv_aload_n hx hb dX11_eater_60 rfl (lv_at hl 0 rfl) ?_
            refine m_getr S hW hZ.sp.1 5 rfl (j := 204) rfl kX11 (iW11 _) (by decide) (List.mem_cons_of_mem _ (wa_11 _ (List.mem_of_getElem? (i := 5) (by decide +kernel)))) dX11_eater_61 ?_
            refine lv_iconst (v := nI 3) hx hb dX11_eater_64 (by decide) ?_
            refine lv_aload_n hx hb dX11_eater_65 rfl (lv_at hl 0 rfl) ?_
            refine m_geti S hW hZ.sp.1 2 rfl kX11 (iW11 _) (by decide) (List.mem_cons_of_mem _ (wa_15 _ (List.mem_of_getElem? (i := 0) (by decide +kernel)))) dX11_eater_66 ?_
            refine m_top (y := nI (gNe q)) (by rw [eV_13, mU_no _ _ (by decide), eV_12, mU_no _ _ (by decide)]; exact hZ.ne_) ?_
            refine lv_imul hx hb dX11_eater_69 ?_
            refine m_top (y := nI (3 * (gNe q))) (pk_mul 3 (gNe q)) ?_
            refine lv_iload_n hx hb dX11_eater_70 rfl (lv_at hl 2 rfl) ?_
            refine m_iast S hW hZ.sp.2.2.2.2.1 (3 * (gNe q)) rfl (by omega) (by decide) dX11_eater_71 (fun H locs hW => ?_)
            obtain ⟨V_14, eV_14⟩ : ∃ vv_ : mV, vv_ = mU V_13 204 (3 * (gNe q)) (y) := ⟨_, rfl⟩
            rw [← eV_14] at hW
            refine lv_aload_n hx hb dX11_eater_72 rfl (lv_at hl 0 rfl) ?_
            refine m_getr S hW hZ.sp.1 5 rfl (j := 204) rfl kX11 (iW11 _) (by decide) (List.mem_cons_of_mem _ (wa_11 _ (List.mem_of_getElem? (i := 5) (by decide +kernel)))) dX11_eater_73 ?_
            refine lv_iconst (v := nI 3) hx hb dX11_eater_76 (by decide) ?_
            refine lv_aload_n hx hb dX11_eater_77 rfl (lv_at hl 0 rfl) ?_
            refine m_geti S hW hZ.sp.1 2 rfl kX11 (iW11 _) (by decide) (List.mem_cons_of_mem _ (wa_15 _ (List.mem_of_getElem? (i := 0) (by decide +kernel)))) dX11_eater_78 ?_
            refine m_top (y := nI (gNe q)) (by rw [eV_14, mU_no _ _ (by decide), eV_13, mU_no _ _ (by decide), eV_12, mU_no _ _ (by decide)]; exact hZ.ne_) ?_
            refine lv_imul hx hb dX11_eater_81 ?_
            refine m_top (y := nI (3 * (gNe q))) (pk_mul 3 (gNe q)) ?_
            refine lv_iconst (v := nI 1) hx hb dX11_eater_82 (by decide) ?_
            refine lv_iadd hx hb dX11_eater_83 ?_
            refine m_top (y := nI ((3 * (gNe q)) + 1)) (nI_add (3 * (gNe q)) 1) ?_
            refine lv_bipush (v := nI 100) hx hb dX11_eater_84 (by decide) ?_
            refine m_iast S hW hZ.sp.2.2.2.2.1 ((3 * (gNe q)) + 1) rfl (by omega) (by decide) dX11_eater_86 (fun H locs hW => ?_)
            obtain ⟨V_15, eV_15⟩ : ∃ vv_ : mV, vv_ = mU V_14 204 ((3 * (gNe q)) + 1) (nI 100) := ⟨_, rfl⟩
            rw [← eV_15] at hW
            refine lv_aload_n hx hb dX11_eater_87 rfl (lv_at hl 0 rfl) ?_
            refine m_getr S hW hZ.sp.1 5 rfl (j := 204) rfl kX11 (iW11 _) (by decide) (List.mem_cons_of_mem _ (wa_11 _ (List.mem_of_getElem? (i := 5) (by decide +kernel)))) dX11_eater_88 ?_
            refine lv_iconst (v := nI 3) hx hb dX11_eater_91 (by decide) ?_
            refine lv_aload_n hx hb dX11_eater_92 rfl (lv_at hl 0 rfl) ?_
            refine m_geti S hW hZ.sp.1 2 rfl kX11 (iW11 _) (by decide) (List.mem_cons_of_mem _ (wa_15 _ (List.mem_of_getElem? (i := 0) (by decide +kernel)))) dX11_eater_93 ?_
            refine m_top (y := nI (gNe q)) (by rw [eV_15, mU_no _ _ (by decide), eV_14, mU_no _ _ (by decide), eV_13, mU_no _ _ (by decide), eV_12, mU_no _ _ (by decide)]; exact hZ.ne_) ?_
            refine lv_imul hx hb dX11_eater_96 ?_
            refine m_top (y := nI (3 * (gNe q))) (pk_mul 3 (gNe q)) ?_
            refine lv_iconst (v := nI 2) hx hb dX11_eater_97 (by decide) ?_
            refine lv_iadd hx hb dX11_eater_98 ?_
            refine m_top (y := nI ((3 * (gNe q)) + 2)) (nI_add (3 * (gNe q)) 2) ?_
            refine lv_iconst (v := nI 0) hx hb dX11_eater_99 (by decide) ?_
            refine m_iast S hW hZ.sp.2.2.2.2.1 ((3 * (gNe q)) + 2) rfl (by omega) (by decide) dX11_eater_100 (fun H locs hW => ?_)
            obtain ⟨V_16, eV_16⟩ : ∃ vv_ : mV, vv_ = mU V_15 204 ((3 * (gNe q)) + 2) (nI 0) := ⟨_, rfl⟩
            rw [← eV_16] at hW
            refine lv_aload_n hx hb dX11_eater_101 rfl (lv_at hl 0 rfl) ?_
            refine lv_dup hx hb dX11_eater_102 rfl ?_
            refine m_geti S hW hZ.sp.1 2 rfl kX11 (iW11 _) (by decide) (List.mem_cons_of_mem _ (wa_15 _ (List.mem_of_getElem? (i := 0) (by decide +kernel)))) dX11_eater_103 ?_
            refine m_top (y := nI (gNe q)) (by rw [eV_16, mU_no _ _ (by decide), eV_15, mU_no _ _ (by decide), eV_14, mU_no _ _ (by decide), eV_13, mU_no _ _ (by decide), eV_12, mU_no _ _ (by decide)]; exact hZ.ne_) ?_
            refine lv_iconst (v := nI 1) hx hb dX11_eater_106 (by decide) ?_
            refine lv_iadd hx hb dX11_eater_107 ?_
            refine m_top (y := nI ((gNe q) + 1)) (nI_add (gNe q) 1) ?_
            refine m_puti S hW hZ.sp.1 2 rfl kX11 (iW11 _) tyX11 tyX11_ok nmX11 (by decide) (List.mem_cons_of_mem _ (wa_15 _ (List.mem_of_getElem? (i := 0) (by decide +kernel)))) (Or.inl rfl) rfl rfl dX11_eater_108 (fun H locs hW => ?_)
            obtain ⟨V_17, eV_17⟩ : ∃ vv_ : mV, vv_ = mU V_16 200 2 (nI ((gNe q) + 1)) := ⟨_, rfl⟩
            rw [← eV_17] at hW
            refine lv_aload_n hx hb dX11_eater_111 rfl (lv_at hl 0 rfl) ?_
            refine m_geti S hW hZ.sp.1 2 rfl kX11 (iW11 _) (by decide) (List.mem_cons_of_mem _ (wa_15 _ (List.mem_of_getElem? (i := 0) (by decide +kernel)))) dX11_eater_112 ?_
            refine m_top (y := nI (gNe q + 1)) (by rw [eV_17, mU_eq]) ?_
            refine lv_iconst (v := nI 1) hx hb dX11_eater_115 (by decide) ?_
            refine lv_isub hx hb dX11_eater_116 ?_
            refine m_top (y := nI ((gNe q + 1) - 1)) (pk_sub (by omega)) ?_
            refine m_top (y := nI (gNe q)) (congrArg nI (Nat.add_sub_cancel _ 1)) ?_
            exact m_iret S hr hlk hW dX11_eater_117 (by have hne5n : ¬ gNe q = 5 := c_11; have hvv : V_17 = _ := eV_17; rw [eV_16, eV_15, eV_14, eV_13, eV_12] at hvv; have hf : ∀ a, a ≠ 200 → a ≠ 202 → a ≠ 203 → a ≠ 204 → V_17 a = V a := (fun a h0 h2 h3 h4 => by rw [hvv, mU_no _ _ h0, mU_no _ _ h4, mU_no _ _ h4, mU_no _ _ h4, mU_no _ _ h3, mU_no _ _ h2]); have hf2 : ∀ k, k ≠ 2 → V_17 200 k = V 200 k := (fun k hk => by rw [hvv, mU_ne _ _ (by omega), mU_no _ _ (by decide), mU_no _ _ (by decide), mU_no _ _ (by decide), mU_no _ _ (by decide), mU_no _ _ (by decide)]); have hz9 := hZ.addE (V' := V_17) (by omega) (y := nI (nx / 10)) (m := nI (nx % 10)) (w := y) ⟨nx / 10, by omega, rfl⟩ ⟨nx % 10, by omega, rfl⟩ (by obtain ⟨n, e1, e3, e2⟩ := w_8.ex; exact ⟨n, e3, e2, e1⟩) hvv; exact ⟨by simp only [aEater, if_pos w_3, hcx, if_pos w_8, if_neg c_11], by simp only [nEater, if_pos w_3, hcx, if_pos w_8, if_neg c_11]; exact hI.scene (s' := (zAddE (gZ q) (gNe q) (nI (nx / 10)) (nI (nx % 10)) y, gNe q + 1, gNg q, gRl q)) hz9 htn.2.2.2 (fun a ha _ _ => hf a (by omega) (by omega) (by omega) (by omega)) ⟨hf2 8 (by decide), hf2 11 (by decide), hf2 13 (by decide)⟩ (fun u hu => ⟨by rw [hvv, mU_no _ _ (by decide), mU_no _ _ (by decide), mU_no _ _ (by decide), mU_no _ _ (by decide), mU_no _ _ (by decide), mU_ne _ _ (by omega)], by rw [hvv, mU_no _ _ (by decide), mU_no _ _ (by decide), mU_no _ _ (by decide), mU_no _ _ (by decide), mU_ne _ _ (by omega), mU_no _ _ (by decide)]⟩) (fun hh => Nat.le_succ_of_le (hI.im hh).2.2.1), fun a ha => hf a (by omega) (by omega) (by omega) (by omega)⟩)
          · skip
            have c_11 : (gNe q) = 5 := (nI_eq (by omega) (by omega)).mp c_11
            refine lv_bipush (v := -4) hx hb dX11_eater_31 (by decide) ?_
            exact m_iret S hr hlk hW dX11_eater_33 (by exact ⟨by simp only [aEater, if_pos w_3, hcx, if_pos w_8, if_pos c_11]; try rfl, by simp only [nEater, if_pos w_3, hcx, if_pos w_8, if_pos c_11]; exact hI, fun _ _ => rfl⟩)
        · exact absurd c_10 (by decide)
      · skip
        refine m_if_ne (tgt := 23) hx hb dX11_eater_17 (by decide) (fun c_18 => ?_) (fun c_18 => ?_)
        · exact absurd c_18 (by decide)
        · skip
          refine lv_bipush (v := -2) hx hb dX11_eater_20 (by decide) ?_
          exact m_iret S hr hlk hW dX11_eater_22 (by exact ⟨by simp only [aEater, if_pos w_3, hcx, if_neg w_9]; try rfl, by simp only [nEater, if_pos w_3, hcx, if_neg w_9]; exact hI, fun _ _ => rfl⟩)
  · skip
    refine m_if_eq (tgt := 20) hx hb dX11_eater_7 (by decide) (fun c_19 => ?_) (fun c_19 => ?_)
    · skip
      refine lv_bipush (v := -2) hx hb dX11_eater_20 (by decide) ?_
      exact m_iret S hr hlk hW dX11_eater_22 (by exact ⟨by simp only [aEater, if_neg w_4]; try rfl, by simp only [nEater, if_neg w_4]; exact hI, fun _ _ => rfl⟩)
    · exact absurd c_19 (by decide)
set_option maxHeartbeats 4000000 in
set_option maxRecDepth 100000 in
theorem c_X11_feed (l : Launch) (G : mG) (ad : Nat → Nat) (sh : Nat → Option mSh) (V : mV) (q : Sg) (n xa xb xc xd xe : Int32) (hI : MI sh V q) : mM l yX11_feed wsX11_feed ({ frames := 2, cells := 0, slots := 0, locals := 42 } : Room) G ad sh V [.ref (ad 200), .int n, .int xa, .int xb, .int xc, .int xd, .int xe] 0 0 (mPi ad sh (fun r V' => (aFeed q n xa xb xc xd xe) = r ∧ (MI sh V' (nFeed q n xa xb xc xd xe)) ∧ (∀ a, a < 200 → V' a = V a))) := by
  refine mM.of (cc := cX11_feed) (maxL := 8) (ret := (some .int)) (by decide) rfl (Nat.le_of_ble_eq_true rfl) ?_
  intro p e s m below meth c S hr hlk hnm hW ls hl
  obtain ⟨hx, hb, hml, hown, hts⟩ := id S
  have hl : lv_has ls 8 [(0, .ref (ad 200)), (1, .int n), (2, .int xa), (3, .int xb), (4, .int xc), (5, .int xd), (6, .int xe)] := hl
  have hS0 : True := trivial
  have hZ := hI.z
  have hne5 := hZ.ne5
  have hng6 := hZ.ng6
  have htn := hI.tn
  have htp := hI.tp.2.1
  refine lv_iload_n hx hb dX11_feed_0 rfl (lv_at hl 1 rfl) ?_
  refine lv_iconst (v := nI 1) hx hb dX11_feed_1 (by decide) ?_
  refine lv_iconst (v := nI 5) hx hb dX11_feed_2 (by decide) ?_
  refine m_cip (m_rS S hW (c_X11_in l G ad sh V n 1 5 (by first | assumption | omega) (by first | assumption | omega)) (va_cwS 3 hts (gCall [.methodLink RX11 84 yX11_in, .static yX11_in, .initialized RX11] (List.forall_mem_cons.mpr ⟨(wa_12 _ (List.mem_of_getElem? (i := 16) (by decide +kernel))), (List.forall_mem_cons.mpr ⟨(wa_12 _ (List.mem_of_getElem? (i := 14) (by decide +kernel))), (List.forall_mem_cons.mpr ⟨(wa_12 _ (List.mem_of_getElem? (i := 15) (by decide +kernel))), (List.forall_mem_cons.mpr ⟨(wa_1 _ (List.mem_of_getElem? (i := 5) (by decide +kernel))), (fun _ h => absurd h List.not_mem_nil)⟩)⟩)⟩)⟩)) rfl rfl rfl (by decide +kernel) ⟨Nat.le_of_ble_eq_true rfl, Nat.le_of_ble_eq_true rfl⟩) rfl hl.1 rfl (Nat.le_of_ble_eq_true rfl) dX11_feed_3 ⟨Nat.le_of_ble_eq_true rfl, Nat.le_of_ble_eq_true rfl⟩) hW (fun r_2 H locs hp_1 hW => ?_)
  rcases hp_1 with ⟨rfl, w_3⟩ | ⟨rfl, w_4⟩
  · skip
    obtain ⟨nn, hnn, hwnn, hlnn⟩ := w_3.ex
    have hcn : n.toNatClampNeg = nn := by rw [hnn]; exact nI_clamp (by omega)
    refine m_if_eq (tgt := 47) hx hb dX11_feed_6 (by decide) (fun c_5 => ?_) (fun c_5 => ?_)
    · exact absurd c_5 (by decide)
    · skip
      refine lv_iload_n hx hb dX11_feed_9 rfl (lv_at hl 2 rfl) ?_
      refine m_cip (m_rS S hW (c_X11_isByte l G ad sh V xa) (va_cwS 1 hts (gCall [.methodLink RX11 100 yX11_isByte, .static yX11_isByte, .initialized RX11] (List.forall_mem_cons.mpr ⟨(wa_16 _ (List.mem_of_getElem? (i := 7) (by decide +kernel))), (List.forall_mem_cons.mpr ⟨(wa_16 _ (List.mem_of_getElem? (i := 5) (by decide +kernel))), (List.forall_mem_cons.mpr ⟨(wa_16 _ (List.mem_of_getElem? (i := 6) (by decide +kernel))), (List.forall_mem_cons.mpr ⟨(wa_1 _ (List.mem_of_getElem? (i := 5) (by decide +kernel))), (fun _ h => absurd h List.not_mem_nil)⟩)⟩)⟩)⟩)) rfl rfl rfl (by decide +kernel) ⟨Nat.le_of_ble_eq_true rfl, Nat.le_of_ble_eq_true rfl⟩) rfl hl.1 rfl (Nat.le_of_ble_eq_true rfl) dX11_feed_10 ⟨Nat.le_of_ble_eq_true rfl, Nat.le_of_ble_eq_true rfl⟩) hW (fun r_7 H locs hp_6 hW => ?_)
      rcases hp_6 with ⟨rfl, w_8⟩ | ⟨rfl, w_9⟩
      · skip
        refine m_if_eq (tgt := 47) hx hb dX11_feed_13 (by decide) (fun c_10 => ?_) (fun c_10 => ?_)
        · exact absurd c_10 (by decide)
        · skip
          refine lv_iload_n hx hb dX11_feed_16 rfl (lv_at hl 3 rfl) ?_
          refine m_cip (m_rS S hW (c_X11_isByte l G ad sh V xb) (va_cwS 1 hts (gCall [.methodLink RX11 100 yX11_isByte, .static yX11_isByte, .initialized RX11] (List.forall_mem_cons.mpr ⟨(wa_16 _ (List.mem_of_getElem? (i := 7) (by decide +kernel))), (List.forall_mem_cons.mpr ⟨(wa_16 _ (List.mem_of_getElem? (i := 5) (by decide +kernel))), (List.forall_mem_cons.mpr ⟨(wa_16 _ (List.mem_of_getElem? (i := 6) (by decide +kernel))), (List.forall_mem_cons.mpr ⟨(wa_1 _ (List.mem_of_getElem? (i := 5) (by decide +kernel))), (fun _ h => absurd h List.not_mem_nil)⟩)⟩)⟩)⟩)) rfl rfl rfl (by decide +kernel) ⟨Nat.le_of_ble_eq_true rfl, Nat.le_of_ble_eq_true rfl⟩) rfl hl.1 rfl (Nat.le_of_ble_eq_true rfl) dX11_feed_17 ⟨Nat.le_of_ble_eq_true rfl, Nat.le_of_ble_eq_true rfl⟩) hW (fun r_12 H locs hp_11 hW => ?_)
          rcases hp_11 with ⟨rfl, w_13⟩ | ⟨rfl, w_14⟩
          · skip
            refine m_if_eq (tgt := 47) hx hb dX11_feed_20 (by decide) (fun c_15 => ?_) (fun c_15 => ?_)
            · exact absurd c_15 (by decide)
            · skip
              refine lv_iload hx hb dX11_feed_23 (lv_at hl 4 rfl) ?_
              refine m_cip (m_rS S hW (c_X11_isByte l G ad sh V xc) (va_cwS 1 hts (gCall [.methodLink RX11 100 yX11_isByte, .static yX11_isByte, .initialized RX11] (List.forall_mem_cons.mpr ⟨(wa_16 _ (List.mem_of_getElem? (i := 7) (by decide +kernel))), (List.forall_mem_cons.mpr ⟨(wa_16 _ (List.mem_of_getElem? (i := 5) (by decide +kernel))), (List.forall_mem_cons.mpr ⟨(wa_16 _ (List.mem_of_getElem? (i := 6) (by decide +kernel))), (List.forall_mem_cons.mpr ⟨(wa_1 _ (List.mem_of_getElem? (i := 5) (by decide +kernel))), (fun _ h => absurd h List.not_mem_nil)⟩)⟩)⟩)⟩)) rfl rfl rfl (by decide +kernel) ⟨Nat.le_of_ble_eq_true rfl, Nat.le_of_ble_eq_true rfl⟩) rfl hl.1 rfl (Nat.le_of_ble_eq_true rfl) dX11_feed_25 ⟨Nat.le_of_ble_eq_true rfl, Nat.le_of_ble_eq_true rfl⟩) hW (fun r_17 H locs hp_16 hW => ?_)
              rcases hp_16 with ⟨rfl, w_18⟩ | ⟨rfl, w_19⟩
              · skip
                refine m_if_eq (tgt := 47) hx hb dX11_feed_28 (by decide) (fun c_20 => ?_) (fun c_20 => ?_)
                · exact absurd c_20 (by decide)
                · skip
                  refine lv_iload hx hb dX11_feed_31 (lv_at hl 5 rfl) ?_
                  refine m_cip (m_rS S hW (c_X11_isByte l G ad sh V xd) (va_cwS 1 hts (gCall [.methodLink RX11 100 yX11_isByte, .static yX11_isByte, .initialized RX11] (List.forall_mem_cons.mpr ⟨(wa_16 _ (List.mem_of_getElem? (i := 7) (by decide +kernel))), (List.forall_mem_cons.mpr ⟨(wa_16 _ (List.mem_of_getElem? (i := 5) (by decide +kernel))), (List.forall_mem_cons.mpr ⟨(wa_16 _ (List.mem_of_getElem? (i := 6) (by decide +kernel))), (List.forall_mem_cons.mpr ⟨(wa_1 _ (List.mem_of_getElem? (i := 5) (by decide +kernel))), (fun _ h => absurd h List.not_mem_nil)⟩)⟩)⟩)⟩)) rfl rfl rfl (by decide +kernel) ⟨Nat.le_of_ble_eq_true rfl, Nat.le_of_ble_eq_true rfl⟩) rfl hl.1 rfl (Nat.le_of_ble_eq_true rfl) dX11_feed_33 ⟨Nat.le_of_ble_eq_true rfl, Nat.le_of_ble_eq_true rfl⟩) hW (fun r_22 H locs hp_21 hW => ?_)
                  rcases hp_21 with ⟨rfl, w_23⟩ | ⟨rfl, w_24⟩
                  · skip
                    refine m_if_eq (tgt := 47) hx hb dX11_feed_36 (by decide) (fun c_25 => ?_) (fun c_25 => ?_)
                    · exact absurd c_25 (by decide)
                    · skip
                      refine lv_iload hx hb dX11_feed_39 (lv_at hl 6 rfl) ?_
                      refine m_cip (m_rS S hW (c_X11_isByte l G ad sh V xe) (va_cwS 1 hts (gCall [.methodLink RX11 100 yX11_isByte, .static yX11_isByte, .initialized RX11] (List.forall_mem_cons.mpr ⟨(wa_16 _ (List.mem_of_getElem? (i := 7) (by decide +kernel))), (List.forall_mem_cons.mpr ⟨(wa_16 _ (List.mem_of_getElem? (i := 5) (by decide +kernel))), (List.forall_mem_cons.mpr ⟨(wa_16 _ (List.mem_of_getElem? (i := 6) (by decide +kernel))), (List.forall_mem_cons.mpr ⟨(wa_1 _ (List.mem_of_getElem? (i := 5) (by decide +kernel))), (fun _ h => absurd h List.not_mem_nil)⟩)⟩)⟩)⟩)) rfl rfl rfl (by decide +kernel) ⟨Nat.le_of_ble_eq_true rfl, Nat.le_of_ble_eq_true rfl⟩) rfl hl.1 rfl (Nat.le_of_ble_eq_true rfl) dX11_feed_41 ⟨Nat.le_of_ble_eq_true rfl, Nat.le_of_ble_eq_true rfl⟩) hW (fun r_27 H locs hp_26 hW => ?_)
                      rcases hp_26 with ⟨rfl, w_28⟩ | ⟨rfl, w_29⟩
                      · skip
                        refine m_if_ne (tgt := 50) hx hb dX11_feed_44 (by decide) (fun c_30 => ?_) (fun c_30 => ?_)
                        · skip
                          refine lv_aload_n hx hb dX11_feed_50 rfl (lv_at hl 0 rfl) ?_
                          refine m_geti S hW hZ.sp.1 8 rfl kX11 (iW11 _) (by decide) (List.mem_cons_of_mem _ (wa_11 _ (List.mem_of_getElem? (i := 23) (by decide +kernel)))) dX11_feed_51 ?_
                          refine m_top (y := nI ((gTp q).length)) hI.tp.1 ?_
                          refine lv_iload_n hx hb dX11_feed_54 rfl (lv_at hl 1 rfl) ?_
                          refine m_top (y := nI nn) hnn ?_
                          refine lv_iadd hx hb dX11_feed_55 ?_
                          refine m_top (y := nI (((gTp q).length) + nn)) (nI_add ((gTp q).length) nn) ?_
                          refine lv_sipush (v := nI 160) hx hb dX11_feed_56 (by decide) ?_
                          refine lv_icmp_le (tgt := 65) hx hb dX11_feed_59 (by decide) (fun c_31 => ?_) (fun c_31 => ?_)
                          · skip
                            have c_31 : (((gTp q).length) + nn) ≤ 160 := (nI_leI (by omega) (by omega)).mp c_31
                            have hroom : nn ≤ 160 - (gTp q).length := by omega
                            refine lv_iconst (v := nI 0) hx hb dX11_feed_65 (by decide) ?_
                            refine lv_istore (lv' := [(7, .int (nI 0)), (0, .ref (ad 200)), (1, .int n), (2, .int xa), (3, .int xb), (4, .int xc), (5, .int xd), (6, .int xe)]) hx hb dX11_feed_66 hl (by decide) rfl (fun ls hl => ?_)
                            have loop_68 : ∀ (n_68 : Nat) (k : Nat) (V1 : mV) (H : Heap) (locs : List Loc) (ls : Array Slot), (k ≤ nn) → (MI sh V1 (gTape q (gTp q ++ [xa, xb, xc, xd, xe].take k))) → (∀ a, a < 200 → V1 a = V a) → (nn - k) < n_68 → mC (mA ad sh s.heap.size) s.heap s G ad sh V1 H locs → lv_has ls 8 [(0, .ref (ad 200)), (1, .int n), (2, .int xa), (3, .int xb), (4, .int xc), (5, .int xd), (6, .int xe), (7, .int (nI k))] → W p l e ({ frames := 2, cells := 0, slots := 0, locals := 42 } : Room) s m ([.ref (ad 200), .int n, .int xa, .int xb, .int xc, .int xd, .int xe] : List Value).toArray below meth c H locs 0 0 (MQ below (mPost G ad sh s.heap.size (mPi ad sh (fun r V' => (aFeed q n xa xb xc xd xe) = r ∧ (MI sh V' (nFeed q n xa xb xc xd xe)) ∧ (∀ a, a < 200 → V' a = V a)))) ([.ref (ad 200), .int n, .int xa, .int xb, .int xc, .int xd, .int xe] : List Value).toArray s 0 0 (mA ad sh s.heap.size)) (F0 m 68 ls []) := by
                              intro n_68
                              induction n_68 with
                              | zero => intro k V1 H locs ls hk hI1 hF1 hM_ hW hl; omega
                              | succ n_68 ih_68 =>
                                intro k V1 H locs ls hk hI1 hF1 hM_ hW hl
                                have hln : (gTp (gTape q (gTp q ++ [xa, xb, xc, xd, xe].take k))).length = (gTp q).length + k := by rw [fd5_len (by omega)]
                                refine lv_iload hx hb dX11_feed_68 (lv_at hl 7 rfl) ?_
                                refine lv_iload_n hx hb dX11_feed_70 rfl (lv_at hl 1 rfl) ?_
                                refine m_top (y := nI nn) hnn ?_
                                refine lv_icmp_ge (tgt := 142) hx hb dX11_feed_71 (by decide) (fun c_32 => ?_) (fun c_32 => ?_)
                                · skip
                                  have c_32 : nn ≤ k := (nI_leI (by omega) (by omega)).mp c_32
                                  refine lv_aload_n hx hb dX11_feed_142 rfl (lv_at hl 0 rfl) ?_
                                  refine m_geti S hW hZ.sp.1 8 rfl kX11 (iW11 _) (by decide) (List.mem_cons_of_mem _ (wa_11 _ (List.mem_of_getElem? (i := 23) (by decide +kernel)))) dX11_feed_143 ?_
                                  refine m_top (y := nI ((gTp q).length + k)) (hI1.tp.1.trans (congrArg nI hln)) ?_
                                  exact m_iret S hr hlk hW dX11_feed_146 (by have hkn : k = nn := (by omega); subst hkn; exact ⟨by simp only [aFeed, if_pos w_3, hcn, if_pos w_8, if_pos w_13, if_pos w_18, if_pos w_23, if_pos w_28, if_pos hroom]; try rw [hln], by simp only [nFeed, if_pos w_3, hcn, if_pos w_8, if_pos w_13, if_pos w_18, if_pos w_23, if_pos w_28, if_pos hroom]; exact hI1, hF1⟩)
                                · skip
                                  have c_32 : ¬ nn ≤ k := mt (nI_leI (by omega) (by omega)).mpr c_32
                                  refine lv_aload_n hx hb dX11_feed_74 rfl (lv_at hl 0 rfl) ?_
                                  refine m_getr S hW hZ.sp.1 7 rfl (j := 205) rfl kX11 (iW11 _) (by decide) (List.mem_cons_of_mem _ (wa_11 _ (List.mem_of_getElem? (i := 6) (by decide +kernel)))) dX11_feed_75 ?_
                                  refine lv_aload_n hx hb dX11_feed_78 rfl (lv_at hl 0 rfl) ?_
                                  refine m_geti S hW hZ.sp.1 8 rfl kX11 (iW11 _) (by decide) (List.mem_cons_of_mem _ (wa_11 _ (List.mem_of_getElem? (i := 23) (by decide +kernel)))) dX11_feed_79 ?_
                                  refine m_top (y := nI ((gTp q).length + k)) (hI1.tp.1.trans (congrArg nI hln)) ?_
                                  refine lv_iload hx hb dX11_feed_82 (lv_at hl 7 rfl) ?_
                                  refine m_if_ne (tgt := 91) hx hb dX11_feed_84 (by decide) (fun c_33 => ?_) (fun c_33 => ?_)
                                  · skip
                                    have c_33 : ¬ k = 0 := mt (nI_eq (by omega) (by omega)).mpr c_33
                                    refine lv_iload hx hb dX11_feed_91 (lv_at hl 7 rfl) ?_
                                    refine lv_iconst (v := nI 1) hx hb dX11_feed_93 (by decide) ?_
                                    refine lv_icmp_ne (tgt := 101) hx hb dX11_feed_94 (by decide) (fun c_34 => ?_) (fun c_34 => ?_)
                                    · skip
                                      have c_34 : ¬ k = 1 := mt (nI_eq (by omega) (by omega)).mpr c_34
                                      refine lv_iload hx hb dX11_feed_101 (lv_at hl 7 rfl) ?_
                                      refine lv_iconst (v := nI 2) hx hb dX11_feed_103 (by decide) ?_
                                      refine lv_icmp_ne (tgt := 112) hx hb dX11_feed_104 (by decide) (fun c_35 => ?_) (fun c_35 => ?_)
                                      · skip
                                        have c_35 : ¬ k = 2 := mt (nI_eq (by omega) (by omega)).mpr c_35
                                        refine lv_iload hx hb dX11_feed_112 (lv_at hl 7 rfl) ?_
                                        refine lv_iconst (v := nI 3) hx hb dX11_feed_114 (by decide) ?_
                                        refine lv_icmp_ne (tgt := 123) hx hb dX11_feed_115 (by decide) (fun c_36 => ?_) (fun c_36 => ?_)
                                        · skip
                                          have c_36 : ¬ k = 3 := mt (nI_eq (by omega) (by omega)).mpr c_36
                                          refine lv_iload hx hb dX11_feed_123 (lv_at hl 6 rfl) ?_
                                          refine m_iast S hW hZ.sp.2.2.2.2.2.1 ((gTp q).length + k) rfl (by omega) (by decide) dX11_feed_125 (fun H locs hW => ?_)
                                          obtain ⟨V_37, eV_37⟩ : ∃ vv_ : mV, vv_ = mU V1 205 ((gTp q).length + k) (xe) := ⟨_, rfl⟩
                                          rw [← eV_37] at hW
                                          refine lv_aload_n hx hb dX11_feed_126 rfl (lv_at hl 0 rfl) ?_
                                          refine lv_dup hx hb dX11_feed_127 rfl ?_
                                          refine m_geti S hW hZ.sp.1 8 rfl kX11 (iW11 _) (by decide) (List.mem_cons_of_mem _ (wa_11 _ (List.mem_of_getElem? (i := 23) (by decide +kernel)))) dX11_feed_128 ?_
                                          refine m_top (y := nI ((gTp q).length + k)) (by rw [eV_37, mU_no _ _ (by decide)]; exact hI1.tp.1.trans (congrArg nI hln)) ?_
                                          refine lv_iconst (v := nI 1) hx hb dX11_feed_131 (by decide) ?_
                                          refine lv_iadd hx hb dX11_feed_132 ?_
                                          refine m_top (y := nI (((gTp q).length + k) + 1)) (nI_add ((gTp q).length + k) 1) ?_
                                          refine m_puti S hW hZ.sp.1 8 rfl kX11 (iW11 _) tyX11 tyX11_ok nmX11 (by decide) (List.mem_cons_of_mem _ (wa_11 _ (List.mem_of_getElem? (i := 23) (by decide +kernel)))) (Or.inl rfl) rfl rfl dX11_feed_133 (fun H locs hW => ?_)
                                          obtain ⟨V_38, eV_38⟩ : ∃ vv_ : mV, vv_ = mU V_37 200 8 (nI (((gTp q).length + k) + 1)) := ⟨_, rfl⟩
                                          rw [← eV_38] at hW
                                          refine lv_iinc (v := nI (k + 1)) (lv' := [(7, .int (nI (k + 1))), (0, .ref (ad 200)), (1, .int n), (2, .int xa), (3, .int xb), (4, .int xc), (5, .int xd), (6, .int xe)]) hx hb dX11_feed_136 hl (k := 7) rfl (m_inc k 1) (by decide) rfl (fun ls hl => ?_)
                                          refine lv_goto (tgt := 68) hx hb dX11_feed_139 (by decide) ?_
                                          exact ih_68  (k + 1) V_38 _ _ _ (by omega) (by have hke : k = 4 := (by omega); have hfv : fd5 [xa, xb, xc, xd, xe] k = xe := (by rw [hke]; rfl); have ht9 := hI1.add1 (fd5 [xa, xb, xc, xd, xe] k) (by omega); rw [hln, hfv] at ht9; rw [eV_38, eV_37, show gTape q (gTp q ++ [xa, xb, xc, xd, xe].take (k + 1)) = gTape (gTape q (gTp q ++ [xa, xb, xc, xd, xe].take k)) (gTp (gTape q (gTp q ++ [xa, xb, xc, xd, xe].take k)) ++ [xe]) by rw [fd5_take (by omega), hfv]; simp [gTape, gTp]]; exact ht9) (by intro a ha; rw [eV_38, mU_no _ _ (by omega), eV_37, mU_no _ _ (by omega)]; exact hF1 a ha) (by omega) hW (lv_sub hl [1, 2, 3, 4, 5, 6, 7, 0] rfl)
                                        · skip
                                          have c_36 : k = 3 := (nI_eq (by omega) (by omega)).mp c_36
                                          refine lv_iload hx hb dX11_feed_118 (lv_at hl 5 rfl) ?_
                                          refine lv_goto (tgt := 125) hx hb dX11_feed_120 (by decide) ?_
                                          refine m_iast S hW hZ.sp.2.2.2.2.2.1 ((gTp q).length + k) rfl (by omega) (by decide) dX11_feed_125 (fun H locs hW => ?_)
                                          obtain ⟨V_39, eV_39⟩ : ∃ vv_ : mV, vv_ = mU V1 205 ((gTp q).length + k) (xd) := ⟨_, rfl⟩
                                          rw [← eV_39] at hW
                                          refine lv_aload_n hx hb dX11_feed_126 rfl (lv_at hl 0 rfl) ?_
                                          refine lv_dup hx hb dX11_feed_127 rfl ?_
                                          refine m_geti S hW hZ.sp.1 8 rfl kX11 (iW11 _) (by decide) (List.mem_cons_of_mem _ (wa_11 _ (List.mem_of_getElem? (i := 23) (by decide +kernel)))) dX11_feed_128 ?_
                                          refine m_top (y := nI ((gTp q).length + k)) (by rw [eV_39, mU_no _ _ (by decide)]; exact hI1.tp.1.trans (congrArg nI hln)) ?_
                                          refine lv_iconst (v := nI 1) hx hb dX11_feed_131 (by decide) ?_
                                          refine lv_iadd hx hb dX11_feed_132 ?_
                                          refine m_top (y := nI (((gTp q).length + k) + 1)) (nI_add ((gTp q).length + k) 1) ?_
                                          refine m_puti S hW hZ.sp.1 8 rfl kX11 (iW11 _) tyX11 tyX11_ok nmX11 (by decide) (List.mem_cons_of_mem _ (wa_11 _ (List.mem_of_getElem? (i := 23) (by decide +kernel)))) (Or.inl rfl) rfl rfl dX11_feed_133 (fun H locs hW => ?_)
                                          obtain ⟨V_40, eV_40⟩ : ∃ vv_ : mV, vv_ = mU V_39 200 8 (nI (((gTp q).length + k) + 1)) := ⟨_, rfl⟩
                                          rw [← eV_40] at hW
                                          refine lv_iinc (v := nI (k + 1)) (lv' := [(7, .int (nI (k + 1))), (0, .ref (ad 200)), (1, .int n), (2, .int xa), (3, .int xb), (4, .int xc), (5, .int xd), (6, .int xe)]) hx hb dX11_feed_136 hl (k := 7) rfl (m_inc k 1) (by decide) rfl (fun ls hl => ?_)
                                          refine lv_goto (tgt := 68) hx hb dX11_feed_139 (by decide) ?_
                                          exact ih_68  (k + 1) V_40 _ _ _ (by omega) (by have hke : k = 3 := (by omega); have hfv : fd5 [xa, xb, xc, xd, xe] k = xd := (by rw [hke]; rfl); have ht9 := hI1.add1 (fd5 [xa, xb, xc, xd, xe] k) (by omega); rw [hln, hfv] at ht9; rw [eV_40, eV_39, show gTape q (gTp q ++ [xa, xb, xc, xd, xe].take (k + 1)) = gTape (gTape q (gTp q ++ [xa, xb, xc, xd, xe].take k)) (gTp (gTape q (gTp q ++ [xa, xb, xc, xd, xe].take k)) ++ [xd]) by rw [fd5_take (by omega), hfv]; simp [gTape, gTp]]; exact ht9) (by intro a ha; rw [eV_40, mU_no _ _ (by omega), eV_39, mU_no _ _ (by omega)]; exact hF1 a ha) (by omega) hW (lv_sub hl [1, 2, 3, 4, 5, 6, 7, 0] rfl)
                                      · skip
                                        have c_35 : k = 2 := (nI_eq (by omega) (by omega)).mp c_35
                                        refine lv_iload hx hb dX11_feed_107 (lv_at hl 4 rfl) ?_
                                        refine lv_goto (tgt := 125) hx hb dX11_feed_109 (by decide) ?_
                                        refine m_iast S hW hZ.sp.2.2.2.2.2.1 ((gTp q).length + k) rfl (by omega) (by decide) dX11_feed_125 (fun H locs hW => ?_)
                                        obtain ⟨V_41, eV_41⟩ : ∃ vv_ : mV, vv_ = mU V1 205 ((gTp q).length + k) (xc) := ⟨_, rfl⟩
                                        rw [← eV_41] at hW
                                        refine lv_aload_n hx hb dX11_feed_126 rfl (lv_at hl 0 rfl) ?_
                                        refine lv_dup hx hb dX11_feed_127 rfl ?_
                                        refine m_geti S hW hZ.sp.1 8 rfl kX11 (iW11 _) (by decide) (List.mem_cons_of_mem _ (wa_11 _ (List.mem_of_getElem? (i := 23) (by decide +kernel)))) dX11_feed_128 ?_
                                        refine m_top (y := nI ((gTp q).length + k)) (by rw [eV_41, mU_no _ _ (by decide)]; exact hI1.tp.1.trans (congrArg nI hln)) ?_
                                        refine lv_iconst (v := nI 1) hx hb dX11_feed_131 (by decide) ?_
                                        refine lv_iadd hx hb dX11_feed_132 ?_
                                        refine m_top (y := nI (((gTp q).length + k) + 1)) (nI_add ((gTp q).length + k) 1) ?_
                                        refine m_puti S hW hZ.sp.1 8 rfl kX11 (iW11 _) tyX11 tyX11_ok nmX11 (by decide) (List.mem_cons_of_mem _ (wa_11 _ (List.mem_of_getElem? (i := 23) (by decide +kernel)))) (Or.inl rfl) rfl rfl dX11_feed_133 (fun H locs hW => ?_)
                                        obtain ⟨V_42, eV_42⟩ : ∃ vv_ : mV, vv_ = mU V_41 200 8 (nI (((gTp q).length + k) + 1)) := ⟨_, rfl⟩
                                        rw [← eV_42] at hW
                                        refine lv_iinc (v := nI (k + 1)) (lv' := [(7, .int (nI (k + 1))), (0, .ref (ad 200)), (1, .int n), (2, .int xa), (3, .int xb), (4, .int xc), (5, .int xd), (6, .int xe)]) hx hb dX11_feed_136 hl (k := 7) rfl (m_inc k 1) (by decide) rfl (fun ls hl => ?_)
                                        refine lv_goto (tgt := 68) hx hb dX11_feed_139 (by decide) ?_
                                        exact ih_68  (k + 1) V_42 _ _ _ (by omega) (by have hke : k = 2 := (by omega); have hfv : fd5 [xa, xb, xc, xd, xe] k = xc := (by rw [hke]; rfl); have ht9 := hI1.add1 (fd5 [xa, xb, xc, xd, xe] k) (by omega); rw [hln, hfv] at ht9; rw [eV_42, eV_41, show gTape q (gTp q ++ [xa, xb, xc, xd, xe].take (k + 1)) = gTape (gTape q (gTp q ++ [xa, xb, xc, xd, xe].take k)) (gTp (gTape q (gTp q ++ [xa, xb, xc, xd, xe].take k)) ++ [xc]) by rw [fd5_take (by omega), hfv]; simp [gTape, gTp]]; exact ht9) (by intro a ha; rw [eV_42, mU_no _ _ (by omega), eV_41, mU_no _ _ (by omega)]; exact hF1 a ha) (by omega) hW (lv_sub hl [1, 2, 3, 4, 5, 6, 7, 0] rfl)
                                    · skip
                                      have c_34 : k = 1 := (nI_eq (by omega) (by omega)).mp c_34
                                      refine lv_iload_n hx hb dX11_feed_97 rfl (lv_at hl 3 rfl) ?_
                                      refine lv_goto (tgt := 125) hx hb dX11_feed_98 (by decide) ?_
                                      refine m_iast S hW hZ.sp.2.2.2.2.2.1 ((gTp q).length + k) rfl (by omega) (by decide) dX11_feed_125 (fun H locs hW => ?_)
                                      obtain ⟨V_43, eV_43⟩ : ∃ vv_ : mV, vv_ = mU V1 205 ((gTp q).length + k) (xb) := ⟨_, rfl⟩
                                      rw [← eV_43] at hW
                                      refine lv_aload_n hx hb dX11_feed_126 rfl (lv_at hl 0 rfl) ?_
                                      refine lv_dup hx hb dX11_feed_127 rfl ?_
                                      refine m_geti S hW hZ.sp.1 8 rfl kX11 (iW11 _) (by decide) (List.mem_cons_of_mem _ (wa_11 _ (List.mem_of_getElem? (i := 23) (by decide +kernel)))) dX11_feed_128 ?_
                                      refine m_top (y := nI ((gTp q).length + k)) (by rw [eV_43, mU_no _ _ (by decide)]; exact hI1.tp.1.trans (congrArg nI hln)) ?_
                                      refine lv_iconst (v := nI 1) hx hb dX11_feed_131 (by decide) ?_
                                      refine lv_iadd hx hb dX11_feed_132 ?_
                                      refine m_top (y := nI (((gTp q).length + k) + 1)) (nI_add ((gTp q).length + k) 1) ?_
                                      refine m_puti S hW hZ.sp.1 8 rfl kX11 (iW11 _) tyX11 tyX11_ok nmX11 (by decide) (List.mem_cons_of_mem _ (wa_11 _ (List.mem_of_getElem? (i := 23) (by decide +kernel)))) (Or.inl rfl) rfl rfl dX11_feed_133 (fun H locs hW => ?_)
                                      obtain ⟨V_44, eV_44⟩ : ∃ vv_ : mV, vv_ = mU V_43 200 8 (nI (((gTp q).length + k) + 1)) := ⟨_, rfl⟩
                                      rw [← eV_44] at hW
                                      refine lv_iinc (v := nI (k + 1)) (lv' := [(7, .int (nI (k + 1))), (0, .ref (ad 200)), (1, .int n), (2, .int xa), (3, .int xb), (4, .int xc), (5, .int xd), (6, .int xe)]) hx hb dX11_feed_136 hl (k := 7) rfl (m_inc k 1) (by decide) rfl (fun ls hl => ?_)
                                      refine lv_goto (tgt := 68) hx hb dX11_feed_139 (by decide) ?_
                                      exact ih_68  (k + 1) V_44 _ _ _ (by omega) (by have hke : k = 1 := (by omega); have hfv : fd5 [xa, xb, xc, xd, xe] k = xb := (by rw [hke]; rfl); have ht9 := hI1.add1 (fd5 [xa, xb, xc, xd, xe] k) (by omega); rw [hln, hfv] at ht9; rw [eV_44, eV_43, show gTape q (gTp q ++ [xa, xb, xc, xd, xe].take (k + 1)) = gTape (gTape q (gTp q ++ [xa, xb, xc, xd, xe].take k)) (gTp (gTape q (gTp q ++ [xa, xb, xc, xd, xe].take k)) ++ [xb]) by rw [fd5_take (by omega), hfv]; simp [gTape, gTp]]; exact ht9) (by intro a ha; rw [eV_44, mU_no _ _ (by omega), eV_43, mU_no _ _ (by omega)]; exact hF1 a ha) (by omega) hW (lv_sub hl [1, 2, 3, 4, 5, 6, 7, 0] rfl)
                                  · skip
                                    have c_33 : k = 0 := (nI_eq (by omega) (by omega)).mp c_33
                                    refine lv_iload_n hx hb dX11_feed_87 rfl (lv_at hl 2 rfl) ?_
                                    refine lv_goto (tgt := 125) hx hb dX11_feed_88 (by decide) ?_
                                    refine m_iast S hW hZ.sp.2.2.2.2.2.1 ((gTp q).length + k) rfl (by omega) (by decide) dX11_feed_125 (fun H locs hW => ?_)
                                    obtain ⟨V_45, eV_45⟩ : ∃ vv_ : mV, vv_ = mU V1 205 ((gTp q).length + k) (xa) := ⟨_, rfl⟩
                                    rw [← eV_45] at hW
                                    refine lv_aload_n hx hb dX11_feed_126 rfl (lv_at hl 0 rfl) ?_
                                    refine lv_dup hx hb dX11_feed_127 rfl ?_
                                    refine m_geti S hW hZ.sp.1 8 rfl kX11 (iW11 _) (by decide) (List.mem_cons_of_mem _ (wa_11 _ (List.mem_of_getElem? (i := 23) (by decide +kernel)))) dX11_feed_128 ?_
                                    refine m_top (y := nI ((gTp q).length + k)) (by rw [eV_45, mU_no _ _ (by decide)]; exact hI1.tp.1.trans (congrArg nI hln)) ?_
                                    refine lv_iconst (v := nI 1) hx hb dX11_feed_131 (by decide) ?_
                                    refine lv_iadd hx hb dX11_feed_132 ?_
                                    refine m_top (y := nI (((gTp q).length + k) + 1)) (nI_add ((gTp q).length + k) 1) ?_
                                    refine m_puti S hW hZ.sp.1 8 rfl kX11 (iW11 _) tyX11 tyX11_ok nmX11 (by decide) (List.mem_cons_of_mem _ (wa_11 _ (List.mem_of_getElem? (i := 23) (by decide +kernel)))) (Or.inl rfl) rfl rfl dX11_feed_133 (fun H locs hW => ?_)
                                    obtain ⟨V_46, eV_46⟩ : ∃ vv_ : mV, vv_ = mU V_45 200 8 (nI (((gTp q).length + k) + 1)) := ⟨_, rfl⟩
                                    rw [← eV_46] at hW
                                    refine lv_iinc (v := nI (k + 1)) (lv' := [(7, .int (nI (k + 1))), (0, .ref (ad 200)), (1, .int n), (2, .int xa), (3, .int xb), (4, .int xc), (5, .int xd), (6, .int xe)]) hx hb dX11_feed_136 hl (k := 7) rfl (m_inc k 1) (by decide) rfl (fun ls hl => ?_)
                                    refine lv_goto (tgt := 68) hx hb dX11_feed_139 (by decide) ?_
                                    exact ih_68  (k + 1) V_46 _ _ _ (by omega) (by have hke : k = 0 := (by omega); have hfv : fd5 [xa, xb, xc, xd, xe] k = xa := (by rw [hke]; rfl); have ht9 := hI1.add1 (fd5 [xa, xb, xc, xd, xe] k) (by omega); rw [hln, hfv] at ht9; rw [eV_46, eV_45, show gTape q (gTp q ++ [xa, xb, xc, xd, xe].take (k + 1)) = gTape (gTape q (gTp q ++ [xa, xb, xc, xd, xe].take k)) (gTp (gTape q (gTp q ++ [xa, xb, xc, xd, xe].take k)) ++ [xa]) by rw [fd5_take (by omega), hfv]; simp [gTape, gTp]]; exact ht9) (by intro a ha; rw [eV_46, mU_no _ _ (by omega), eV_45, mU_no _ _ (by omega)]; exact hF1 a ha) (by omega) hW (lv_sub hl [1, 2, 3, 4, 5, 6, 7, 0] rfl)
                            exact loop_68 (nn - 0 + 1) 0 V _ _ _ (by omega) (by rw [List.take_zero, List.append_nil]; exact hI) (by exact fun _ _ => rfl) (by omega) hW (lv_sub hl [1, 2, 3, 4, 5, 6, 7, 0] rfl)
                          · skip
                            have c_31 : ¬ (((gTp q).length) + nn) ≤ 160 := mt (nI_leI (by omega) (by omega)).mpr c_31
                            have hroom : ¬ nn ≤ 160 - (gTp q).length := by omega
                            refine lv_bipush (v := -4) hx hb dX11_feed_62 (by decide) ?_
                            exact m_iret S hr hlk hW dX11_feed_64 (by exact ⟨by simp only [aFeed, if_pos w_3, hcn, if_pos w_8, if_pos w_13, if_pos w_18, if_pos w_23, if_pos w_28, if_neg hroom]; try rfl, by simp only [nFeed, if_pos w_3, hcn, if_pos w_8, if_pos w_13, if_pos w_18, if_pos w_23, if_pos w_28, if_neg hroom]; exact hI, fun _ _ => rfl⟩)
                        · exact absurd c_30 (by decide)
                      · skip
                        refine m_if_ne (tgt := 50) hx hb dX11_feed_44 (by decide) (fun c_47 => ?_) (fun c_47 => ?_)
                        · exact absurd c_47 (by decide)
                        · skip
                          refine lv_bipush (v := -2) hx hb dX11_feed_47 (by decide) ?_
                          exact m_iret S hr hlk hW dX11_feed_49 (by exact ⟨by simp only [aFeed, if_pos w_3, hcn, if_pos w_8, if_pos w_13, if_pos w_18, if_pos w_23, if_neg w_29]; try rfl, by simp only [nFeed, if_pos w_3, hcn, if_pos w_8, if_pos w_13, if_pos w_18, if_pos w_23, if_neg w_29]; exact hI, fun _ _ => rfl⟩)
                  · skip
                    refine m_if_eq (tgt := 47) hx hb dX11_feed_36 (by decide) (fun c_48 => ?_) (fun c_48 => ?_)
                    · skip
                      refine lv_bipush (v := -2) hx hb dX11_feed_47 (by decide) ?_
                      exact m_iret S hr hlk hW dX11_feed_49 (by exact ⟨by simp only [aFeed, if_pos w_3, hcn, if_pos w_8, if_pos w_13, if_pos w_18, if_neg w_24]; try rfl, by simp only [nFeed, if_pos w_3, hcn, if_pos w_8, if_pos w_13, if_pos w_18, if_neg w_24]; exact hI, fun _ _ => rfl⟩)
                    · exact absurd c_48 (by decide)
              · skip
                refine m_if_eq (tgt := 47) hx hb dX11_feed_28 (by decide) (fun c_49 => ?_) (fun c_49 => ?_)
                · skip
                  refine lv_bipush (v := -2) hx hb dX11_feed_47 (by decide) ?_
                  exact m_iret S hr hlk hW dX11_feed_49 (by exact ⟨by simp only [aFeed, if_pos w_3, hcn, if_pos w_8, if_pos w_13, if_neg w_19]; try rfl, by simp only [nFeed, if_pos w_3, hcn, if_pos w_8, if_pos w_13, if_neg w_19]; exact hI, fun _ _ => rfl⟩)
                · exact absurd c_49 (by decide)
          · skip
            refine m_if_eq (tgt := 47) hx hb dX11_feed_20 (by decide) (fun c_50 => ?_) (fun c_50 => ?_)
            · skip
              refine lv_bipush (v := -2) hx hb dX11_feed_47 (by decide) ?_
              exact m_iret S hr hlk hW dX11_feed_49 (by exact ⟨by simp only [aFeed, if_pos w_3, hcn, if_pos w_8, if_neg w_14]; try rfl, by simp only [nFeed, if_pos w_3, hcn, if_pos w_8, if_neg w_14]; exact hI, fun _ _ => rfl⟩)
            · exact absurd c_50 (by decide)
      · skip
        refine m_if_eq (tgt := 47) hx hb dX11_feed_13 (by decide) (fun c_51 => ?_) (fun c_51 => ?_)
        · skip
          refine lv_bipush (v := -2) hx hb dX11_feed_47 (by decide) ?_
          exact m_iret S hr hlk hW dX11_feed_49 (by exact ⟨by simp only [aFeed, if_pos w_3, hcn, if_neg w_9]; try rfl, by simp only [nFeed, if_pos w_3, hcn, if_neg w_9]; exact hI, fun _ _ => rfl⟩)
        · exact absurd c_51 (by decide)
  · skip
    refine m_if_eq (tgt := 47) hx hb dX11_feed_6 (by decide) (fun c_52 => ?_) (fun c_52 => ?_)
    · skip
      refine lv_bipush (v := -2) hx hb dX11_feed_47 (by decide) ?_
      exact m_iret S hr hlk hW dX11_feed_49 (by exact ⟨by simp only [aFeed, if_neg w_4]; try rfl, by simp only [nFeed, if_neg w_4]; exact hI, fun _ _ => rfl⟩)
    · exact absurd c_52 (by decide)
