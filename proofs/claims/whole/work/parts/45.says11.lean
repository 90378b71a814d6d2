/-! the reference: what texts say -/
theorem WfP.at_ {st : Nat → Int32} {a b : Nat} (h : WfP st a b) (nm : Nat → Int32) {k : Nat} (h1 : a ≤ k) (h2 : k < b) : StOk (st k) (evX nm st a (k - a)).1 := by
  have := h.1 (k - a) (by omega)
  rw [show a + (k - a) = k by omega, evX_n (fun _ => nI 0) nm] at this
  exact this
theorem WfP.end_ {st : Nat → Int32} {a b : Nat} (h : WfP st a b) (nm : Nat → Int32) : (evX nm st a (b - a)).1 = 1 := by
  rw [evX_n nm (fun _ => nI 0)]
  exact h.2
/-- what stands lowest on the stack behind a part -/
def saysT (x : sT) (pt : Nat) (nm : Nat → Int32) : Int32 := (if pt = 0 then evX nm (fun k => x.1.getD k 0) 0 (x.2.1 - 0) else if pt = 1 then evX nm (fun k => x.1.getD k 0) x.2.1 (x.2.2 - x.2.1) else evX nm (fun k => x.1.getD k 0) x.2.2 (x.1.length - x.2.2)).2 0
theorem saysT_congr {nm nm' : Nat → Int32} (h : ∀ k, k < 6 → nm k = nm' k) (x : sT) (pt : Nat) : saysT x pt nm = saysT x pt nm' := by
  unfold saysT
  rw [evX_congr h, evX_congr h, evX_congr h]
theorem fCl_c {b : Nat} (hb : b < 2 ^ 31) (x : Int32) : fClamp (nI b) x = fCl 0 b x := by
  unfold fClamp fCl
  have hb2 := nI_toInt hb
  have h0 : (nI 0).toInt = 0 := by decide
  by_cases h1 : x < nI 0
  · have h2 : ¬ nI b < x := fun z => by
      rw [Int32.lt_iff_toInt_lt] at h1 z
      omega
    have h3 : ¬ nI 0 < x := fun z => by
      rw [Int32.lt_iff_toInt_lt] at h1 z
      omega
    rw [if_pos h1, if_neg h2, if_neg h3]
  · rw [if_neg h1]
    by_cases h2 : nI b < x
    · have h4 : ¬ x ≤ nI b := Int32.not_le.mpr h2
      rw [if_pos h2, if_neg h4]
      by_cases h5 : nI 0 < nI b
      · rw [if_pos h5]
      · rw [if_neg h5]
        apply Int32.toInt_inj.mp
        rw [Int32.lt_iff_toInt_lt] at h5
        omega
    · have h4 : x ≤ nI b := Int32.not_lt.mp h2
      rw [if_neg h2, if_pos h4]
      by_cases h5 : nI 0 < x
      · rw [if_pos h5]
      · rw [if_neg h5]
        apply Int32.toInt_inj.mp
        rw [Int32.lt_iff_toInt_lt] at h5 h1
        omega
theorem fTop_1 {q : Nat × (Nat → Int32)} (h : q.1 = 1) : fTop q = q.2 0 := by rw [fTop, h]; rfl
theorem askT_says {x : sT} (h : WfT x) {pt : Nat} (hp : pt < 3) (nm : Nat → Int32) : askT x pt nm = fCl 0 (if pt = 1 then 99 else 999) (saysT x pt nm) := by
  match pt, hp with
  | 0, _ =>
    rw [askT, fAsk_0, fCl_c (by decide), fTop_1 (h.1.end_ nm)]
    rfl
  | 1, _ =>
    rw [askT, fAsk_1, fCl_c (by decide), fTop_1 (h.2.1.end_ nm)]
    rfl
  | 2, _ =>
    rw [askT, fAsk_2, fCl_c (by decide), fTop_1 (h.2.2.end_ nm)]
    rfl
theorem fCl_nI {lo hi : Nat} (x : Int32) (h : lo ≤ hi) (hh : hi < 2 ^ 31) : ∃ n, lo ≤ n ∧ n ≤ hi ∧ fCl lo hi x = nI n := by
  rw [fCl]
  by_cases h1 : x < nI lo
  · exact ⟨lo, Nat.le_refl _, h, if_pos h1⟩
  · rw [if_neg h1]
    by_cases h2 : x ≤ nI hi
    · have g1 := Int32.not_lt.mp h1
      have h0 : ¬ x < 0 := fun z => by
        rw [Int32.lt_iff_toInt_lt, show (0 : Int32).toInt = 0 by decide] at z
        rw [Int32.le_iff_toInt_le, nI_toInt (by omega)] at g1
        omega
      obtain ⟨n, hn, rfl⟩ := nI_of h0
      exact ⟨n, (nI_leI (by omega) hn).mp g1, (nI_leI hn hh).mp h2, if_pos h2⟩
    · exact ⟨hi, h, Nat.le_refl _, if_neg h2⟩
theorem askT_b {x : sT} (h : WfT x) {pt : Nat} (hp : pt < 3) (nm : Nat → Int32) : ∃ n, n < 1000 ∧ (pt = 1 → n < 100) ∧ askT x pt nm = nI n := by
  rw [askT_says h hp]
  obtain ⟨n, h1, h2, h3⟩ := fCl_nI (lo := 0) (hi := if pt = 1 then 99 else 999) (saysT x pt nm) (Nat.zero_le _) (by split <;> decide)
  by_cases hp1 : pt = 1
  · rw [if_pos hp1] at h2 h3
    rw [if_pos hp1]
    exact ⟨n, by omega, fun _ => by omega, h3⟩
  · rw [if_neg hp1] at h2 h3
    rw [if_neg hp1]
    exact ⟨n, by omega, fun z => absurd z hp1, h3⟩
set_option maxHeartbeats 4000000 in
set_option maxRecDepth 100000 in
theorem c_X11_says_0 (l : Launch) (G : mG) (ad : Nat → Nat) (sh : Nat → Option mSh) (V : mV) (sx : Nat → Int32) (rl ta tb tl : Nat) (k200 : sh 200 = some sM) (k206 : sh 206 = some (mI 1200)) (k207 : sh 207 = some (mI 24)) (k217 : sh 217 = some (mS 200)) (k218 : sh 218 = some (mI 6)) (hrl : V 200 12 = nI rl) (hrl6 : rl < 6) (ht0 : V 207 (4 * rl + 0) = nI 0) (ht1 : V 207 (4 * rl + 1) = nI ta) (ht2 : V 207 (4 * rl + 2) = nI tb) (ht3 : V 207 (4 * rl + 3) = nI tl) (htc : ∀ k, k < tl → V 206 (200 * rl + k) = nI (cdN (sx k))) (htl : ta ≤ tb ∧ tb ≤ tl ∧ tl ≤ 160) (hwf : WfP sx 0 ta) : mM l yX11_says wsX11_says ({ frames := 1, cells := 0, slots := 0, locals := 22 } : Room) G ad sh V [.ref (ad 200), .int (nI 0)] 0 0 (mPe ad sh V ((evX (V 218) sx 0 (ta - 0)).2 0)) := by
  refine mM.of (cc := cX11_says) (maxL := 5) (ret := (some .int)) (by decide) rfl (Nat.le_of_ble_eq_true rfl) ?_
  intro p e s m below meth c S hr hlk hnm hW ls hl
  obtain ⟨hx, hb, hml, hown, hts⟩ := id S
  have hl : lv_has ls 5 [(0, .ref (ad 200)), (1, .int (nI 0))] := hl
  have hS0 : True := trivial
  obtain ⟨u, hW⟩ := hW.learn k217
  have g200 : va_up sh 217 (some (mI 200)) 200 = _ := (show va_up sh 217 (some (mI 200)) 200 = sh 200 by simp only [va_up, if_neg (show ¬ 200 = 217 by decide)]).trans k200
  have g206 : va_up sh 217 (some (mI 200)) 206 = _ := (show va_up sh 217 (some (mI 200)) 206 = sh 206 by simp only [va_up, if_neg (show ¬ 206 = 217 by decide)]).trans k206
  have g207 : va_up sh 217 (some (mI 200)) 207 = _ := (show va_up sh 217 (some (mI 200)) 207 = sh 207 by simp only [va_up, if_neg (show ¬ 207 = 217 by decide)]).trans k207
  have g218 : va_up sh 217 (some (mI 200)) 218 = _ := (show va_up sh 217 (some (mI 200)) 218 = sh 218 by simp only [va_up, if_neg (show ¬ 218 = 217 by decide)]).trans k218
  have g217 : va_up sh 217 (some (mI 200)) 217 = some (mI 200) := by simp [va_up]
  have hk217 := k217
  clear k217 k200 k206 k207 k218
  generalize hsh : va_up sh 217 (some (mI 200)) = sh1 at hW g200 g206 g207 g217 g218
  generalize hV0 : va_up V 217 u = V0 at hW
  have hfr : ∀ a, a ≠ 217 → V0 a = V a := fun a ha => by rw [← hV0]; simp [va_up, ha]
  refine lv_iconst (v := nI 0) hx hb dX11_says_0 (by decide) ?_
  refine lv_istore_n (lv' := [(2, .int (nI 0)), (0, .ref (ad 200)), (1, .int (nI 0))]) hx hb dX11_says_1 rfl hl (by decide) rfl (fun ls hl => ?_)
  refine lv_aload_n hx hb dX11_says_2 rfl (lv_at hl 1 rfl) ?_
  refine m_getr S hW g200 10 rfl (j := 207) rfl kX11 (iW11 _) (by decide) (List.mem_cons_of_mem _ (wa_11 _ (List.mem_of_getElem? (i := 8) (by decide +kernel)))) dX11_says_3 ?_
  refine lv_iconst (v := nI 4) hx hb dX11_says_6 (by decide) ?_
  refine lv_aload_n hx hb dX11_says_7 rfl (lv_at hl 1 rfl) ?_
  refine m_geti S hW g200 12 rfl kX11 (iW11 _) (by decide) (List.mem_cons_of_mem _ (wa_15 _ (List.mem_of_getElem? (i := 3) (by decide +kernel)))) dX11_says_8 ?_
  refine m_top (y := nI rl) ((congrFun (hfr 200 (by decide)) 12).trans hrl) ?_
  refine lv_imul hx hb dX11_says_11 ?_
  refine m_top (y := nI (4 * rl)) (pk_mul 4 rl) ?_
  refine lv_iload_n hx hb dX11_says_12 rfl (lv_at hl 2 rfl) ?_
  refine lv_iadd hx hb dX11_says_13 ?_
  refine m_top (y := nI ((4 * rl) + 0)) (nI_add (4 * rl) 0) ?_
  refine m_iald S hW g207 ((4 * rl) + 0) rfl (by omega) (by decide) dX11_says_14 ?_
  refine m_top (y := nI 0) ((congrFun (hfr 207 (by decide)) _).trans ht0) ?_
  refine lv_istore_n (lv' := [(3, .int (nI 0)), (2, .int (nI 0)), (0, .ref (ad 200)), (1, .int (nI 0))]) hx hb dX11_says_15 rfl hl (by decide) rfl (fun ls hl => ?_)
  have loop_16 : ∀ (n_16 : Nat) (n k : Nat) (V1 : mV) (H : Heap) (locs : List Loc) (ls : Array Slot), (0 ≤ k ∧ k ≤ ta) → (n ≤ 32) → (∀ a, a ≠ 217 → V1 a = V a) → (RelS n (V1 217) (evX (V 218) sx 0 (k - 0))) → (ta - k) < n_16 → mC (mA ad sh s.heap.size) s.heap s G ad sh1 V1 H locs → lv_has ls 5 [(0, .ref (ad 200)), (1, .int (nI 0)), (2, .int (nI n)), (3, .int (nI k))] → W p l e ({ frames := 1, cells := 0, slots := 0, locals := 22 } : Room) s m ([.ref (ad 200), .int (nI 0)] : List Value).toArray below meth c H locs 0 0 (MQ below (mPost G ad sh s.heap.size (mPe ad sh V ((evX (V 218) sx 0 (ta - 0)).2 0))) ([.ref (ad 200), .int (nI 0)] : List Value).toArray s 0 0 (mA ad sh s.heap.size)) (F0 m 16 ls []) := by
    intro n_16
    induction n_16 with
    | zero => intro n k V1 H locs ls hk hn hfr hR hM_ hW hl; omega
    | succ n_16 ih_16 =>
      intro n k V1 H locs ls hk hn hfr hR hM_ hW hl
      have hRn := hR.1
      refine lv_iload_n hx hb dX11_says_16 rfl (lv_at hl 3 rfl) ?_
      refine lv_aload_n hx hb dX11_says_17 rfl (lv_at hl 0 rfl) ?_
      refine m_getr S hW g200 10 rfl (j := 207) rfl kX11 (iW11 _) (by decide) (List.mem_cons_of_mem _ (wa_11 _ (List.mem_of_getElem? (i := 8) (by decide +kernel)))) dX11_says_18 ?_
      refine lv_iconst (v := nI 4) hx hb dX11_says_21 (by decide) ?_
      refine lv_aload_n hx hb dX11_says_22 rfl (lv_at hl 0 rfl) ?_
      refine m_geti S hW g200 12 rfl kX11 (iW11 _) (by decide) (List.mem_cons_of_mem _ (wa_15 _ (List.mem_of_getElem? (i := 3) (by decide +kernel)))) dX11_says_23 ?_
      refine m_top (y := nI rl) ((congrFun (hfr 200 (by decide)) 12).trans hrl) ?_
      refine lv_imul hx hb dX11_says_26 ?_
      refine m_top (y := nI (4 * rl)) (pk_mul 4 rl) ?_
      refine lv_iload_n hx hb dX11_says_27 rfl (lv_at hl 1 rfl) ?_
      refine lv_iadd hx hb dX11_says_28 ?_
      refine m_top (y := nI ((4 * rl) + 0)) (nI_add (4 * rl) 0) ?_
      refine lv_iconst (v := nI 1) hx hb dX11_says_29 (by decide) ?_
      refine lv_iadd hx hb dX11_says_30 ?_
      refine m_top (y := nI (((4 * rl) + 0) + 1)) (nI_add ((4 * rl) + 0) 1) ?_
      refine m_iald S hW g207 (((4 * rl) + 0) + 1) rfl (by omega) (by decide) dX11_says_31 ?_
      refine m_top (y := nI ta) (by rw [hfr 207 (by decide), show 4 * rl + 0 + 1 = 4 * rl + 1 by omega]; exact ht1) ?_
      refine lv_icmp_ge (tgt := 197) hx hb dX11_says_32 (by decide) (fun c_1 => ?_) (fun c_1 => ?_)
      · skip
        have c_1 : ta ≤ k := (nI_leI (by omega) (by omega)).mp c_1
        refine lv_aload_n hx hb dX11_says_197 rfl (lv_at hl 0 rfl) ?_
        refine m_getr S hW g200 30 rfl (j := 217) rfl kX11 (iW11 _) (by decide) (List.mem_cons_of_mem _ (wa_11 _ (List.mem_of_getElem? (i := 18) (by decide +kernel)))) dX11_says_198 ?_
        refine lv_iconst (v := nI 0) hx hb dX11_says_201 (by decide) ?_
        refine m_iald S hW g217 0 rfl (by decide) (by decide) dX11_says_202 ?_
        refine m_top (y := (evX (V 218) sx 0 (ta - 0)).2 0) (by rw [show ta = k by omega]; exact hR.2 0 (by have := hwf.end_ (V 218); rw [show ta = k by omega, ← hR.1] at this; omega)) ?_
        have hW := hW.forget (sh' := sh) (V' := V) g217 hk217 (fun a ha => by rw [← hsh]; simp [va_up, ha]) (fun a ha => (hfr a ha).symm)
        exact m_iret S hr hlk hW dX11_says_203 ⟨rfl, (by rfl)⟩
      · skip
        have c_1 : ¬ ta ≤ k := mt (nI_leI (by omega) (by omega)).mpr c_1
        refine lv_aload_n hx hb dX11_says_35 rfl (lv_at hl 0 rfl) ?_
        refine m_getr S hW g200 9 rfl (j := 206) rfl kX11 (iW11 _) (by decide) (List.mem_cons_of_mem _ (wa_11 _ (List.mem_of_getElem? (i := 7) (by decide +kernel)))) dX11_says_36 ?_
        refine lv_sipush (v := nI 200) hx hb dX11_says_39 (by decide) ?_
        refine lv_aload_n hx hb dX11_says_42 rfl (lv_at hl 0 rfl) ?_
        refine m_geti S hW g200 12 rfl kX11 (iW11 _) (by decide) (List.mem_cons_of_mem _ (wa_15 _ (List.mem_of_getElem? (i := 3) (by decide +kernel)))) dX11_says_43 ?_
        refine m_top (y := nI rl) ((congrFun (hfr 200 (by decide)) 12).trans hrl) ?_
        refine lv_imul hx hb dX11_says_46 ?_
        refine m_top (y := nI (200 * rl)) (pk_mul 200 rl) ?_
        refine lv_iload_n hx hb dX11_says_47 rfl (lv_at hl 3 rfl) ?_
        refine lv_iadd hx hb dX11_says_48 ?_
        refine m_top (y := nI ((200 * rl) + k)) (nI_add (200 * rl) k) ?_
        refine m_iald S hW g206 ((200 * rl) + k) rfl (by omega) (by decide) dX11_says_49 ?_
        refine m_top (y := nI (cdN (sx k))) ((congrFun (hfr 206 (by decide)) _).trans (htc k (by omega))) ?_
        refine lv_istore (lv' := [(4, .int (nI (cdN (sx k)))), (0, .ref (ad 200)), (1, .int (nI 0)), (2, .int (nI n)), (3, .int (nI k))]) hx hb dX11_says_50 hl (by decide) rfl (fun ls hl => ?_)
        rcases (hwf.at_ (V 218) hk.1 (Nat.lt_of_not_le c_1)).do_ (V 218) with ⟨v, hv, hcd, hq, hdo⟩ | ⟨j, hj, hcd, hq, hdo⟩ | ⟨hcd, hq, hdo⟩ | ⟨hcd, hq, hdo⟩ | ⟨hq, hcd, hdo⟩
        · skip
          refine lv_iload hx hb dX11_says_52 (lv_at hl 0 rfl) ?_
          refine lv_ldc (v := nI 100000) hx hb hown (hts (.constant RX11 146 (100000)) (List.mem_cons_of_mem _ (wa_13 _ (List.mem_of_getElem? (i := 3) (by decide +kernel))))) dX11_says_54 ?_
          refine lv_icmp_ge (tgt := 66) hx hb dX11_says_56 (by decide) (fun c_2 => ?_) (fun c_2 => ?_)
          · skip
            have c_2 : 100000 ≤ (cdN (sx k)) := (nI_leI (by omega) (by omega)).mp c_2
            refine lv_aload_n hx hb dX11_says_66 rfl (lv_at hl 1 rfl) ?_
            refine m_getr S hW g200 30 rfl (j := 217) rfl kX11 (iW11 _) (by decide) (List.mem_cons_of_mem _ (wa_11 _ (List.mem_of_getElem? (i := 18) (by decide +kernel)))) dX11_says_67 ?_
            refine lv_iload_n hx hb dX11_says_70 rfl (lv_at hl 3 rfl) ?_
            refine lv_iload hx hb dX11_says_71 (lv_at hl 0 rfl) ?_
            refine lv_bipush (v := nI 11) hx hb dX11_says_73 (by decide) ?_
            refine lv_icmp_ge (tgt := 88) hx hb dX11_says_75 (by decide) (fun c_3 => ?_) (fun c_3 => ?_)
            · skip
              have c_3 : 11 ≤ (cdN (sx k)) := (nI_leI (by omega) (by omega)).mp c_3
              refine lv_iload hx hb dX11_says_88 (lv_at hl 0 rfl) ?_
              refine lv_ldc (v := nI 100000) hx hb hown (hts (.constant RX11 146 (100000)) (List.mem_cons_of_mem _ (wa_13 _ (List.mem_of_getElem? (i := 3) (by decide +kernel))))) dX11_says_90 ?_
              refine lv_isub hx hb dX11_says_92 ?_
              refine m_top (y := nI ((cdN (sx k)) - 100000)) (pk_sub (by omega)) ?_
              refine m_top (y := nI v) (congrArg nI (show cdN (sx k) - 100000 = v by omega)) ?_
              refine m_iast S hW g217 n rfl (by omega) (by decide) dX11_says_93 (fun H locs hW => ?_)
              obtain ⟨V_4, eV_4⟩ : ∃ z : mV, z = mU V1 217 n (nI v) := ⟨_, rfl⟩
              rw [← eV_4] at hW
              refine lv_iinc (v := nI (n + 1)) (lv' := [(2, .int (nI (n + 1))), (4, .int (nI (cdN (sx k)))), (0, .ref (ad 200)), (1, .int (nI 0)), (3, .int (nI k))]) hx hb dX11_says_94 hl (k := 3) rfl (m_inc n 1) (by decide) rfl (fun ls hl => ?_)
              refine lv_goto (tgt := 191) hx hb dX11_says_97 (by decide) ?_
              refine lv_iinc (v := nI (k + 1)) (lv' := [(3, .int (nI (k + 1))), (2, .int (nI (n + 1))), (4, .int (nI (cdN (sx k)))), (0, .ref (ad 200)), (1, .int (nI 0))]) hx hb dX11_says_191 hl (k := 4) rfl (m_inc k 1) (by decide) rfl (fun ls hl => ?_)
              refine lv_goto (tgt := 16) hx hb dX11_says_194 (by decide) ?_
              exact ih_16  (n + 1) (k + 1) V_4 _ _ _ (by omega) (by omega) (by intro a ha; rw [eV_4, mU_no _ _ ha]; exact hfr a ha) (by rw [eV_4, mU_row, evX_s (by omega), hdo, ← hR.1]; exact hR.up (Or.inr ⟨rfl, rfl⟩)) (by omega) hW (lv_sub hl [3, 4, 1, 0] rfl)
            · skip
              have c_3 : ¬ 11 ≤ (cdN (sx k)) := mt (nI_leI (by omega) (by omega)).mpr c_3
              exfalso; omega
          · skip
            have c_2 : ¬ 100000 ≤ (cdN (sx k)) := mt (nI_leI (by omega) (by omega)).mpr c_2
            exfalso; omega
        · skip
          refine lv_iload hx hb dX11_says_52 (lv_at hl 0 rfl) ?_
          refine lv_ldc (v := nI 100000) hx hb hown (hts (.constant RX11 146 (100000)) (List.mem_cons_of_mem _ (wa_13 _ (List.mem_of_getElem? (i := 3) (by decide +kernel))))) dX11_says_54 ?_
          refine lv_icmp_ge (tgt := 66) hx hb dX11_says_56 (by decide) (fun c_5 => ?_) (fun c_5 => ?_)
          · skip
            have c_5 : 100000 ≤ (cdN (sx k)) := (nI_leI (by omega) (by omega)).mp c_5
            refine lv_aload_n hx hb dX11_says_66 rfl (lv_at hl 1 rfl) ?_
            refine m_getr S hW g200 30 rfl (j := 217) rfl kX11 (iW11 _) (by decide) (List.mem_cons_of_mem _ (wa_11 _ (List.mem_of_getElem? (i := 18) (by decide +kernel)))) dX11_says_67 ?_
            refine lv_iload_n hx hb dX11_says_70 rfl (lv_at hl 3 rfl) ?_
            refine lv_iload hx hb dX11_says_71 (lv_at hl 0 rfl) ?_
            refine lv_bipush (v := nI 11) hx hb dX11_says_73 (by decide) ?_
            refine lv_icmp_ge (tgt := 88) hx hb dX11_says_75 (by decide) (fun c_6 => ?_) (fun c_6 => ?_)
            · skip
              have c_6 : 11 ≤ (cdN (sx k)) := (nI_leI (by omega) (by omega)).mp c_6
              exfalso; omega
            · skip
              have c_6 : ¬ 11 ≤ (cdN (sx k)) := mt (nI_leI (by omega) (by omega)).mpr c_6
              refine lv_aload_n hx hb dX11_says_78 rfl (lv_at hl 1 rfl) ?_
              refine m_getr S hW g200 31 rfl (j := 218) rfl kX11 (iW11 _) (by decide) (List.mem_cons_of_mem _ (wa_11 _ (List.mem_of_getElem? (i := 19) (by decide +kernel)))) dX11_says_79 ?_
              refine lv_iload hx hb dX11_says_82 (lv_at hl 0 rfl) ?_
              refine m_iald S hW g218 (cdN (sx k)) rfl (by omega) (by decide) dX11_says_84 ?_
              refine m_top (y := V 218 j) (by rw [hfr 218 (by decide), hcd]) ?_
              refine lv_goto (tgt := 93) hx hb dX11_says_85 (by decide) ?_
              refine m_iast S hW g217 n rfl (by omega) (by decide) dX11_says_93 (fun H locs hW => ?_)
              obtain ⟨V_7, eV_7⟩ : ∃ z : mV, z = mU V1 217 n (V 218 j) := ⟨_, rfl⟩
              rw [← eV_7] at hW
              refine lv_iinc (v := nI (n + 1)) (lv' := [(2, .int (nI (n + 1))), (4, .int (nI (cdN (sx k)))), (0, .ref (ad 200)), (1, .int (nI 0)), (3, .int (nI k))]) hx hb dX11_says_94 hl (k := 3) rfl (m_inc n 1) (by decide) rfl (fun ls hl => ?_)
              refine lv_goto (tgt := 191) hx hb dX11_says_97 (by decide) ?_
              refine lv_iinc (v := nI (k + 1)) (lv' := [(3, .int (nI (k + 1))), (2, .int (nI (n + 1))), (4, .int (nI (cdN (sx k)))), (0, .ref (ad 200)), (1, .int (nI 0))]) hx hb dX11_says_191 hl (k := 4) rfl (m_inc k 1) (by decide) rfl (fun ls hl => ?_)
              refine lv_goto (tgt := 16) hx hb dX11_says_194 (by decide) ?_
              exact ih_16  (n + 1) (k + 1) V_7 _ _ _ (by omega) (by omega) (by intro a ha; rw [eV_7, mU_no _ _ ha]; exact hfr a ha) (by rw [eV_7, mU_row, evX_s (by omega), hdo, ← hR.1]; exact hR.up (Or.inr ⟨rfl, rfl⟩)) (by omega) hW (lv_sub hl [3, 4, 1, 0] rfl)
          · skip
            have c_5 : ¬ 100000 ≤ (cdN (sx k)) := mt (nI_leI (by omega) (by omega)).mpr c_5
            refine lv_iload hx hb dX11_says_59 (lv_at hl 0 rfl) ?_
            refine lv_bipush (v := nI 11) hx hb dX11_says_61 (by decide) ?_
            refine lv_icmp_ge (tgt := 100) hx hb dX11_says_63 (by decide) (fun c_8 => ?_) (fun c_8 => ?_)
            · skip
              have c_8 : 11 ≤ (cdN (sx k)) := (nI_leI (by omega) (by omega)).mp c_8
              exfalso; omega
            · skip
              have c_8 : ¬ 11 ≤ (cdN (sx k)) := mt (nI_leI (by omega) (by omega)).mpr c_8
              refine lv_aload_n hx hb dX11_says_66 rfl (lv_at hl 1 rfl) ?_
              refine m_getr S hW g200 30 rfl (j := 217) rfl kX11 (iW11 _) (by decide) (List.mem_cons_of_mem _ (wa_11 _ (List.mem_of_getElem? (i := 18) (by decide +kernel)))) dX11_says_67 ?_
              refine lv_iload_n hx hb dX11_says_70 rfl (lv_at hl 3 rfl) ?_
              refine lv_iload hx hb dX11_says_71 (lv_at hl 0 rfl) ?_
              refine lv_bipush (v := nI 11) hx hb dX11_says_73 (by decide) ?_
              refine lv_icmp_ge (tgt := 88) hx hb dX11_says_75 (by decide) (fun c_9 => ?_) (fun c_9 => ?_)
              · skip
                have c_9 : 11 ≤ (cdN (sx k)) := (nI_leI (by omega) (by omega)).mp c_9
                exfalso; omega
              · skip
                have c_9 : ¬ 11 ≤ (cdN (sx k)) := mt (nI_leI (by omega) (by omega)).mpr c_9
                refine lv_aload_n hx hb dX11_says_78 rfl (lv_at hl 1 rfl) ?_
                refine m_getr S hW g200 31 rfl (j := 218) rfl kX11 (iW11 _) (by decide) (List.mem_cons_of_mem _ (wa_11 _ (List.mem_of_getElem? (i := 19) (by decide +kernel)))) dX11_says_79 ?_
                refine lv_iload hx hb dX11_says_82 (lv_at hl 0 rfl) ?_
                refine m_iald S hW g218 (cdN (sx k)) rfl (by omega) (by decide) dX11_says_84 ?_
                refine m_top (y := V 218 j) (by rw [hfr 218 (by decide), hcd]) ?_
                refine lv_goto (tgt := 93) hx hb dX11_says_85 (by decide) ?_
                refine m_iast S hW g217 n rfl (by omega) (by decide) dX11_says_93 (fun H locs hW => ?_)
                obtain ⟨V_10, eV_10⟩ : ∃ z : mV, z = mU V1 217 n (V 218 j) := ⟨_, rfl⟩
                rw [← eV_10] at hW
                refine lv_iinc (v := nI (n + 1)) (lv' := [(2, .int (nI (n + 1))), (4, .int (nI (cdN (sx k)))), (0, .ref (ad 200)), (1, .int (nI 0)), (3, .int (nI k))]) hx hb dX11_says_94 hl (k := 3) rfl (m_inc n 1) (by decide) rfl (fun ls hl => ?_)
                refine lv_goto (tgt := 191) hx hb dX11_says_97 (by decide) ?_
                refine lv_iinc (v := nI (k + 1)) (lv' := [(3, .int (nI (k + 1))), (2, .int (nI (n + 1))), (4, .int (nI (cdN (sx k)))), (0, .ref (ad 200)), (1, .int (nI 0))]) hx hb dX11_says_191 hl (k := 4) rfl (m_inc k 1) (by decide) rfl (fun ls hl => ?_)
                refine lv_goto (tgt := 16) hx hb dX11_says_194 (by decide) ?_
                exact ih_16  (n + 1) (k + 1) V_10 _ _ _ (by omega) (by omega) (by intro a ha; rw [eV_10, mU_no _ _ ha]; exact hfr a ha) (by rw [eV_10, mU_row, evX_s (by omega), hdo, ← hR.1]; exact hR.up (Or.inr ⟨rfl, rfl⟩)) (by omega) hW (lv_sub hl [3, 4, 1, 0] rfl)
        · skip
          refine lv_iload hx hb dX11_says_52 (lv_at hl 0 rfl) ?_
          refine lv_ldc (v := nI 100000) hx hb hown (hts (.constant RX11 146 (100000)) (List.mem_cons_of_mem _ (wa_13 _ (List.mem_of_getElem? (i := 3) (by decide +kernel))))) dX11_says_54 ?_
          refine lv_icmp_ge (tgt := 66) hx hb dX11_says_56 (by decide) (fun c_11 => ?_) (fun c_11 => ?_)
          · skip
            have c_11 : 100000 ≤ (cdN (sx k)) := (nI_leI (by omega) (by omega)).mp c_11
            exfalso; omega
          · skip
            have c_11 : ¬ 100000 ≤ (cdN (sx k)) := mt (nI_leI (by omega) (by omega)).mpr c_11
            refine lv_iload hx hb dX11_says_59 (lv_at hl 0 rfl) ?_
            refine lv_bipush (v := nI 11) hx hb dX11_says_61 (by decide) ?_
            refine lv_icmp_ge (tgt := 100) hx hb dX11_says_63 (by decide) (fun c_12 => ?_) (fun c_12 => ?_)
            · skip
              have c_12 : 11 ≤ (cdN (sx k)) := (nI_leI (by omega) (by omega)).mp c_12
              refine lv_iload hx hb dX11_says_100 (lv_at hl 0 rfl) ?_
              refine lv_bipush (v := nI 13) hx hb dX11_says_102 (by decide) ?_
              refine lv_icmp_ne (tgt := 134) hx hb dX11_says_104 (by decide) (fun c_13 => ?_) (fun c_13 => ?_)
              · skip
                have c_13 : ¬ (cdN (sx k)) = 13 := mt (nI_eq (by omega) (by omega)).mpr c_13
                exfalso; omega
              · skip
                have c_13 : (cdN (sx k)) = 13 := (nI_eq (by omega) (by omega)).mp c_13
                refine lv_aload_n hx hb dX11_says_107 rfl (lv_at hl 1 rfl) ?_
                refine m_getr S hW g200 30 rfl (j := 217) rfl kX11 (iW11 _) (by decide) (List.mem_cons_of_mem _ (wa_11 _ (List.mem_of_getElem? (i := 18) (by decide +kernel)))) dX11_says_108 ?_
                refine lv_iload_n hx hb dX11_says_111 rfl (lv_at hl 3 rfl) ?_
                refine lv_iconst (v := nI 1) hx hb dX11_says_112 (by decide) ?_
                refine lv_isub hx hb dX11_says_113 ?_
                refine m_top (y := nI (n - 1)) (pk_sub (by omega)) ?_
                refine lv_aload_n hx hb dX11_says_114 rfl (lv_at hl 1 rfl) ?_
                refine m_getr S hW g200 30 rfl (j := 217) rfl kX11 (iW11 _) (by decide) (List.mem_cons_of_mem _ (wa_11 _ (List.mem_of_getElem? (i := 18) (by decide +kernel)))) dX11_says_115 ?_
                refine lv_iload_n hx hb dX11_says_118 rfl (lv_at hl 3 rfl) ?_
                refine lv_iconst (v := nI 1) hx hb dX11_says_119 (by decide) ?_
                refine lv_isub hx hb dX11_says_120 ?_
                refine m_top (y := nI (n - 1)) (pk_sub (by omega)) ?_
                refine m_iald S hW g217 (n - 1) rfl (by omega) (by decide) dX11_says_121 ?_
                refine m_top (y := (evX (V 218) sx 0 (k - 0)).2 (n - 1)) (hR.2 _ (by omega)) ?_
                refine m_if_ne (tgt := 129) hx hb dX11_says_122 (by decide) (fun c_14 => ?_) (fun c_14 => ?_)
                · skip
                  refine lv_iconst (v := nI 0) hx hb dX11_says_129 (by decide) ?_
                  refine m_iast S hW g217 (n - 1) rfl (by omega) (by decide) dX11_says_130 (fun H locs hW => ?_)
                  obtain ⟨V_15, eV_15⟩ : ∃ z : mV, z = mU V1 217 (n - 1) (nI 0) := ⟨_, rfl⟩
                  rw [← eV_15] at hW
                  refine lv_goto (tgt := 191) hx hb dX11_says_131 (by decide) ?_
                  refine lv_iinc (v := nI (k + 1)) (lv' := [(3, .int (nI (k + 1))), (4, .int (nI (cdN (sx k)))), (0, .ref (ad 200)), (1, .int (nI 0)), (2, .int (nI n))]) hx hb dX11_says_191 hl (k := 4) rfl (m_inc k 1) (by decide) rfl (fun ls hl => ?_)
                  refine lv_goto (tgt := 16) hx hb dX11_says_194 (by decide) ?_
                  exact ih_16  n (k + 1) V_15 _ _ _ (by omega) (by omega) (by intro a ha; rw [eV_15, mU_no _ _ ha]; exact hfr a ha) (by rw [eV_15, mU_row, evX_s (by omega), hdo, ← hR.1]; first | (rw [if_pos c_14]; exact hR.up (Or.inl (Nat.le_refl _))) | (rw [if_neg c_14]; exact hR.up (Or.inl (Nat.le_refl _)))) (by omega) hW (lv_sub hl [2, 3, 4, 0] rfl)
                · skip
                  refine lv_iconst (v := nI 1) hx hb dX11_says_125 (by decide) ?_
                  refine lv_goto (tgt := 130) hx hb dX11_says_126 (by decide) ?_
                  refine m_iast S hW g217 (n - 1) rfl (by omega) (by decide) dX11_says_130 (fun H locs hW => ?_)
                  obtain ⟨V_16, eV_16⟩ : ∃ z : mV, z = mU V1 217 (n - 1) (nI 1) := ⟨_, rfl⟩
                  rw [← eV_16] at hW
                  refine lv_goto (tgt := 191) hx hb dX11_says_131 (by decide) ?_
                  refine lv_iinc (v := nI (k + 1)) (lv' := [(3, .int (nI (k + 1))), (4, .int (nI (cdN (sx k)))), (0, .ref (ad 200)), (1, .int (nI 0)), (2, .int (nI n))]) hx hb dX11_says_191 hl (k := 4) rfl (m_inc k 1) (by decide) rfl (fun ls hl => ?_)
                  refine lv_goto (tgt := 16) hx hb dX11_says_194 (by decide) ?_
                  exact ih_16  n (k + 1) V_16 _ _ _ (by omega) (by omega) (by intro a ha; rw [eV_16, mU_no _ _ ha]; exact hfr a ha) (by rw [eV_16, mU_row, evX_s (by omega), hdo, ← hR.1]; first | (rw [if_pos c_14]; exact hR.up (Or.inl (Nat.le_refl _))) | (rw [if_neg c_14]; exact hR.up (Or.inl (Nat.le_refl _)))) (by omega) hW (lv_sub hl [2, 3, 4, 0] rfl)
            · skip
              have c_12 : ¬ 11 ≤ (cdN (sx k)) := mt (nI_leI (by omega) (by omega)).mpr c_12
              exfalso; omega
        · skip
          refine lv_iload hx hb dX11_says_52 (lv_at hl 0 rfl) ?_
          refine lv_ldc (v := nI 100000) hx hb hown (hts (.constant RX11 146 (100000)) (List.mem_cons_of_mem _ (wa_13 _ (List.mem_of_getElem? (i := 3) (by decide +kernel))))) dX11_says_54 ?_
          refine lv_icmp_ge (tgt := 66) hx hb dX11_says_56 (by decide) (fun c_17 => ?_) (fun c_17 => ?_)
          · skip
            have c_17 : 100000 ≤ (cdN (sx k)) := (nI_leI (by omega) (by omega)).mp c_17
            exfalso; omega
          · skip
            have c_17 : ¬ 100000 ≤ (cdN (sx k)) := mt (nI_leI (by omega) (by omega)).mpr c_17
            refine lv_iload hx hb dX11_says_59 (lv_at hl 0 rfl) ?_
            refine lv_bipush (v := nI 11) hx hb dX11_says_61 (by decide) ?_
            refine lv_icmp_ge (tgt := 100) hx hb dX11_says_63 (by decide) (fun c_18 => ?_) (fun c_18 => ?_)
            · skip
              have c_18 : 11 ≤ (cdN (sx k)) := (nI_leI (by omega) (by omega)).mp c_18
              refine lv_iload hx hb dX11_says_100 (lv_at hl 0 rfl) ?_
              refine lv_bipush (v := nI 13) hx hb dX11_says_102 (by decide) ?_
              refine lv_icmp_ne (tgt := 134) hx hb dX11_says_104 (by decide) (fun c_19 => ?_) (fun c_19 => ?_)
              · skip
                have c_19 : ¬ (cdN (sx k)) = 13 := mt (nI_eq (by omega) (by omega)).mpr c_19
                refine lv_iload hx hb dX11_says_134 (lv_at hl 0 rfl) ?_
                refine lv_bipush (v := nI 19) hx hb dX11_says_136 (by decide) ?_
                refine lv_icmp_ne (tgt := 161) hx hb dX11_says_138 (by decide) (fun c_20 => ?_) (fun c_20 => ?_)
                · skip
                  have c_20 : ¬ (cdN (sx k)) = 19 := mt (nI_eq (by omega) (by omega)).mpr c_20
                  exfalso; omega
                · skip
                  have c_20 : (cdN (sx k)) = 19 := (nI_eq (by omega) (by omega)).mp c_20
                  refine lv_aload_n hx hb dX11_says_141 rfl (lv_at hl 1 rfl) ?_
                  refine m_getr S hW g200 30 rfl (j := 217) rfl kX11 (iW11 _) (by decide) (List.mem_cons_of_mem _ (wa_11 _ (List.mem_of_getElem? (i := 18) (by decide +kernel)))) dX11_says_142 ?_
                  refine lv_iload_n hx hb dX11_says_145 rfl (lv_at hl 3 rfl) ?_
                  refine lv_iconst (v := nI 1) hx hb dX11_says_146 (by decide) ?_
                  refine lv_isub hx hb dX11_says_147 ?_
                  refine m_top (y := nI (n - 1)) (pk_sub (by omega)) ?_
                  refine lv_aload_n hx hb dX11_says_148 rfl (lv_at hl 1 rfl) ?_
                  refine m_getr S hW g200 30 rfl (j := 217) rfl kX11 (iW11 _) (by decide) (List.mem_cons_of_mem _ (wa_11 _ (List.mem_of_getElem? (i := 18) (by decide +kernel)))) dX11_says_149 ?_
                  refine lv_iload_n hx hb dX11_says_152 rfl (lv_at hl 3 rfl) ?_
                  refine lv_iconst (v := nI 1) hx hb dX11_says_153 (by decide) ?_
                  refine lv_isub hx hb dX11_says_154 ?_
                  refine m_top (y := nI (n - 1)) (pk_sub (by omega)) ?_
                  refine m_iald S hW g217 (n - 1) rfl (by omega) (by decide) dX11_says_155 ?_
                  refine m_top (y := (evX (V 218) sx 0 (k - 0)).2 (n - 1)) (hR.2 _ (by omega)) ?_
                  refine lv_ineg hx hb dX11_says_156 ?_
                  refine m_iast S hW g217 (n - 1) rfl (by omega) (by decide) dX11_says_157 (fun H locs hW => ?_)
                  obtain ⟨V_21, eV_21⟩ : ∃ z : mV, z = mU V1 217 (n - 1) ((-((evX (V 218) sx 0 (k - 0)).2 (n - 1)))) := ⟨_, rfl⟩
                  rw [← eV_21] at hW
                  refine lv_goto (tgt := 191) hx hb dX11_says_158 (by decide) ?_
                  refine lv_iinc (v := nI (k + 1)) (lv' := [(3, .int (nI (k + 1))), (4, .int (nI (cdN (sx k)))), (0, .ref (ad 200)), (1, .int (nI 0)), (2, .int (nI n))]) hx hb dX11_says_191 hl (k := 4) rfl (m_inc k 1) (by decide) rfl (fun ls hl => ?_)
                  refine lv_goto (tgt := 16) hx hb dX11_says_194 (by decide) ?_
                  exact ih_16  n (k + 1) V_21 _ _ _ (by omega) (by omega) (by intro a ha; rw [eV_21, mU_no _ _ ha]; exact hfr a ha) (by rw [eV_21, mU_row, evX_s (by omega), hdo, ← hR.1]; exact hR.up (Or.inl (Nat.le_refl _))) (by omega) hW (lv_sub hl [2, 3, 4, 0] rfl)
              · skip
                have c_19 : (cdN (sx k)) = 13 := (nI_eq (by omega) (by omega)).mp c_19
                exfalso; omega
            · skip
              have c_18 : ¬ 11 ≤ (cdN (sx k)) := mt (nI_leI (by omega) (by omega)).mpr c_18
              exfalso; omega
        · skip
          refine lv_iload hx hb dX11_says_52 (lv_at hl 0 rfl) ?_
          refine lv_ldc (v := nI 100000) hx hb hown (hts (.constant RX11 146 (100000)) (List.mem_cons_of_mem _ (wa_13 _ (List.mem_of_getElem? (i := 3) (by decide +kernel))))) dX11_says_54 ?_
          refine lv_icmp_ge (tgt := 66) hx hb dX11_says_56 (by decide) (fun c_22 => ?_) (fun c_22 => ?_)
          · skip
            have c_22 : 100000 ≤ (cdN (sx k)) := (nI_leI (by omega) (by omega)).mp c_22
            exfalso; omega
          · skip
            have c_22 : ¬ 100000 ≤ (cdN (sx k)) := mt (nI_leI (by omega) (by omega)).mpr c_22
            refine lv_iload hx hb dX11_says_59 (lv_at hl 0 rfl) ?_
            refine lv_bipush (v := nI 11) hx hb dX11_says_61 (by decide) ?_
            refine lv_icmp_ge (tgt := 100) hx hb dX11_says_63 (by decide) (fun c_23 => ?_) (fun c_23 => ?_)
            · skip
              have c_23 : 11 ≤ (cdN (sx k)) := (nI_leI (by omega) (by omega)).mp c_23
              refine lv_iload hx hb dX11_says_100 (lv_at hl 0 rfl) ?_
              refine lv_bipush (v := nI 13) hx hb dX11_says_102 (by decide) ?_
              refine lv_icmp_ne (tgt := 134) hx hb dX11_says_104 (by decide) (fun c_24 => ?_) (fun c_24 => ?_)
              · skip
                have c_24 : ¬ (cdN (sx k)) = 13 := mt (nI_eq (by omega) (by omega)).mpr c_24
                refine lv_iload hx hb dX11_says_134 (lv_at hl 0 rfl) ?_
                refine lv_bipush (v := nI 19) hx hb dX11_says_136 (by decide) ?_
                refine lv_icmp_ne (tgt := 161) hx hb dX11_says_138 (by decide) (fun c_25 => ?_) (fun c_25 => ?_)
                · skip
                  have c_25 : ¬ (cdN (sx k)) = 19 := mt (nI_eq (by omega) (by omega)).mpr c_25
                  refine lv_iinc (v := nI (n - 1)) (lv' := [(2, .int (nI (n - 1))), (4, .int (nI (cdN (sx k)))), (0, .ref (ad 200)), (1, .int (nI 0)), (3, .int (nI k))]) hx hb dX11_says_161 hl (k := 3) rfl (m_dec n 1 (by omega)) (by decide) rfl (fun ls hl => ?_)
                  refine lv_aload_n hx hb dX11_says_164 rfl (lv_at hl 2 rfl) ?_
                  refine m_getr S hW g200 30 rfl (j := 217) rfl kX11 (iW11 _) (by decide) (List.mem_cons_of_mem _ (wa_11 _ (List.mem_of_getElem? (i := 18) (by decide +kernel)))) dX11_says_165 ?_
                  refine lv_iload_n hx hb dX11_says_168 rfl (lv_at hl 0 rfl) ?_
                  refine lv_iconst (v := nI 1) hx hb dX11_says_169 (by decide) ?_
                  refine lv_isub hx hb dX11_says_170 ?_
                  refine m_top (y := nI ((n - 1) - 1)) (pk_sub (by omega)) ?_
                  refine lv_iload hx hb dX11_says_171 (lv_at hl 1 rfl) ?_
                  refine lv_aload_n hx hb dX11_says_173 rfl (lv_at hl 2 rfl) ?_
                  refine m_getr S hW g200 30 rfl (j := 217) rfl kX11 (iW11 _) (by decide) (List.mem_cons_of_mem _ (wa_11 _ (List.mem_of_getElem? (i := 18) (by decide +kernel)))) dX11_says_174 ?_
                  refine lv_iload_n hx hb dX11_says_177 rfl (lv_at hl 0 rfl) ?_
                  refine lv_iconst (v := nI 1) hx hb dX11_says_178 (by decide) ?_
                  refine lv_isub hx hb dX11_says_179 ?_
                  refine m_top (y := nI ((n - 1) - 1)) (pk_sub (by omega)) ?_
                  refine m_iald S hW g217 ((n - 1) - 1) rfl (by omega) (by decide) dX11_says_180 ?_
                  refine m_top (y := (evX (V 218) sx 0 (k - 0)).2 (n - 1 - 1)) (hR.2 _ (by omega)) ?_
                  refine lv_aload_n hx hb dX11_says_181 rfl (lv_at hl 2 rfl) ?_
                  refine m_getr S hW g200 30 rfl (j := 217) rfl kX11 (iW11 _) (by decide) (List.mem_cons_of_mem _ (wa_11 _ (List.mem_of_getElem? (i := 18) (by decide +kernel)))) dX11_says_182 ?_
                  refine lv_iload_n hx hb dX11_says_185 rfl (lv_at hl 0 rfl) ?_
                  refine m_iald S hW g217 (n - 1) rfl (by omega) (by decide) dX11_says_186 ?_
                  refine m_top (y := (evX (V 218) sx 0 (k - 0)).2 (n - 1)) (hR.2 _ (by omega)) ?_
                  refine m_cie (m_rS S hW (c_X11_two l G ad sh1 V1 (nI (cdN (sx k))) ((evX (V 218) sx 0 (k - 0)).2 (n - 1 - 1)) ((evX (V 218) sx 0 (k - 0)).2 (n - 1))) (va_cwS 3 hts (gCall [.methodLink RX11 160 yX11_two, .static yX11_two, .initialized RX11] (List.forall_mem_cons.mpr ⟨(wa_20 _ (List.mem_of_getElem? (i := 5) (by decide +kernel))), (List.forall_mem_cons.mpr ⟨(wa_20 _ (List.mem_of_getElem? (i := 3) (by decide +kernel))), (List.forall_mem_cons.mpr ⟨(wa_20 _ (List.mem_of_getElem? (i := 4) (by decide +kernel))), (List.forall_mem_cons.mpr ⟨(wa_1 _ (List.mem_of_getElem? (i := 5) (by decide +kernel))), (fun _ h => absurd h List.not_mem_nil)⟩)⟩)⟩)⟩)) rfl rfl rfl (by decide +kernel) ⟨Nat.le_of_ble_eq_true rfl, Nat.le_of_ble_eq_true rfl⟩) rfl hl.1 rfl (Nat.le_of_ble_eq_true rfl) dX11_says_187 ⟨Nat.le_of_ble_eq_true rfl, Nat.le_of_ble_eq_true rfl⟩) hW (fun H locs hW => ?_)
                  refine m_iast S hW g217 ((n - 1) - 1) rfl (by omega) (by decide) dX11_says_190 (fun H locs hW => ?_)
                  obtain ⟨V_26, eV_26⟩ : ∃ z : mV, z = mU V1 217 ((n - 1) - 1) ((fTwo (nI (cdN (sx k))) ((evX (V 218) sx 0 (k - 0)).2 (n - 1 - 1)) ((evX (V 218) sx 0 (k - 0)).2 (n - 1)))) := ⟨_, rfl⟩
                  rw [← eV_26] at hW
                  refine lv_iinc (v := nI (k + 1)) (lv' := [(3, .int (nI (k + 1))), (2, .int (nI (n - 1))), (4, .int (nI (cdN (sx k)))), (0, .ref (ad 200)), (1, .int (nI 0))]) hx hb dX11_says_191 hl (k := 4) rfl (m_inc k 1) (by decide) rfl (fun ls hl => ?_)
                  refine lv_goto (tgt := 16) hx hb dX11_says_194 (by decide) ?_
                  exact ih_16  (n - 1) (k + 1) V_26 _ _ _ (by omega) (by omega) (by intro a ha; rw [eV_26, mU_no _ _ ha]; exact hfr a ha) (by rw [eV_26, mU_row, evX_s (by omega), hdo, ← hR.1]; exact hR.up (Or.inl (by omega))) (by omega) hW (lv_sub hl [3, 4, 1, 0] rfl)
                · skip
                  have c_25 : (cdN (sx k)) = 19 := (nI_eq (by omega) (by omega)).mp c_25
                  exfalso; omega
              · skip
                have c_24 : (cdN (sx k)) = 13 := (nI_eq (by omega) (by omega)).mp c_24
                exfalso; omega
            · skip
              have c_23 : ¬ 11 ≤ (cdN (sx k)) := mt (nI_leI (by omega) (by omega)).mpr c_23
              exfalso; omega
  exact loop_16 (ta - 0 + 1) 0 0 V0 _ _ _ (by omega) (by omega) (by exact hfr) (by rw [Nat.sub_self]; exact ⟨rfl, fun j hj => absurd hj (by omega)⟩) (by omega) hW (lv_sub hl [2, 3, 1, 0] rfl)
set_option maxHeartbeats 4000000 in
set_option maxRecDepth 100000 in
theorem c_X11_says_1 (l : Launch) (G : mG) (ad : Nat → Nat) (sh : Nat → Option mSh) (V : mV) (sx : Nat → Int32) (rl ta tb tl : Nat) (k200 : sh 200 = some sM) (k206 : sh 206 = some (mI 1200)) (k207 : sh 207 = some (mI 24)) (k217 : sh 217 = some (mS 200)) (k218 : sh 218 = some (mI 6)) (hrl : V 200 12 = nI rl) (hrl6 : rl < 6) (ht0 : V 207 (4 * rl + 0) = nI 0) (ht1 : V 207 (4 * rl + 1) = nI ta) (ht2 : V 207 (4 * rl + 2) = nI tb) (ht3 : V 207 (4 * rl + 3) = nI tl) (htc : ∀ k, k < tl → V 206 (200 * rl + k) = nI (cdN (sx k))) (htl : ta ≤ tb ∧ tb ≤ tl ∧ tl ≤ 160) (hwf : WfP sx ta tb) : mM l yX11_says wsX11_says ({ frames := 1, cells := 0, slots := 0, locals := 22 } : Room) G ad sh V [.ref (ad 200), .int (nI 1)] 0 0 (mPe ad sh V ((evX (V 218) sx ta (tb - ta)).2 0)) := by
  refine mM.of (cc := cX11_says) (maxL := 5) (ret := (some .int)) (by decide) rfl (Nat.le_of_ble_eq_true rfl) ?_
  intro p e s m below meth c S hr hlk hnm hW ls hl
  obtain ⟨hx, hb, hml, hown, hts⟩ := id S
  have hl : lv_has ls 5 [(0, .ref (ad 200)), (1, .int (nI 1))] := hl
  have hS0 : True := trivial
  obtain ⟨u, hW⟩ := hW.learn k217
  have g200 : va_up sh 217 (some (mI 200)) 200 = _ := (show va_up sh 217 (some (mI 200)) 200 = sh 200 by simp only [va_up, if_neg (show ¬ 200 = 217 by decide)]).trans k200
  have g206 : va_up sh 217 (some (mI 200)) 206 = _ := (show va_up sh 217 (some (mI 200)) 206 = sh 206 by simp only [va_up, if_neg (show ¬ 206 = 217 by decide)]).trans k206
  have g207 : va_up sh 217 (some (mI 200)) 207 = _ := (show va_up sh 217 (some (mI 200)) 207 = sh 207 by simp only [va_up, if_neg (show ¬ 207 = 217 by decide)]).trans k207
  have g218 : va_up sh 217 (some (mI 200)) 218 = _ := (show va_up sh 217 (some (mI 200)) 218 = sh 218 by simp only [va_up, if_neg (show ¬ 218 = 217 by decide)]).trans k218
  have g217 : va_up sh 217 (some (mI 200)) 217 = some (mI 200) := by simp [va_up]
  have hk217 := k217
  clear k217 k200 k206 k207 k218
  generalize hsh : va_up sh 217 (some (mI 200)) = sh1 at hW g200 g206 g207 g217 g218
  generalize hV0 : va_up V 217 u = V0 at hW
  have hfr : ∀ a, a ≠ 217 → V0 a = V a := fun a ha => by rw [← hV0]; simp [va_up, ha]
  refine lv_iconst (v := nI 0) hx hb dX11_says_0 (by decide) ?_
  refine lv_istore_n (lv' := [(2, .int (nI 0)), (0, .ref (ad 200)), (1, .int (nI 1))]) hx hb dX11_says_1 rfl hl (by decide) rfl (fun ls hl => ?_)
  refine lv_aload_n hx hb dX11_says_2 rfl (lv_at hl 1 rfl) ?_
  refine m_getr S hW g200 10 rfl (j := 207) rfl kX11 (iW11 _) (by decide) (List.mem_cons_of_mem _ (wa_11 _ (List.mem_of_getElem? (i := 8) (by decide +kernel)))) dX11_says_3 ?_
  refine lv_iconst (v := nI 4) hx hb dX11_says_6 (by decide) ?_
  refine lv_aload_n hx hb dX11_says_7 rfl (lv_at hl 1 rfl) ?_
  refine m_geti S hW g200 12 rfl kX11 (iW11 _) (by decide) (List.mem_cons_of_mem _ (wa_15 _ (List.mem_of_getElem? (i := 3) (by decide +kernel)))) dX11_says_8 ?_
  refine m_top (y := nI rl) ((congrFun (hfr 200 (by decide)) 12).trans hrl) ?_
  refine lv_imul hx hb dX11_says_11 ?_
  refine m_top (y := nI (4 * rl)) (pk_mul 4 rl) ?_
  refine lv_iload_n hx hb dX11_says_12 rfl (lv_at hl 2 rfl) ?_
  refine lv_iadd hx hb dX11_says_13 ?_
  refine m_top (y := nI ((4 * rl) + 1)) (nI_add (4 * rl) 1) ?_
  refine m_iald S hW g207 ((4 * rl) + 1) rfl (by omega) (by decide) dX11_says_14 ?_
  refine m_top (y := nI ta) ((congrFun (hfr 207 (by decide)) _).trans ht1) ?_
  refine lv_istore_n (lv' := [(3, .int (nI ta)), (2, .int (nI 0)), (0, .ref (ad 200)), (1, .int (nI 1))]) hx hb dX11_says_15 rfl hl (by decide) rfl (fun ls hl => ?_)
  have loop_16 : ∀ (n_16 : Nat) (n k : Nat) (V1 : mV) (H : Heap) (locs : List Loc) (ls : Array Slot), (ta ≤ k ∧ k ≤ tb) → (n ≤ 32) → (∀ a, a ≠ 217 → V1 a = V a) → (RelS n (V1 217) (evX (V 218) sx ta (k - ta))) → (tb - k) < n_16 → mC (mA ad sh s.heap.size) s.heap s G ad sh1 V1 H locs → lv_has ls 5 [(0, .ref (ad 200)), (1, .int (nI 1)), (2, .int (nI n)), (3, .int (nI k))] → W p l e ({ frames := 1, cells := 0, slots := 0, locals := 22 } : Room) s m ([.ref (ad 200), .int (nI 1)] : List Value).toArray below meth c H locs 0 0 (MQ below (mPost G ad sh s.heap.size (mPe ad sh V ((evX (V 218) sx ta (tb - ta)).2 0))) ([.ref (ad 200), .int (nI 1)] : List Value).toArray s 0 0 (mA ad sh s.heap.size)) (F0 m 16 ls []) := by
    intro n_16
    induction n_16 with
    | zero => intro n k V1 H locs ls hk hn hfr hR hM_ hW hl; omega
    | succ n_16 ih_16 =>
      intro n k V1 H locs ls hk hn hfr hR hM_ hW hl
      have hRn := hR.1
      refine lv_iload_n hx hb dX11_says_16 rfl (lv_at hl 3 rfl) ?_
      refine lv_aload_n hx hb dX11_says_17 rfl (lv_at hl 0 rfl) ?_
      refine m_getr S hW g200 10 rfl (j := 207) rfl kX11 (iW11 _) (by decide) (List.mem_cons_of_mem _ (wa_11 _ (List.mem_of_getElem? (i := 8) (by decide +kernel)))) dX11_says_18 ?_
      refine lv_iconst (v := nI 4) hx hb dX11_says_21 (by decide) ?_
      refine lv_aload_n hx hb dX11_says_22 rfl (lv_at hl 0 rfl) ?_
      refine m_geti S hW g200 12 rfl kX11 (iW11 _) (by decide) (List.mem_cons_of_mem _ (wa_15 _ (List.mem_of_getElem? (i := 3) (by decide +kernel)))) dX11_says_23 ?_
      refine m_top (y := nI rl) ((congrFun (hfr 200 (by decide)) 12).trans hrl) ?_
      refine lv_imul hx hb dX11_says_26 ?_
      refine m_top (y := nI (4 * rl)) (pk_mul 4 rl) ?_
      refine lv_iload_n hx hb dX11_says_27 rfl (lv_at hl 1 rfl) ?_
      refine lv_iadd hx hb dX11_says_28 ?_
      refine m_top (y := nI ((4 * rl) + 1)) (nI_add (4 * rl) 1) ?_
      refine lv_iconst (v := nI 1) hx hb dX11_says_29 (by decide) ?_
      refine lv_iadd hx hb dX11_says_30 ?_
      refine m_top (y := nI (((4 * rl) + 1) + 1)) (nI_add ((4 * rl) + 1) 1) ?_
      refine m_iald S hW g207 (((4 * rl) + 1) + 1) rfl (by omega) (by decide) dX11_says_31 ?_
      refine m_top (y := nI tb) (by rw [hfr 207 (by decide), show 4 * rl + 1 + 1 = 4 * rl + 2 by omega]; exact ht2) ?_
      refine lv_icmp_ge (tgt := 197) hx hb dX11_says_32 (by decide) (fun c_1 => ?_) (fun c_1 => ?_)
      · skip
        have c_1 : tb ≤ k := (nI_leI (by omega) (by omega)).mp c_1
        refine lv_aload_n hx hb dX11_says_197 rfl (lv_at hl 0 rfl) ?_
        refine m_getr S hW g200 30 rfl (j := 217) rfl kX11 (iW11 _) (by decide) (List.mem_cons_of_mem _ (wa_11 _ (List.mem_of_getElem? (i := 18) (by decide +kernel)))) dX11_says_198 ?_
        refine lv_iconst (v := nI 0) hx hb dX11_says_201 (by decide) ?_
        refine m_iald S hW g217 0 rfl (by decide) (by decide) dX11_says_202 ?_
        refine m_top (y := (evX (V 218) sx ta (tb - ta)).2 0) (by rw [show tb = k by omega]; exact hR.2 0 (by have := hwf.end_ (V 218); rw [show tb = k by omega, ← hR.1] at this; omega)) ?_
        have hW := hW.forget (sh' := sh) (V' := V) g217 hk217 (fun a ha => by rw [← hsh]; simp [va_up, ha]) (fun a ha => (hfr a ha).symm)
        exact m_iret S hr hlk hW dX11_says_203 ⟨rfl, (by rfl)⟩
      · skip
        have c_1 : ¬ tb ≤ k := mt (nI_leI (by omega) (by omega)).mpr c_1
        refine lv_aload_n hx hb dX11_says_35 rfl (lv_at hl 0 rfl) ?_
        refine m_getr S hW g200 9 rfl (j := 206) rfl kX11 (iW11 _) (by decide) (List.mem_cons_of_mem _ (wa_11 _ (List.mem_of_getElem? (i := 7) (by decide +kernel)))) dX11_says_36 ?_
        refine lv_sipush (v := nI 200) hx hb dX11_says_39 (by decide) ?_
        refine lv_aload_n hx hb dX11_says_42 rfl (lv_at hl 0 rfl) ?_
        refine m_geti S hW g200 12 rfl kX11 (iW11 _) (by decide) (List.mem_cons_of_mem _ (wa_15 _ (List.mem_of_getElem? (i := 3) (by decide +kernel)))) dX11_says_43 ?_
        refine m_top (y := nI rl) ((congrFun (hfr 200 (by decide)) 12).trans hrl) ?_
        refine lv_imul hx hb dX11_says_46 ?_
        refine m_top (y := nI (200 * rl)) (pk_mul 200 rl) ?_
        refine lv_iload_n hx hb dX11_says_47 rfl (lv_at hl 3 rfl) ?_
        refine lv_iadd hx hb dX11_says_48 ?_
        refine m_top (y := nI ((200 * rl) + k)) (nI_add (200 * rl) k) ?_
        refine m_iald S hW g206 ((200 * rl) + k) rfl (by omega) (by decide) dX11_says_49 ?_
        refine m_top (y := nI (cdN (sx k))) ((congrFun (hfr 206 (by decide)) _).trans (htc k (by omega))) ?_
        refine lv_istore (lv' := [(4, .int (nI (cdN (sx k)))), (0, .ref (ad 200)), (1, .int (nI 1)), (2, .int (nI n)), (3, .int (nI k))]) hx hb dX11_says_50 hl (by decide) rfl (fun ls hl => ?_)
        rcases (hwf.at_ (V 218) hk.1 (Nat.lt_of_not_le c_1)).do_ (V 218) with ⟨v, hv, hcd, hq, hdo⟩ | ⟨j, hj, hcd, hq, hdo⟩ | ⟨hcd, hq, hdo⟩ | ⟨hcd, hq, hdo⟩ | ⟨hq, hcd, hdo⟩
        · skip
          refine lv_iload hx hb dX11_says_52 (lv_at hl 0 rfl) ?_
          refine lv_ldc (v := nI 100000) hx hb hown (hts (.constant RX11 146 (100000)) (List.mem_cons_of_mem _ (wa_13 _ (List.mem_of_getElem? (i := 3) (by decide +kernel))))) dX11_says_54 ?_
          refine lv_icmp_ge (tgt := 66) hx hb dX11_says_56 (by decide) (fun c_2 => ?_) (fun c_2 => ?_)
          · skip
            have c_2 : 100000 ≤ (cdN (sx k)) := (nI_leI (by omega) (by omega)).mp c_2
            refine lv_aload_n hx hb dX11_says_66 rfl (lv_at hl 1 rfl) ?_
            refine m_getr S hW g200 30 rfl (j := 217) rfl kX11 (iW11 _) (by decide) (List.mem_cons_of_mem _ (wa_11 _ (List.mem_of_getElem? (i := 18) (by decide +kernel)))) dX11_says_67 ?_
            refine lv_iload_n hx hb dX11_says_70 rfl (lv_at hl 3 rfl) ?_
            refine lv_iload hx hb dX11_says_71 (lv_at hl 0 rfl) ?_
            refine lv_bipush (v := nI 11) hx hb dX11_says_73 (by decide) ?_
            refine lv_icmp_ge (tgt := 88) hx hb dX11_says_75 (by decide) (fun c_3 => ?_) (fun c_3 => ?_)
            · skip
              have c_3 : 11 ≤ (cdN (sx k)) := (nI_leI (by omega) (by omega)).mp c_3
              refine lv_iload hx hb dX11_says_88 (lv_at hl 0 rfl) ?_
              refine lv_ldc (v := nI 100000) hx hb hown (hts (.constant RX11 146 (100000)) (List.mem_cons_of_mem _ (wa_13 _ (List.mem_of_getElem? (i := 3) (by decide +kernel))))) dX11_says_90 ?_
              refine lv_isub hx hb dX11_says_92 ?_
              refine m_top (y := nI ((cdN (sx k)) - 100000)) (pk_sub (by omega)) ?_
              refine m_top (y := nI v) (congrArg nI (show cdN (sx k) - 100000 = v by omega)) ?_
              refine m_iast S hW g217 n rfl (by omega) (by decide) dX11_says_93 (fun H locs hW => ?_)
              obtain ⟨V_4, eV_4⟩ : ∃ z : mV, z = mU V1 217 n (nI v) := ⟨_, rfl⟩
              rw [← eV_4] at hW
              refine lv_iinc (v := nI (n + 1)) (lv' := [(2, .int (nI (n + 1))), (4, .int (nI (cdN (sx k)))), (0, .ref (ad 200)), (1, .int (nI 1)), (3, .int (nI k))]) hx hb dX11_says_94 hl (k := 3) rfl (m_inc n 1) (by decide) rfl (fun ls hl => ?_)
              refine lv_goto (tgt := 191) hx hb dX11_says_97 (by decide) ?_
              refine lv_iinc (v := nI (k + 1)) (lv' := [(3, .int (nI (k + 1))), (2, .int (nI (n + 1))), (4, .int (nI (cdN (sx k)))), (0, .ref (ad 200)), (1, .int (nI 1))]) hx hb dX11_says_191 hl (k := 4) rfl (m_inc k 1) (by decide) rfl (fun ls hl => ?_)
              refine lv_goto (tgt := 16) hx hb dX11_says_194 (by decide) ?_
              exact ih_16  (n + 1) (k + 1) V_4 _ _ _ (by omega) (by omega) (by intro a ha; rw [eV_4, mU_no _ _ ha]; exact hfr a ha) (by rw [eV_4, mU_row, evX_s (by omega), hdo, ← hR.1]; exact hR.up (Or.inr ⟨rfl, rfl⟩)) (by omega) hW (lv_sub hl [3, 4, 1, 0] rfl)
            · skip
              have c_3 : ¬ 11 ≤ (cdN (sx k)) := mt (nI_leI (by omega) (by omega)).mpr c_3
              exfalso; omega
          · skip
            have c_2 : ¬ 100000 ≤ (cdN (sx k)) := mt (nI_leI (by omega) (by omega)).mpr c_2
            exfalso; omega
        · skip
          refine lv_iload hx hb dX11_says_52 (lv_at hl 0 rfl) ?_
          refine lv_ldc (v := nI 100000) hx hb hown (hts (.constant RX11 146 (100000)) (List.mem_cons_of_mem _ (wa_13 _ (List.mem_of_getElem? (i := 3) (by decide +kernel))))) dX11_says_54 ?_
          refine lv_icmp_ge (tgt := 66) hx hb dX11_says_56 (by decide) (fun c_5 => ?_) (fun c_5 => ?_)
          · skip
            have c_5 : 100000 ≤ (cdN (sx k)) := (nI_leI (by omega) (by omega)).mp c_5
            refine lv_aload_n hx hb dX11_says_66 rfl (lv_at hl 1 rfl) ?_
            refine m_getr S hW g200 30 rfl (j := 217) rfl kX11 (iW11 _) (by decide) (List.mem_cons_of_mem _ (wa_11 _ (List.mem_of_getElem? (i := 18) (by decide +kernel)))) dX11_says_67 ?_
            refine lv_iload_n hx hb dX11_says_70 rfl (lv_at hl 3 rfl) ?_
            refine lv_iload hx hb dX11_says_71 (lv_at hl 0 rfl) ?_
            refine lv_bipush (v := nI 11) hx hb dX11_says_73 (by decide) ?_
            refine lv_icmp_ge (tgt := 88) hx hb dX11_says_75 (by decide) (fun c_6 => ?_) (fun c_6 => ?_)
            · skip
              have c_6 : 11 ≤ (cdN (sx k)) := (nI_leI (by omega) (by omega)).mp c_6
              exfalso; omega
            · skip
              have c_6 : ¬ 11 ≤ (cdN (sx k)) := mt (nI_leI (by omega) (by omega)).mpr c_6
              refine lv_aload_n hx hb dX11_says_78 rfl (lv_at hl 1 rfl) ?_
              refine m_getr S hW g200 31 rfl (j := 218) rfl kX11 (iW11 _) (by decide) (List.mem_cons_of_mem _ (wa_11 _ (List.mem_of_getElem? (i := 19) (by decide +kernel)))) dX11_says_79 ?_
              refine lv_iload hx hb dX11_says_82 (lv_at hl 0 rfl) ?_
              refine m_iald S hW g218 (cdN (sx k)) rfl (by omega) (by decide) dX11_says_84 ?_
              refine m_top (y := V 218 j) (by rw [hfr 218 (by decide), hcd]) ?_
              refine lv_goto (tgt := 93) hx hb dX11_says_85 (by decide) ?_
              refine m_iast S hW g217 n rfl (by omega) (by decide) dX11_says_93 (fun H locs hW => ?_)
              obtain ⟨V_7, eV_7⟩ : ∃ z : mV, z = mU V1 217 n (V 218 j) := ⟨_, rfl⟩
              rw [← eV_7] at hW
              refine lv_iinc (v := nI (n + 1)) (lv' := [(2, .int (nI (n + 1))), (4, .int (nI (cdN (sx k)))), (0, .ref (ad 200)), (1, .int (nI 1)), (3, .int (nI k))]) hx hb dX11_says_94 hl (k := 3) rfl (m_inc n 1) (by decide) rfl (fun ls hl => ?_)
              refine lv_goto (tgt := 191) hx hb dX11_says_97 (by decide) ?_
              refine lv_iinc (v := nI (k + 1)) (lv' := [(3, .int (nI (k + 1))), (2, .int (nI (n + 1))), (4, .int (nI (cdN (sx k)))), (0, .ref (ad 200)), (1, .int (nI 1))]) hx hb dX11_says_191 hl (k := 4) rfl (m_inc k 1) (by decide) rfl (fun ls hl => ?_)
              refine lv_goto (tgt := 16) hx hb dX11_says_194 (by decide) ?_
              exact ih_16  (n + 1) (k + 1) V_7 _ _ _ (by omega) (by omega) (by intro a ha; rw [eV_7, mU_no _ _ ha]; exact hfr a ha) (by rw [eV_7, mU_row, evX_s (by omega), hdo, ← hR.1]; exact hR.up (Or.inr ⟨rfl, rfl⟩)) (by omega) hW (lv_sub hl [3, 4, 1, 0] rfl)
          · skip
            have c_5 : ¬ 100000 ≤ (cdN (sx k)) := mt (nI_leI (by omega) (by omega)).mpr c_5
            refine lv_iload hx hb dX11_says_59 (lv_at hl 0 rfl) ?_
            refine lv_bipush (v := nI 11) hx hb dX11_says_61 (by decide) ?_
            refine lv_icmp_ge (tgt := 100) hx hb dX11_says_63 (by decide) (fun c_8 => ?_) (fun c_8 => ?_)
            · skip
              have c_8 : 11 ≤ (cdN (sx k)) := (nI_leI (by omega) (by omega)).mp c_8
              exfalso; omega
            · skip
              have c_8 : ¬ 11 ≤ (cdN (sx k)) := mt (nI_leI (by omega) (by omega)).mpr c_8
              refine lv_aload_n hx hb dX11_says_66 rfl (lv_at hl 1 rfl) ?_
              refine m_getr S hW g200 30 rfl (j := 217) rfl kX11 (iW11 _) (by decide) (List.mem_cons_of_mem _ (wa_11 _ (List.mem_of_getElem? (i := 18) (by decide +kernel)))) dX11_says_67 ?_
              refine lv_iload_n hx hb dX11_says_70 rfl (lv_at hl 3 rfl) ?_
              refine lv_iload hx hb dX11_says_71 (lv_at hl 0 rfl) ?_
              refine lv_bipush (v := nI 11) hx hb dX11_says_73 (by decide) ?_
              refine lv_icmp_ge (tgt := 88) hx hb dX11_says_75 (by decide) (fun c_9 => ?_) (fun c_9 => ?_)
              · skip
                have c_9 : 11 ≤ (cdN (sx k)) := (nI_leI (by omega) (by omega)).mp c_9
                exfalso; omega
              · skip
                have c_9 : ¬ 11 ≤ (cdN (sx k)) := mt (nI_leI (by omega) (by omega)).mpr c_9
                refine lv_aload_n hx hb dX11_says_78 rfl (lv_at hl 1 rfl) ?_
                refine m_getr S hW g200 31 rfl (j := 218) rfl kX11 (iW11 _) (by decide) (List.mem_cons_of_mem _ (wa_11 _ (List.mem_of_getElem? (i := 19) (by decide +kernel)))) dX11_says_79 ?_
                refine lv_iload hx hb dX11_says_82 (lv_at hl 0 rfl) ?_
                refine m_iald S hW g218 (cdN (sx k)) rfl (by omega) (by decide) dX11_says_84 ?_
                refine m_top (y := V 218 j) (by rw [hfr 218 (by decide), hcd]) ?_
                refine lv_goto (tgt := 93) hx hb dX11_says_85 (by decide) ?_
                refine m_iast S hW g217 n rfl (by omega) (by decide) dX11_says_93 (fun H locs hW => ?_)
                obtain ⟨V_10, eV_10⟩ : ∃ z : mV, z = mU V1 217 n (V 218 j) := ⟨_, rfl⟩
                rw [← eV_10] at hW
                refine lv_iinc (v := nI (n + 1)) (lv' := [(2, .int (nI (n + 1))), (4, .int (nI (cdN (sx k)))), (0, .ref (ad 200)), (1, .int (nI 1)), (3, .int (nI k))]) hx hb dX11_says_94 hl (k := 3) rfl (m_inc n 1) (by decide) rfl (fun ls hl => ?_)
                refine lv_goto (tgt := 191) hx hb dX11_says_97 (by decide) ?_
                refine lv_iinc (v := nI (k + 1)) (lv' := [(3, .int (nI (k + 1))), (2, .int (nI (n + 1))), (4, .int (nI (cdN (sx k)))), (0, .ref (ad 200)), (1, .int (nI 1))]) hx hb dX11_says_191 hl (k := 4) rfl (m_inc k 1) (by decide) rfl (fun ls hl => ?_)
                refine lv_goto (tgt := 16) hx hb dX11_says_194 (by decide) ?_
                exact ih_16  (n + 1) (k + 1) V_10 _ _ _ (by omega) (by omega) (by intro a ha; rw [eV_10, mU_no _ _ ha]; exact hfr a ha) (by rw [eV_10, mU_row, evX_s (by omega), hdo, ← hR.1]; exact hR.up (Or.inr ⟨rfl, rfl⟩)) (by omega) hW (lv_sub hl [3, 4, 1, 0] rfl)
        · skip
          refine lv_iload hx hb dX11_says_52 (lv_at hl 0 rfl) ?_
          refine lv_ldc (v := nI 100000) hx hb hown (hts (.constant RX11 146 (100000)) (List.mem_cons_of_mem _ (wa_13 _ (List.mem_of_getElem? (i := 3) (by decide +kernel))))) dX11_says_54 ?_
          refine lv_icmp_ge (tgt := 66) hx hb dX11_says_56 (by decide) (fun c_11 => ?_) (fun c_11 => ?_)
          · skip
            have c_11 : 100000 ≤ (cdN (sx k)) := (nI_leI (by omega) (by omega)).mp c_11
            exfalso; omega
          · skip
            have c_11 : ¬ 100000 ≤ (cdN (sx k)) := mt (nI_leI (by omega) (by omega)).mpr c_11
            refine lv_iload hx hb dX11_says_59 (lv_at hl 0 rfl) ?_
            refine lv_bipush (v := nI 11) hx hb dX11_says_61 (by decide) ?_
            refine lv_icmp_ge (tgt := 100) hx hb dX11_says_63 (by decide) (fun c_12 => ?_) (fun c_12 => ?_)
            · skip
              have c_12 : 11 ≤ (cdN (sx k)) := (nI_leI (by omega) (by omega)).mp c_12
              refine lv_iload hx hb dX11_says_100 (lv_at hl 0 rfl) ?_
              refine lv_bipush (v := nI 13) hx hb dX11_says_102 (by decide) ?_
              refine lv_icmp_ne (tgt := 134) hx hb dX11_says_104 (by decide) (fun c_13 => ?_) (fun c_13 => ?_)
              · skip
                have c_13 : ¬ (cdN (sx k)) = 13 := mt (nI_eq (by omega) (by omega)).mpr c_13
                exfalso; omega
              · skip
                have c_13 : (cdN (sx k)) = 13 := (nI_eq (by omega) (by omega)).mp c_13
                refine lv_aload_n hx hb dX11_says_107 rfl (lv_at hl 1 rfl) ?_
                refine m_getr S hW g200 30 rfl (j := 217) rfl kX11 (iW11 _) (by decide) (List.mem_cons_of_mem _ (wa_11 _ (List.mem_of_getElem? (i := 18) (by decide +kernel)))) dX11_says_108 ?_
                refine lv_iload_n hx hb dX11_says_111 rfl (lv_at hl 3 rfl) ?_
                refine lv_iconst (v := nI 1) hx hb dX11_says_112 (by decide) ?_
                refine lv_isub hx hb dX11_says_113 ?_
                refine m_top (y := nI (n - 1)) (pk_sub (by omega)) ?_
                refine lv_aload_n hx hb dX11_says_114 rfl (lv_at hl 1 rfl) ?_
                refine m_getr S hW g200 30 rfl (j := 217) rfl kX11 (iW11 _) (by decide) (List.mem_cons_of_mem _ (wa_11 _ (List.mem_of_getElem? (i := 18) (by decide +kernel)))) dX11_says_115 ?_
                refine lv_iload_n hx hb dX11_says_118 rfl (lv_at hl 3 rfl) ?_
                refine lv_iconst (v := nI 1) hx hb dX11_says_119 (by decide) ?_
                refine lv_isub hx hb dX11_says_120 ?_
                refine m_top (y := nI (n - 1)) (pk_sub (by omega)) ?_
                refine m_iald S hW g217 (n - 1) rfl (by omega) (by decide) dX11_says_121 ?_
                refine m_top (y := (evX (V 218) sx ta (k - ta)).2 (n - 1)) (hR.2 _ (by omega)) ?_
                refine m_if_ne (tgt := 129) hx hb dX11_says_122 (by decide) (fun c_14 => ?_) (fun c_14 => ?_)
                · skip
                  refine lv_iconst (v := nI 0) hx hb dX11_says_129 (by decide) ?_
                  refine m_iast S hW g217 (n - 1) rfl (by omega) (by decide) dX11_says_130 (fun H locs hW => ?_)
                  obtain ⟨V_15, eV_15⟩ : ∃ z : mV, z = mU V1 217 (n - 1) (nI 0) := ⟨_, rfl⟩
                  rw [← eV_15] at hW
                  refine lv_goto (tgt := 191) hx hb dX11_says_131 (by decide) ?_
                  refine lv_iinc (v := nI (k + 1)) (lv' := [(3, .int (nI (k + 1))), (4, .int (nI (cdN (sx k)))), (0, .ref (ad 200)), (1, .int (nI 1)), (2, .int (nI n))]) hx hb dX11_says_191 hl (k := 4) rfl (m_inc k 1) (by decide) rfl (fun ls hl => ?_)
                  refine lv_goto (tgt := 16) hx hb dX11_says_194 (by decide) ?_
                  exact ih_16  n (k + 1) V_15 _ _ _ (by omega) (by omega) (by intro a ha; rw [eV_15, mU_no _ _ ha]; exact hfr a ha) (by rw [eV_15, mU_row, evX_s (by omega), hdo, ← hR.1]; first | (rw [if_pos c_14]; exact hR.up (Or.inl (Nat.le_refl _))) | (rw [if_neg c_14]; exact hR.up (Or.inl (Nat.le_refl _)))) (by omega) hW (lv_sub hl [2, 3, 4, 0] rfl)
                · skip
                  refine lv_iconst (v := nI 1) hx hb dX11_says_125 (by decide) ?_
                  refine lv_goto (tgt := 130) hx hb dX11_says_126 (by decide) ?_
                  refine m_iast S hW g217 (n - 1) rfl (by omega) (by decide) dX11_says_130 (fun H locs hW => ?_)
                  obtain ⟨V_16, eV_16⟩ : ∃ z : mV, z = mU V1 217 (n - 1) (nI 1) := ⟨_, rfl⟩
                  rw [← eV_16] at hW
                  refine lv_goto (tgt := 191) hx hb dX11_says_131 (by decide) ?_
                  refine lv_iinc (v := nI (k + 1)) (lv' := [(3, .int (nI (k + 1))), (4, .int (nI (cdN (sx k)))), (0, .ref (ad 200)), (1, .int (nI 1)), (2, .int (nI n))]) hx hb dX11_says_191 hl (k := 4) rfl (m_inc k 1) (by decide) rfl (fun ls hl => ?_)
                  refine lv_goto (tgt := 16) hx hb dX11_says_194 (by decide) ?_
                  exact ih_16  n (k + 1) V_16 _ _ _ (by omega) (by omega) (by intro a ha; rw [eV_16, mU_no _ _ ha]; exact hfr a ha) (by rw [eV_16, mU_row, evX_s (by omega), hdo, ← hR.1]; first | (rw [if_pos c_14]; exact hR.up (Or.inl (Nat.le_refl _))) | (rw [if_neg c_14]; exact hR.up (Or.inl (Nat.le_refl _)))) (by omega) hW (lv_sub hl [2, 3, 4, 0] rfl)
            · skip
              have c_12 : ¬ 11 ≤ (cdN (sx k)) := mt (nI_leI (by omega) (by omega)).mpr c_12
              exfalso; omega
        · skip
          refine lv_iload hx hb dX11_says_52 (lv_at hl 0 rfl) ?_
          refine lv_ldc (v := nI 100000) hx hb hown (hts (.constant RX11 146 (100000)) (List.mem_cons_of_mem _ (wa_13 _ (List.mem_of_getElem? (i := 3) (by decide +kernel))))) dX11_says_54 ?_
          refine lv_icmp_ge (tgt := 66) hx hb dX11_says_56 (by decide) (fun c_17 => ?_) (fun c_17 => ?_)
          · skip
            have c_17 : 100000 ≤ (cdN (sx k)) := (nI_leI (by omega) (by omega)).mp c_17
            exfalso; omega
          · skip
            have c_17 : ¬ 100000 ≤ (cdN (sx k)) := mt (nI_leI (by omega) (by omega)).mpr c_17
            refine lv_iload hx hb dX11_says_59 (lv_at hl 0 rfl) ?_
            refine lv_bipush (v := nI 11) hx hb dX11_says_61 (by decide) ?_
            refine lv_icmp_ge (tgt := 100) hx hb dX11_says_63 (by decide) (fun c_18 => ?_) (fun c_18 => ?_)
            · skip
              have c_18 : 11 ≤ (cdN (sx k)) := (nI_leI (by omega) (by omega)).mp c_18
              refine lv_iload hx hb dX11_says_100 (lv_at hl 0 rfl) ?_
              refine lv_bipush (v := nI 13) hx hb dX11_says_102 (by decide) ?_
              refine lv_icmp_ne (tgt := 134) hx hb dX11_says_104 (by decide) (fun c_19 => ?_) (fun c_19 => ?_)
              · skip
                have c_19 : ¬ (cdN (sx k)) = 13 := mt (nI_eq (by omega) (by omega)).mpr c_19
                refine lv_iload hx hb dX11_says_134 (lv_at hl 0 rfl) ?_
                refine lv_bipush (v := nI 19) hx hb dX11_says_136 (by decide) ?_
                refine lv_icmp_ne (tgt := 161) hx hb dX11_says_138 (by decide) (fun c_20 => ?_) (fun c_20 => ?_)
                · skip
                  have c_20 : ¬ (cdN (sx k)) = 19 := mt (nI_eq (by omega) (by omega)).mpr c_20
                  exfalso; omega
                · skip
                  have c_20 : (cdN (sx k)) = 19 := (nI_eq (by omega) (by omega)).mp c_20
                  refine lv_aload_n hx hb dX11_says_141 rfl (lv_at hl 1 rfl) ?_
                  refine m_getr S hW g200 30 rfl (j := 217) rfl kX11 (iW11 _) (by decide) (List.mem_cons_of_mem _ (wa_11 _ (List.mem_of_getElem? (i := 18) (by decide +kernel)))) dX11_says_142 ?_
                  refine lv_iload_n hx hb dX11_says_145 rfl (lv_at hl 3 rfl) ?_
                  refine lv_iconst (v := nI 1) hx hb dX11_says_146 (by decide) ?_
                  refine lv_isub hx hb dX11_says_147 ?_
                  refine m_top (y := nI (n - 1)) (pk_sub (by omega)) ?_
                  refine lv_aload_n hx hb dX11_says_148 rfl (lv_at hl 1 rfl) ?_
                  refine m_getr S hW g200 30 rfl (j := 217) rfl kX11 (iW11 _) (by decide) (List.mem_cons_of_mem _ (wa_11 _ (List.mem_of_getElem? (i := 18) (by decide +kernel)))) dX11_says_149 ?_
                  refine lv_iload_n hx hb dX11_says_152 rfl (lv_at hl 3 rfl) ?_
                  refine lv_iconst (v := nI 1) hx hb dX11_says_153 (by decide) ?_
                  refine lv_isub hx hb dX11_says_154 ?_
                  refine m_top (y := nI (n - 1)) (pk_sub (by omega)) ?_
                  refine m_iald S hW g217 (n - 1) rfl (by omega) (by decide) dX11_says_155 ?_
                  refine m_top (y := (evX (V 218) sx ta (k - ta)).2 (n - 1)) (hR.2 _ (by omega)) ?_
                  refine lv_ineg hx hb dX11_says_156 ?_
                  refine m_iast S hW g217 (n - 1) rfl (by omega) (by decide) dX11_says_157 (fun H locs hW => ?_)
                  obtain ⟨V_21, eV_21⟩ : ∃ z : mV, z = mU V1 217 (n - 1) ((-((evX (V 218) sx ta (k - ta)).2 (n - 1)))) := ⟨_, rfl⟩
                  rw [← eV_21] at hW
                  refine lv_goto (tgt := 191) hx hb dX11_says_158 (by decide) ?_
                  refine lv_iinc (v := nI (k + 1)) (lv' := [(3, .int (nI (k + 1))), (4, .int (nI (cdN (sx k)))), (0, .ref (ad 200)), (1, .int (nI 1)), (2, .int (nI n))]) hx hb dX11_says_191 hl (k := 4) rfl (m_inc k 1) (by decide) rfl (fun ls hl => ?_)
                  refine lv_goto (tgt := 16) hx hb dX11_says_194 (by decide) ?_
                  exact ih_16  n (k + 1) V_21 _ _ _ (by omega) (by omega) (by intro a ha; rw [eV_21, mU_no _ _ ha]; exact hfr a ha) (by rw [eV_21, mU_row, evX_s (by omega), hdo, ← hR.1]; exact hR.up (Or.inl (Nat.le_refl _))) (by omega) hW (lv_sub hl [2, 3, 4, 0] rfl)
              · skip
                have c_19 : (cdN (sx k)) = 13 := (nI_eq (by omega) (by omega)).mp c_19
                exfalso; omega
            · skip
              have c_18 : ¬ 11 ≤ (cdN (sx k)) := mt (nI_leI (by omega) (by omega)).mpr c_18
              exfalso; omega
        · skip
          refine lv_iload hx hb dX11_says_52 (lv_at hl 0 rfl) ?_
          refine lv_ldc (v := nI 100000) hx hb hown (hts (.constant RX11 146 (100000)) (List.mem_cons_of_mem _ (wa_13 _ (List.mem_of_getElem? (i := 3) (by decide +kernel))))) dX11_says_54 ?_
          refine lv_icmp_ge (tgt := 66) hx hb dX11_says_56 (by decide) (fun c_22 => ?_) (fun c_22 => ?_)
          · skip
            have c_22 : 100000 ≤ (cdN (sx k)) := (nI_leI (by omega) (by omega)).mp c_22
            exfalso; omega
          · skip
            have c_22 : ¬ 100000 ≤ (cdN (sx k)) := mt (nI_leI (by omega) (by omega)).mpr c_22
            refine lv_iload hx hb dX11_says_59 (lv_at hl 0 rfl) ?_
            refine lv_bipush (v := nI 11) hx hb dX11_says_61 (by decide) ?_
            refine lv_icmp_ge (tgt := 100) hx hb dX11_says_63 (by decide) (fun c_23 => ?_) (fun c_23 => ?_)
            · skip
              have c_23 : 11 ≤ (cdN (sx k)) := (nI_leI (by omega) (by omega)).mp c_23
              refine lv_iload hx hb dX11_says_100 (lv_at hl 0 rfl) ?_
              refine lv_bipush (v := nI 13) hx hb dX11_says_102 (by decide) ?_
              refine lv_icmp_ne (tgt := 134) hx hb dX11_says_104 (by decide) (fun c_24 => ?_) (fun c_24 => ?_)
              · skip
                have c_24 : ¬ (cdN (sx k)) = 13 := mt (nI_eq (by omega) (by omega)).mpr c_24
                refine lv_iload hx hb dX11_says_134 (lv_at hl 0 rfl) ?_
                refine lv_bipush (v := nI 19) hx hb dX11_says_136 (by decide) ?_
                refine lv_icmp_ne (tgt := 161) hx hb dX11_says_138 (by decide) (fun c_25 => ?_) (fun c_25 => ?_)
                · skip
                  have c_25 : ¬ (cdN (sx k)) = 19 := mt (nI_eq (by omega) (by omega)).mpr c_25
                  refine lv_iinc (v := nI (n - 1)) (lv' := [(2, .int (nI (n - 1))), (4, .int (nI (cdN (sx k)))), (0, .ref (ad 200)), (1, .int (nI 1)), (3, .int (nI k))]) hx hb dX11_says_161 hl (k := 3) rfl (m_dec n 1 (by omega)) (by decide) rfl (fun ls hl => ?_)
                  refine lv_aload_n hx hb dX11_says_164 rfl (lv_at hl 2 rfl) ?_
                  refine m_getr S hW g200 30 rfl (j := 217) rfl kX11 (iW11 _) (by decide) (List.mem_cons_of_mem _ (wa_11 _ (List.mem_of_getElem? (i := 18) (by decide +kernel)))) dX11_says_165 ?_
                  refine lv_iload_n hx hb dX11_says_168 rfl (lv_at hl 0 rfl) ?_
                  refine lv_iconst (v := nI 1) hx hb dX11_says_169 (by decide) ?_
                  refine lv_isub hx hb dX11_says_170 ?_
                  refine m_top (y := nI ((n - 1) - 1)) (pk_sub (by omega)) ?_
                  refine lv_iload hx hb dX11_says_171 (lv_at hl 1 rfl) ?_
                  refine lv_aload_n hx hb dX11_says_173 rfl (lv_at hl 2 rfl) ?_
                  refine m_getr S hW g200 30 rfl (j := 217) rfl kX11 (iW11 _) (by decide) (List.mem_cons_of_mem _ (wa_11 _ (List.mem_of_getElem? (i := 18) (by decide +kernel)))) dX11_says_174 ?_
                  refine lv_iload_n hx hb dX11_says_177 rfl (lv_at hl 0 rfl) ?_
                  refine lv_iconst (v := nI 1) hx hb dX11_says_178 (by decide) ?_
                  refine lv_isub hx hb dX11_says_179 ?_
                  refine m_top (y := nI ((n - 1) - 1)) (pk_sub (by omega)) ?_
                  refine m_iald S hW g217 ((n - 1) - 1) rfl (by omega) (by decide) dX11_says_180 ?_
                  refine m_top (y := (evX (V 218) sx ta (k - ta)).2 (n - 1 - 1)) (hR.2 _ (by omega)) ?_
                  refine lv_aload_n hx hb dX11_says_181 rfl (lv_at hl 2 rfl) ?_
                  refine m_getr S hW g200 30 rfl (j := 217) rfl kX11 (iW11 _) (by decide) (List.mem_cons_of_mem _ (wa_11 _ (List.mem_of_getElem? (i := 18) (by decide +kernel)))) dX11_says_182 ?_
                  refine lv_iload_n hx hb dX11_says_185 rfl (lv_at hl 0 rfl) ?_
                  refine m_iald S hW g217 (n - 1) rfl (by omega) (by decide) dX11_says_186 ?_
                  refine m_top (y := (evX (V 218) sx ta (k - ta)).2 (n - 1)) (hR.2 _ (by omega)) ?_
                  refine m_cie (m_rS S hW (c_X11_two l G ad sh1 V1 (nI (cdN (sx k))) ((evX (V 218) sx ta (k - ta)).2 (n - 1 - 1)) ((evX (V 218) sx ta (k - ta)).2 (n - 1))) (va_cwS 3 hts (gCall [.methodLink RX11 160 yX11_two, .static yX11_two, .initialized RX11] (List.forall_mem_cons.mpr ⟨(wa_20 _ (List.mem_of_getElem? (i := 5) (by decide +kernel))), (List.forall_mem_cons.mpr ⟨(wa_20 _ (List.mem_of_getElem? (i := 3) (by decide +kernel))), (List.forall_mem_cons.mpr ⟨(wa_20 _ (List.mem_of_getElem? (i := 4) (by decide +kernel))), (List.forall_mem_cons.mpr ⟨(wa_1 _ (List.mem_of_getElem? (i := 5) (by decide +kernel))), (fun _ h => absurd h List.not_mem_nil)⟩)⟩)⟩)⟩)) rfl rfl rfl (by decide +kernel) ⟨Nat.le_of_ble_eq_true rfl, Nat.le_of_ble_eq_true rfl⟩) rfl hl.1 rfl (Nat.le_of_ble_eq_true rfl) dX11_says_187 ⟨Nat.le_of_ble_eq_true rfl, Nat.le_of_ble_eq_true rfl⟩) hW (fun H locs hW => ?_)
                  refine m_iast S hW g217 ((n - 1) - 1) rfl (by omega) (by decide) dX11_says_190 (fun H locs hW => ?_)
                  obtain ⟨V_26, eV_26⟩ : ∃ z : mV, z = mU V1 217 ((n - 1) - 1) ((fTwo (nI (cdN (sx k))) ((evX (V 218) sx ta (k - ta)).2 (n - 1 - 1)) ((evX (V 218) sx ta (k - ta)).2 (n - 1)))) := ⟨_, rfl⟩
                  rw [← eV_26] at hW
                  refine lv_iinc (v := nI (k + 1)) (lv' := [(3, .int (nI (k + 1))), (2, .int (nI (n - 1))), (4, .int (nI (cdN (sx k)))), (0, .ref (ad 200)), (1, .int (nI 1))]) hx hb dX11_says_191 hl (k := 4) rfl (m_inc k 1) (by decide) rfl (fun ls hl => ?_)
                  refine lv_goto (tgt := 16) hx hb dX11_says_194 (by decide) ?_
                  exact ih_16  (n - 1) (k + 1) V_26 _ _ _ (by omega) (by omega) (by intro a ha; rw [eV_26, mU_no _ _ ha]; exact hfr a ha) (by rw [eV_26, mU_row, evX_s (by omega), hdo, ← hR.1]; exact hR.up (Or.inl (by omega))) (by omega) hW (lv_sub hl [3, 4, 1, 0] rfl)
                · skip
                  have c_25 : (cdN (sx k)) = 19 := (nI_eq (by omega) (by omega)).mp c_25
                  exfalso; omega
              · skip
                have c_24 : (cdN (sx k)) = 13 := (nI_eq (by omega) (by omega)).mp c_24
                exfalso; omega
            · skip
              have c_23 : ¬ 11 ≤ (cdN (sx k)) := mt (nI_leI (by omega) (by omega)).mpr c_23
              exfalso; omega
  exact loop_16 (tb - ta + 1) 0 ta V0 _ _ _ (by omega) (by omega) (by exact hfr) (by rw [Nat.sub_self]; exact ⟨rfl, fun j hj => absurd hj (by omega)⟩) (by omega) hW (lv_sub hl [2, 3, 1, 0] rfl)
set_option maxHeartbeats 4000000 in
set_option maxRecDepth 100000 in
theorem c_X11_says_2 (l : Launch) (G : mG) (ad : Nat → Nat) (sh : Nat → Option mSh) (V : mV) (sx : Nat → Int32) (rl ta tb tl : Nat) (k200 : sh 200 = some sM) (k206 : sh 206 = some (mI 1200)) (k207 : sh 207 = some (mI 24)) (k217 : sh 217 = some (mS 200)) (k218 : sh 218 = some (mI 6)) (hrl : V 200 12 = nI rl) (hrl6 : rl < 6) (ht0 : V 207 (4 * rl + 0) = nI 0) (ht1 : V 207 (4 * rl + 1) = nI ta) (ht2 : V 207 (4 * rl + 2) = nI tb) (ht3 : V 207 (4 * rl + 3) = nI tl) (htc : ∀ k, k < tl → V 206 (200 * rl + k) = nI (cdN (sx k))) (htl : ta ≤ tb ∧ tb ≤ tl ∧ tl ≤ 160) (hwf : WfP sx tb tl) : mM l yX11_says wsX11_says ({ frames := 1, cells := 0, slots := 0, locals := 22 } : Room) G ad sh V [.ref (ad 200), .int (nI 2)] 0 0 (mPe ad sh V ((evX (V 218) sx tb (tl - tb)).2 0)) := by
  refine mM.of (cc := cX11_says) (maxL := 5) (ret := (some .int)) (by decide) rfl (Nat.le_of_ble_eq_true rfl) ?_
  intro p e s m below meth c S hr hlk hnm hW ls hl
  obtain ⟨hx, hb, hml, hown, hts⟩ := id S
  have hl : lv_has ls 5 [(0, .ref (ad 200)), (1, .int (nI 2))] := hl
  have hS0 : True := trivial
  obtain ⟨u, hW⟩ := hW.learn k217
  have g200 : va_up sh 217 (some (mI 200)) 200 = _ := (show va_up sh 217 (some (mI 200)) 200 = sh 200 by simp only [va_up, if_neg (show ¬ 200 = 217 by decide)]).trans k200
  have g206 : va_up sh 217 (some (mI 200)) 206 = _ := (show va_up sh 217 (some (mI 200)) 206 = sh 206 by simp only [va_up, if_neg (show ¬ 206 = 217 by decide)]).trans k206
  have g207 : va_up sh 217 (some (mI 200)) 207 = _ := (show va_up sh 217 (some (mI 200)) 207 = sh 207 by simp only [va_up, if_neg (show ¬ 207 = 217 by decide)]).trans k207
  have g218 : va_up sh 217 (some (mI 200)) 218 = _ := (show va_up sh 217 (some (mI 200)) 218 = sh 218 by simp only [va_up, if_neg (show ¬ 218 = 217 by decide)]).trans k218
  have g217 : va_up sh 217 (some (mI 200)) 217 = some (mI 200) := by simp [va_up]
  have hk217 := k217
  clear k217 k200 k206 k207 k218
  generalize hsh : va_up sh 217 (some (mI 200)) = sh1 at hW g200 g206 g207 g217 g218
  generalize hV0 : va_up V 217 u = V0 at hW
  have hfr : ∀ a, a ≠ 217 → V0 a = V a := fun a ha => by rw [← hV0]; simp [va_up, ha]
  refine lv_iconst (v := nI 0) hx hb dX11_says_0 (by decide) ?_
  refine lv_istore_n (lv' := [(2, .int (nI 0)), (0, .ref (ad 200)), (1, .int (nI 2))]) hx hb dX11_says_1 rfl hl (by decide) rfl (fun ls hl => ?_)
  refine lv_aload_n hx hb dX11_says_2 rfl (lv_at hl 1 rfl) ?_
  refine m_getr S hW g200 10 rfl (j := 207) rfl kX11 (iW11 _) (by decide) (List.mem_cons_of_mem _ (wa_11 _ (List.mem_of_getElem? (i := 8) (by decide +kernel)))) dX11_says_3 ?_
  refine lv_iconst (v := nI 4) hx hb dX11_says_6 (by decide) ?_
  refine lv_aload_n hx hb dX11_says_7 rfl (lv_at hl 1 rfl) ?_
  refine m_geti S hW g200 12 rfl kX11 (iW11 _) (by decide) (List.mem_cons_of_mem _ (wa_15 _ (List.mem_of_getElem? (i := 3) (by decide +kernel)))) dX11_says_8 ?_
  refine m_top (y := nI rl) ((congrFun (hfr 200 (by decide)) 12).trans hrl) ?_
  refine lv_imul hx hb dX11_says_11 ?_
  refine m_top (y := nI (4 * rl)) (pk_mul 4 rl) ?_
  refine lv_iload_n hx hb dX11_says_12 rfl (lv_at hl 2 rfl) ?_
  refine lv_iadd hx hb dX11_says_13 ?_
  refine m_top (y := nI ((4 * rl) + 2)) (nI_add (4 * rl) 2) ?_
  refine m_iald S hW g207 ((4 * rl) + 2) rfl (by omega) (by decide) dX11_says_14 ?_
  refine m_top (y := nI tb) ((congrFun (hfr 207 (by decide)) _).trans ht2) ?_
  refine lv_istore_n (lv' := [(3, .int (nI tb)), (2, .int (nI 0)), (0, .ref (ad 200)), (1, .int (nI 2))]) hx hb dX11_says_15 rfl hl (by decide) rfl (fun ls hl => ?_)
  have loop_16 : ∀ (n_16 : Nat) (n k : Nat) (V1 : mV) (H : Heap) (locs : List Loc) (ls : Array Slot), (tb ≤ k ∧ k ≤ tl) → (n ≤ 32) → (∀ a, a ≠ 217 → V1 a = V a) → (RelS n (V1 217) (evX (V 218) sx tb (k - tb))) → (tl - k) < n_16 → mC (mA ad sh s.heap.size) s.heap s G ad sh1 V1 H locs → lv_has ls 5 [(0, .ref (ad 200)), (1, .int (nI 2)), (2, .int (nI n)), (3, .int (nI k))] → W p l e ({ frames := 1, cells := 0, slots := 0, locals := 22 } : Room) s m ([.ref (ad 200), .int (nI 2)] : List Value).toArray below meth c H locs 0 0 (MQ below (mPost G ad sh s.heap.size (mPe ad sh V ((evX (V 218) sx tb (tl - tb)).2 0))) ([.ref (ad 200), .int (nI 2)] : List Value).toArray s 0 0 (mA ad sh s.heap.size)) (F0 m 16 ls []) := by
    intro n_16
    induction n_16 with
    | zero => intro n k V1 H locs ls hk hn hfr hR hM_ hW hl; omega
    | succ n_16 ih_16 =>
      intro n k V1 H locs ls hk hn hfr hR hM_ hW hl
      have hRn := hR.1
      refine lv_iload_n hx hb dX11_says_16 rfl (lv_at hl 3 rfl) ?_
      refine lv_aload_n hx hb dX11_says_17 rfl (lv_at hl 0 rfl) ?_
      refine m_getr S hW g200 10 rfl (j := 207) rfl kX11 (iW11 _) (by decide) (List.mem_cons_of_mem _ (wa_11 _ (List.mem_of_getElem? (i := 8) (by decide +kernel)))) dX11_says_18 ?_
      refine lv_iconst (v := nI 4) hx hb dX11_says_21 (by decide) ?_
      refine lv_aload_n hx hb dX11_says_22 rfl (lv_at hl 0 rfl) ?_
      refine m_geti S hW g200 12 rfl kX11 (iW11 _) (by decide) (List.mem_cons_of_mem _ (wa_15 _ (List.mem_of_getElem? (i := 3) (by decide +kernel)))) dX11_says_23 ?_
      refine m_top (y := nI rl) ((congrFun (hfr 200 (by decide)) 12).trans hrl) ?_
      refine lv_imul hx hb dX11_says_26 ?_
      refine m_top (y := nI (4 * rl)) (pk_mul 4 rl) ?_
      refine lv_iload_n hx hb dX11_says_27 rfl (lv_at hl 1 rfl) ?_
      refine lv_iadd hx hb dX11_says_28 ?_
      refine m_top (y := nI ((4 * rl) + 2)) (nI_add (4 * rl) 2) ?_
      refine lv_iconst (v := nI 1) hx hb dX11_says_29 (by decide) ?_
      refine lv_iadd hx hb dX11_says_30 ?_
      refine m_top (y := nI (((4 * rl) + 2) + 1)) (nI_add ((4 * rl) + 2) 1) ?_
      refine m_iald S hW g207 (((4 * rl) + 2) + 1) rfl (by omega) (by decide) dX11_says_31 ?_
      refine m_top (y := nI tl) (by rw [hfr 207 (by decide), show 4 * rl + 2 + 1 = 4 * rl + 3 by omega]; exact ht3) ?_
      refine lv_icmp_ge (tgt := 197) hx hb dX11_says_32 (by decide) (fun c_1 => ?_) (fun c_1 => ?_)
      · skip
        have c_1 : tl ≤ k := (nI_leI (by omega) (by omega)).mp c_1
        refine lv_aload_n hx hb dX11_says_197 rfl (lv_at hl 0 rfl) ?_
        refine m_getr S hW g200 30 rfl (j := 217) rfl kX11 (iW11 _) (by decide) (List.mem_cons_of_mem _ (wa_11 _ (List.mem_of_getElem? (i := 18) (by decide +kernel)))) dX11_says_198 ?_
        refine lv_iconst (v := nI 0) hx hb dX11_says_201 (by decide) ?_
        refine m_iald S hW g217 0 rfl (by decide) (by decide) dX11_says_202 ?_
        refine m_top (y := (evX (V 218) sx tb (tl - tb)).2 0) (by rw [show tl = k by omega]; exact hR.2 0 (by have := hwf.end_ (V 218); rw [show tl = k by omega, ← hR.1] at this; omega)) ?_
        have hW := hW.forget (sh' := sh) (V' := V) g217 hk217 (fun a ha => by rw [← hsh]; simp [va_up, ha]) (fun a ha => (hfr a ha).symm)
        exact m_iret S hr hlk hW dX11_says_203 ⟨rfl, (by rfl)⟩
      · skip
        have c_1 : ¬ tl ≤ k := mt (nI_leI (by omega) (by omega)).mpr c_1
        refine lv_aload_n hx hb dX11_says_35 rfl (lv_at hl 0 rfl) ?_
        refine m_getr S hW g200 9 rfl (j := 206) rfl kX11 (iW11 _) (by decide) (List.mem_cons_of_mem _ (wa_11 _ (List.mem_of_getElem? (i := 7) (by decide +kernel)))) dX11_says_36 ?_
        refine lv_sipush (v := nI 200) hx hb dX11_says_39 (by decide) ?_
        refine lv_aload_n hx hb dX11_says_42 rfl (lv_at hl 0 rfl) ?_
        refine m_geti S hW g200 12 rfl kX11 (iW11 _) (by decide) (List.mem_cons_of_mem _ (wa_15 _ (List.mem_of_getElem? (i := 3) (by decide +kernel)))) dX11_says_43 ?_
        refine m_top (y := nI rl) ((congrFun (hfr 200 (by decide)) 12).trans hrl) ?_
        refine lv_imul hx hb dX11_says_46 ?_
        refine m_top (y := nI (200 * rl)) (pk_mul 200 rl) ?_
        refine lv_iload_n hx hb dX11_says_47 rfl (lv_at hl 3 rfl) ?_
        refine lv_iadd hx hb dX11_says_48 ?_
        refine m_top (y := nI ((200 * rl) + k)) (nI_add (200 * rl) k) ?_
        refine m_iald S hW g206 ((200 * rl) + k) rfl (by omega) (by decide) dX11_says_49 ?_
        refine m_top (y := nI (cdN (sx k))) ((congrFun (hfr 206 (by decide)) _).trans (htc k (by omega))) ?_
        refine lv_istore (lv' := [(4, .int (nI (cdN (sx k)))), (0, .ref (ad 200)), (1, .int (nI 2)), (2, .int (nI n)), (3, .int (nI k))]) hx hb dX11_says_50 hl (by decide) rfl (fun ls hl => ?_)
        rcases (hwf.at_ (V 218) hk.1 (Nat.lt_of_not_le c_1)).do_ (V 218) with ⟨v, hv, hcd, hq, hdo⟩ | ⟨j, hj, hcd, hq, hdo⟩ | ⟨hcd, hq, hdo⟩ | ⟨hcd, hq, hdo⟩ | ⟨hq, hcd, hdo⟩
        · skip
          refine lv_iload hx hb dX11_says_52 (lv_at hl 0 rfl) ?_
          refine lv_ldc (v := nI 100000) hx hb hown (hts (.constant RX11 146 (100000)) (List.mem_cons_of_mem _ (wa_13 _ (List.mem_of_getElem? (i := 3) (by decide +kernel))))) dX11_says_54 ?_
          refine lv_icmp_ge (tgt := 66) hx hb dX11_says_56 (by decide) (fun c_2 => ?_) (fun c_2 => ?_)
          · skip
            have c_2 : 100000 ≤ (cdN (sx k)) := (nI_leI (by omega) (by omega)).mp c_2
            refine lv_aload_n hx hb dX11_says_66 rfl (lv_at hl 1 rfl) ?_
            refine m_getr S hW g200 30 rfl (j := 217) rfl kX11 (iW11 _) (by decide) (List.mem_cons_of_mem _ (wa_11 _ (List.mem_of_getElem? (i := 18) (by decide +kernel)))) dX11_says_67 ?_
            refine lv_iload_n hx hb dX11_says_70 rfl (lv_at hl 3 rfl) ?_
            refine lv_iload hx hb dX11_says_71 (lv_at hl 0 rfl) ?_
            refine lv_bipush (v := nI 11) hx hb dX11_says_73 (by decide) ?_
            refine lv_icmp_ge (tgt := 88) hx hb dX11_says_75 (by decide) (fun c_3 => ?_) (fun c_3 => ?_)
            · skip
              have c_3 : 11 ≤ (cdN (sx k)) := (nI_leI (by omega) (by omega)).mp c_3
              refine lv_iload hx hb dX11_says_88 (lv_at hl 0 rfl) ?_
              refine lv_ldc (v := nI 100000) hx hb hown (hts (.constant RX11 146 (100000)) (List.mem_cons_of_mem _ (wa_13 _ (List.mem_of_getElem? (i := 3) (by decide +kernel))))) dX11_says_90 ?_
              refine lv_isub hx hb dX11_says_92 ?_
              refine m_top (y := nI ((cdN (sx k)) - 100000)) (pk_sub (by omega)) ?_
              refine m_top (y := nI v) (congrArg nI (show cdN (sx k) - 100000 = v by omega)) ?_
              refine m_iast S hW g217 n rfl (by omega) (by decide) dX11_says_93 (fun H locs hW => ?_)
              obtain ⟨V_4, eV_4⟩ : ∃ z : mV, z = mU V1 217 n (nI v) := ⟨_, rfl⟩
              rw [← eV_4] at hW
              refine lv_iinc (v := nI (n + 1)) (lv' := [(2, .int (nI (n + 1))), (4, .int (nI (cdN (sx k)))), (0, .ref (ad 200)), (1, .int (nI 2)), (3, .int (nI k))]) hx hb dX11_says_94 hl (k := 3) rfl (m_inc n 1) (by decide) rfl (fun ls hl => ?_)
              refine lv_goto (tgt := 191) hx hb dX11_says_97 (by decide) ?_
              refine lv_iinc (v := nI (k + 1)) (lv' := [(3, .int (nI (k + 1))), (2, .int (nI (n + 1))), (4, .int (nI (cdN (sx k)))), (0, .ref (ad 200)), (1, .int (nI 2))]) hx hb dX11_says_191 hl (k := 4) rfl (m_inc k 1) (by decide) rfl (fun ls hl => ?_)
              refine lv_goto (tgt := 16) hx hb dX11_says_194 (by decide) ?_
              exact ih_16  (n + 1) (k + 1) V_4 _ _ _ (by omega) (by omega) (by intro a ha; rw [eV_4, mU_no _ _ ha]; exact hfr a ha) (by rw [eV_4, mU_row, evX_s (by omega), hdo, ← hR.1]; exact hR.up (Or.inr ⟨rfl, rfl⟩)) (by omega) hW (lv_sub hl [3, 4, 1, 0] rfl)
            · skip
              have c_3 : ¬ 11 ≤ (cdN (sx k)) := mt (nI_leI (by omega) (by omega)).mpr c_3
              exfalso; omega
          · skip
            have c_2 : ¬ 100000 ≤ (cdN (sx k)) := mt (nI_leI (by omega) (by omega)).mpr c_2
            exfalso; omega
        · skip
          refine lv_iload hx hb dX11_says_52 (lv_at hl 0 rfl) ?_
          refine lv_ldc (v := nI 100000) hx hb hown (hts (.constant RX11 146 (100000)) (List.mem_cons_of_mem _ (wa_13 _ (List.mem_of_getElem? (i := 3) (by decide +kernel))))) dX11_says_54 ?_
          refine lv_icmp_ge (tgt := 66) hx hb dX11_says_56 (by decide) (fun c_5 => ?_) (fun c_5 => ?_)
          · skip
            have c_5 : 100000 ≤ (cdN (sx k)) := (nI_leI (by omega) (by omega)).mp c_5
            refine lv_aload_n hx hb dX11_says_66 rfl (lv_at hl 1 rfl) ?_
            refine m_getr S hW g200 30 rfl (j := 217) rfl kX11 (iW11 _) (by decide) (List.mem_cons_of_mem _ (wa_11 _ (List.mem_of_getElem? (i := 18) (by decide +kernel)))) dX11_says_67 ?_
            refine lv_iload_n hx hb dX11_says_70 rfl (lv_at hl 3 rfl) ?_
            refine lv_iload hx hb dX11_says_71 (lv_at hl 0 rfl) ?_
            refine lv_bipush (v := nI 11) hx hb dX11_says_73 (by decide) ?_
            refine lv_icmp_ge (tgt := 88) hx hb dX11_says_75 (by decide) (fun c_6 => ?_) (fun c_6 => ?_)
            · skip
              have c_6 : 11 ≤ (cdN (sx k)) := (nI_leI (by omega) (by omega)).mp c_6
              exfalso; omega
            · skip
              have c_6 : ¬ 11 ≤ (cdN (sx k)) := mt (nI_leI (by omega) (by omega)).mpr c_6
              refine lv_aload_n hx hb dX11_says_78 rfl (lv_at hl 1 rfl) ?_
              refine m_getr S hW g200 31 rfl (j := 218) rfl kX11 (iW11 _) (by decide) (List.mem_cons_of_mem _ (wa_11 _ (List.mem_of_getElem? (i := 19) (by decide +kernel)))) dX11_says_79 ?_
              refine lv_iload hx hb dX11_says_82 (lv_at hl 0 rfl) ?_
              refine m_iald S hW g218 (cdN (sx k)) rfl (by omega) (by decide) dX11_says_84 ?_
              refine m_top (y := V 218 j) (by rw [hfr 218 (by decide), hcd]) ?_
              refine lv_goto (tgt := 93) hx hb dX11_says_85 (by decide) ?_
              refine m_iast S hW g217 n rfl (by omega) (by decide) dX11_says_93 (fun H locs hW => ?_)
              obtain ⟨V_7, eV_7⟩ : ∃ z : mV, z = mU V1 217 n (V 218 j) := ⟨_, rfl⟩
              rw [← eV_7] at hW
              refine lv_iinc (v := nI (n + 1)) (lv' := [(2, .int (nI (n + 1))), (4, .int (nI (cdN (sx k)))), (0, .ref (ad 200)), (1, .int (nI 2)), (3, .int (nI k))]) hx hb dX11_says_94 hl (k := 3) rfl (m_inc n 1) (by decide) rfl (fun ls hl => ?_)
              refine lv_goto (tgt := 191) hx hb dX11_says_97 (by decide) ?_
              refine lv_iinc (v := nI (k + 1)) (lv' := [(3, .int (nI (k + 1))), (2, .int (nI (n + 1))), (4, .int (nI (cdN (sx k)))), (0, .ref (ad 200)), (1, .int (nI 2))]) hx hb dX11_says_191 hl (k := 4) rfl (m_inc k 1) (by decide) rfl (fun ls hl => ?_)
              refine lv_goto (tgt := 16) hx hb dX11_says_194 (by decide) ?_
              exact ih_16  (n + 1) (k + 1) V_7 _ _ _ (by omega) (by omega) (by intro a ha; rw [eV_7, mU_no _ _ ha]; exact hfr a ha) (by rw [eV_7, mU_row, evX_s (by omega), hdo, ← hR.1]; exact hR.up (Or.inr ⟨rfl, rfl⟩)) (by omega) hW (lv_sub hl [3, 4, 1, 0] rfl)
          · skip
            have c_5 : ¬ 100000 ≤ (cdN (sx k)) := mt (nI_leI (by omega) (by omega)).mpr c_5
            refine lv_iload hx hb dX11_says_59 (lv_at hl 0 rfl) ?_
            refine lv_bipush (v := nI 11) hx hb dX11_says_61 (by decide) ?_
            refine lv_icmp_ge (tgt := 100) hx hb dX11_says_63 (by decide) (fun c_8 => ?_) (fun c_8 => ?_)
            · skip
              have c_8 : 11 ≤ (cdN (sx k)) := (nI_leI (by omega) (by omega)).mp c_8
              exfalso; omega
            · skip
              have c_8 : ¬ 11 ≤ (cdN (sx k)) := mt (nI_leI (by omega) (by omega)).mpr c_8
              refine lv_aload_n hx hb dX11_says_66 rfl (lv_at hl 1 rfl) ?_
              refine m_getr S hW g200 30 rfl (j := 217) rfl kX11 (iW11 _) (by decide) (List.mem_cons_of_mem _ (wa_11 _ (List.mem_of_getElem? (i := 18) (by decide +kernel)))) dX11_says_67 ?_
              refine lv_iload_n hx hb dX11_says_70 rfl (lv_at hl 3 rfl) ?_
              refine lv_iload hx hb dX11_says_71 (lv_at hl 0 rfl) ?_
              refine lv_bipush (v := nI 11) hx hb dX11_says_73 (by decide) ?_
              refine lv_icmp_ge (tgt := 88) hx hb dX11_says_75 (by decide) (fun c_9 => ?_) (fun c_9 => ?_)
              · skip
                have c_9 : 11 ≤ (cdN (sx k)) := (nI_leI (by omega) (by omega)).mp c_9
                exfalso; omega
              · skip
                have c_9 : ¬ 11 ≤ (cdN (sx k)) := mt (nI_leI (by omega) (by omega)).mpr c_9
                refine lv_aload_n hx hb dX11_says_78 rfl (lv_at hl 1 rfl) ?_
                refine m_getr S hW g200 31 rfl (j := 218) rfl kX11 (iW11 _) (by decide) (List.mem_cons_of_mem _ (wa_11 _ (List.mem_of_getElem? (i := 19) (by decide +kernel)))) dX11_says_79 ?_
                refine lv_iload hx hb dX11_says_82 (lv_at hl 0 rfl) ?_
                refine m_iald S hW g218 (cdN (sx k)) rfl (by omega) (by decide) dX11_says_84 ?_
                refine m_top (y := V 218 j) (by rw [hfr 218 (by decide), hcd]) ?_
                refine lv_goto (tgt := 93) hx hb dX11_says_85 (by decide) ?_
                refine m_iast S hW g217 n rfl (by omega) (by decide) dX11_says_93 (fun H locs hW => ?_)
                obtain ⟨V_10, eV_10⟩ : ∃ z : mV, z = mU V1 217 n (V 218 j) := ⟨_, rfl⟩
                rw [← eV_10] at hW
                refine lv_iinc (v := nI (n + 1)) (lv' := [(2, .int (nI (n + 1))), (4, .int (nI (cdN (sx k)))), (0, .ref (ad 200)), (1, .int (nI 2)), (3, .int (nI k))]) hx hb dX11_says_94 hl (k := 3) rfl (m_inc n 1) (by decide) rfl (fun ls hl => ?_)
                refine lv_goto (tgt := 191) hx hb dX11_says_97 (by decide) ?_
                refine lv_iinc (v := nI (k + 1)) (lv' := [(3, .int (nI (k + 1))), (2, .int (nI (n + 1))), (4, .int (nI (cdN (sx k)))), (0, .ref (ad 200)), (1, .int (nI 2))]) hx hb dX11_says_191 hl (k := 4) rfl (m_inc k 1) (by decide) rfl (fun ls hl => ?_)
                refine lv_goto (tgt := 16) hx hb dX11_says_194 (by decide) ?_
                exact ih_16  (n + 1) (k + 1) V_10 _ _ _ (by omega) (by omega) (by intro a ha; rw [eV_10, mU_no _ _ ha]; exact hfr a ha) (by rw [eV_10, mU_row, evX_s (by omega), hdo, ← hR.1]; exact hR.up (Or.inr ⟨rfl, rfl⟩)) (by omega) hW (lv_sub hl [3, 4, 1, 0] rfl)
        · skip
          refine lv_iload hx hb dX11_says_52 (lv_at hl 0 rfl) ?_
          refine lv_ldc (v := nI 100000) hx hb hown (hts (.constant RX11 146 (100000)) (List.mem_cons_of_mem _ (wa_13 _ (List.mem_of_getElem? (i := 3) (by decide +kernel))))) dX11_says_54 ?_
          refine lv_icmp_ge (tgt := 66) hx hb dX11_says_56 (by decide) (fun c_11 => ?_) (fun c_11 => ?_)
          · skip
            have c_11 : 100000 ≤ (cdN (sx k)) := (nI_leI (by omega) (by omega)).mp c_11
            exfalso; omega
          · skip
            have c_11 : ¬ 100000 ≤ (cdN (sx k)) := mt (nI_leI (by omega) (by omega)).mpr c_11
            refine lv_iload hx hb dX11_says_59 (lv_at hl 0 rfl) ?_
            refine lv_bipush (v := nI 11) hx hb dX11_says_61 (by decide) ?_
            refine lv_icmp_ge (tgt := 100) hx hb dX11_says_63 (by decide) (fun c_12 => ?_) (fun c_12 => ?_)
            · skip
              have c_12 : 11 ≤ (cdN (sx k)) := (nI_leI (by omega) (by omega)).mp c_12
              refine lv_iload hx hb dX11_says_100 (lv_at hl 0 rfl) ?_
              refine lv_bipush (v := nI 13) hx hb dX11_says_102 (by decide) ?_
              refine lv_icmp_ne (tgt := 134) hx hb dX11_says_104 (by decide) (fun c_13 => ?_) (fun c_13 => ?_)
              · skip
                have c_13 : ¬ (cdN (sx k)) = 13 := mt (nI_eq (by omega) (by omega)).mpr c_13
                exfalso; omega
              · skip
                have c_13 : (cdN (sx k)) = 13 := (nI_eq (by omega) (by omega)).mp c_13
                refine lv_aload_n hx hb dX11_says_107 rfl (lv_at hl 1 rfl) ?_
                refine m_getr S hW g200 30 rfl (j := 217) rfl kX11 (iW11 _) (by decide) (List.mem_cons_of_mem _ (wa_11 _ (List.mem_of_getElem? (i := 18) (by decide +kernel)))) dX11_says_108 ?_
                refine lv_iload_n hx hb dX11_says_111 rfl (lv_at hl 3 rfl) ?_
                refine lv_iconst (v := nI 1) hx hb dX11_says_112 (by decide) ?_
                refine lv_isub hx hb dX11_says_113 ?_
                refine m_top (y := nI (n - 1)) (pk_sub (by omega)) ?_
                refine lv_aload_n hx hb dX11_says_114 rfl (lv_at hl 1 rfl) ?_
                refine m_getr S hW g200 30 rfl (j := 217) rfl kX11 (iW11 _) (by decide) (List.mem_cons_of_mem _ (wa_11 _ (List.mem_of_getElem? (i := 18) (by decide +kernel)))) dX11_says_115 ?_
                refine lv_iload_n hx hb dX11_says_118 rfl (lv_at hl 3 rfl) ?_
                refine lv_iconst (v := nI 1) hx hb dX11_says_119 (by decide) ?_
                refine lv_isub hx hb dX11_says_120 ?_
                refine m_top (y := nI (n - 1)) (pk_sub (by omega)) ?_
                refine m_iald S hW g217 (n - 1) rfl (by omega) (by decide) dX11_says_121 ?_
                refine m_top (y := (evX (V 218) sx tb (k - tb)).2 (n - 1)) (hR.2 _ (by omega)) ?_
                refine m_if_ne (tgt := 129) hx hb dX11_says_122 (by decide) (fun c_14 => ?_) (fun c_14 => ?_)
                · skip
                  refine lv_iconst (v := nI 0) hx hb dX11_says_129 (by decide) ?_
                  refine m_iast S hW g217 (n - 1) rfl (by omega) (by decide) dX11_says_130 (fun H locs hW => ?_)
                  obtain ⟨V_15, eV_15⟩ : ∃ z : mV, z = mU V1 217 (n - 1) (nI 0) := ⟨_, rfl⟩
                  rw [← eV_15] at hW
                  refine lv_goto (tgt := 191) hx hb dX11_says_131 (by decide) ?_
                  refine lv_iinc (v := nI (k + 1)) (lv' := [(3, .int (nI (k + 1))), (4, .int (nI (cdN (sx k)))), (0, .ref (ad 200)), (1, .int (nI 2)), (2, .int (nI n))]) hx hb dX11_says_191 hl (k := 4) rfl (m_inc k 1) (by decide) rfl (fun ls hl => ?_)
                  refine lv_goto (tgt := 16) hx hb dX11_says_194 (by decide) ?_
                  exact ih_16  n (k + 1) V_15 _ _ _ (by omega) (by omega) (by intro a ha; rw [eV_15, mU_no _ _ ha]; exact hfr a ha) (by rw [eV_15, mU_row, evX_s (by omega), hdo, ← hR.1]; first | (rw [if_pos c_14]; exact hR.up (Or.inl (Nat.le_refl _))) | (rw [if_neg c_14]; exact hR.up (Or.inl (Nat.le_refl _)))) (by omega) hW (lv_sub hl [2, 3, 4, 0] rfl)
                · skip
                  refine lv_iconst (v := nI 1) hx hb dX11_says_125 (by decide) ?_
                  refine lv_goto (tgt := 130) hx hb dX11_says_126 (by decide) ?_
                  refine m_iast S hW g217 (n - 1) rfl (by omega) (by decide) dX11_says_130 (fun H locs hW => ?_)
                  obtain ⟨V_16, eV_16⟩ : ∃ z : mV, z = mU V1 217 (n - 1) (nI 1) := ⟨_, rfl⟩
                  rw [← eV_16] at hW
                  refine lv_goto (tgt := 191) hx hb dX11_says_131 (by decide) ?_
                  refine lv_iinc (v := nI (k + 1)) (lv' := [(3, .int (nI (k + 1))), (4, .int (nI (cdN (sx k)))), (0, .ref (ad 200)), (1, .int (nI 2)), (2, .int (nI n))]) hx hb dX11_says_191 hl (k := 4) rfl (m_inc k 1) (by decide) rfl (fun ls hl => ?_)
                  refine lv_goto (tgt := 16) hx hb dX11_says_194 (by decide) ?_
                  exact ih_16  n (k + 1) V_16 _ _ _ (by omega) (by omega) (by intro a ha; rw [eV_16, mU_no _ _ ha]; exact hfr a ha) (by rw [eV_16, mU_row, evX_s (by omega), hdo, ← hR.1]; first | (rw [if_pos c_14]; exact hR.up (Or.inl (Nat.le_refl _))) | (rw [if_neg c_14]; exact hR.up (Or.inl (Nat.le_refl _)))) (by omega) hW (lv_sub hl [2, 3, 4, 0] rfl)
            · skip
              have c_12 : ¬ 11 ≤ (cdN (sx k)) := mt (nI_leI (by omega) (by omega)).mpr c_12
              exfalso; omega
        · skip
          refine lv_iload hx hb dX11_says_52 (lv_at hl 0 rfl) ?_
          refine lv_ldc (v := nI 100000) hx hb hown (hts (.constant RX11 146 (100000)) (List.mem_cons_of_mem _ (wa_13 _ (List.mem_of_getElem? (i := 3) (by decide +kernel))))) dX11_says_54 ?_
          refine lv_icmp_ge (tgt := 66) hx hb dX11_says_56 (by decide) (fun c_17 => ?_) (fun c_17 => ?_)
          · skip
            have c_17 : 100000 ≤ (cdN (sx k)) := (nI_leI (by omega) (by omega)).mp c_17
            exfalso; omega
          · skip
            have c_17 : ¬ 100000 ≤ (cdN (sx k)) := mt (nI_leI (by omega) (by omega)).mpr c_17
            refine lv_iload hx hb dX11_says_59 (lv_at hl 0 rfl) ?_
            refine lv_bipush (v := nI 11) hx hb dX11_says_61 (by decide) ?_
            refine lv_icmp_ge (tgt := 100) hx hb dX11_says_63 (by decide) (fun c_18 => ?_) (fun c_18 => ?_)
            · skip
              have c_18 : 11 ≤ (cdN (sx k)) := (nI_leI (by omega) (by omega)).mp c_18
              refine lv_iload hx hb dX11_says_100 (lv_at hl 0 rfl) ?_
              refine lv_bipush (v := nI 13) hx hb dX11_says_102 (by decide) ?_
              refine lv_icmp_ne (tgt := 134) hx hb dX11_says_104 (by decide) (fun c_19 => ?_) (fun c_19 => ?_)
              · skip
                have c_19 : ¬ (cdN (sx k)) = 13 := mt (nI_eq (by omega) (by omega)).mpr c_19
                refine lv_iload hx hb dX11_says_134 (lv_at hl 0 rfl) ?_
                refine lv_bipush (v := nI 19) hx hb dX11_says_136 (by decide) ?_
                refine lv_icmp_ne (tgt := 161) hx hb dX11_says_138 (by decide) (fun c_20 => ?_) (fun c_20 => ?_)
                · skip
                  have c_20 : ¬ (cdN (sx k)) = 19 := mt (nI_eq (by omega) (by omega)).mpr c_20
                  exfalso; omega
                · skip
                  have c_20 : (cdN (sx k)) = 19 := (nI_eq (by omega) (by omega)).mp c_20
                  refine lv_aload_n hx hb dX11_says_141 rfl (lv_at hl 1 rfl) ?_
                  refine m_getr S hW g200 30 rfl (j := 217) rfl kX11 (iW11 _) (by decide) (List.mem_cons_of_mem _ (wa_11 _ (List.mem_of_getElem? (i := 18) (by decide +kernel)))) dX11_says_142 ?_
                  refine lv_iload_n hx hb dX11_says_145 rfl (lv_at hl 3 rfl) ?_
                  refine lv_iconst (v := nI 1) hx hb dX11_says_146 (by decide) ?_
                  refine lv_isub hx hb dX11_says_147 ?_
                  refine m_top (y := nI (n - 1)) (pk_sub (by omega)) ?_
                  refine lv_aload_n hx hb dX11_says_148 rfl (lv_at hl 1 rfl) ?_
                  refine m_getr S hW g200 30 rfl (j := 217) rfl kX11 (iW11 _) (by decide) (List.mem_cons_of_mem _ (wa_11 _ (List.mem_of_getElem? (i := 18) (by decide +kernel)))) dX11_says_149 ?_
                  refine lv_iload_n hx hb dX11_says_152 rfl (lv_at hl 3 rfl) ?_
                  refine lv_iconst (v := nI 1) hx hb dX11_says_153 (by decide) ?_
                  refine lv_isub hx hb dX11_says_154 ?_
                  refine m_top (y := nI (n - 1)) (pk_sub (by omega)) ?_
                  refine m_iald S hW g217 (n - 1) rfl (by omega) (by decide) dX11_says_155 ?_
                  refine m_top (y := (evX (V 218) sx tb (k - tb)).2 (n - 1)) (hR.2 _ (by omega)) ?_
                  refine lv_ineg hx hb dX11_says_156 ?_
                  refine m_iast S hW g217 (n - 1) rfl (by omega) (by decide) dX11_says_157 (fun H locs hW => ?_)
                  obtain ⟨V_21, eV_21⟩ : ∃ z : mV, z = mU V1 217 (n - 1) ((-((evX (V 218) sx tb (k - tb)).2 (n - 1)))) := ⟨_, rfl⟩
                  rw [← eV_21] at hW
                  refine lv_goto (tgt := 191) hx hb dX11_says_158 (by decide) ?_
                  refine lv_iinc (v := nI (k + 1)) (lv' := [(3, .int (nI (k + 1))), (4, .int (nI (cdN (sx k)))), (0, .ref (ad 200)), (1, .int (nI 2)), (2, .int (nI n))]) hx hb dX11_says_191 hl (k := 4) rfl (m_inc k 1) (by decide) rfl (fun ls hl => ?_)
                  refine lv_goto (tgt := 16) hx hb dX11_says_194 (by decide) ?_
                  exact ih_16  n (k + 1) V_21 _ _ _ (by omega) (by omega) (by intro a ha; rw [eV_21, mU_no _ _ ha]; exact hfr a ha) (by rw [eV_21, mU_row, evX_s (by omega), hdo, ← hR.1]; exact hR.up (Or.inl (Nat.le_refl _))) (by omega) hW (lv_sub hl [2, 3, 4, 0] rfl)
              · skip
                have c_19 : (cdN (sx k)) = 13 := (nI_eq (by omega) (by omega)).mp c_19
                exfalso; omega
            · skip
              have c_18 : ¬ 11 ≤ (cdN (sx k)) := mt (nI_leI (by omega) (by omega)).mpr c_18
              exfalso; omega
        · skip
          refine lv_iload hx hb dX11_says_52 (lv_at hl 0 rfl) ?_
          refine lv_ldc (v := nI 100000) hx hb hown (hts (.constant RX11 146 (100000)) (List.mem_cons_of_mem _ (wa_13 _ (List.mem_of_getElem? (i := 3) (by decide +kernel))))) dX11_says_54 ?_
          refine lv_icmp_ge (tgt := 66) hx hb dX11_says_56 (by decide) (fun c_22 => ?_) (fun c_22 => ?_)
          · skip
            have c_22 : 100000 ≤ (cdN (sx k)) := (nI_leI (by omega) (by omega)).mp c_22
            exfalso; omega
          · skip
            have c_22 : ¬ 100000 ≤ (cdN (sx k)) := mt (nI_leI (by omega) (by omega)).mpr c_22
            refine lv_iload hx hb dX11_says_59 (lv_at hl 0 rfl) ?_
            refine lv_bipush (v := nI 11) hx hb dX11_says_61 (by decide) ?_
            refine lv_icmp_ge (tgt := 100) hx hb dX11_says_63 (by decide) (fun c_23 => ?_) (fun c_23 => ?_)
            · skip
              have c_23 : 11 ≤ (cdN (sx k)) := (nI_leI (by omega) (by omega)).mp c_23
              refine lv_iload hx hb dX11_says_100 (lv_at hl 0 rfl) ?_
              refine lv_bipush (v := nI 13) hx hb dX11_says_102 (by decide) ?_
              refine lv_icmp_ne (tgt := 134) hx hb dX11_says_104 (by decide) (fun c_24 => ?_) (fun c_24 => ?_)
              · skip
                have c_24 : ¬ (cdN (sx k)) = 13 := mt (nI_eq (by omega) (by omega)).mpr c_24
                refine lv_iload hx hb dX11_says_134 (lv_at hl 0 rfl) ?_
                refine lv_bipush (v := nI 19) hx hb dX11_says_136 (by decide) ?_
                refine lv_icmp_ne (tgt := 161) hx hb dX11_says_138 (by decide) (fun c_25 => ?_) (fun c_25 => ?_)
                · skip
                  have c_25 : ¬ (cdN (sx k)) = 19 := mt (nI_eq (by omega) (by omega)).mpr c_25
                  refine lv_iinc (v := nI (n - 1)) (lv' := [(2, .int (nI (n - 1))), (4, .int (nI (cdN (sx k)))), (0, .ref (ad 200)), (1, .int (nI 2)), (3, .int (nI k))]) hx hb dX11_says_161 hl (k := 3) rfl (m_dec n 1 (by omega)) (by decide) rfl (fun ls hl => ?_)
                  refine lv_aload_n hx hb dX11_says_164 rfl (lv_at hl 2 rfl) ?_
                  refine m_getr S hW g200 30 rfl (j := 217) rfl kX11 (iW11 _) (by decide) (List.mem_cons_of_mem _ (wa_11 _ (List.mem_of_getElem? (i := 18) (by decide +kernel)))) dX11_says_165 ?_
                  refine lv_iload_n hx hb dX11_says_168 rfl (lv_at hl 0 rfl) ?_
                  refine lv_iconst (v := nI 1) hx hb dX11_says_169 (by decide) ?_
                  refine lv_isub hx hb dX11_says_170 ?_
                  refine m_top (y := nI ((n - 1) - 1)) (pk_sub (by omega)) ?_
                  refine lv_iload hx hb dX11_says_171 (lv_at hl 1 rfl) ?_
                  refine lv_aload_n hx hb dX11_says_173 rfl (lv_at hl 2 rfl) ?_
                  refine m_getr S hW g200 30 rfl (j := 217) rfl kX11 (iW11 _) (by decide) (List.mem_cons_of_mem _ (wa_11 _ (List.mem_of_getElem? (i := 18) (by decide +kernel)))) dX11_says_174 ?_
                  refine lv_iload_n hx hb dX11_says_177 rfl (lv_at hl 0 rfl) ?_
                  refine lv_iconst (v := nI 1) hx hb dX11_says_178 (by decide) ?_
                  refine lv_isub hx hb dX11_says_179 ?_
                  refine m_top (y := nI ((n - 1) - 1)) (pk_sub (by omega)) ?_
                  refine m_iald S hW g217 ((n - 1) - 1) rfl (by omega) (by decide) dX11_says_180 ?_
                  refine m_top (y := (evX (V 218) sx tb (k - tb)).2 (n - 1 - 1)) (hR.2 _ (by omega)) ?_
                  refine lv_aload_n hx hb dX11_says_181 rfl (lv_at hl 2 rfl) ?_
                  refine m_getr S hW g200 30 rfl (j := 217) rfl kX11 (iW11 _) (by decide) (List.mem_cons_of_mem _ (wa_11 _ (List.mem_of_getElem? (i := 18) (by decide +kernel)))) dX11_says_182 ?_
                  refine lv_iload_n hx hb dX11_says_185 rfl (lv_at hl 0 rfl) ?_
                  refine m_iald S hW g217 (n - 1) rfl (by omega) (by decide) dX11_says_186 ?_
                  refine m_top (y := (evX (V 218) sx tb (k - tb)).2 (n - 1)) (hR.2 _ (by omega)) ?_
                  refine m_cie (m_rS S hW (c_X11_two l G ad sh1 V1 (nI (cdN (sx k))) ((evX (V 218) sx tb (k - tb)).2 (n - 1 - 1)) ((evX (V 218) sx tb (k - tb)).2 (n - 1))) (va_cwS 3 hts (gCall [.methodLink RX11 160 yX11_two, .static yX11_two, .initialized RX11] (List.forall_mem_cons.mpr ⟨(wa_20 _ (List.mem_of_getElem? (i := 5) (by decide +kernel))), (List.forall_mem_cons.mpr ⟨(wa_20 _ (List.mem_of_getElem? (i := 3) (by decide +kernel))), (List.forall_mem_cons.mpr ⟨(wa_20 _ (List.mem_of_getElem? (i := 4) (by decide +kernel))), (List.forall_mem_cons.mpr ⟨(wa_1 _ (List.mem_of_getElem? (i := 5) (by decide +kernel))), (fun _ h => absurd h List.not_mem_nil)⟩)⟩)⟩)⟩)) rfl rfl rfl (by decide +kernel) ⟨Nat.le_of_ble_eq_true rfl, Nat.le_of_ble_eq_true rfl⟩) rfl hl.1 rfl (Nat.le_of_ble_eq_true rfl) dX11_says_187 ⟨Nat.le_of_ble_eq_true rfl, Nat.le_of_ble_eq_true rfl⟩) hW (fun H locs hW => ?_)
                  refine m_iast S hW g217 ((n - 1) - 1) rfl (by omega) (by decide) dX11_says_190 (fun H locs hW => ?_)
                  obtain ⟨V_26, eV_26⟩ : ∃ z : mV, z = mU V1 217 ((n - 1) - 1) ((fTwo (nI (cdN (sx k))) ((evX (V 218) sx tb (k - tb)).2 (n - 1 - 1)) ((evX (V 218) sx tb (k - tb)).2 (n - 1)))) := ⟨_, rfl⟩
                  rw [← eV_26] at hW
                  refine lv_iinc (v := nI (k + 1)) (lv' := [(3, .int (nI (k + 1))), (2, .int (nI (n - 1))), (4, .int (nI (cdN (sx k)))), (0, .ref (ad 200)), (1, .int (nI 2))]) hx hb dX11_says_191 hl (k := 4) rfl (m_inc k 1) (by decide) rfl (fun ls hl => ?_)
                  refine lv_goto (tgt := 16) hx hb dX11_says_194 (by decide) ?_
                  exact ih_16  (n - 1) (k + 1) V_26 _ _ _ (by omega) (by omega) (by intro a ha; rw [eV_26, mU_no _ _ ha]; exact hfr a ha) (by rw [eV_26, mU_row, evX_s (by omega), hdo, ← hR.1]; exact hR.up (Or.inl (by omega))) (by omega) hW (lv_sub hl [3, 4, 1, 0] rfl)
                · skip
                  have c_25 : (cdN (sx k)) = 19 := (nI_eq (by omega) (by omega)).mp c_25
                  exfalso; omega
              · skip
                have c_24 : (cdN (sx k)) = 13 := (nI_eq (by omega) (by omega)).mp c_24
                exfalso; omega
            · skip
              have c_23 : ¬ 11 ≤ (cdN (sx k)) := mt (nI_leI (by omega) (by omega)).mpr c_23
              exfalso; omega
  exact loop_16 (tl - tb + 1) 0 tb V0 _ _ _ (by omega) (by omega) (by exact hfr) (by rw [Nat.sub_self]; exact ⟨rfl, fun j hj => absurd hj (by omega)⟩) (by omega) hW (lv_sub hl [2, 3, 1, 0] rfl)
