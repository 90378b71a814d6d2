/-! texts -/
/-- a step on a stack of so many -/
def stX (nm : Nat → Int32) (x : Int32) (q : Nat × (Nat → Int32)) : Nat × (Nat → Int32) :=
  if nI 0 ≤ x ∧ q.1 < 32 then (q.1 + 1, upd q.2 q.1 x)
  else if mIn (-x - nI 2) 0 6 ∧ q.1 < 32 then (q.1 + 1, upd q.2 q.1 (nm (-x - nI 2).toNatClampNeg))
  else if x = -13 ∧ 0 < q.1 then (q.1, upd q.2 (q.1 - 1) (if q.2 (q.1 - 1) = nI 0 then nI 1 else nI 0))
  else if x = -14 ∧ 0 < q.1 then (q.1, upd q.2 (q.1 - 1) (-(q.2 (q.1 - 1))))
  else if 1 < q.1 then (q.1 - 1, upd q.2 (q.1 - 1 - 1) (fJoin x (q.2 (q.1 - 1 - 1)) (q.2 (q.1 - 1))))
  else q
def evX (nm st : Nat → Int32) (a : Nat) : Nat → Nat × (Nat → Int32)
  | 0 => (0, fun _ => nI 0)
  | k + 1 => stX nm (st (a + k)) (evX nm st a k)
theorem evX_s {nm st : Nat → Int32} {a k : Nat} (h : a ≤ k) : evX nm st a (k + 1 - a) = stX nm (st k) (evX nm st a (k - a)) := by
  rw [show k + 1 - a = (k - a) + 1 by omega, evX, show a + (k - a) = k by omega]
def RelS (n : Nat) (u : Nat → Int32) (q : Nat × (Nat → Int32)) : Prop := n = q.1 ∧ ∀ j, j < n → u j = q.2 j
theorem RelS.up {n : Nat} {u : Nat → Int32} {q : Nat × (Nat → Int32)} (h : RelS n u q) {i m : Nat} {x : Int32} (hm : m ≤ n ∨ (m = n + 1 ∧ i = n)) : RelS m (upd u i x) (m, upd q.2 i x) := by
  refine ⟨rfl, fun j hj => ?_⟩
  by_cases hi : j = i
  · subst hi; simp [upd]
  · simp only [upd, if_neg hi]
    exact h.2 j (by omega)
theorem RelS.push {n : Nat} {u : Nat → Int32} {q : Nat × (Nat → Int32)} {nm : Nat → Int32} {x : Int32} (h : RelS n u q) (h1 : nI 0 ≤ x) (h2 : n < 32) : RelS (n + 1) (upd u n x) (stX nm x q) := by
  rw [stX, if_pos ⟨h1, by rw [← h.1]; exact h2⟩, ← h.1]
  exact h.up (Or.inr ⟨rfl, rfl⟩)
theorem RelS.nm {n ix : Nat} {u : Nat → Int32} {q : Nat × (Nat → Int32)} {nm : Nat → Int32} {x : Int32} (h : RelS n u q) (h1 : ¬ (nI 0 ≤ x ∧ n < 32)) (h2 : mIn (-x - nI 2) 0 6) (h3 : n < 32) (hix : -x - nI 2 = nI ix) (h6 : ix < 6) : RelS (n + 1) (upd u n (nm ix)) (stX nm x q) := by
  have hl : ix = (-x - nI 2).toNatClampNeg := by rw [hix, nI_clamp (by omega)]
  rw [stX, if_neg (by rw [← h.1]; exact h1), if_pos ⟨h2, by rw [← h.1]; exact h3⟩, ← h.1, hl]
  exact h.up (Or.inr ⟨rfl, rfl⟩)
theorem RelS.nt0 {n : Nat} {u : Nat → Int32} {q : Nat × (Nat → Int32)} {nm : Nat → Int32} {x : Int32} (h : RelS n u q) (h1 : ¬ (nI 0 ≤ x ∧ n < 32)) (h2 : ¬ (mIn (-x - nI 2) 0 6 ∧ n < 32)) (h3 : x = -13) (h4 : 0 < n) (h5 : q.2 (n - 1) = nI 0) : RelS n (upd u (n - 1) (nI 1)) (stX nm x q) := by
  rw [stX, if_neg (by rw [← h.1]; exact h1), if_neg (by rw [← h.1]; exact h2), if_pos ⟨h3, by rw [← h.1]; exact h4⟩, ← h.1, if_pos h5]
  exact h.up (Or.inl (Nat.le_refl _))
theorem RelS.nt1 {n : Nat} {u : Nat → Int32} {q : Nat × (Nat → Int32)} {nm : Nat → Int32} {x : Int32} (h : RelS n u q) (h1 : ¬ (nI 0 ≤ x ∧ n < 32)) (h2 : ¬ (mIn (-x - nI 2) 0 6 ∧ n < 32)) (h3 : x = -13) (h4 : 0 < n) (h5 : ¬ q.2 (n - 1) = nI 0) : RelS n (upd u (n - 1) (nI 0)) (stX nm x q) := by
  rw [stX, if_neg (by rw [← h.1]; exact h1), if_neg (by rw [← h.1]; exact h2), if_pos ⟨h3, by rw [← h.1]; exact h4⟩, ← h.1, if_neg h5]
  exact h.up (Or.inl (Nat.le_refl _))
theorem RelS.ng {n : Nat} {u : Nat → Int32} {q : Nat × (Nat → Int32)} {nm : Nat → Int32} {x : Int32} (h : RelS n u q) (h1 : ¬ (nI 0 ≤ x ∧ n < 32)) (h2 : ¬ (mIn (-x - nI 2) 0 6 ∧ n < 32)) (h3 : x = -14) (h4 : 0 < n) : RelS n (upd u (n - 1) (-(q.2 (n - 1)))) (stX nm x q) := by
  rw [stX, if_neg (by rw [← h.1]; exact h1), if_neg (by rw [← h.1]; exact h2), if_neg (by rw [h3]; exact fun z => absurd z.1 (by decide)), if_pos ⟨h3, by rw [← h.1]; exact h4⟩, ← h.1]
  exact h.up (Or.inl (Nat.le_refl _))
theorem RelS.jn {n : Nat} {u : Nat → Int32} {q : Nat × (Nat → Int32)} {nm : Nat → Int32} {x : Int32} (h : RelS n u q) (h1 : ¬ (nI 0 ≤ x ∧ n < 32)) (h2 : ¬ (mIn (-x - nI 2) 0 6 ∧ n < 32)) (h3 : ¬ (x = -13 ∧ 0 < n)) (h4 : ¬ (x = -14 ∧ 0 < n)) (h5 : 1 < n) : RelS (n - 1) (upd u (n - 1 - 1) (fJoin x (q.2 (n - 1 - 1)) (q.2 (n - 1)))) (stX nm x q) := by
  rw [stX, if_neg (by rw [← h.1]; exact h1), if_neg (by rw [← h.1]; exact h2), if_neg (by rw [← h.1]; exact h3), if_neg (by rw [← h.1]; exact h4), if_pos (by rw [← h.1]; exact h5), ← h.1]
  exact h.up (Or.inl (by omega))
theorem RelS.no {n : Nat} {u : Nat → Int32} {q : Nat × (Nat → Int32)} {nm : Nat → Int32} {x : Int32} (h : RelS n u q) (h1 : ¬ (nI 0 ≤ x ∧ n < 32)) (h2 : ¬ (mIn (-x - nI 2) 0 6 ∧ n < 32)) (h3 : ¬ (x = -13 ∧ 0 < n)) (h4 : ¬ (x = -14 ∧ 0 < n)) (h5 : ¬ 1 < n) : RelS n u (stX nm x q) := by
  rw [stX, if_neg (by rw [← h.1]; exact h1), if_neg (by rw [← h.1]; exact h2), if_neg (by rw [← h.1]; exact h3), if_neg (by rw [← h.1]; exact h4), if_neg (by rw [← h.1]; exact h5)]
  exact h
def fTop (q : Nat × (Nat → Int32)) : Int32 := if 0 < q.1 then q.2 (q.1 - 1) else nI 0
def fClamp (b x : Int32) : Int32 := if nI 0 < (if b < x then b else x) then (if b < x then b else x) else nI 0
/-- what part 0 pays, 1 likes, 2 waits of a text says: its steps st, where the parts begin, the names -/
def fAsk (st : Nat → Int32) (ta tb tl part : Nat) (nm : Nat → Int32) : Int32 :=
  fClamp (if part = 1 then nI 99 else nI 999) (fTop (if part = 0 then evX nm st 0 ta else if part = 1 then evX nm st ta (tb - ta) else evX nm st tb (tl - tb)))
theorem fAsk_0 (st : Nat → Int32) (ta tb tl : Nat) (nm : Nat → Int32) : fAsk st ta tb tl 0 nm = fClamp (nI 999) (fTop (evX nm st 0 (ta - 0))) := rfl
theorem fAsk_1 (st : Nat → Int32) (ta tb tl : Nat) (nm : Nat → Int32) : fAsk st ta tb tl 1 nm = fClamp (nI 99) (fTop (evX nm st ta (tb - ta))) := rfl
theorem fAsk_2 (st : Nat → Int32) (ta tb tl : Nat) (nm : Nat → Int32) : fAsk st ta tb tl 2 nm = fClamp (nI 999) (fTop (evX nm st tb (tl - tb))) := rfl
set_option maxHeartbeats 4000000 in
set_option maxRecDepth 100000 in
theorem c_X7_says_0 (l : Launch) (G : mG) (ad : Nat → Nat) (sh : Nat → Option mSh) (V : mV) (t tl ta tb no : Nat) (ht : sh t = some (sText t)) (ht1 : sh (t + 1) = some (mI tl)) (ht2 : sh (t + 2) = some (mS 32)) (hta : V t 2 = nI ta) (htb : V t 3 = nI tb) (htl : ta ≤ tb ∧ tb ≤ tl ∧ tl ≤ 160) (hno : sh no = some (mI 6)) (hno2 : no ≠ t + 2) : mM l yX7_says wsX7_says ({ frames := 1, cells := 0, slots := 0, locals := 61 } : Room) G ad sh V [.ref (ad t), .int (nI 0), .ref (ad no)] 0 0 (mPe ad sh V (fAsk (V (t + 1)) ta tb tl 0 (V no))) := by
  refine mM.of (cc := cX7_says) (maxL := 9) (ret := (some .int)) (by decide) rfl (Nat.le_of_ble_eq_true rfl) ?_
  intro p e s m below meth c S hr hlk hnm hW ls hl
  obtain ⟨hx, hb, hml, hown, hts⟩ := id S
  have hl : lv_has ls 9 [(0, .ref (ad t)), (1, .int (nI 0)), (2, .ref (ad no))] := hl
  have hS0 : True := trivial
  obtain ⟨u, hW⟩ := hW.learn ht2
  have gt : va_up sh (t + 2) (some (mI 32)) t = some (sText t) := by simp [va_up, ht]
  have gt1 : va_up sh (t + 2) (some (mI 32)) (t + 1) = some (mI tl) := by simp [va_up, ht1]
  have gt2 : va_up sh (t + 2) (some (mI 32)) (t + 2) = some (mI 32) := by simp [va_up]
  have gn : va_up sh (t + 2) (some (mI 32)) no = some (mI 6) := by simp [va_up, hno2, hno]
  generalize hsh : va_up sh (t + 2) (some (mI 32)) = sh1 at hW gt gt1 gt2 gn
  generalize hV0 : va_up V (t + 2) u = V0 at hW
  have hfr : ∀ a, a ≠ t + 2 → V0 a = V a := fun a ha => by rw [← hV0]; simp [va_up, ha]
  refine lv_iload_n hx hb dX7_says_0 rfl (lv_at hl 1 rfl) ?_
  refine m_if_ne (tgt := 8) hx hb dX7_says_1 (by decide) (fun c_1 => ?_) (fun c_1 => ?_)
  · exact absurd c_1 (by decide)
  · skip
    refine lv_iconst (v := nI 0) hx hb dX7_says_4 (by decide) ?_
    refine lv_goto (tgt := 24) hx hb dX7_says_5 (by decide) ?_
    refine lv_istore_n (lv' := [(3, .int (nI 0)), (0, .ref (ad t)), (1, .int (nI 0)), (2, .ref (ad no))]) hx hb dX7_says_24 rfl hl (by decide) rfl (fun ls hl => ?_)
    refine lv_iload_n hx hb dX7_says_25 rfl (lv_at hl 2 rfl) ?_
    refine m_if_ne (tgt := 36) hx hb dX7_says_26 (by decide) (fun c_2 => ?_) (fun c_2 => ?_)
    · exact absurd c_2 (by decide)
    · skip
      refine lv_aload_n hx hb dX7_says_29 rfl (lv_at hl 1 rfl) ?_
      refine m_geti S hW gt 2 rfl kX7 (iW7 _) (by decide) (List.mem_cons_of_mem _ (wa_9 _ (List.mem_of_getElem? (i := 12) (by decide +kernel)))) dX7_says_30 ?_
      refine m_top (y := nI ta) (by rw [hfr t (by omega)]; exact hta) ?_
      refine lv_goto (tgt := 53) hx hb dX7_says_33 (by decide) ?_
      refine lv_istore (lv' := [(4, .int (nI ta)), (3, .int (nI 0)), (0, .ref (ad t)), (1, .int (nI 0)), (2, .ref (ad no))]) hx hb dX7_says_53 hl (by decide) rfl (fun ls hl => ?_)
      refine lv_iconst (v := nI 0) hx hb dX7_says_55 (by decide) ?_
      refine lv_istore (lv' := [(5, .int (nI 0)), (4, .int (nI ta)), (3, .int (nI 0)), (0, .ref (ad t)), (1, .int (nI 0)), (2, .ref (ad no))]) hx hb dX7_says_56 hl (by decide) rfl (fun ls hl => ?_)
      refine lv_iload_n hx hb dX7_says_58 rfl (lv_at hl 2 rfl) ?_
      refine lv_istore (lv' := [(6, .int (nI 0)), (5, .int (nI 0)), (4, .int (nI ta)), (3, .int (nI 0)), (0, .ref (ad t)), (1, .int (nI 0)), (2, .ref (ad no))]) hx hb dX7_says_59 hl (by decide) rfl (fun ls hl => ?_)
      have loop_61 : ∀ (n_61 : Nat) (n k : Nat) (V1 : mV) (H : Heap) (locs : List Loc) (ls : Array Slot), (n ≤ 32) → (0 ≤ k ∧ k ≤ ta) → (∀ a, a ≠ t + 2 → V1 a = V a) → (RelS n (V1 (t + 2)) (evX (V no) (V (t + 1)) 0 (k - 0))) → (ta - k) < n_61 → mC (mA ad sh s.heap.size) s.heap s G ad sh1 V1 H locs → lv_has ls 9 [(4, .int (nI ta)), (3, .int (nI 0)), (0, .ref (ad t)), (1, .int (nI 0)), (2, .ref (ad no)), (5, .int (nI n)), (6, .int (nI k))] → W p l e ({ frames := 1, cells := 0, slots := 0, locals := 61 } : Room) s m ([.ref (ad t), .int (nI 0), .ref (ad no)] : List Value).toArray below meth c H locs 0 0 (MQ below (mPost G ad sh s.heap.size (mPe ad sh V (fAsk (V (t + 1)) ta tb tl 0 (V no)))) ([.ref (ad t), .int (nI 0), .ref (ad no)] : List Value).toArray s 0 0 (mA ad sh s.heap.size)) (F0 m 61 ls []) := by
        intro n_61
        induction n_61 with
        | zero => intro n k V1 H locs ls hn hk hfr hR hM_ hW hl; omega
        | succ n_61 ih_61 =>
          intro n k V1 H locs ls hn hk hfr hR hM_ hW hl
          refine lv_iload hx hb dX7_says_61 (lv_at hl 6 rfl) ?_
          refine lv_iload hx hb dX7_says_63 (lv_at hl 0 rfl) ?_
          refine lv_icmp_ge (tgt := 278) hx hb dX7_says_65 (by decide) (fun c_3 => ?_) (fun c_3 => ?_)
          · skip
            have c_3 : ta ≤ k := (nI_leI (by omega) (by omega)).mp c_3
            refine lv_iload hx hb dX7_says_278 (lv_at hl 5 rfl) ?_
            refine m_if_le (tgt := 295) hx hb dX7_says_280 (by decide) (fun c_4 => ?_) (fun c_4 => ?_)
            · skip
              have c_4 : n ≤ 0 := (nI_leI (by omega) (by omega)).mp c_4
              refine lv_iconst (v := nI 0) hx hb dX7_says_295 (by decide) ?_
              refine lv_istore (lv' := [(6, .int (nI 0)), (4, .int (nI ta)), (3, .int (nI 0)), (0, .ref (ad t)), (1, .int (nI 0)), (2, .ref (ad no)), (5, .int (nI n))]) hx hb dX7_says_296 hl (by decide) rfl (fun ls hl => ?_)
              refine lv_iconst (v := nI 0) hx hb dX7_says_298 (by decide) ?_
              refine lv_iload hx hb dX7_says_299 (lv_at hl 0 rfl) ?_
              refine lv_iload_n hx hb dX7_says_301 rfl (lv_at hl 4 rfl) ?_
              refine lv_iconst (v := nI 1) hx hb dX7_says_302 (by decide) ?_
              refine lv_icmp_ne (tgt := 311) hx hb dX7_says_303 (by decide) (fun c_5 => ?_) (fun c_5 => ?_)
              · skip
                refine lv_sipush (v := nI 999) hx hb dX7_says_311 (by decide) ?_
                refine va_mmin hx hb (hml.trans hl.1.symm) hown (hts (.methodLink RX7 38 Lib.Math.min.name) (List.mem_cons_of_mem _ (wa_18 _ (List.mem_of_getElem? (i := 10) (by decide +kernel))))) (hts (.static Lib.Math.min.name) (List.mem_cons_of_mem _ (wa_18 _ (List.mem_of_getElem? (i := 11) (by decide +kernel))))) (hts (.initialized "java/lang/Math") (List.mem_cons_of_mem _ (wa_18 _ (List.mem_of_getElem? (i := 12) (by decide +kernel))))) (hts (.code Lib.Math.min.name Lib.Math.min.code 2 (some .int)) (List.mem_cons_of_mem _ (wa_18 _ (List.mem_of_getElem? (i := 13) (by decide +kernel))))) (Nat.le_of_ble_eq_true rfl) (Nat.le_of_ble_eq_true rfl) (Nat.le_of_ble_eq_true rfl) (Nat.le_of_ble_eq_true rfl) dX7_says_314 ?_
                refine va_mmax hx hb (hml.trans hl.1.symm) hown (hts (.methodLink RX7 44 Lib.Math.max.name) (List.mem_cons_of_mem _ (wa_18 _ (List.mem_of_getElem? (i := 14) (by decide +kernel))))) (hts (.static Lib.Math.max.name) (List.mem_cons_of_mem _ (wa_18 _ (List.mem_of_getElem? (i := 15) (by decide +kernel))))) (hts (.initialized "java/lang/Math") (List.mem_cons_of_mem _ (wa_18 _ (List.mem_of_getElem? (i := 12) (by decide +kernel))))) (hts (.code Lib.Math.max.name Lib.Math.max.code 2 (some .int)) (List.mem_cons_of_mem _ (wa_18 _ (List.mem_of_getElem? (i := 16) (by decide +kernel))))) (Nat.le_of_ble_eq_true rfl) (Nat.le_of_ble_eq_true rfl) (Nat.le_of_ble_eq_true rfl) (Nat.le_of_ble_eq_true rfl) dX7_says_317 ?_
                have hW := hW.forget (sh' := sh) (V' := V) gt2 ht2 (fun a ha => by rw [← hsh]; simp [va_up, ha]) (fun a ha => (hfr a ha).symm)
                exact m_iret S hr hlk hW dX7_says_320 ⟨rfl, (by first | (exfalso; omega) | (rw [show k = ta by omega] at hR ⊢; rw [fAsk_0, fClamp, fTop, ← hR.1, if_pos (show 0 < n by omega)]; done) | (rw [show k = ta by omega] at hR; rw [fAsk_0, fClamp, fTop, ← hR.1, if_neg (show ¬ 0 < n by omega)]; done))⟩
              · exact absurd c_5 (by decide)
            · skip
              have c_4 : ¬ n ≤ 0 := mt (nI_leI (by omega) (by omega)).mpr c_4
              refine lv_aload_n hx hb dX7_says_283 rfl (lv_at hl 2 rfl) ?_
              refine m_getr S hW gt 4 rfl (j := (t + 2)) rfl kX7 (iW7 _) (by decide) (List.mem_cons_of_mem _ (wa_9 _ (List.mem_of_getElem? (i := 9) (by decide +kernel)))) dX7_says_284 ?_
              refine lv_iload hx hb dX7_says_287 (lv_at hl 5 rfl) ?_
              refine lv_iconst (v := nI 1) hx hb dX7_says_289 (by decide) ?_
              refine lv_isub hx hb dX7_says_290 ?_
              refine m_top (y := nI (n - 1)) (pk_sub (by omega)) ?_
              refine m_iald S hW gt2 (n - 1) rfl (by omega) (by decide) dX7_says_291 ?_
              refine m_top (y := (evX (V no) (V (t + 1)) 0 (k - 0)).2 (n - 1)) (hR.2 _ (by omega)) ?_
              refine lv_goto (tgt := 296) hx hb dX7_says_292 (by decide) ?_
              refine lv_istore (lv' := [(6, .int ((evX (V no) (V (t + 1)) 0 (k - 0)).2 (n - 1))), (4, .int (nI ta)), (3, .int (nI 0)), (0, .ref (ad t)), (1, .int (nI 0)), (2, .ref (ad no)), (5, .int (nI n))]) hx hb dX7_says_296 hl (by decide) rfl (fun ls hl => ?_)
              refine lv_iconst (v := nI 0) hx hb dX7_says_298 (by decide) ?_
              refine lv_iload hx hb dX7_says_299 (lv_at hl 0 rfl) ?_
              refine lv_iload_n hx hb dX7_says_301 rfl (lv_at hl 4 rfl) ?_
              refine lv_iconst (v := nI 1) hx hb dX7_says_302 (by decide) ?_
              refine lv_icmp_ne (tgt := 311) hx hb dX7_says_303 (by decide) (fun c_6 => ?_) (fun c_6 => ?_)
              · skip
                refine lv_sipush (v := nI 999) hx hb dX7_says_311 (by decide) ?_
                refine va_mmin hx hb (hml.trans hl.1.symm) hown (hts (.methodLink RX7 38 Lib.Math.min.name) (List.mem_cons_of_mem _ (wa_18 _ (List.mem_of_getElem? (i := 10) (by decide +kernel))))) (hts (.static Lib.Math.min.name) (List.mem_cons_of_mem _ (wa_18 _ (List.mem_of_getElem? (i := 11) (by decide +kernel))))) (hts (.initialized "java/lang/Math") (List.mem_cons_of_mem _ (wa_18 _ (List.mem_of_getElem? (i := 12) (by decide +kernel))))) (hts (.code Lib.Math.min.name Lib.Math.min.code 2 (some .int)) (List.mem_cons_of_mem _ (wa_18 _ (List.mem_of_getElem? (i := 13) (by decide +kernel))))) (Nat.le_of_ble_eq_true rfl) (Nat.le_of_ble_eq_true rfl) (Nat.le_of_ble_eq_true rfl) (Nat.le_of_ble_eq_true rfl) dX7_says_314 ?_
                refine va_mmax hx hb (hml.trans hl.1.symm) hown (hts (.methodLink RX7 44 Lib.Math.max.name) (List.mem_cons_of_mem _ (wa_18 _ (List.mem_of_getElem? (i := 14) (by decide +kernel))))) (hts (.static Lib.Math.max.name) (List.mem_cons_of_mem _ (wa_18 _ (List.mem_of_getElem? (i := 15) (by decide +kernel))))) (hts (.initialized "java/lang/Math") (List.mem_cons_of_mem _ (wa_18 _ (List.mem_of_getElem? (i := 12) (by decide +kernel))))) (hts (.code Lib.Math.max.name Lib.Math.max.code 2 (some .int)) (List.mem_cons_of_mem _ (wa_18 _ (List.mem_of_getElem? (i := 16) (by decide +kernel))))) (Nat.le_of_ble_eq_true rfl) (Nat.le_of_ble_eq_true rfl) (Nat.le_of_ble_eq_true rfl) (Nat.le_of_ble_eq_true rfl) dX7_says_317 ?_
                have hW := hW.forget (sh' := sh) (V' := V) gt2 ht2 (fun a ha => by rw [← hsh]; simp [va_up, ha]) (fun a ha => (hfr a ha).symm)
                exact m_iret S hr hlk hW dX7_says_320 ⟨rfl, (by first | (exfalso; omega) | (rw [show k = ta by omega] at hR ⊢; rw [fAsk_0, fClamp, fTop, ← hR.1, if_pos (show 0 < n by omega)]; done) | (rw [show k = ta by omega] at hR; rw [fAsk_0, fClamp, fTop, ← hR.1, if_neg (show ¬ 0 < n by omega)]; done))⟩
              · exact absurd c_6 (by decide)
          · skip
            have c_3 : ¬ ta ≤ k := mt (nI_leI (by omega) (by omega)).mpr c_3
            refine lv_iload hx hb dX7_says_68 (lv_at hl 6 rfl) ?_
            refine lv_aload_n hx hb dX7_says_70 rfl (lv_at hl 2 rfl) ?_
            refine m_getr S hW gt 1 rfl (j := (t + 1)) rfl kX7 (iW7 _) (by decide) (List.mem_cons_of_mem _ (wa_9 _ (List.mem_of_getElem? (i := 11) (by decide +kernel)))) dX7_says_71 ?_
            refine m_alen S hW gt1 dX7_says_74 ?_
            refine lv_icmp_ge (tgt := 278) hx hb dX7_says_75 (by decide) (fun c_7 => ?_) (fun c_7 => ?_)
            · skip
              have c_7 : tl ≤ k := (nI_leI (by omega) (by omega)).mp c_7
              refine lv_iload hx hb dX7_says_278 (lv_at hl 5 rfl) ?_
              refine m_if_le (tgt := 295) hx hb dX7_says_280 (by decide) (fun c_8 => ?_) (fun c_8 => ?_)
              · skip
                have c_8 : n ≤ 0 := (nI_leI (by omega) (by omega)).mp c_8
                refine lv_iconst (v := nI 0) hx hb dX7_says_295 (by decide) ?_
                refine lv_istore (lv' := [(6, .int (nI 0)), (4, .int (nI ta)), (3, .int (nI 0)), (0, .ref (ad t)), (1, .int (nI 0)), (2, .ref (ad no)), (5, .int (nI n))]) hx hb dX7_says_296 hl (by decide) rfl (fun ls hl => ?_)
                refine lv_iconst (v := nI 0) hx hb dX7_says_298 (by decide) ?_
                refine lv_iload hx hb dX7_says_299 (lv_at hl 0 rfl) ?_
                refine lv_iload_n hx hb dX7_says_301 rfl (lv_at hl 4 rfl) ?_
                refine lv_iconst (v := nI 1) hx hb dX7_says_302 (by decide) ?_
                refine lv_icmp_ne (tgt := 311) hx hb dX7_says_303 (by decide) (fun c_9 => ?_) (fun c_9 => ?_)
                · skip
                  refine lv_sipush (v := nI 999) hx hb dX7_says_311 (by decide) ?_
                  refine va_mmin hx hb (hml.trans hl.1.symm) hown (hts (.methodLink RX7 38 Lib.Math.min.name) (List.mem_cons_of_mem _ (wa_18 _ (List.mem_of_getElem? (i := 10) (by decide +kernel))))) (hts (.static Lib.Math.min.name) (List.mem_cons_of_mem _ (wa_18 _ (List.mem_of_getElem? (i := 11) (by decide +kernel))))) (hts (.initialized "java/lang/Math") (List.mem_cons_of_mem _ (wa_18 _ (List.mem_of_getElem? (i := 12) (by decide +kernel))))) (hts (.code Lib.Math.min.name Lib.Math.min.code 2 (some .int)) (List.mem_cons_of_mem _ (wa_18 _ (List.mem_of_getElem? (i := 13) (by decide +kernel))))) (Nat.le_of_ble_eq_true rfl) (Nat.le_of_ble_eq_true rfl) (Nat.le_of_ble_eq_true rfl) (Nat.le_of_ble_eq_true rfl) dX7_says_314 ?_
                  refine va_mmax hx hb (hml.trans hl.1.symm) hown (hts (.methodLink RX7 44 Lib.Math.max.name) (List.mem_cons_of_mem _ (wa_18 _ (List.mem_of_getElem? (i := 14) (by decide +kernel))))) (hts (.static Lib.Math.max.name) (List.mem_cons_of_mem _ (wa_18 _ (List.mem_of_getElem? (i := 15) (by decide +kernel))))) (hts (.initialized "java/lang/Math") (List.mem_cons_of_mem _ (wa_18 _ (List.mem_of_getElem? (i := 12) (by decide +kernel))))) (hts (.code Lib.Math.max.name Lib.Math.max.code 2 (some .int)) (List.mem_cons_of_mem _ (wa_18 _ (List.mem_of_getElem? (i := 16) (by decide +kernel))))) (Nat.le_of_ble_eq_true rfl) (Nat.le_of_ble_eq_true rfl) (Nat.le_of_ble_eq_true rfl) (Nat.le_of_ble_eq_true rfl) dX7_says_317 ?_
                  have hW := hW.forget (sh' := sh) (V' := V) gt2 ht2 (fun a ha => by rw [← hsh]; simp [va_up, ha]) (fun a ha => (hfr a ha).symm)
                  exact m_iret S hr hlk hW dX7_says_320 ⟨rfl, (by first | (exfalso; omega) | (rw [show k = ta by omega] at hR ⊢; rw [fAsk_0, fClamp, fTop, ← hR.1, if_pos (show 0 < n by omega)]; done) | (rw [show k = ta by omega] at hR; rw [fAsk_0, fClamp, fTop, ← hR.1, if_neg (show ¬ 0 < n by omega)]; done))⟩
                · exact absurd c_9 (by decide)
              · skip
                have c_8 : ¬ n ≤ 0 := mt (nI_leI (by omega) (by omega)).mpr c_8
                refine lv_aload_n hx hb dX7_says_283 rfl (lv_at hl 2 rfl) ?_
                refine m_getr S hW gt 4 rfl (j := (t + 2)) rfl kX7 (iW7 _) (by decide) (List.mem_cons_of_mem _ (wa_9 _ (List.mem_of_getElem? (i := 9) (by decide +kernel)))) dX7_says_284 ?_
                refine lv_iload hx hb dX7_says_287 (lv_at hl 5 rfl) ?_
                refine lv_iconst (v := nI 1) hx hb dX7_says_289 (by decide) ?_
                refine lv_isub hx hb dX7_says_290 ?_
                refine m_top (y := nI (n - 1)) (pk_sub (by omega)) ?_
                refine m_iald S hW gt2 (n - 1) rfl (by omega) (by decide) dX7_says_291 ?_
                refine m_top (y := (evX (V no) (V (t + 1)) 0 (k - 0)).2 (n - 1)) (hR.2 _ (by omega)) ?_
                refine lv_goto (tgt := 296) hx hb dX7_says_292 (by decide) ?_
                refine lv_istore (lv' := [(6, .int ((evX (V no) (V (t + 1)) 0 (k - 0)).2 (n - 1))), (4, .int (nI ta)), (3, .int (nI 0)), (0, .ref (ad t)), (1, .int (nI 0)), (2, .ref (ad no)), (5, .int (nI n))]) hx hb dX7_says_296 hl (by decide) rfl (fun ls hl => ?_)
                refine lv_iconst (v := nI 0) hx hb dX7_says_298 (by decide) ?_
                refine lv_iload hx hb dX7_says_299 (lv_at hl 0 rfl) ?_
                refine lv_iload_n hx hb dX7_says_301 rfl (lv_at hl 4 rfl) ?_
                refine lv_iconst (v := nI 1) hx hb dX7_says_302 (by decide) ?_
                refine lv_icmp_ne (tgt := 311) hx hb dX7_says_303 (by decide) (fun c_10 => ?_) (fun c_10 => ?_)
                · skip
                  refine lv_sipush (v := nI 999) hx hb dX7_says_311 (by decide) ?_
                  refine va_mmin hx hb (hml.trans hl.1.symm) hown (hts (.methodLink RX7 38 Lib.Math.min.name) (List.mem_cons_of_mem _ (wa_18 _ (List.mem_of_getElem? (i := 10) (by decide +kernel))))) (hts (.static Lib.Math.min.name) (List.mem_cons_of_mem _ (wa_18 _ (List.mem_of_getElem? (i := 11) (by decide +kernel))))) (hts (.initialized "java/lang/Math") (List.mem_cons_of_mem _ (wa_18 _ (List.mem_of_getElem? (i := 12) (by decide +kernel))))) (hts (.code Lib.Math.min.name Lib.Math.min.code 2 (some .int)) (List.mem_cons_of_mem _ (wa_18 _ (List.mem_of_getElem? (i := 13) (by decide +kernel))))) (Nat.le_of_ble_eq_true rfl) (Nat.le_of_ble_eq_true rfl) (Nat.le_of_ble_eq_true rfl) (Nat.le_of_ble_eq_true rfl) dX7_says_314 ?_
                  refine va_mmax hx hb (hml.trans hl.1.symm) hown (hts (.methodLink RX7 44 Lib.Math.max.name) (List.mem_cons_of_mem _ (wa_18 _ (List.mem_of_getElem? (i := 14) (by decide +kernel))))) (hts (.static Lib.Math.max.name) (List.mem_cons_of_mem _ (wa_18 _ (List.mem_of_getElem? (i := 15) (by decide +kernel))))) (hts (.initialized "java/lang/Math") (List.mem_cons_of_mem _ (wa_18 _ (List.mem_of_getElem? (i := 12) (by decide +kernel))))) (hts (.code Lib.Math.max.name Lib.Math.max.code 2 (some .int)) (List.mem_cons_of_mem _ (wa_18 _ (List.mem_of_getElem? (i := 16) (by decide +kernel))))) (Nat.le_of_ble_eq_true rfl) (Nat.le_of_ble_eq_true rfl) (Nat.le_of_ble_eq_true rfl) (Nat.le_of_ble_eq_true rfl) dX7_says_317 ?_
                  have hW := hW.forget (sh' := sh) (V' := V) gt2 ht2 (fun a ha => by rw [← hsh]; simp [va_up, ha]) (fun a ha => (hfr a ha).symm)
                  exact m_iret S hr hlk hW dX7_says_320 ⟨rfl, (by first | (exfalso; omega) | (rw [show k = ta by omega] at hR ⊢; rw [fAsk_0, fClamp, fTop, ← hR.1, if_pos (show 0 < n by omega)]; done) | (rw [show k = ta by omega] at hR; rw [fAsk_0, fClamp, fTop, ← hR.1, if_neg (show ¬ 0 < n by omega)]; done))⟩
                · exact absurd c_10 (by decide)
            · skip
              have c_7 : ¬ tl ≤ k := mt (nI_leI (by omega) (by omega)).mpr c_7
              refine lv_aload_n hx hb dX7_says_78 rfl (lv_at hl 2 rfl) ?_
              refine m_getr S hW gt 1 rfl (j := (t + 1)) rfl kX7 (iW7 _) (by decide) (List.mem_cons_of_mem _ (wa_9 _ (List.mem_of_getElem? (i := 11) (by decide +kernel)))) dX7_says_79 ?_
              refine lv_iload hx hb dX7_says_82 (lv_at hl 6 rfl) ?_
              refine m_iald S hW gt1 k rfl (by omega) (by omega) dX7_says_84 ?_
              refine m_top (y := V (t + 1) k) (by rw [hfr _ (by omega)]) ?_
              refine lv_istore (lv' := [(7, .int (V (t + 1) k)), (4, .int (nI ta)), (3, .int (nI 0)), (0, .ref (ad t)), (1, .int (nI 0)), (2, .ref (ad no)), (5, .int (nI n)), (6, .int (nI k))]) hx hb dX7_says_85 hl (by decide) rfl (fun ls hl => ?_)
              refine lv_iload hx hb dX7_says_87 (lv_at hl 0 rfl) ?_
              refine lv_ineg hx hb dX7_says_89 ?_
              refine lv_iconst (v := nI 2) hx hb dX7_says_90 (by decide) ?_
              refine lv_isub hx hb dX7_says_91 ?_
              refine lv_istore (lv' := [(8, .int ((-(V (t + 1) k)) - (nI 2))), (7, .int (V (t + 1) k)), (4, .int (nI ta)), (3, .int (nI 0)), (0, .ref (ad t)), (1, .int (nI 0)), (2, .ref (ad no)), (5, .int (nI n)), (6, .int (nI k))]) hx hb dX7_says_92 hl (by decide) rfl (fun ls hl => ?_)
              refine lv_iload hx hb dX7_says_94 (lv_at hl 1 rfl) ?_
              refine m_if_lt (tgt := 121) hx hb dX7_says_96 (by decide) (fun c_11 => ?_) (fun c_11 => ?_)
              · skip
                refine lv_iload hx hb dX7_says_121 (lv_at hl 0 rfl) ?_
                refine lv_iconst (v := nI 0) hx hb dX7_says_123 (by decide) ?_
                refine lv_aload_n hx hb dX7_says_124 rfl (lv_at hl 6 rfl) ?_
                refine m_alen S hW gn dX7_says_125 ?_
                refine lv_iconst (v := nI 1) hx hb dX7_says_126 (by decide) ?_
                refine lv_isub hx hb dX7_says_127 ?_
                refine m_cip (m_rSN S hW (c_X10_within_c l G ad sh1 V1 ((-(V (t + 1) k)) - (nI 2)) ((nI 6) - (nI 1)) 6 (by exact pk_sub_toInt (by omega) (by decide))) ⟨va_cnB 3 hts (gCall [] (List.forall_mem_cons.mpr ⟨(wa_8 _ (List.mem_of_getElem? (i := 17) (by decide +kernel))), (fun _ h => absurd h List.not_mem_nil)⟩)) rfl rfl rfl (hW.2.2.2.2.2.1 _ (List.mem_of_getElem? (i := 9) rfl)) (hts (.initialized RX10) (List.mem_cons_of_mem _ (wa_1 _ (List.mem_of_getElem? (i := 2) (by decide +kernel))))) (by decide +kernel) ⟨Nat.le_of_ble_eq_true rfl, Nat.le_of_ble_eq_true rfl⟩, hts (.static yX10_within) (List.mem_cons_of_mem _ (wa_8 _ (List.mem_of_getElem? (i := 16) (by decide +kernel)))), trivial⟩ rfl hl.1 rfl (Nat.le_of_ble_eq_true rfl) dX7_says_128 ⟨Nat.le_of_ble_eq_true rfl, Nat.le_of_ble_eq_true rfl⟩) hW (fun r_13 H locs hp_12 hW => ?_)
                rcases hp_12 with ⟨rfl, w_14⟩ | ⟨rfl, w_15⟩
                · skip
                  refine m_if_eq (tgt := 158) hx hb dX7_says_131 (by decide) (fun c_16 => ?_) (fun c_16 => ?_)
                  · exact absurd c_16 (by decide)
                  · skip
                    refine lv_iload hx hb dX7_says_134 (lv_at hl 7 rfl) ?_
                    refine lv_bipush (v := nI 32) hx hb dX7_says_136 (by decide) ?_
                    refine lv_icmp_ge (tgt := 158) hx hb dX7_says_138 (by decide) (fun c_17 => ?_) (fun c_17 => ?_)
                    · skip
                      have c_17 : 32 ≤ n := (nI_leI (by omega) (by omega)).mp c_17
                      refine lv_iload hx hb dX7_says_158 (lv_at hl 1 rfl) ?_
                      refine lv_bipush (v := -13) hx hb dX7_says_160 (by decide) ?_
                      refine lv_icmp_ne (tgt := 199) hx hb dX7_says_162 (by decide) (fun c_18 => ?_) (fun c_18 => ?_)
                      · skip
                        refine lv_iload hx hb dX7_says_199 (lv_at hl 1 rfl) ?_
                        refine lv_bipush (v := -14) hx hb dX7_says_201 (by decide) ?_
                        refine lv_icmp_ne (tgt := 233) hx hb dX7_says_203 (by decide) (fun c_19 => ?_) (fun c_19 => ?_)
                        · skip
                          refine lv_iload hx hb dX7_says_233 (lv_at hl 7 rfl) ?_
                          refine lv_iconst (v := nI 1) hx hb dX7_says_235 (by decide) ?_
                          refine lv_icmp_le (tgt := 272) hx hb dX7_says_236 (by decide) (fun c_20 => ?_) (fun c_20 => ?_)
                          · skip
                            have c_20 : n ≤ 1 := (nI_leI (by omega) (by omega)).mp c_20
                            refine lv_iinc (v := nI (k + 1)) (lv' := [(6, .int (nI (k + 1))), (8, .int ((-(V (t + 1) k)) - (nI 2))), (7, .int (V (t + 1) k)), (4, .int (nI ta)), (3, .int (nI 0)), (0, .ref (ad t)), (1, .int (nI 0)), (2, .ref (ad no)), (5, .int (nI n))]) hx hb dX7_says_272 hl (k := 8) rfl (m_inc k 1) (by decide) rfl (fun ls hl => ?_)
                            refine lv_goto (tgt := 61) hx hb dX7_says_275 (by decide) ?_
                            exact ih_61  n (k + 1) V1 _ _ _ (by omega) (by omega) (by exact hfr) (by rw [evX_s (by omega)]; exact hR.no (by intro h; first | exact absurd h.1 (Int32.not_le.mpr (by assumption)) | exact absurd h.2 (by omega)) (by intro h; first | exact absurd h.1 (by assumption) | exact absurd h.2 (by omega)) (by intro h; first | exact absurd h.1 (by assumption) | exact absurd h.2 (by omega)) (by intro h; first | exact absurd h.1 (by assumption) | exact absurd h.2 (by omega)) (by omega)) (by omega) hW (lv_sub hl [3, 4, 5, 6, 7, 8, 0] rfl)
                          · skip
                            have c_20 : ¬ n ≤ 1 := mt (nI_leI (by omega) (by omega)).mpr c_20
                            refine lv_iinc (v := nI (n - 1)) (lv' := [(5, .int (nI (n - 1))), (8, .int ((-(V (t + 1) k)) - (nI 2))), (7, .int (V (t + 1) k)), (4, .int (nI ta)), (3, .int (nI 0)), (0, .ref (ad t)), (1, .int (nI 0)), (2, .ref (ad no)), (6, .int (nI k))]) hx hb dX7_says_239 hl (k := 7) rfl (m_dec n 1 (by omega)) (by decide) rfl (fun ls hl => ?_)
                            refine lv_aload_n hx hb dX7_says_242 rfl (lv_at hl 5 rfl) ?_
                            refine m_getr S hW gt 4 rfl (j := (t + 2)) rfl kX7 (iW7 _) (by decide) (List.mem_cons_of_mem _ (wa_9 _ (List.mem_of_getElem? (i := 9) (by decide +kernel)))) dX7_says_243 ?_
                            refine lv_iload hx hb dX7_says_246 (lv_at hl 0 rfl) ?_
                            refine lv_iconst (v := nI 1) hx hb dX7_says_248 (by decide) ?_
                            refine lv_isub hx hb dX7_says_249 ?_
                            refine m_top (y := nI ((n - 1) - 1)) (pk_sub (by omega)) ?_
                            refine lv_iload hx hb dX7_says_250 (lv_at hl 2 rfl) ?_
                            refine lv_aload_n hx hb dX7_says_252 rfl (lv_at hl 5 rfl) ?_
                            refine m_getr S hW gt 4 rfl (j := (t + 2)) rfl kX7 (iW7 _) (by decide) (List.mem_cons_of_mem _ (wa_9 _ (List.mem_of_getElem? (i := 9) (by decide +kernel)))) dX7_says_253 ?_
                            refine lv_iload hx hb dX7_says_256 (lv_at hl 0 rfl) ?_
                            refine lv_iconst (v := nI 1) hx hb dX7_says_258 (by decide) ?_
                            refine lv_isub hx hb dX7_says_259 ?_
                            refine m_top (y := nI ((n - 1) - 1)) (pk_sub (by omega)) ?_
                            refine m_iald S hW gt2 ((n - 1) - 1) rfl (by omega) (by decide) dX7_says_260 ?_
                            refine m_top (y := (evX (V no) (V (t + 1)) 0 (k - 0)).2 (n - 1 - 1)) (hR.2 _ (by omega)) ?_
                            refine lv_aload_n hx hb dX7_says_261 rfl (lv_at hl 5 rfl) ?_
                            refine m_getr S hW gt 4 rfl (j := (t + 2)) rfl kX7 (iW7 _) (by decide) (List.mem_cons_of_mem _ (wa_9 _ (List.mem_of_getElem? (i := 9) (by decide +kernel)))) dX7_says_262 ?_
                            refine lv_iload hx hb dX7_says_265 (lv_at hl 0 rfl) ?_
                            refine m_iald S hW gt2 (n - 1) rfl (by omega) (by decide) dX7_says_267 ?_
                            refine m_top (y := (evX (V no) (V (t + 1)) 0 (k - 0)).2 (n - 1)) (hR.2 _ (by omega)) ?_
                            refine m_cie (m_rS S hW (c_X7_join l G ad sh1 V1 (V (t + 1) k) ((evX (V no) (V (t + 1)) 0 (k - 0)).2 (n - 1 - 1)) ((evX (V no) (V (t + 1)) 0 (k - 0)).2 (n - 1))) (va_cwS 3 hts (gCall [.methodLink RX7 34 yX7_join, .static yX7_join, .initialized RX7] (List.forall_mem_cons.mpr ⟨(wa_18 _ (List.mem_of_getElem? (i := 19) (by decide +kernel))), (List.forall_mem_cons.mpr ⟨(wa_18 _ (List.mem_of_getElem? (i := 17) (by decide +kernel))), (List.forall_mem_cons.mpr ⟨(wa_18 _ (List.mem_of_getElem? (i := 18) (by decide +kernel))), (List.forall_mem_cons.mpr ⟨(wa_9 _ (List.mem_of_getElem? (i := 4) (by decide +kernel))), (fun _ h => absurd h List.not_mem_nil)⟩)⟩)⟩)⟩)) rfl rfl rfl (by decide +kernel) ⟨Nat.le_of_ble_eq_true rfl, Nat.le_of_ble_eq_true rfl⟩) rfl hl.1 rfl (Nat.le_of_ble_eq_true rfl) dX7_says_268 ⟨Nat.le_of_ble_eq_true rfl, Nat.le_of_ble_eq_true rfl⟩) hW (fun H locs hW => ?_)
                            refine m_iast S hW gt2 ((n - 1) - 1) rfl (by omega) (by decide) dX7_says_271 (fun H locs hW => ?_)
                            obtain ⟨V_21, eV_21⟩ : ∃ z : mV, z = mU V1 (t + 2) ((n - 1) - 1) (fJoin (V (t + 1) k) ((evX (V no) (V (t + 1)) 0 (k - 0)).2 (n - 1 - 1)) ((evX (V no) (V (t + 1)) 0 (k - 0)).2 (n - 1))) := ⟨_, rfl⟩
                            rw [← eV_21] at hW
                            refine lv_iinc (v := nI (k + 1)) (lv' := [(6, .int (nI (k + 1))), (5, .int (nI (n - 1))), (8, .int ((-(V (t + 1) k)) - (nI 2))), (7, .int (V (t + 1) k)), (4, .int (nI ta)), (3, .int (nI 0)), (0, .ref (ad t)), (1, .int (nI 0)), (2, .ref (ad no))]) hx hb dX7_says_272 hl (k := 8) rfl (m_inc k 1) (by decide) rfl (fun ls hl => ?_)
                            refine lv_goto (tgt := 61) hx hb dX7_says_275 (by decide) ?_
                            exact ih_61  (n - 1) (k + 1) V_21 _ _ _ (by omega) (by omega) (by intro a ha; rw [eV_21, mU_no _ _ ha]; exact hfr a ha) (by first | (exfalso; omega) | skip; rw [eV_21, mU_row, evX_s (by omega)]; first | exact hR.push (by first | exact Int32.not_lt.mp (by assumption) | assumption) (by omega) | exact hR.nm (by intro h; first | exact absurd h.1 (Int32.not_le.mpr (by assumption)) | exact absurd h.2 (by omega)) (by assumption) (by omega) eix hix | exact hR.nt0 (by intro h; first | exact absurd h.1 (Int32.not_le.mpr (by assumption)) | exact absurd h.2 (by omega)) (by intro h; first | exact absurd h.1 (by assumption) | exact absurd h.2 (by omega)) (by assumption) (by omega) (by assumption) | exact hR.nt1 (by intro h; first | exact absurd h.1 (Int32.not_le.mpr (by assumption)) | exact absurd h.2 (by omega)) (by intro h; first | exact absurd h.1 (by assumption) | exact absurd h.2 (by omega)) (by assumption) (by omega) (by assumption) | exact hR.ng (by intro h; first | exact absurd h.1 (Int32.not_le.mpr (by assumption)) | exact absurd h.2 (by omega)) (by intro h; first | exact absurd h.1 (by assumption) | exact absurd h.2 (by omega)) (by assumption) (by omega) | exact hR.jn (by intro h; first | exact absurd h.1 (Int32.not_le.mpr (by assumption)) | exact absurd h.2 (by omega)) (by intro h; first | exact absurd h.1 (by assumption) | exact absurd h.2 (by omega)) (by intro h; first | exact absurd h.1 (by assumption) | exact absurd h.2 (by omega)) (by intro h; first | exact absurd h.1 (by assumption) | exact absurd h.2 (by omega)) (by omega)) (by omega) hW (lv_sub hl [4, 5, 6, 7, 8, 1, 0] rfl)
                        · skip
                          refine lv_iload hx hb dX7_says_206 (lv_at hl 7 rfl) ?_
                          refine m_if_le (tgt := 233) hx hb dX7_says_208 (by decide) (fun c_22 => ?_) (fun c_22 => ?_)
                          · skip
                            have c_22 : n ≤ 0 := (nI_leI (by omega) (by omega)).mp c_22
                            refine lv_iload hx hb dX7_says_233 (lv_at hl 7 rfl) ?_
                            refine lv_iconst (v := nI 1) hx hb dX7_says_235 (by decide) ?_
                            refine lv_icmp_le (tgt := 272) hx hb dX7_says_236 (by decide) (fun c_23 => ?_) (fun c_23 => ?_)
                            · skip
                              have c_23 : n ≤ 1 := (nI_leI (by omega) (by omega)).mp c_23
                              refine lv_iinc (v := nI (k + 1)) (lv' := [(6, .int (nI (k + 1))), (8, .int ((-(V (t + 1) k)) - (nI 2))), (7, .int (V (t + 1) k)), (4, .int (nI ta)), (3, .int (nI 0)), (0, .ref (ad t)), (1, .int (nI 0)), (2, .ref (ad no)), (5, .int (nI n))]) hx hb dX7_says_272 hl (k := 8) rfl (m_inc k 1) (by decide) rfl (fun ls hl => ?_)
                              refine lv_goto (tgt := 61) hx hb dX7_says_275 (by decide) ?_
                              exact ih_61  n (k + 1) V1 _ _ _ (by omega) (by omega) (by exact hfr) (by rw [evX_s (by omega)]; exact hR.no (by intro h; first | exact absurd h.1 (Int32.not_le.mpr (by assumption)) | exact absurd h.2 (by omega)) (by intro h; first | exact absurd h.1 (by assumption) | exact absurd h.2 (by omega)) (by intro h; first | exact absurd h.1 (by assumption) | exact absurd h.2 (by omega)) (by intro h; first | exact absurd h.1 (by assumption) | exact absurd h.2 (by omega)) (by omega)) (by omega) hW (lv_sub hl [3, 4, 5, 6, 7, 8, 0] rfl)
                            · skip
                              have c_23 : ¬ n ≤ 1 := mt (nI_leI (by omega) (by omega)).mpr c_23
                              refine lv_iinc (v := nI (n - 1)) (lv' := [(5, .int (nI (n - 1))), (8, .int ((-(V (t + 1) k)) - (nI 2))), (7, .int (V (t + 1) k)), (4, .int (nI ta)), (3, .int (nI 0)), (0, .ref (ad t)), (1, .int (nI 0)), (2, .ref (ad no)), (6, .int (nI k))]) hx hb dX7_says_239 hl (k := 7) rfl (m_dec n 1 (by omega)) (by decide) rfl (fun ls hl => ?_)
                              refine lv_aload_n hx hb dX7_says_242 rfl (lv_at hl 5 rfl) ?_
                              refine m_getr S hW gt 4 rfl (j := (t + 2)) rfl kX7 (iW7 _) (by decide) (List.mem_cons_of_mem _ (wa_9 _ (List.mem_of_getElem? (i := 9) (by decide +kernel)))) dX7_says_243 ?_
                              refine lv_iload hx hb dX7_says_246 (lv_at hl 0 rfl) ?_
                              refine lv_iconst (v := nI 1) hx hb dX7_says_248 (by decide) ?_
                              refine lv_isub hx hb dX7_says_249 ?_
                              refine m_top (y := nI ((n - 1) - 1)) (pk_sub (by omega)) ?_
                              refine lv_iload hx hb dX7_says_250 (lv_at hl 2 rfl) ?_
                              refine lv_aload_n hx hb dX7_says_252 rfl (lv_at hl 5 rfl) ?_
                              refine m_getr S hW gt 4 rfl (j := (t + 2)) rfl kX7 (iW7 _) (by decide) (List.mem_cons_of_mem _ (wa_9 _ (List.mem_of_getElem? (i := 9) (by decide +kernel)))) dX7_says_253 ?_
                              refine lv_iload hx hb dX7_says_256 (lv_at hl 0 rfl) ?_
                              refine lv_iconst (v := nI 1) hx hb dX7_says_258 (by decide) ?_
                              refine lv_isub hx hb dX7_says_259 ?_
                              refine m_top (y := nI ((n - 1) - 1)) (pk_sub (by omega)) ?_
                              refine m_iald S hW gt2 ((n - 1) - 1) rfl (by omega) (by decide) dX7_says_260 ?_
                              refine m_top (y := (evX (V no) (V (t + 1)) 0 (k - 0)).2 (n - 1 - 1)) (hR.2 _ (by omega)) ?_
                              refine lv_aload_n hx hb dX7_says_261 rfl (lv_at hl 5 rfl) ?_
                              refine m_getr S hW gt 4 rfl (j := (t + 2)) rfl kX7 (iW7 _) (by decide) (List.mem_cons_of_mem _ (wa_9 _ (List.mem_of_getElem? (i := 9) (by decide +kernel)))) dX7_says_262 ?_
                              refine lv_iload hx hb dX7_says_265 (lv_at hl 0 rfl) ?_
                              refine m_iald S hW gt2 (n - 1) rfl (by omega) (by decide) dX7_says_267 ?_
                              refine m_top (y := (evX (V no) (V (t + 1)) 0 (k - 0)).2 (n - 1)) (hR.2 _ (by omega)) ?_
                              refine m_cie (m_rS S hW (c_X7_join l G ad sh1 V1 (V (t + 1) k) ((evX (V no) (V (t + 1)) 0 (k - 0)).2 (n - 1 - 1)) ((evX (V no) (V (t + 1)) 0 (k - 0)).2 (n - 1))) (va_cwS 3 hts (gCall [.methodLink RX7 34 yX7_join, .static yX7_join, .initialized RX7] (List.forall_mem_cons.mpr ⟨(wa_18 _ (List.mem_of_getElem? (i := 19) (by decide +kernel))), (List.forall_mem_cons.mpr ⟨(wa_18 _ (List.mem_of_getElem? (i := 17) (by decide +kernel))), (List.forall_mem_cons.mpr ⟨(wa_18 _ (List.mem_of_getElem? (i := 18) (by decide +kernel))), (List.forall_mem_cons.mpr ⟨(wa_9 _ (List.mem_of_getElem? (i := 4) (by decide +kernel))), (fun _ h => absurd h List.not_mem_nil)⟩)⟩)⟩)⟩)) rfl rfl rfl (by decide +kernel) ⟨Nat.le_of_ble_eq_true rfl, Nat.le_of_ble_eq_true rfl⟩) rfl hl.1 rfl (Nat.le_of_ble_eq_true rfl) dX7_says_268 ⟨Nat.le_of_ble_eq_true rfl, Nat.le_of_ble_eq_true rfl⟩) hW (fun H locs hW => ?_)
                              refine m_iast S hW gt2 ((n - 1) - 1) rfl (by omega) (by decide) dX7_says_271 (fun H locs hW => ?_)
                              obtain ⟨V_24, eV_24⟩ : ∃ z : mV, z = mU V1 (t + 2) ((n - 1) - 1) (fJoin (V (t + 1) k) ((evX (V no) (V (t + 1)) 0 (k - 0)).2 (n - 1 - 1)) ((evX (V no) (V (t + 1)) 0 (k - 0)).2 (n - 1))) := ⟨_, rfl⟩
                              rw [← eV_24] at hW
                              refine lv_iinc (v := nI (k + 1)) (lv' := [(6, .int (nI (k + 1))), (5, .int (nI (n - 1))), (8, .int ((-(V (t + 1) k)) - (nI 2))), (7, .int (V (t + 1) k)), (4, .int (nI ta)), (3, .int (nI 0)), (0, .ref (ad t)), (1, .int (nI 0)), (2, .ref (ad no))]) hx hb dX7_says_272 hl (k := 8) rfl (m_inc k 1) (by decide) rfl (fun ls hl => ?_)
                              refine lv_goto (tgt := 61) hx hb dX7_says_275 (by decide) ?_
                              exact ih_61  (n - 1) (k + 1) V_24 _ _ _ (by omega) (by omega) (by intro a ha; rw [eV_24, mU_no _ _ ha]; exact hfr a ha) (by first | (exfalso; omega) | skip; rw [eV_24, mU_row, evX_s (by omega)]; first | exact hR.push (by first | exact Int32.not_lt.mp (by assumption) | assumption) (by omega) | exact hR.nm (by intro h; first | exact absurd h.1 (Int32.not_le.mpr (by assumption)) | exact absurd h.2 (by omega)) (by assumption) (by omega) eix hix | exact hR.nt0 (by intro h; first | exact absurd h.1 (Int32.not_le.mpr (by assumption)) | exact absurd h.2 (by omega)) (by intro h; first | exact absurd h.1 (by assumption) | exact absurd h.2 (by omega)) (by assumption) (by omega) (by assumption) | exact hR.nt1 (by intro h; first | exact absurd h.1 (Int32.not_le.mpr (by assumption)) | exact absurd h.2 (by omega)) (by intro h; first | exact absurd h.1 (by assumption) | exact absurd h.2 (by omega)) (by assumption) (by omega) (by assumption) | exact hR.ng (by intro h; first | exact absurd h.1 (Int32.not_le.mpr (by assumption)) | exact absurd h.2 (by omega)) (by intro h; first | exact absurd h.1 (by assumption) | exact absurd h.2 (by omega)) (by assumption) (by omega) | exact hR.jn (by intro h; first | exact absurd h.1 (Int32.not_le.mpr (by assumption)) | exact absurd h.2 (by omega)) (by intro h; first | exact absurd h.1 (by assumption) | exact absurd h.2 (by omega)) (by intro h; first | exact absurd h.1 (by assumption) | exact absurd h.2 (by omega)) (by intro h; first | exact absurd h.1 (by assumption) | exact absurd h.2 (by omega)) (by omega)) (by omega) hW (lv_sub hl [4, 5, 6, 7, 8, 1, 0] rfl)
                          · skip
                            have c_22 : ¬ n ≤ 0 := mt (nI_leI (by omega) (by omega)).mpr c_22
                            refine lv_aload_n hx hb dX7_says_211 rfl (lv_at hl 4 rfl) ?_
                            refine m_getr S hW gt 4 rfl (j := (t + 2)) rfl kX7 (iW7 _) (by decide) (List.mem_cons_of_mem _ (wa_9 _ (List.mem_of_getElem? (i := 9) (by decide +kernel)))) dX7_says_212 ?_
                            refine lv_iload hx hb dX7_says_215 (lv_at hl 7 rfl) ?_
                            refine lv_iconst (v := nI 1) hx hb dX7_says_217 (by decide) ?_
                            refine lv_isub hx hb dX7_says_218 ?_
                            refine m_top (y := nI (n - 1)) (pk_sub (by omega)) ?_
                            refine lv_aload_n hx hb dX7_says_219 rfl (lv_at hl 4 rfl) ?_
                            refine m_getr S hW gt 4 rfl (j := (t + 2)) rfl kX7 (iW7 _) (by decide) (List.mem_cons_of_mem _ (wa_9 _ (List.mem_of_getElem? (i := 9) (by decide +kernel)))) dX7_says_220 ?_
                            refine lv_iload hx hb dX7_says_223 (lv_at hl 7 rfl) ?_
                            refine lv_iconst (v := nI 1) hx hb dX7_says_225 (by decide) ?_
                            refine lv_isub hx hb dX7_says_226 ?_
                            refine m_top (y := nI (n - 1)) (pk_sub (by omega)) ?_
                            refine m_iald S hW gt2 (n - 1) rfl (by omega) (by decide) dX7_says_227 ?_
                            refine m_top (y := (evX (V no) (V (t + 1)) 0 (k - 0)).2 (n - 1)) (hR.2 _ (by omega)) ?_
                            refine lv_ineg hx hb dX7_says_228 ?_
                            refine m_iast S hW gt2 (n - 1) rfl (by omega) (by decide) dX7_says_229 (fun H locs hW => ?_)
                            obtain ⟨V_25, eV_25⟩ : ∃ z : mV, z = mU V1 (t + 2) (n - 1) ((-((evX (V no) (V (t + 1)) 0 (k - 0)).2 (n - 1)))) := ⟨_, rfl⟩
                            rw [← eV_25] at hW
                            refine lv_goto (tgt := 272) hx hb dX7_says_230 (by decide) ?_
                            refine lv_iinc (v := nI (k + 1)) (lv' := [(6, .int (nI (k + 1))), (8, .int ((-(V (t + 1) k)) - (nI 2))), (7, .int (V (t + 1) k)), (4, .int (nI ta)), (3, .int (nI 0)), (0, .ref (ad t)), (1, .int (nI 0)), (2, .ref (ad no)), (5, .int (nI n))]) hx hb dX7_says_272 hl (k := 8) rfl (m_inc k 1) (by decide) rfl (fun ls hl => ?_)
                            refine lv_goto (tgt := 61) hx hb dX7_says_275 (by decide) ?_
                            exact ih_61  n (k + 1) V_25 _ _ _ (by omega) (by omega) (by intro a ha; rw [eV_25, mU_no _ _ ha]; exact hfr a ha) (by first | (exfalso; omega) | skip; rw [eV_25, mU_row, evX_s (by omega)]; first | exact hR.push (by first | exact Int32.not_lt.mp (by assumption) | assumption) (by omega) | exact hR.nm (by intro h; first | exact absurd h.1 (Int32.not_le.mpr (by assumption)) | exact absurd h.2 (by omega)) (by assumption) (by omega) eix hix | exact hR.nt0 (by intro h; first | exact absurd h.1 (Int32.not_le.mpr (by assumption)) | exact absurd h.2 (by omega)) (by intro h; first | exact absurd h.1 (by assumption) | exact absurd h.2 (by omega)) (by assumption) (by omega) (by assumption) | exact hR.nt1 (by intro h; first | exact absurd h.1 (Int32.not_le.mpr (by assumption)) | exact absurd h.2 (by omega)) (by intro h; first | exact absurd h.1 (by assumption) | exact absurd h.2 (by omega)) (by assumption) (by omega) (by assumption) | exact hR.ng (by intro h; first | exact absurd h.1 (Int32.not_le.mpr (by assumption)) | exact absurd h.2 (by omega)) (by intro h; first | exact absurd h.1 (by assumption) | exact absurd h.2 (by omega)) (by assumption) (by omega) | exact hR.jn (by intro h; first | exact absurd h.1 (Int32.not_le.mpr (by assumption)) | exact absurd h.2 (by omega)) (by intro h; first | exact absurd h.1 (by assumption) | exact absurd h.2 (by omega)) (by intro h; first | exact absurd h.1 (by assumption) | exact absurd h.2 (by omega)) (by intro h; first | exact absurd h.1 (by assumption) | exact absurd h.2 (by omega)) (by omega)) (by omega) hW (lv_sub hl [3, 4, 5, 6, 7, 8, 0] rfl)
                      · skip
                        refine lv_iload hx hb dX7_says_165 (lv_at hl 7 rfl) ?_
                        refine m_if_le (tgt := 199) hx hb dX7_says_167 (by decide) (fun c_26 => ?_) (fun c_26 => ?_)
                        · skip
                          have c_26 : n ≤ 0 := (nI_leI (by omega) (by omega)).mp c_26
                          refine lv_iload hx hb dX7_says_199 (lv_at hl 1 rfl) ?_
                          refine lv_bipush (v := -14) hx hb dX7_says_201 (by decide) ?_
                          refine lv_icmp_ne (tgt := 233) hx hb dX7_says_203 (by decide) (fun c_27 => ?_) (fun c_27 => ?_)
                          · skip
                            refine lv_iload hx hb dX7_says_233 (lv_at hl 7 rfl) ?_
                            refine lv_iconst (v := nI 1) hx hb dX7_says_235 (by decide) ?_
                            refine lv_icmp_le (tgt := 272) hx hb dX7_says_236 (by decide) (fun c_28 => ?_) (fun c_28 => ?_)
                            · skip
                              have c_28 : n ≤ 1 := (nI_leI (by omega) (by omega)).mp c_28
                              refine lv_iinc (v := nI (k + 1)) (lv' := [(6, .int (nI (k + 1))), (8, .int ((-(V (t + 1) k)) - (nI 2))), (7, .int (V (t + 1) k)), (4, .int (nI ta)), (3, .int (nI 0)), (0, .ref (ad t)), (1, .int (nI 0)), (2, .ref (ad no)), (5, .int (nI n))]) hx hb dX7_says_272 hl (k := 8) rfl (m_inc k 1) (by decide) rfl (fun ls hl => ?_)
                              refine lv_goto (tgt := 61) hx hb dX7_says_275 (by decide) ?_
                              exact ih_61  n (k + 1) V1 _ _ _ (by omega) (by omega) (by exact hfr) (by rw [evX_s (by omega)]; exact hR.no (by intro h; first | exact absurd h.1 (Int32.not_le.mpr (by assumption)) | exact absurd h.2 (by omega)) (by intro h; first | exact absurd h.1 (by assumption) | exact absurd h.2 (by omega)) (by intro h; first | exact absurd h.1 (by assumption) | exact absurd h.2 (by omega)) (by intro h; first | exact absurd h.1 (by assumption) | exact absurd h.2 (by omega)) (by omega)) (by omega) hW (lv_sub hl [3, 4, 5, 6, 7, 8, 0] rfl)
                            · skip
                              have c_28 : ¬ n ≤ 1 := mt (nI_leI (by omega) (by omega)).mpr c_28
                              refine lv_iinc (v := nI (n - 1)) (lv' := [(5, .int (nI (n - 1))), (8, .int ((-(V (t + 1) k)) - (nI 2))), (7, .int (V (t + 1) k)), (4, .int (nI ta)), (3, .int (nI 0)), (0, .ref (ad t)), (1, .int (nI 0)), (2, .ref (ad no)), (6, .int (nI k))]) hx hb dX7_says_239 hl (k := 7) rfl (m_dec n 1 (by omega)) (by decide) rfl (fun ls hl => ?_)
                              refine lv_aload_n hx hb dX7_says_242 rfl (lv_at hl 5 rfl) ?_
                              refine m_getr S hW gt 4 rfl (j := (t + 2)) rfl kX7 (iW7 _) (by decide) (List.mem_cons_of_mem _ (wa_9 _ (List.mem_of_getElem? (i := 9) (by decide +kernel)))) dX7_says_243 ?_
                              refine lv_iload hx hb dX7_says_246 (lv_at hl 0 rfl) ?_
                              refine lv_iconst (v := nI 1) hx hb dX7_says_248 (by decide) ?_
                              refine lv_isub hx hb dX7_says_249 ?_
                              refine m_top (y := nI ((n - 1) - 1)) (pk_sub (by omega)) ?_
                              refine lv_iload hx hb dX7_says_250 (lv_at hl 2 rfl) ?_
                              refine lv_aload_n hx hb dX7_says_252 rfl (lv_at hl 5 rfl) ?_
                              refine m_getr S hW gt 4 rfl (j := (t + 2)) rfl kX7 (iW7 _) (by decide) (List.mem_cons_of_mem _ (wa_9 _ (List.mem_of_getElem? (i := 9) (by decide +kernel)))) dX7_says_253 ?_
                              refine lv_iload hx hb dX7_says_256 (lv_at hl 0 rfl) ?_
                              refine lv_iconst (v := nI 1) hx hb dX7_says_258 (by decide) ?_
                              refine lv_isub hx hb dX7_says_259 ?_
                              refine m_top (y := nI ((n - 1) - 1)) (pk_sub (by omega)) ?_
                              refine m_iald S hW gt2 ((n - 1) - 1) rfl (by omega) (by decide) dX7_says_260 ?_
                              refine m_top (y := (evX (V no) (V (t + 1)) 0 (k - 0)).2 (n - 1 - 1)) (hR.2 _ (by omega)) ?_
                              refine lv_aload_n hx hb dX7_says_261 rfl (lv_at hl 5 rfl) ?_
                              refine m_getr S hW gt 4 rfl (j := (t + 2)) rfl kX7 (iW7 _) (by decide) (List.mem_cons_of_mem _ (wa_9 _ (List.mem_of_getElem? (i := 9) (by decide +kernel)))) dX7_says_262 ?_
                              refine lv_iload hx hb dX7_says_265 (lv_at hl 0 rfl) ?_
                              refine m_iald S hW gt2 (n - 1) rfl (by omega) (by decide) dX7_says_267 ?_
                              refine m_top (y := (evX (V no) (V (t + 1)) 0 (k - 0)).2 (n - 1)) (hR.2 _ (by omega)) ?_
                              refine m_cie (m_rS S hW (c_X7_join l G ad sh1 V1 (V (t + 1) k) ((evX (V no) (V (t + 1)) 0 (k - 0)).2 (n - 1 - 1)) ((evX (V no) (V (t + 1)) 0 (k - 0)).2 (n - 1))) (va_cwS 3 hts (gCall [.methodLink RX7 34 yX7_join, .static yX7_join, .initialized RX7] (List.forall_mem_cons.mpr ⟨(wa_18 _ (List.mem_of_getElem? (i := 19) (by decide +kernel))), (List.forall_mem_cons.mpr ⟨(wa_18 _ (List.mem_of_getElem? (i := 17) (by decide +kernel))), (List.forall_mem_cons.mpr ⟨(wa_18 _ (List.mem_of_getElem? (i := 18) (by decide +kernel))), (List.forall_mem_cons.mpr ⟨(wa_9 _ (List.mem_of_getElem? (i := 4) (by decide +kernel))), (fun _ h => absurd h List.not_mem_nil)⟩)⟩)⟩)⟩)) rfl rfl rfl (by decide +kernel) ⟨Nat.le_of_ble_eq_true rfl, Nat.le_of_ble_eq_true rfl⟩) rfl hl.1 rfl (Nat.le_of_ble_eq_true rfl) dX7_says_268 ⟨Nat.le_of_ble_eq_true rfl, Nat.le_of_ble_eq_true rfl⟩) hW (fun H locs hW => ?_)
                              refine m_iast S hW gt2 ((n - 1) - 1) rfl (by omega) (by decide) dX7_says_271 (fun H locs hW => ?_)
                              obtain ⟨V_29, eV_29⟩ : ∃ z : mV, z = mU V1 (t + 2) ((n - 1) - 1) (fJoin (V (t + 1) k) ((evX (V no) (V (t + 1)) 0 (k - 0)).2 (n - 1 - 1)) ((evX (V no) (V (t + 1)) 0 (k - 0)).2 (n - 1))) := ⟨_, rfl⟩
                              rw [← eV_29] at hW
                              refine lv_iinc (v := nI (k + 1)) (lv' := [(6, .int (nI (k + 1))), (5, .int (nI (n - 1))), (8, .int ((-(V (t + 1) k)) - (nI 2))), (7, .int (V (t + 1) k)), (4, .int (nI ta)), (3, .int (nI 0)), (0, .ref (ad t)), (1, .int (nI 0)), (2, .ref (ad no))]) hx hb dX7_says_272 hl (k := 8) rfl (m_inc k 1) (by decide) rfl (fun ls hl => ?_)
                              refine lv_goto (tgt := 61) hx hb dX7_says_275 (by decide) ?_
                              exact ih_61  (n - 1) (k + 1) V_29 _ _ _ (by omega) (by omega) (by intro a ha; rw [eV_29, mU_no _ _ ha]; exact hfr a ha) (by first | (exfalso; omega) | skip; rw [eV_29, mU_row, evX_s (by omega)]; first | exact hR.push (by first | exact Int32.not_lt.mp (by assumption) | assumption) (by omega) | exact hR.nm (by intro h; first | exact absurd h.1 (Int32.not_le.mpr (by assumption)) | exact absurd h.2 (by omega)) (by assumption) (by omega) eix hix | exact hR.nt0 (by intro h; first | exact absurd h.1 (Int32.not_le.mpr (by assumption)) | exact absurd h.2 (by omega)) (by intro h; first | exact absurd h.1 (by assumption) | exact absurd h.2 (by omega)) (by assumption) (by omega) (by assumption) | exact hR.nt1 (by intro h; first | exact absurd h.1 (Int32.not_le.mpr (by assumption)) | exact absurd h.2 (by omega)) (by intro h; first | exact absurd h.1 (by assumption) | exact absurd h.2 (by omega)) (by assumption) (by omega) (by assumption) | exact hR.ng (by intro h; first | exact absurd h.1 (Int32.not_le.mpr (by assumption)) | exact absurd h.2 (by omega)) (by intro h; first | exact absurd h.1 (by assumption) | exact absurd h.2 (by omega)) (by assumption) (by omega) | exact hR.jn (by intro h; first | exact absurd h.1 (Int32.not_le.mpr (by assumption)) | exact absurd h.2 (by omega)) (by intro h; first | exact absurd h.1 (by assumption) | exact absurd h.2 (by omega)) (by intro h; first | exact absurd h.1 (by assumption) | exact absurd h.2 (by omega)) (by intro h; first | exact absurd h.1 (by assumption) | exact absurd h.2 (by omega)) (by omega)) (by omega) hW (lv_sub hl [4, 5, 6, 7, 8, 1, 0] rfl)
                          · skip
                            refine lv_iload hx hb dX7_says_206 (lv_at hl 7 rfl) ?_
                            refine m_if_le (tgt := 233) hx hb dX7_says_208 (by decide) (fun c_30 => ?_) (fun c_30 => ?_)
                            · skip
                              have c_30 : n ≤ 0 := (nI_leI (by omega) (by omega)).mp c_30
                              refine lv_iload hx hb dX7_says_233 (lv_at hl 7 rfl) ?_
                              refine lv_iconst (v := nI 1) hx hb dX7_says_235 (by decide) ?_
                              refine lv_icmp_le (tgt := 272) hx hb dX7_says_236 (by decide) (fun c_31 => ?_) (fun c_31 => ?_)
                              · skip
                                have c_31 : n ≤ 1 := (nI_leI (by omega) (by omega)).mp c_31
                                refine lv_iinc (v := nI (k + 1)) (lv' := [(6, .int (nI (k + 1))), (8, .int ((-(V (t + 1) k)) - (nI 2))), (7, .int (V (t + 1) k)), (4, .int (nI ta)), (3, .int (nI 0)), (0, .ref (ad t)), (1, .int (nI 0)), (2, .ref (ad no)), (5, .int (nI n))]) hx hb dX7_says_272 hl (k := 8) rfl (m_inc k 1) (by decide) rfl (fun ls hl => ?_)
                                refine lv_goto (tgt := 61) hx hb dX7_says_275 (by decide) ?_
                                exact ih_61  n (k + 1) V1 _ _ _ (by omega) (by omega) (by exact hfr) (by rw [evX_s (by omega)]; exact hR.no (by intro h; first | exact absurd h.1 (Int32.not_le.mpr (by assumption)) | exact absurd h.2 (by omega)) (by intro h; first | exact absurd h.1 (by assumption) | exact absurd h.2 (by omega)) (by intro h; first | exact absurd h.1 (by assumption) | exact absurd h.2 (by omega)) (by intro h; first | exact absurd h.1 (by assumption) | exact absurd h.2 (by omega)) (by omega)) (by omega) hW (lv_sub hl [3, 4, 5, 6, 7, 8, 0] rfl)
                              · skip
                                have c_31 : ¬ n ≤ 1 := mt (nI_leI (by omega) (by omega)).mpr c_31
                                refine lv_iinc (v := nI (n - 1)) (lv' := [(5, .int (nI (n - 1))), (8, .int ((-(V (t + 1) k)) - (nI 2))), (7, .int (V (t + 1) k)), (4, .int (nI ta)), (3, .int (nI 0)), (0, .ref (ad t)), (1, .int (nI 0)), (2, .ref (ad no)), (6, .int (nI k))]) hx hb dX7_says_239 hl (k := 7) rfl (m_dec n 1 (by omega)) (by decide) rfl (fun ls hl => ?_)
                                refine lv_aload_n hx hb dX7_says_242 rfl (lv_at hl 5 rfl) ?_
                                refine m_getr S hW gt 4 rfl (j := (t + 2)) rfl kX7 (iW7 _) (by decide) (List.mem_cons_of_mem _ (wa_9 _ (List.mem_of_getElem? (i := 9) (by decide +kernel)))) dX7_says_243 ?_
                                refine lv_iload hx hb dX7_says_246 (lv_at hl 0 rfl) ?_
                                refine lv_iconst (v := nI 1) hx hb dX7_says_248 (by decide) ?_
                                refine lv_isub hx hb dX7_says_249 ?_
                                refine m_top (y := nI ((n - 1) - 1)) (pk_sub (by omega)) ?_
                                refine lv_iload hx hb dX7_says_250 (lv_at hl 2 rfl) ?_
                                refine lv_aload_n hx hb dX7_says_252 rfl (lv_at hl 5 rfl) ?_
                                refine m_getr S hW gt 4 rfl (j := (t + 2)) rfl kX7 (iW7 _) (by decide) (List.mem_cons_of_mem _ (wa_9 _ (List.mem_of_getElem? (i := 9) (by decide +kernel)))) dX7_says_253 ?_
                                refine lv_iload hx hb dX7_says_256 (lv_at hl 0 rfl) ?_
                                refine lv_iconst (v := nI 1) hx hb dX7_says_258 (by decide) ?_
                                refine lv_isub hx hb dX7_says_259 ?_
                                refine m_top (y := nI ((n - 1) - 1)) (pk_sub (by omega)) ?_
                                refine m_iald S hW gt2 ((n - 1) - 1) rfl (by omega) (by decide) dX7_says_260 ?_
                                refine m_top (y := (evX (V no) (V (t + 1)) 0 (k - 0)).2 (n - 1 - 1)) (hR.2 _ (by omega)) ?_
                                refine lv_aload_n hx hb dX7_says_261 rfl (lv_at hl 5 rfl) ?_
                                refine m_getr S hW gt 4 rfl (j := (t + 2)) rfl kX7 (iW7 _) (by decide) (List.mem_cons_of_mem _ (wa_9 _ (List.mem_of_getElem? (i := 9) (by decide +kernel)))) dX7_says_262 ?_
                                refine lv_iload hx hb dX7_says_265 (lv_at hl 0 rfl) ?_
                                refine m_iald S hW gt2 (n - 1) rfl (by omega) (by decide) dX7_says_267 ?_
                                refine m_top (y := (evX (V no) (V (t + 1)) 0 (k - 0)).2 (n - 1)) (hR.2 _ (by omega)) ?_
                                refine m_cie (m_rS S hW (c_X7_join l G ad sh1 V1 (V (t + 1) k) ((evX (V no) (V (t + 1)) 0 (k - 0)).2 (n - 1 - 1)) ((evX (V no) (V (t + 1)) 0 (k - 0)).2 (n - 1))) (va_cwS 3 hts (gCall [.methodLink RX7 34 yX7_join, .static yX7_join, .initialized RX7] (List.forall_mem_cons.mpr ⟨(wa_18 _ (List.mem_of_getElem? (i := 19) (by decide +kernel))), (List.forall_mem_cons.mpr ⟨(wa_18 _ (List.mem_of_getElem? (i := 17) (by decide +kernel))), (List.forall_mem_cons.mpr ⟨(wa_18 _ (List.mem_of_getElem? (i := 18) (by decide +kernel))), (List.forall_mem_cons.mpr ⟨(wa_9 _ (List.mem_of_getElem? (i := 4) (by decide +kernel))), (fun _ h => absurd h List.not_mem_nil)⟩)⟩)⟩)⟩)) rfl rfl rfl (by decide +kernel) ⟨Nat.le_of_ble_eq_true rfl, Nat.le_of_ble_eq_true rfl⟩) rfl hl.1 rfl (Nat.le_of_ble_eq_true rfl) dX7_says_268 ⟨Nat.le_of_ble_eq_true rfl, Nat.le_of_ble_eq_true rfl⟩) hW (fun H locs hW => ?_)
                                refine m_iast S hW gt2 ((n - 1) - 1) rfl (by omega) (by decide) dX7_says_271 (fun H locs hW => ?_)
                                obtain ⟨V_32, eV_32⟩ : ∃ z : mV, z = mU V1 (t + 2) ((n - 1) - 1) (fJoin (V (t + 1) k) ((evX (V no) (V (t + 1)) 0 (k - 0)).2 (n - 1 - 1)) ((evX (V no) (V (t + 1)) 0 (k - 0)).2 (n - 1))) := ⟨_, rfl⟩
                                rw [← eV_32] at hW
                                refine lv_iinc (v := nI (k + 1)) (lv' := [(6, .int (nI (k + 1))), (5, .int (nI (n - 1))), (8, .int ((-(V (t + 1) k)) - (nI 2))), (7, .int (V (t + 1) k)), (4, .int (nI ta)), (3, .int (nI 0)), (0, .ref (ad t)), (1, .int (nI 0)), (2, .ref (ad no))]) hx hb dX7_says_272 hl (k := 8) rfl (m_inc k 1) (by decide) rfl (fun ls hl => ?_)
                                refine lv_goto (tgt := 61) hx hb dX7_says_275 (by decide) ?_
                                exact ih_61  (n - 1) (k + 1) V_32 _ _ _ (by omega) (by omega) (by intro a ha; rw [eV_32, mU_no _ _ ha]; exact hfr a ha) (by first | (exfalso; omega) | skip; rw [eV_32, mU_row, evX_s (by omega)]; first | exact hR.push (by first | exact Int32.not_lt.mp (by assumption) | assumption) (by omega) | exact hR.nm (by intro h; first | exact absurd h.1 (Int32.not_le.mpr (by assumption)) | exact absurd h.2 (by omega)) (by assumption) (by omega) eix hix | exact hR.nt0 (by intro h; first | exact absurd h.1 (Int32.not_le.mpr (by assumption)) | exact absurd h.2 (by omega)) (by intro h; first | exact absurd h.1 (by assumption) | exact absurd h.2 (by omega)) (by assumption) (by omega) (by assumption) | exact hR.nt1 (by intro h; first | exact absurd h.1 (Int32.not_le.mpr (by assumption)) | exact absurd h.2 (by omega)) (by intro h; first | exact absurd h.1 (by assumption) | exact absurd h.2 (by omega)) (by assumption) (by omega) (by assumption) | exact hR.ng (by intro h; first | exact absurd h.1 (Int32.not_le.mpr (by assumption)) | exact absurd h.2 (by omega)) (by intro h; first | exact absurd h.1 (by assumption) | exact absurd h.2 (by omega)) (by assumption) (by omega) | exact hR.jn (by intro h; first | exact absurd h.1 (Int32.not_le.mpr (by assumption)) | exact absurd h.2 (by omega)) (by intro h; first | exact absurd h.1 (by assumption) | exact absurd h.2 (by omega)) (by intro h; first | exact absurd h.1 (by assumption) | exact absurd h.2 (by omega)) (by intro h; first | exact absurd h.1 (by assumption) | exact absurd h.2 (by omega)) (by omega)) (by omega) hW (lv_sub hl [4, 5, 6, 7, 8, 1, 0] rfl)
                            · skip
                              have c_30 : ¬ n ≤ 0 := mt (nI_leI (by omega) (by omega)).mpr c_30
                              refine lv_aload_n hx hb dX7_says_211 rfl (lv_at hl 4 rfl) ?_
                              refine m_getr S hW gt 4 rfl (j := (t + 2)) rfl kX7 (iW7 _) (by decide) (List.mem_cons_of_mem _ (wa_9 _ (List.mem_of_getElem? (i := 9) (by decide +kernel)))) dX7_says_212 ?_
                              refine lv_iload hx hb dX7_says_215 (lv_at hl 7 rfl) ?_
                              refine lv_iconst (v := nI 1) hx hb dX7_says_217 (by decide) ?_
                              refine lv_isub hx hb dX7_says_218 ?_
                              refine m_top (y := nI (n - 1)) (pk_sub (by omega)) ?_
                              refine lv_aload_n hx hb dX7_says_219 rfl (lv_at hl 4 rfl) ?_
                              refine m_getr S hW gt 4 rfl (j := (t + 2)) rfl kX7 (iW7 _) (by decide) (List.mem_cons_of_mem _ (wa_9 _ (List.mem_of_getElem? (i := 9) (by decide +kernel)))) dX7_says_220 ?_
                              refine lv_iload hx hb dX7_says_223 (lv_at hl 7 rfl) ?_
                              refine lv_iconst (v := nI 1) hx hb dX7_says_225 (by decide) ?_
                              refine lv_isub hx hb dX7_says_226 ?_
                              refine m_top (y := nI (n - 1)) (pk_sub (by omega)) ?_
                              refine m_iald S hW gt2 (n - 1) rfl (by omega) (by decide) dX7_says_227 ?_
                              refine m_top (y := (evX (V no) (V (t + 1)) 0 (k - 0)).2 (n - 1)) (hR.2 _ (by omega)) ?_
                              refine lv_ineg hx hb dX7_says_228 ?_
                              refine m_iast S hW gt2 (n - 1) rfl (by omega) (by decide) dX7_says_229 (fun H locs hW => ?_)
                              obtain ⟨V_33, eV_33⟩ : ∃ z : mV, z = mU V1 (t + 2) (n - 1) ((-((evX (V no) (V (t + 1)) 0 (k - 0)).2 (n - 1)))) := ⟨_, rfl⟩
                              rw [← eV_33] at hW
                              refine lv_goto (tgt := 272) hx hb dX7_says_230 (by decide) ?_
                              refine lv_iinc (v := nI (k + 1)) (lv' := [(6, .int (nI (k + 1))), (8, .int ((-(V (t + 1) k)) - (nI 2))), (7, .int (V (t + 1) k)), (4, .int (nI ta)), (3, .int (nI 0)), (0, .ref (ad t)), (1, .int (nI 0)), (2, .ref (ad no)), (5, .int (nI n))]) hx hb dX7_says_272 hl (k := 8) rfl (m_inc k 1) (by decide) rfl (fun ls hl => ?_)
                              refine lv_goto (tgt := 61) hx hb dX7_says_275 (by decide) ?_
                              exact ih_61  n (k + 1) V_33 _ _ _ (by omega) (by omega) (by intro a ha; rw [eV_33, mU_no _ _ ha]; exact hfr a ha) (by first | (exfalso; omega) | skip; rw [eV_33, mU_row, evX_s (by omega)]; first | exact hR.push (by first | exact Int32.not_lt.mp (by assumption) | assumption) (by omega) | exact hR.nm (by intro h; first | exact absurd h.1 (Int32.not_le.mpr (by assumption)) | exact absurd h.2 (by omega)) (by assumption) (by omega) eix hix | exact hR.nt0 (by intro h; first | exact absurd h.1 (Int32.not_le.mpr (by assumption)) | exact absurd h.2 (by omega)) (by intro h; first | exact absurd h.1 (by assumption) | exact absurd h.2 (by omega)) (by assumption) (by omega) (by assumption) | exact hR.nt1 (by intro h; first | exact absurd h.1 (Int32.not_le.mpr (by assumption)) | exact absurd h.2 (by omega)) (by intro h; first | exact absurd h.1 (by assumption) | exact absurd h.2 (by omega)) (by assumption) (by omega) (by assumption) | exact hR.ng (by intro h; first | exact absurd h.1 (Int32.not_le.mpr (by assumption)) | exact absurd h.2 (by omega)) (by intro h; first | exact absurd h.1 (by assumption) | exact absurd h.2 (by omega)) (by assumption) (by omega) | exact hR.jn (by intro h; first | exact absurd h.1 (Int32.not_le.mpr (by assumption)) | exact absurd h.2 (by omega)) (by intro h; first | exact absurd h.1 (by assumption) | exact absurd h.2 (by omega)) (by intro h; first | exact absurd h.1 (by assumption) | exact absurd h.2 (by omega)) (by intro h; first | exact absurd h.1 (by assumption) | exact absurd h.2 (by omega)) (by omega)) (by omega) hW (lv_sub hl [3, 4, 5, 6, 7, 8, 0] rfl)
                        · skip
                          have c_26 : ¬ n ≤ 0 := mt (nI_leI (by omega) (by omega)).mpr c_26
                          refine lv_aload_n hx hb dX7_says_170 rfl (lv_at hl 4 rfl) ?_
                          refine m_getr S hW gt 4 rfl (j := (t + 2)) rfl kX7 (iW7 _) (by decide) (List.mem_cons_of_mem _ (wa_9 _ (List.mem_of_getElem? (i := 9) (by decide +kernel)))) dX7_says_171 ?_
                          refine lv_iload hx hb dX7_says_174 (lv_at hl 7 rfl) ?_
                          refine lv_iconst (v := nI 1) hx hb dX7_says_176 (by decide) ?_
                          refine lv_isub hx hb dX7_says_177 ?_
                          refine m_top (y := nI (n - 1)) (pk_sub (by omega)) ?_
                          refine lv_aload_n hx hb dX7_says_178 rfl (lv_at hl 4 rfl) ?_
                          refine m_getr S hW gt 4 rfl (j := (t + 2)) rfl kX7 (iW7 _) (by decide) (List.mem_cons_of_mem _ (wa_9 _ (List.mem_of_getElem? (i := 9) (by decide +kernel)))) dX7_says_179 ?_
                          refine lv_iload hx hb dX7_says_182 (lv_at hl 7 rfl) ?_
                          refine lv_iconst (v := nI 1) hx hb dX7_says_184 (by decide) ?_
                          refine lv_isub hx hb dX7_says_185 ?_
                          refine m_top (y := nI (n - 1)) (pk_sub (by omega)) ?_
                          refine m_iald S hW gt2 (n - 1) rfl (by omega) (by decide) dX7_says_186 ?_
                          refine m_top (y := (evX (V no) (V (t + 1)) 0 (k - 0)).2 (n - 1)) (hR.2 _ (by omega)) ?_
                          refine m_if_ne (tgt := 194) hx hb dX7_says_187 (by decide) (fun c_34 => ?_) (fun c_34 => ?_)
                          · skip
                            refine lv_iconst (v := nI 0) hx hb dX7_says_194 (by decide) ?_
                            refine m_iast S hW gt2 (n - 1) rfl (by omega) (by decide) dX7_says_195 (fun H locs hW => ?_)
                            obtain ⟨V_35, eV_35⟩ : ∃ z : mV, z = mU V1 (t + 2) (n - 1) (nI 0) := ⟨_, rfl⟩
                            rw [← eV_35] at hW
                            refine lv_goto (tgt := 272) hx hb dX7_says_196 (by decide) ?_
                            refine lv_iinc (v := nI (k + 1)) (lv' := [(6, .int (nI (k + 1))), (8, .int ((-(V (t + 1) k)) - (nI 2))), (7, .int (V (t + 1) k)), (4, .int (nI ta)), (3, .int (nI 0)), (0, .ref (ad t)), (1, .int (nI 0)), (2, .ref (ad no)), (5, .int (nI n))]) hx hb dX7_says_272 hl (k := 8) rfl (m_inc k 1) (by decide) rfl (fun ls hl => ?_)
                            refine lv_goto (tgt := 61) hx hb dX7_says_275 (by decide) ?_
                            exact ih_61  n (k + 1) V_35 _ _ _ (by omega) (by omega) (by intro a ha; rw [eV_35, mU_no _ _ ha]; exact hfr a ha) (by first | (exfalso; omega) | skip; rw [eV_35, mU_row, evX_s (by omega)]; first | exact hR.push (by first | exact Int32.not_lt.mp (by assumption) | assumption) (by omega) | exact hR.nm (by intro h; first | exact absurd h.1 (Int32.not_le.mpr (by assumption)) | exact absurd h.2 (by omega)) (by assumption) (by omega) eix hix | exact hR.nt0 (by intro h; first | exact absurd h.1 (Int32.not_le.mpr (by assumption)) | exact absurd h.2 (by omega)) (by intro h; first | exact absurd h.1 (by assumption) | exact absurd h.2 (by omega)) (by assumption) (by omega) (by assumption) | exact hR.nt1 (by intro h; first | exact absurd h.1 (Int32.not_le.mpr (by assumption)) | exact absurd h.2 (by omega)) (by intro h; first | exact absurd h.1 (by assumption) | exact absurd h.2 (by omega)) (by assumption) (by omega) (by assumption) | exact hR.ng (by intro h; first | exact absurd h.1 (Int32.not_le.mpr (by assumption)) | exact absurd h.2 (by omega)) (by intro h; first | exact absurd h.1 (by assumption) | exact absurd h.2 (by omega)) (by assumption) (by omega) | exact hR.jn (by intro h; first | exact absurd h.1 (Int32.not_le.mpr (by assumption)) | exact absurd h.2 (by omega)) (by intro h; first | exact absurd h.1 (by assumption) | exact absurd h.2 (by omega)) (by intro h; first | exact absurd h.1 (by assumption) | exact absurd h.2 (by omega)) (by intro h; first | exact absurd h.1 (by assumption) | exact absurd h.2 (by omega)) (by omega)) (by omega) hW (lv_sub hl [3, 4, 5, 6, 7, 8, 0] rfl)
                          · skip
                            refine lv_iconst (v := nI 1) hx hb dX7_says_190 (by decide) ?_
                            refine lv_goto (tgt := 195) hx hb dX7_says_191 (by decide) ?_
                            refine m_iast S hW gt2 (n - 1) rfl (by omega) (by decide) dX7_says_195 (fun H locs hW => ?_)
                            obtain ⟨V_36, eV_36⟩ : ∃ z : mV, z = mU V1 (t + 2) (n - 1) (nI 1) := ⟨_, rfl⟩
                            rw [← eV_36] at hW
                            refine lv_goto (tgt := 272) hx hb dX7_says_196 (by decide) ?_
                            refine lv_iinc (v := nI (k + 1)) (lv' := [(6, .int (nI (k + 1))), (8, .int ((-(V (t + 1) k)) - (nI 2))), (7, .int (V (t + 1) k)), (4, .int (nI ta)), (3, .int (nI 0)), (0, .ref (ad t)), (1, .int (nI 0)), (2, .ref (ad no)), (5, .int (nI n))]) hx hb dX7_says_272 hl (k := 8) rfl (m_inc k 1) (by decide) rfl (fun ls hl => ?_)
                            refine lv_goto (tgt := 61) hx hb dX7_says_275 (by decide) ?_
                            exact ih_61  n (k + 1) V_36 _ _ _ (by omega) (by omega) (by intro a ha; rw [eV_36, mU_no _ _ ha]; exact hfr a ha) (by first | (exfalso; omega) | skip; rw [eV_36, mU_row, evX_s (by omega)]; first | exact hR.push (by first | exact Int32.not_lt.mp (by assumption) | assumption) (by omega) | exact hR.nm (by intro h; first | exact absurd h.1 (Int32.not_le.mpr (by assumption)) | exact absurd h.2 (by omega)) (by assumption) (by omega) eix hix | exact hR.nt0 (by intro h; first | exact absurd h.1 (Int32.not_le.mpr (by assumption)) | exact absurd h.2 (by omega)) (by intro h; first | exact absurd h.1 (by assumption) | exact absurd h.2 (by omega)) (by assumption) (by omega) (by assumption) | exact hR.nt1 (by intro h; first | exact absurd h.1 (Int32.not_le.mpr (by assumption)) | exact absurd h.2 (by omega)) (by intro h; first | exact absurd h.1 (by assumption) | exact absurd h.2 (by omega)) (by assumption) (by omega) (by assumption) | exact hR.ng (by intro h; first | exact absurd h.1 (Int32.not_le.mpr (by assumption)) | exact absurd h.2 (by omega)) (by intro h; first | exact absurd h.1 (by assumption) | exact absurd h.2 (by omega)) (by assumption) (by omega) | exact hR.jn (by intro h; first | exact absurd h.1 (Int32.not_le.mpr (by assumption)) | exact absurd h.2 (by omega)) (by intro h; first | exact absurd h.1 (by assumption) | exact absurd h.2 (by omega)) (by intro h; first | exact absurd h.1 (by assumption) | exact absurd h.2 (by omega)) (by intro h; first | exact absurd h.1 (by assumption) | exact absurd h.2 (by omega)) (by omega)) (by omega) hW (lv_sub hl [3, 4, 5, 6, 7, 8, 0] rfl)
                    · skip
                      have c_17 : ¬ 32 ≤ n := mt (nI_leI (by omega) (by omega)).mpr c_17
                      refine lv_aload_n hx hb dX7_says_141 rfl (lv_at hl 4 rfl) ?_
                      refine m_getr S hW gt 4 rfl (j := (t + 2)) rfl kX7 (iW7 _) (by decide) (List.mem_cons_of_mem _ (wa_9 _ (List.mem_of_getElem? (i := 9) (by decide +kernel)))) dX7_says_142 ?_
                      refine lv_iload hx hb dX7_says_145 (lv_at hl 7 rfl) ?_
                      refine lv_iinc (v := nI (n + 1)) (lv' := [(5, .int (nI (n + 1))), (8, .int ((-(V (t + 1) k)) - (nI 2))), (7, .int (V (t + 1) k)), (4, .int (nI ta)), (3, .int (nI 0)), (0, .ref (ad t)), (1, .int (nI 0)), (2, .ref (ad no)), (6, .int (nI k))]) hx hb dX7_says_147 hl (k := 7) rfl (m_inc n 1) (by decide) rfl (fun ls hl => ?_)
                      refine lv_aload_n hx hb dX7_says_150 rfl (lv_at hl 7 rfl) ?_
                      refine lv_iload hx hb dX7_says_151 (lv_at hl 1 rfl) ?_
                      obtain ⟨ix, eix, -, hix⟩ := w_14.ex
                      refine m_iald S hW gn ix eix hix (by decide) dX7_says_153 ?_
                      refine m_top (y := V no ix) (by rw [hfr _ hno2]) ?_
                      refine m_iast S hW gt2 n rfl (by omega) (by decide) dX7_says_154 (fun H locs hW => ?_)
                      obtain ⟨V_37, eV_37⟩ : ∃ z : mV, z = mU V1 (t + 2) n (V no ix) := ⟨_, rfl⟩
                      rw [← eV_37] at hW
                      refine lv_goto (tgt := 272) hx hb dX7_says_155 (by decide) ?_
                      refine lv_iinc (v := nI (k + 1)) (lv' := [(6, .int (nI (k + 1))), (5, .int (nI (n + 1))), (8, .int ((-(V (t + 1) k)) - (nI 2))), (7, .int (V (t + 1) k)), (4, .int (nI ta)), (3, .int (nI 0)), (0, .ref (ad t)), (1, .int (nI 0)), (2, .ref (ad no))]) hx hb dX7_says_272 hl (k := 8) rfl (m_inc k 1) (by decide) rfl (fun ls hl => ?_)
                      refine lv_goto (tgt := 61) hx hb dX7_says_275 (by decide) ?_
                      exact ih_61  (n + 1) (k + 1) V_37 _ _ _ (by omega) (by omega) (by intro a ha; rw [eV_37, mU_no _ _ ha]; exact hfr a ha) (by first | (exfalso; omega) | skip; rw [eV_37, mU_row, evX_s (by omega)]; first | exact hR.push (by first | exact Int32.not_lt.mp (by assumption) | assumption) (by omega) | exact hR.nm (by intro h; first | exact absurd h.1 (Int32.not_le.mpr (by assumption)) | exact absurd h.2 (by omega)) (by assumption) (by omega) eix hix | exact hR.nt0 (by intro h; first | exact absurd h.1 (Int32.not_le.mpr (by assumption)) | exact absurd h.2 (by omega)) (by intro h; first | exact absurd h.1 (by assumption) | exact absurd h.2 (by omega)) (by assumption) (by omega) (by assumption) | exact hR.nt1 (by intro h; first | exact absurd h.1 (Int32.not_le.mpr (by assumption)) | exact absurd h.2 (by omega)) (by intro h; first | exact absurd h.1 (by assumption) | exact absurd h.2 (by omega)) (by assumption) (by omega) (by assumption) | exact hR.ng (by intro h; first | exact absurd h.1 (Int32.not_le.mpr (by assumption)) | exact absurd h.2 (by omega)) (by intro h; first | exact absurd h.1 (by assumption) | exact absurd h.2 (by omega)) (by assumption) (by omega) | exact hR.jn (by intro h; first | exact absurd h.1 (Int32.not_le.mpr (by assumption)) | exact absurd h.2 (by omega)) (by intro h; first | exact absurd h.1 (by assumption) | exact absurd h.2 (by omega)) (by intro h; first | exact absurd h.1 (by assumption) | exact absurd h.2 (by omega)) (by intro h; first | exact absurd h.1 (by assumption) | exact absurd h.2 (by omega)) (by omega)) (by omega) hW (lv_sub hl [4, 5, 6, 7, 8, 1, 0] rfl)
                · skip
                  refine m_if_eq (tgt := 158) hx hb dX7_says_131 (by decide) (fun c_38 => ?_) (fun c_38 => ?_)
                  · skip
                    refine lv_iload hx hb dX7_says_158 (lv_at hl 1 rfl) ?_
                    refine lv_bipush (v := -13) hx hb dX7_says_160 (by decide) ?_
                    refine lv_icmp_ne (tgt := 199) hx hb dX7_says_162 (by decide) (fun c_39 => ?_) (fun c_39 => ?_)
                    · skip
                      refine lv_iload hx hb dX7_says_199 (lv_at hl 1 rfl) ?_
                      refine lv_bipush (v := -14) hx hb dX7_says_201 (by decide) ?_
                      refine lv_icmp_ne (tgt := 233) hx hb dX7_says_203 (by decide) (fun c_40 => ?_) (fun c_40 => ?_)
                      · skip
                        refine lv_iload hx hb dX7_says_233 (lv_at hl 7 rfl) ?_
                        refine lv_iconst (v := nI 1) hx hb dX7_says_235 (by decide) ?_
                        refine lv_icmp_le (tgt := 272) hx hb dX7_says_236 (by decide) (fun c_41 => ?_) (fun c_41 => ?_)
                        · skip
                          have c_41 : n ≤ 1 := (nI_leI (by omega) (by omega)).mp c_41
                          refine lv_iinc (v := nI (k + 1)) (lv' := [(6, .int (nI (k + 1))), (8, .int ((-(V (t + 1) k)) - (nI 2))), (7, .int (V (t + 1) k)), (4, .int (nI ta)), (3, .int (nI 0)), (0, .ref (ad t)), (1, .int (nI 0)), (2, .ref (ad no)), (5, .int (nI n))]) hx hb dX7_says_272 hl (k := 8) rfl (m_inc k 1) (by decide) rfl (fun ls hl => ?_)
                          refine lv_goto (tgt := 61) hx hb dX7_says_275 (by decide) ?_
                          exact ih_61  n (k + 1) V1 _ _ _ (by omega) (by omega) (by exact hfr) (by rw [evX_s (by omega)]; exact hR.no (by intro h; first | exact absurd h.1 (Int32.not_le.mpr (by assumption)) | exact absurd h.2 (by omega)) (by intro h; first | exact absurd h.1 (by assumption) | exact absurd h.2 (by omega)) (by intro h; first | exact absurd h.1 (by assumption) | exact absurd h.2 (by omega)) (by intro h; first | exact absurd h.1 (by assumption) | exact absurd h.2 (by omega)) (by omega)) (by omega) hW (lv_sub hl [3, 4, 5, 6, 7, 8, 0] rfl)
                        · skip
                          have c_41 : ¬ n ≤ 1 := mt (nI_leI (by omega) (by omega)).mpr c_41
                          refine lv_iinc (v := nI (n - 1)) (lv' := [(5, .int (nI (n - 1))), (8, .int ((-(V (t + 1) k)) - (nI 2))), (7, .int (V (t + 1) k)), (4, .int (nI ta)), (3, .int (nI 0)), (0, .ref (ad t)), (1, .int (nI 0)), (2, .ref (ad no)), (6, .int (nI k))]) hx hb dX7_says_239 hl (k := 7) rfl (m_dec n 1 (by omega)) (by decide) rfl (fun ls hl => ?_)
                          refine lv_aload_n hx hb dX7_says_242 rfl (lv_at hl 5 rfl) ?_
                          refine m_getr S hW gt 4 rfl (j := (t + 2)) rfl kX7 (iW7 _) (by decide) (List.mem_cons_of_mem _ (wa_9 _ (List.mem_of_getElem? (i := 9) (by decide +kernel)))) dX7_says_243 ?_
                          refine lv_iload hx hb dX7_says_246 (lv_at hl 0 rfl) ?_
                          refine lv_iconst (v := nI 1) hx hb dX7_says_248 (by decide) ?_
                          refine lv_isub hx hb dX7_says_249 ?_
                          refine m_top (y := nI ((n - 1) - 1)) (pk_sub (by omega)) ?_
                          refine lv_iload hx hb dX7_says_250 (lv_at hl 2 rfl) ?_
                          refine lv_aload_n hx hb dX7_says_252 rfl (lv_at hl 5 rfl) ?_
                          refine m_getr S hW gt 4 rfl (j := (t + 2)) rfl kX7 (iW7 _) (by decide) (List.mem_cons_of_mem _ (wa_9 _ (List.mem_of_getElem? (i := 9) (by decide +kernel)))) dX7_says_253 ?_
                          refine lv_iload hx hb dX7_says_256 (lv_at hl 0 rfl) ?_
                          refine lv_iconst (v := nI 1) hx hb dX7_says_258 (by decide) ?_
                          refine lv_isub hx hb dX7_says_259 ?_
                          refine m_top (y := nI ((n - 1) - 1)) (pk_sub (by omega)) ?_
                          refine m_iald S hW gt2 ((n - 1) - 1) rfl (by omega) (by decide) dX7_says_260 ?_
                          refine m_top (y := (evX (V no) (V (t + 1)) 0 (k - 0)).2 (n - 1 - 1)) (hR.2 _ (by omega)) ?_
                          refine lv_aload_n hx hb dX7_says_261 rfl (lv_at hl 5 rfl) ?_
                          refine m_getr S hW gt 4 rfl (j := (t + 2)) rfl kX7 (iW7 _) (by decide) (List.mem_cons_of_mem _ (wa_9 _ (List.mem_of_getElem? (i := 9) (by decide +kernel)))) dX7_says_262 ?_
                          refine lv_iload hx hb dX7_says_265 (lv_at hl 0 rfl) ?_
                          refine m_iald S hW gt2 (n - 1) rfl (by omega) (by decide) dX7_says_267 ?_
                          refine m_top (y := (evX (V no) (V (t + 1)) 0 (k - 0)).2 (n - 1)) (hR.2 _ (by omega)) ?_
                          refine m_cie (m_rS S hW (c_X7_join l G ad sh1 V1 (V (t + 1) k) ((evX (V no) (V (t + 1)) 0 (k - 0)).2 (n - 1 - 1)) ((evX (V no) (V (t + 1)) 0 (k - 0)).2 (n - 1))) (va_cwS 3 hts (gCall [.methodLink RX7 34 yX7_join, .static yX7_join, .initialized RX7] (List.forall_mem_cons.mpr ⟨(wa_18 _ (List.mem_of_getElem? (i := 19) (by decide +kernel))), (List.forall_mem_cons.mpr ⟨(wa_18 _ (List.mem_of_getElem? (i := 17) (by decide +kernel))), (List.forall_mem_cons.mpr ⟨(wa_18 _ (List.mem_of_getElem? (i := 18) (by decide +kernel))), (List.forall_mem_cons.mpr ⟨(wa_9 _ (List.mem_of_getElem? (i := 4) (by decide +kernel))), (fun _ h => absurd h List.not_mem_nil)⟩)⟩)⟩)⟩)) rfl rfl rfl (by decide +kernel) ⟨Nat.le_of_ble_eq_true rfl, Nat.le_of_ble_eq_true rfl⟩) rfl hl.1 rfl (Nat.le_of_ble_eq_true rfl) dX7_says_268 ⟨Nat.le_of_ble_eq_true rfl, Nat.le_of_ble_eq_true rfl⟩) hW (fun H locs hW => ?_)
                          refine m_iast S hW gt2 ((n - 1) - 1) rfl (by omega) (by decide) dX7_says_271 (fun H locs hW => ?_)
                          obtain ⟨V_42, eV_42⟩ : ∃ z : mV, z = mU V1 (t + 2) ((n - 1) - 1) (fJoin (V (t + 1) k) ((evX (V no) (V (t + 1)) 0 (k - 0)).2 (n - 1 - 1)) ((evX (V no) (V (t + 1)) 0 (k - 0)).2 (n - 1))) := ⟨_, rfl⟩
                          rw [← eV_42] at hW
                          refine lv_iinc (v := nI (k + 1)) (lv' := [(6, .int (nI (k + 1))), (5, .int (nI (n - 1))), (8, .int ((-(V (t + 1) k)) - (nI 2))), (7, .int (V (t + 1) k)), (4, .int (nI ta)), (3, .int (nI 0)), (0, .ref (ad t)), (1, .int (nI 0)), (2, .ref (ad no))]) hx hb dX7_says_272 hl (k := 8) rfl (m_inc k 1) (by decide) rfl (fun ls hl => ?_)
                          refine lv_goto (tgt := 61) hx hb dX7_says_275 (by decide) ?_
                          exact ih_61  (n - 1) (k + 1) V_42 _ _ _ (by omega) (by omega) (by intro a ha; rw [eV_42, mU_no _ _ ha]; exact hfr a ha) (by first | (exfalso; omega) | skip; rw [eV_42, mU_row, evX_s (by omega)]; first | exact hR.push (by first | exact Int32.not_lt.mp (by assumption) | assumption) (by omega) | exact hR.nm (by intro h; first | exact absurd h.1 (Int32.not_le.mpr (by assumption)) | exact absurd h.2 (by omega)) (by assumption) (by omega) eix hix | exact hR.nt0 (by intro h; first | exact absurd h.1 (Int32.not_le.mpr (by assumption)) | exact absurd h.2 (by omega)) (by intro h; first | exact absurd h.1 (by assumption) | exact absurd h.2 (by omega)) (by assumption) (by omega) (by assumption) | exact hR.nt1 (by intro h; first | exact absurd h.1 (Int32.not_le.mpr (by assumption)) | exact absurd h.2 (by omega)) (by intro h; first | exact absurd h.1 (by assumption) | exact absurd h.2 (by omega)) (by assumption) (by omega) (by assumption) | exact hR.ng (by intro h; first | exact absurd h.1 (Int32.not_le.mpr (by assumption)) | exact absurd h.2 (by omega)) (by intro h; first | exact absurd h.1 (by assumption) | exact absurd h.2 (by omega)) (by assumption) (by omega) | exact hR.jn (by intro h; first | exact absurd h.1 (Int32.not_le.mpr (by assumption)) | exact absurd h.2 (by omega)) (by intro h; first | exact absurd h.1 (by assumption) | exact absurd h.2 (by omega)) (by intro h; first | exact absurd h.1 (by assumption) | exact absurd h.2 (by omega)) (by intro h; first | exact absurd h.1 (by assumption) | exact absurd h.2 (by omega)) (by omega)) (by omega) hW (lv_sub hl [4, 5, 6, 7, 8, 1, 0] rfl)
                      · skip
                        refine lv_iload hx hb dX7_says_206 (lv_at hl 7 rfl) ?_
                        refine m_if_le (tgt := 233) hx hb dX7_says_208 (by decide) (fun c_43 => ?_) (fun c_43 => ?_)
                        · skip
                          have c_43 : n ≤ 0 := (nI_leI (by omega) (by omega)).mp c_43
                          refine lv_iload hx hb dX7_says_233 (lv_at hl 7 rfl) ?_
                          refine lv_iconst (v := nI 1) hx hb dX7_says_235 (by decide) ?_
                          refine lv_icmp_le (tgt := 272) hx hb dX7_says_236 (by decide) (fun c_44 => ?_) (fun c_44 => ?_)
                          · skip
                            have c_44 : n ≤ 1 := (nI_leI (by omega) (by omega)).mp c_44
                            refine lv_iinc (v := nI (k + 1)) (lv' := [(6, .int (nI (k + 1))), (8, .int ((-(V (t + 1) k)) - (nI 2))), (7, .int (V (t + 1) k)), (4, .int (nI ta)), (3, .int (nI 0)), (0, .ref (ad t)), (1, .int (nI 0)), (2, .ref (ad no)), (5, .int (nI n))]) hx hb dX7_says_272 hl (k := 8) rfl (m_inc k 1) (by decide) rfl (fun ls hl => ?_)
                            refine lv_goto (tgt := 61) hx hb dX7_says_275 (by decide) ?_
                            exact ih_61  n (k + 1) V1 _ _ _ (by omega) (by omega) (by exact hfr) (by rw [evX_s (by omega)]; exact hR.no (by intro h; first | exact absurd h.1 (Int32.not_le.mpr (by assumption)) | exact absurd h.2 (by omega)) (by intro h; first | exact absurd h.1 (by assumption) | exact absurd h.2 (by omega)) (by intro h; first | exact absurd h.1 (by assumption) | exact absurd h.2 (by omega)) (by intro h; first | exact absurd h.1 (by assumption) | exact absurd h.2 (by omega)) (by omega)) (by omega) hW (lv_sub hl [3, 4, 5, 6, 7, 8, 0] rfl)
                          · skip
                            have c_44 : ¬ n ≤ 1 := mt (nI_leI (by omega) (by omega)).mpr c_44
                            refine lv_iinc (v := nI (n - 1)) (lv' := [(5, .int (nI (n - 1))), (8, .int ((-(V (t + 1) k)) - (nI 2))), (7, .int (V (t + 1) k)), (4, .int (nI ta)), (3, .int (nI 0)), (0, .ref (ad t)), (1, .int (nI 0)), (2, .ref (ad no)), (6, .int (nI k))]) hx hb dX7_says_239 hl (k := 7) rfl (m_dec n 1 (by omega)) (by decide) rfl (fun ls hl => ?_)
                            refine lv_aload_n hx hb dX7_says_242 rfl (lv_at hl 5 rfl) ?_
                            refine m_getr S hW gt 4 rfl (j := (t + 2)) rfl kX7 (iW7 _) (by decide) (List.mem_cons_of_mem _ (wa_9 _ (List.mem_of_getElem? (i := 9) (by decide +kernel)))) dX7_says_243 ?_
                            refine lv_iload hx hb dX7_says_246 (lv_at hl 0 rfl) ?_
                            refine lv_iconst (v := nI 1) hx hb dX7_says_248 (by decide) ?_
                            refine lv_isub hx hb dX7_says_249 ?_
                            refine m_top (y := nI ((n - 1) - 1)) (pk_sub (by omega)) ?_
                            refine lv_iload hx hb dX7_says_250 (lv_at hl 2 rfl) ?_
                            refine lv_aload_n hx hb dX7_says_252 rfl (lv_at hl 5 rfl) ?_
                            refine m_getr S hW gt 4 rfl (j := (t + 2)) rfl kX7 (iW7 _) (by decide) (List.mem_cons_of_mem _ (wa_9 _ (List.mem_of_getElem? (i := 9) (by decide +kernel)))) dX7_says_253 ?_
                            refine lv_iload hx hb dX7_says_256 (lv_at hl 0 rfl) ?_
                            refine lv_iconst (v := nI 1) hx hb dX7_says_258 (by decide) ?_
                            refine lv_isub hx hb dX7_says_259 ?_
                            refine m_top (y := nI ((n - 1) - 1)) (pk_sub (by omega)) ?_
                            refine m_iald S hW gt2 ((n - 1) - 1) rfl (by omega) (by decide) dX7_says_260 ?_
                            refine m_top (y := (evX (V no) (V (t + 1)) 0 (k - 0)).2 (n - 1 - 1)) (hR.2 _ (by omega)) ?_
                            refine lv_aload_n hx hb dX7_says_261 rfl (lv_at hl 5 rfl) ?_
                            refine m_getr S hW gt 4 rfl (j := (t + 2)) rfl kX7 (iW7 _) (by decide) (List.mem_cons_of_mem _ (wa_9 _ (List.mem_of_getElem? (i := 9) (by decide +kernel)))) dX7_says_262 ?_
                            refine lv_iload hx hb dX7_says_265 (lv_at hl 0 rfl) ?_
                            refine m_iald S hW gt2 (n - 1) rfl (by omega) (by decide) dX7_says_267 ?_
                            refine m_top (y := (evX (V no) (V (t + 1)) 0 (k - 0)).2 (n - 1)) (hR.2 _ (by omega)) ?_
                            refine m_cie (m_rS S hW (c_X7_join l G ad sh1 V1 (V (t + 1) k) ((evX (V no) (V (t + 1)) 0 (k - 0)).2 (n - 1 - 1)) ((evX (V no) (V (t + 1)) 0 (k - 0)).2 (n - 1))) (va_cwS 3 hts (gCall [.methodLink RX7 34 yX7_join, .static yX7_join, .initialized RX7] (List.forall_mem_cons.mpr ⟨(wa_18 _ (List.mem_of_getElem? (i := 19) (by decide +kernel))), (List.forall_mem_cons.mpr ⟨(wa_18 _ (List.mem_of_getElem? (i := 17) (by decide +kernel))), (List.forall_mem_cons.mpr ⟨(wa_18 _ (List.mem_of_getElem? (i := 18) (by decide +kernel))), (List.forall_mem_cons.mpr ⟨(wa_9 _ (List.mem_of_getElem? (i := 4) (by decide +kernel))), (fun _ h => absurd h List.not_mem_nil)⟩)⟩)⟩)⟩)) rfl rfl rfl (by decide +kernel) ⟨Nat.le_of_ble_eq_true rfl, Nat.le_of_ble_eq_true rfl⟩) rfl hl.1 rfl (Nat.le_of_ble_eq_true rfl) dX7_says_268 ⟨Nat.le_of_ble_eq_true rfl, Nat.le_of_ble_eq_true rfl⟩) hW (fun H locs hW => ?_)
                            refine m_iast S hW gt2 ((n - 1) - 1) rfl (by omega) (by decide) dX7_says_271 (fun H locs hW => ?_)
                            obtain ⟨V_45, eV_45⟩ : ∃ z : mV, z = mU V1 (t + 2) ((n - 1) - 1) (fJoin (V (t + 1) k) ((evX (V no) (V (t + 1)) 0 (k - 0)).2 (n - 1 - 1)) ((evX (V no) (V (t + 1)) 0 (k - 0)).2 (n - 1))) := ⟨_, rfl⟩
                            rw [← eV_45] at hW
                            refine lv_iinc (v := nI (k + 1)) (lv' := [(6, .int (nI (k + 1))), (5, .int (nI (n - 1))), (8, .int ((-(V (t + 1) k)) - (nI 2))), (7, .int (V (t + 1) k)), (4, .int (nI ta)), (3, .int (nI 0)), (0, .ref (ad t)), (1, .int (nI 0)), (2, .ref (ad no))]) hx hb dX7_says_272 hl (k := 8) rfl (m_inc k 1) (by decide) rfl (fun ls hl => ?_)
                            refine lv_goto (tgt := 61) hx hb dX7_says_275 (by decide) ?_
                            exact ih_61  (n - 1) (k + 1) V_45 _ _ _ (by omega) (by omega) (by intro a ha; rw [eV_45, mU_no _ _ ha]; exact hfr a ha) (by first | (exfalso; omega) | skip; rw [eV_45, mU_row, evX_s (by omega)]; first | exact hR.push (by first | exact Int32.not_lt.mp (by assumption) | assumption) (by omega) | exact hR.nm (by intro h; first | exact absurd h.1 (Int32.not_le.mpr (by assumption)) | exact absurd h.2 (by omega)) (by assumption) (by omega) eix hix | exact hR.nt0 (by intro h; first | exact absurd h.1 (Int32.not_le.mpr (by assumption)) | exact absurd h.2 (by omega)) (by intro h; first | exact absurd h.1 (by assumption) | exact absurd h.2 (by omega)) (by assumption) (by omega) (by assumption) | exact hR.nt1 (by intro h; first | exact absurd h.1 (Int32.not_le.mpr (by assumption)) | exact absurd h.2 (by omega)) (by intro h; first | exact absurd h.1 (by assumption) | exact absurd h.2 (by omega)) (by assumption) (by omega) (by assumption) | exact hR.ng (by intro h; first | exact absurd h.1 (Int32.not_le.mpr (by assumption)) | exact absurd h.2 (by omega)) (by intro h; first | exact absurd h.1 (by assumption) | exact absurd h.2 (by omega)) (by assumption) (by omega) | exact hR.jn (by intro h; first | exact absurd h.1 (Int32.not_le.mpr (by assumption)) | exact absurd h.2 (by omega)) (by intro h; first | exact absurd h.1 (by assumption) | exact absurd h.2 (by omega)) (by intro h; first | exact absurd h.1 (by assumption) | exact absurd h.2 (by omega)) (by intro h; first | exact absurd h.1 (by assumption) | exact absurd h.2 (by omega)) (by omega)) (by omega) hW (lv_sub hl [4, 5, 6, 7, 8, 1, 0] rfl)
                        · skip
                          have c_43 : ¬ n ≤ 0 := mt (nI_leI (by omega) (by omega)).mpr c_43
                          refine lv_aload_n hx hb dX7_says_211 rfl (lv_at hl 4 rfl) ?_
                          refine m_getr S hW gt 4 rfl (j := (t + 2)) rfl kX7 (iW7 _) (by decide) (List.mem_cons_of_mem _ (wa_9 _ (List.mem_of_getElem? (i := 9) (by decide +kernel)))) dX7_says_212 ?_
                          refine lv_iload hx hb dX7_says_215 (lv_at hl 7 rfl) ?_
                          refine lv_iconst (v := nI 1) hx hb dX7_says_217 (by decide) ?_
                          refine lv_isub hx hb dX7_says_218 ?_
                          refine m_top (y := nI (n - 1)) (pk_sub (by omega)) ?_
                          refine lv_aload_n hx hb dX7_says_219 rfl (lv_at hl 4 rfl) ?_
                          refine m_getr S hW gt 4 rfl (j := (t + 2)) rfl kX7 (iW7 _) (by decide) (List.mem_cons_of_mem _ (wa_9 _ (List.mem_of_getElem? (i := 9) (by decide +kernel)))) dX7_says_220 ?_
                          refine lv_iload hx hb dX7_says_223 (lv_at hl 7 rfl) ?_
                          refine lv_iconst (v := nI 1) hx hb dX7_says_225 (by decide) ?_
                          refine lv_isub hx hb dX7_says_226 ?_
                          refine m_top (y := nI (n - 1)) (pk_sub (by omega)) ?_
                          refine m_iald S hW gt2 (n - 1) rfl (by omega) (by decide) dX7_says_227 ?_
                          refine m_top (y := (evX (V no) (V (t + 1)) 0 (k - 0)).2 (n - 1)) (hR.2 _ (by omega)) ?_
                          refine lv_ineg hx hb dX7_says_228 ?_
                          refine m_iast S hW gt2 (n - 1) rfl (by omega) (by decide) dX7_says_229 (fun H locs hW => ?_)
                          obtain ⟨V_46, eV_46⟩ : ∃ z : mV, z = mU V1 (t + 2) (n - 1) ((-((evX (V no) (V (t + 1)) 0 (k - 0)).2 (n - 1)))) := ⟨_, rfl⟩
                          rw [← eV_46] at hW
                          refine lv_goto (tgt := 272) hx hb dX7_says_230 (by decide) ?_
                          refine lv_iinc (v := nI (k + 1)) (lv' := [(6, .int (nI (k + 1))), (8, .int ((-(V (t + 1) k)) - (nI 2))), (7, .int (V (t + 1) k)), (4, .int (nI ta)), (3, .int (nI 0)), (0, .ref (ad t)), (1, .int (nI 0)), (2, .ref (ad no)), (5, .int (nI n))]) hx hb dX7_says_272 hl (k := 8) rfl (m_inc k 1) (by decide) rfl (fun ls hl => ?_)
                          refine lv_goto (tgt := 61) hx hb dX7_says_275 (by decide) ?_
                          exact ih_61  n (k + 1) V_46 _ _ _ (by omega) (by omega) (by intro a ha; rw [eV_46, mU_no _ _ ha]; exact hfr a ha) (by first | (exfalso; omega) | skip; rw [eV_46, mU_row, evX_s (by omega)]; first | exact hR.push (by first | exact Int32.not_lt.mp (by assumption) | assumption) (by omega) | exact hR.nm (by intro h; first | exact absurd h.1 (Int32.not_le.mpr (by assumption)) | exact absurd h.2 (by omega)) (by assumption) (by omega) eix hix | exact hR.nt0 (by intro h; first | exact absurd h.1 (Int32.not_le.mpr (by assumption)) | exact absurd h.2 (by omega)) (by intro h; first | exact absurd h.1 (by assumption) | exact absurd h.2 (by omega)) (by assumption) (by omega) (by assumption) | exact hR.nt1 (by intro h; first | exact absurd h.1 (Int32.not_le.mpr (by assumption)) | exact absurd h.2 (by omega)) (by intro h; first | exact absurd h.1 (by assumption) | exact absurd h.2 (by omega)) (by assumption) (by omega) (by assumption) | exact hR.ng (by intro h; first | exact absurd h.1 (Int32.not_le.mpr (by assumption)) | exact absurd h.2 (by omega)) (by intro h; first | exact absurd h.1 (by assumption) | exact absurd h.2 (by omega)) (by assumption) (by omega) | exact hR.jn (by intro h; first | exact absurd h.1 (Int32.not_le.mpr (by assumption)) | exact absurd h.2 (by omega)) (by intro h; first | exact absurd h.1 (by assumption) | exact absurd h.2 (by omega)) (by intro h; first | exact absurd h.1 (by assumption) | exact absurd h.2 (by omega)) (by intro h; first | exact absurd h.1 (by assumption) | exact absurd h.2 (by omega)) (by omega)) (by omega) hW (lv_sub hl [3, 4, 5, 6, 7, 8, 0] rfl)
                    · skip
                      refine lv_iload hx hb dX7_says_165 (lv_at hl 7 rfl) ?_
                      refine m_if_le (tgt := 199) hx hb dX7_says_167 (by decide) (fun c_47 => ?_) (fun c_47 => ?_)
                      · skip
                        have c_47 : n ≤ 0 := (nI_leI (by omega) (by omega)).mp c_47
                        refine lv_iload hx hb dX7_says_199 (lv_at hl 1 rfl) ?_
                        refine lv_bipush (v := -14) hx hb dX7_says_201 (by decide) ?_
                        refine lv_icmp_ne (tgt := 233) hx hb dX7_says_203 (by decide) (fun c_48 => ?_) (fun c_48 => ?_)
                        · skip
                          refine lv_iload hx hb dX7_says_233 (lv_at hl 7 rfl) ?_
                          refine lv_iconst (v := nI 1) hx hb dX7_says_235 (by decide) ?_
                          refine lv_icmp_le (tgt := 272) hx hb dX7_says_236 (by decide) (fun c_49 => ?_) (fun c_49 => ?_)
                          · skip
                            have c_49 : n ≤ 1 := (nI_leI (by omega) (by omega)).mp c_49
                            refine lv_iinc (v := nI (k + 1)) (lv' := [(6, .int (nI (k + 1))), (8, .int ((-(V (t + 1) k)) - (nI 2))), (7, .int (V (t + 1) k)), (4, .int (nI ta)), (3, .int (nI 0)), (0, .ref (ad t)), (1, .int (nI 0)), (2, .ref (ad no)), (5, .int (nI n))]) hx hb dX7_says_272 hl (k := 8) rfl (m_inc k 1) (by decide) rfl (fun ls hl => ?_)
                            refine lv_goto (tgt := 61) hx hb dX7_says_275 (by decide) ?_
                            exact ih_61  n (k + 1) V1 _ _ _ (by omega) (by omega) (by exact hfr) (by rw [evX_s (by omega)]; exact hR.no (by intro h; first | exact absurd h.1 (Int32.not_le.mpr (by assumption)) | exact absurd h.2 (by omega)) (by intro h; first | exact absurd h.1 (by assumption) | exact absurd h.2 (by omega)) (by intro h; first | exact absurd h.1 (by assumption) | exact absurd h.2 (by omega)) (by intro h; first | exact absurd h.1 (by assumption) | exact absurd h.2 (by omega)) (by omega)) (by omega) hW (lv_sub hl [3, 4, 5, 6, 7, 8, 0] rfl)
                          · skip
                            have c_49 : ¬ n ≤ 1 := mt (nI_leI (by omega) (by omega)).mpr c_49
                            refine lv_iinc (v := nI (n - 1)) (lv' := [(5, .int (nI (n - 1))), (8, .int ((-(V (t + 1) k)) - (nI 2))), (7, .int (V (t + 1) k)), (4, .int (nI ta)), (3, .int (nI 0)), (0, .ref (ad t)), (1, .int (nI 0)), (2, .ref (ad no)), (6, .int (nI k))]) hx hb dX7_says_239 hl (k := 7) rfl (m_dec n 1 (by omega)) (by decide) rfl (fun ls hl => ?_)
                            refine lv_aload_n hx hb dX7_says_242 rfl (lv_at hl 5 rfl) ?_
                            refine m_getr S hW gt 4 rfl (j := (t + 2)) rfl kX7 (iW7 _) (by decide) (List.mem_cons_of_mem _ (wa_9 _ (List.mem_of_getElem? (i := 9) (by decide +kernel)))) dX7_says_243 ?_
                            refine lv_iload hx hb dX7_says_246 (lv_at hl 0 rfl) ?_
                            refine lv_iconst (v := nI 1) hx hb dX7_says_248 (by decide) ?_
                            refine lv_isub hx hb dX7_says_249 ?_
                            refine m_top (y := nI ((n - 1) - 1)) (pk_sub (by omega)) ?_
                            refine lv_iload hx hb dX7_says_250 (lv_at hl 2 rfl) ?_
                            refine lv_aload_n hx hb dX7_says_252 rfl (lv_at hl 5 rfl) ?_
                            refine m_getr S hW gt 4 rfl (j := (t + 2)) rfl kX7 (iW7 _) (by decide) (List.mem_cons_of_mem _ (wa_9 _ (List.mem_of_getElem? (i := 9) (by decide +kernel)))) dX7_says_253 ?_
                            refine lv_iload hx hb dX7_says_256 (lv_at hl 0 rfl) ?_
                            refine lv_iconst (v := nI 1) hx hb dX7_says_258 (by decide) ?_
                            refine lv_isub hx hb dX7_says_259 ?_
                            refine m_top (y := nI ((n - 1) - 1)) (pk_sub (by omega)) ?_
                            refine m_iald S hW gt2 ((n - 1) - 1) rfl (by omega) (by decide) dX7_says_260 ?_
                            refine m_top (y := (evX (V no) (V (t + 1)) 0 (k - 0)).2 (n - 1 - 1)) (hR.2 _ (by omega)) ?_
                            refine lv_aload_n hx hb dX7_says_261 rfl (lv_at hl 5 rfl) ?_
                            refine m_getr S hW gt 4 rfl (j := (t + 2)) rfl kX7 (iW7 _) (by decide) (List.mem_cons_of_mem _ (wa_9 _ (List.mem_of_getElem? (i := 9) (by decide +kernel)))) dX7_says_262 ?_
                            refine lv_iload hx hb dX7_says_265 (lv_at hl 0 rfl) ?_
                            refine m_iald S hW gt2 (n - 1) rfl (by omega) (by decide) dX7_says_267 ?_
                            refine m_top (y := (evX (V no) (V (t + 1)) 0 (k - 0)).2 (n - 1)) (hR.2 _ (by omega)) ?_
                            refine m_cie (m_rS S hW (c_X7_join l G ad sh1 V1 (V (t + 1) k) ((evX (V no) (V (t + 1)) 0 (k - 0)).2 (n - 1 - 1)) ((evX (V no) (V (t + 1)) 0 (k - 0)).2 (n - 1))) (va_cwS 3 hts (gCall [.methodLink RX7 34 yX7_join, .static yX7_join, .initialized RX7] (List.forall_mem_cons.mpr ⟨(wa_18 _ (List.mem_of_getElem? (i := 19) (by decide +kernel))), (List.forall_mem_cons.mpr ⟨(wa_18 _ (List.mem_of_getElem? (i := 17) (by decide +kernel))), (List.forall_mem_cons.mpr ⟨(wa_18 _ (List.mem_of_getElem? (i := 18) (by decide +kernel))), (List.forall_mem_cons.mpr ⟨(wa_9 _ (List.mem_of_getElem? (i := 4) (by decide +kernel))), (fun _ h => absurd h List.not_mem_nil)⟩)⟩)⟩)⟩)) rfl rfl rfl (by decide +kernel) ⟨Nat.le_of_ble_eq_true rfl, Nat.le_of_ble_eq_true rfl⟩) rfl hl.1 rfl (Nat.le_of_ble_eq_true rfl) dX7_says_268 ⟨Nat.le_of_ble_eq_true rfl, Nat.le_of_ble_eq_true rfl⟩) hW (fun H locs hW => ?_)
                            refine m_iast S hW gt2 ((n - 1) - 1) rfl (by omega) (by decide) dX7_says_271 (fun H locs hW => ?_)
                            obtain ⟨V_50, eV_50⟩ : ∃ z : mV, z = mU V1 (t + 2) ((n - 1) - 1) (fJoin (V (t + 1) k) ((evX (V no) (V (t + 1)) 0 (k - 0)).2 (n - 1 - 1)) ((evX (V no) (V (t + 1)) 0 (k - 0)).2 (n - 1))) := ⟨_, rfl⟩
                            rw [← eV_50] at hW
                            refine lv_iinc (v := nI (k + 1)) (lv' := [(6, .int (nI (k + 1))), (5, .int (nI (n - 1))), (8, .int ((-(V (t + 1) k)) - (nI 2))), (7, .int (V (t + 1) k)), (4, .int (nI ta)), (3, .int (nI 0)), (0, .ref (ad t)), (1, .int (nI 0)), (2, .ref (ad no))]) hx hb dX7_says_272 hl (k := 8) rfl (m_inc k 1) (by decide) rfl (fun ls hl => ?_)
                            refine lv_goto (tgt := 61) hx hb dX7_says_275 (by decide) ?_
                            exact ih_61  (n - 1) (k + 1) V_50 _ _ _ (by omega) (by omega) (by intro a ha; rw [eV_50, mU_no _ _ ha]; exact hfr a ha) (by first | (exfalso; omega) | skip; rw [eV_50, mU_row, evX_s (by omega)]; first | exact hR.push (by first | exact Int32.not_lt.mp (by assumption) | assumption) (by omega) | exact hR.nm (by intro h; first | exact absurd h.1 (Int32.not_le.mpr (by assumption)) | exact absurd h.2 (by omega)) (by assumption) (by omega) eix hix | exact hR.nt0 (by intro h; first | exact absurd h.1 (Int32.not_le.mpr (by assumption)) | exact absurd h.2 (by omega)) (by intro h; first | exact absurd h.1 (by assumption) | exact absurd h.2 (by omega)) (by assumption) (by omega) (by assumption) | exact hR.nt1 (by intro h; first | exact absurd h.1 (Int32.not_le.mpr (by assumption)) | exact absurd h.2 (by omega)) (by intro h; first | exact absurd h.1 (by assumption) | exact absurd h.2 (by omega)) (by assumption) (by omega) (by assumption) | exact hR.ng (by intro h; first | exact absurd h.1 (Int32.not_le.mpr (by assumption)) | exact absurd h.2 (by omega)) (by intro h; first | exact absurd h.1 (by assumption) | exact absurd h.2 (by omega)) (by assumption) (by omega) | exact hR.jn (by intro h; first | exact absurd h.1 (Int32.not_le.mpr (by assumption)) | exact absurd h.2 (by omega)) (by intro h; first | exact absurd h.1 (by assumption) | exact absurd h.2 (by omega)) (by intro h; first | exact absurd h.1 (by assumption) | exact absurd h.2 (by omega)) (by intro h; first | exact absurd h.1 (by assumption) | exact absurd h.2 (by omega)) (by omega)) (by omega) hW (lv_sub hl [4, 5, 6, 7, 8, 1, 0] rfl)
                        · skip
                          refine lv_iload hx hb dX7_says_206 (lv_at hl 7 rfl) ?_
                          refine m_if_le (tgt := 233) hx hb dX7_says_208 (by decide) (fun c_51 => ?_) (fun c_51 => ?_)
                          · skip
                            have c_51 : n ≤ 0 := (nI_leI (by omega) (by omega)).mp c_51
                            refine lv_iload hx hb dX7_says_233 (lv_at hl 7 rfl) ?_
                            refine lv_iconst (v := nI 1) hx hb dX7_says_235 (by decide) ?_
                            refine lv_icmp_le (tgt := 272) hx hb dX7_says_236 (by decide) (fun c_52 => ?_) (fun c_52 => ?_)
                            · skip
                              have c_52 : n ≤ 1 := (nI_leI (by omega) (by omega)).mp c_52
                              refine lv_iinc (v := nI (k + 1)) (lv' := [(6, .int (nI (k + 1))), (8, .int ((-(V (t + 1) k)) - (nI 2))), (7, .int (V (t + 1) k)), (4, .int (nI ta)), (3, .int (nI 0)), (0, .ref (ad t)), (1, .int (nI 0)), (2, .ref (ad no)), (5, .int (nI n))]) hx hb dX7_says_272 hl (k := 8) rfl (m_inc k 1) (by decide) rfl (fun ls hl => ?_)
                              refine lv_goto (tgt := 61) hx hb dX7_says_275 (by decide) ?_
                              exact ih_61  n (k + 1) V1 _ _ _ (by omega) (by omega) (by exact hfr) (by rw [evX_s (by omega)]; exact hR.no (by intro h; first | exact absurd h.1 (Int32.not_le.mpr (by assumption)) | exact absurd h.2 (by omega)) (by intro h; first | exact absurd h.1 (by assumption) | exact absurd h.2 (by omega)) (by intro h; first | exact absurd h.1 (by assumption) | exact absurd h.2 (by omega)) (by intro h; first | exact absurd h.1 (by assumption) | exact absurd h.2 (by omega)) (by omega)) (by omega) hW (lv_sub hl [3, 4, 5, 6, 7, 8, 0] rfl)
                            · skip
                              have c_52 : ¬ n ≤ 1 := mt (nI_leI (by omega) (by omega)).mpr c_52
                              refine lv_iinc (v := nI (n - 1)) (lv' := [(5, .int (nI (n - 1))), (8, .int ((-(V (t + 1) k)) - (nI 2))), (7, .int (V (t + 1) k)), (4, .int (nI ta)), (3, .int (nI 0)), (0, .ref (ad t)), (1, .int (nI 0)), (2, .ref (ad no)), (6, .int (nI k))]) hx hb dX7_says_239 hl (k := 7) rfl (m_dec n 1 (by omega)) (by decide) rfl (fun ls hl => ?_)
                              refine lv_aload_n hx hb dX7_says_242 rfl (lv_at hl 5 rfl) ?_
                              refine m_getr S hW gt 4 rfl (j := (t + 2)) rfl kX7 (iW7 _) (by decide) (List.mem_cons_of_mem _ (wa_9 _ (List.mem_of_getElem? (i := 9) (by decide +kernel)))) dX7_says_243 ?_
                              refine lv_iload hx hb dX7_says_246 (lv_at hl 0 rfl) ?_
                              refine lv_iconst (v := nI 1) hx hb dX7_says_248 (by decide) ?_
                              refine lv_isub hx hb dX7_says_249 ?_
                              refine m_top (y := nI ((n - 1) - 1)) (pk_sub (by omega)) ?_
                              refine lv_iload hx hb dX7_says_250 (lv_at hl 2 rfl) ?_
                              refine lv_aload_n hx hb dX7_says_252 rfl (lv_at hl 5 rfl) ?_
                              refine m_getr S hW gt 4 rfl (j := (t + 2)) rfl kX7 (iW7 _) (by decide) (List.mem_cons_of_mem _ (wa_9 _ (List.mem_of_getElem? (i := 9) (by decide +kernel)))) dX7_says_253 ?_
                              refine lv_iload hx hb dX7_says_256 (lv_at hl 0 rfl) ?_
                              refine lv_iconst (v := nI 1) hx hb dX7_says_258 (by decide) ?_
                              refine lv_isub hx hb dX7_says_259 ?_
                              refine m_top (y := nI ((n - 1) - 1)) (pk_sub (by omega)) ?_
                              refine m_iald S hW gt2 ((n - 1) - 1) rfl (by omega) (by decide) dX7_says_260 ?_
                              refine m_top (y := (evX (V no) (V (t + 1)) 0 (k - 0)).2 (n - 1 - 1)) (hR.2 _ (by omega)) ?_
                              refine lv_aload_n hx hb dX7_says_261 rfl (lv_at hl 5 rfl) ?_
                              refine m_getr S hW gt 4 rfl (j := (t + 2)) rfl kX7 (iW7 _) (by decide) (List.mem_cons_of_mem _ (wa_9 _ (List.mem_of_getElem? (i := 9) (by decide +kernel)))) dX7_says_262 ?_
                              refine lv_iload hx hb dX7_says_265 (lv_at hl 0 rfl) ?_
                              refine m_iald S hW gt2 (n - 1) rfl (by omega) (by decide) dX7_says_267 ?_
                              refine m_top (y := (evX (V no) (V (t + 1)) 0 (k - 0)).2 (n - 1)) (hR.2 _ (by omega)) ?_
                              refine m_cie (m_rS S hW (c_X7_join l G ad sh1 V1 (V (t + 1) k) ((evX (V no) (V (t + 1)) 0 (k - 0)).2 (n - 1 - 1)) ((evX (V no) (V (t + 1)) 0 (k - 0)).2 (n - 1))) (va_cwS 3 hts (gCall [.methodLink RX7 34 yX7_join, .static yX7_join, .initialized RX7] (List.forall_mem_cons.mpr ⟨(wa_18 _ (List.mem_of_getElem? (i := 19) (by decide +kernel))), (List.forall_mem_cons.mpr ⟨(wa_18 _ (List.mem_of_getElem? (i := 17) (by decide +kernel))), (List.forall_mem_cons.mpr ⟨(wa_18 _ (List.mem_of_getElem? (i := 18) (by decide +kernel))), (List.forall_mem_cons.mpr ⟨(wa_9 _ (List.mem_of_getElem? (i := 4) (by decide +kernel))), (fun _ h => absurd h List.not_mem_nil)⟩)⟩)⟩)⟩)) rfl rfl rfl (by decide +kernel) ⟨Nat.le_of_ble_eq_true rfl, Nat.le_of_ble_eq_true rfl⟩) rfl hl.1 rfl (Nat.le_of_ble_eq_true rfl) dX7_says_268 ⟨Nat.le_of_ble_eq_true rfl, Nat.le_of_ble_eq_true rfl⟩) hW (fun H locs hW => ?_)
                              refine m_iast S hW gt2 ((n - 1) - 1) rfl (by omega) (by decide) dX7_says_271 (fun H locs hW => ?_)
                              obtain ⟨V_53, eV_53⟩ : ∃ z : mV, z = mU V1 (t + 2) ((n - 1) - 1) (fJoin (V (t + 1) k) ((evX (V no) (V (t + 1)) 0 (k - 0)).2 (n - 1 - 1)) ((evX (V no) (V (t + 1)) 0 (k - 0)).2 (n - 1))) := ⟨_, rfl⟩
                              rw [← eV_53] at hW
                              refine lv_iinc (v := nI (k + 1)) (lv' := [(6, .int (nI (k + 1))), (5, .int (nI (n - 1))), (8, .int ((-(V (t + 1) k)) - (nI 2))), (7, .int (V (t + 1) k)), (4, .int (nI ta)), (3, .int (nI 0)), (0, .ref (ad t)), (1, .int (nI 0)), (2, .ref (ad no))]) hx hb dX7_says_272 hl (k := 8) rfl (m_inc k 1) (by decide) rfl (fun ls hl => ?_)
                              refine lv_goto (tgt := 61) hx hb dX7_says_275 (by decide) ?_
                              exact ih_61  (n - 1) (k + 1) V_53 _ _ _ (by omega) (by omega) (by intro a ha; rw [eV_53, mU_no _ _ ha]; exact hfr a ha) (by first | (exfalso; omega) | skip; rw [eV_53, mU_row, evX_s (by omega)]; first | exact hR.push (by first | exact Int32.not_lt.mp (by assumption) | assumption) (by omega) | exact hR.nm (by intro h; first | exact absurd h.1 (Int32.not_le.mpr (by assumption)) | exact absurd h.2 (by omega)) (by assumption) (by omega) eix hix | exact hR.nt0 (by intro h; first | exact absurd h.1 (Int32.not_le.mpr (by assumption)) | exact absurd h.2 (by omega)) (by intro h; first | exact absurd h.1 (by assumption) | exact absurd h.2 (by omega)) (by assumption) (by omega) (by assumption) | exact hR.nt1 (by intro h; first | exact absurd h.1 (Int32.not_le.mpr (by assumption)) | exact absurd h.2 (by omega)) (by intro h; first | exact absurd h.1 (by assumption) | exact absurd h.2 (by omega)) (by assumption) (by omega) (by assumption) | exact hR.ng (by intro h; first | exact absurd h.1 (Int32.not_le.mpr (by assumption)) | exact absurd h.2 (by omega)) (by intro h; first | exact absurd h.1 (by assumption) | exact absurd h.2 (by omega)) (by assumption) (by omega) | exact hR.jn (by intro h; first | exact absurd h.1 (Int32.not_le.mpr (by assumption)) | exact absurd h.2 (by omega)) (by intro h; first | exact absurd h.1 (by assumption) | exact absurd h.2 (by omega)) (by intro h; first | exact absurd h.1 (by assumption) | exact absurd h.2 (by omega)) (by intro h; first | exact absurd h.1 (by assumption) | exact absurd h.2 (by omega)) (by omega)) (by omega) hW (lv_sub hl [4, 5, 6, 7, 8, 1, 0] rfl)
                          · skip
                            have c_51 : ¬ n ≤ 0 := mt (nI_leI (by omega) (by omega)).mpr c_51
                            refine lv_aload_n hx hb dX7_says_211 rfl (lv_at hl 4 rfl) ?_
                            refine m_getr S hW gt 4 rfl (j := (t + 2)) rfl kX7 (iW7 _) (by decide) (List.mem_cons_of_mem _ (wa_9 _ (List.mem_of_getElem? (i := 9) (by decide +kernel)))) dX7_says_212 ?_
                            refine lv_iload hx hb dX7_says_215 (lv_at hl 7 rfl) ?_
                            refine lv_iconst (v := nI 1) hx hb dX7_says_217 (by decide) ?_
                            refine lv_isub hx hb dX7_says_218 ?_
                            refine m_top (y := nI (n - 1)) (pk_sub (by omega)) ?_
                            refine lv_aload_n hx hb dX7_says_219 rfl (lv_at hl 4 rfl) ?_
                            refine m_getr S hW gt 4 rfl (j := (t + 2)) rfl kX7 (iW7 _) (by decide) (List.mem_cons_of_mem _ (wa_9 _ (List.mem_of_getElem? (i := 9) (by decide +kernel)))) dX7_says_220 ?_
                            refine lv_iload hx hb dX7_says_223 (lv_at hl 7 rfl) ?_
                            refine lv_iconst (v := nI 1) hx hb dX7_says_225 (by decide) ?_
                            refine lv_isub hx hb dX7_says_226 ?_
                            refine m_top (y := nI (n - 1)) (pk_sub (by omega)) ?_
                            refine m_iald S hW gt2 (n - 1) rfl (by omega) (by decide) dX7_says_227 ?_
                            refine m_top (y := (evX (V no) (V (t + 1)) 0 (k - 0)).2 (n - 1)) (hR.2 _ (by omega)) ?_
                            refine lv_ineg hx hb dX7_says_228 ?_
                            refine m_iast S hW gt2 (n - 1) rfl (by omega) (by decide) dX7_says_229 (fun H locs hW => ?_)
                            obtain ⟨V_54, eV_54⟩ : ∃ z : mV, z = mU V1 (t + 2) (n - 1) ((-((evX (V no) (V (t + 1)) 0 (k - 0)).2 (n - 1)))) := ⟨_, rfl⟩
                            rw [← eV_54] at hW
                            refine lv_goto (tgt := 272) hx hb dX7_says_230 (by decide) ?_
                            refine lv_iinc (v := nI (k + 1)) (lv' := [(6, .int (nI (k + 1))), (8, .int ((-(V (t + 1) k)) - (nI 2))), (7, .int (V (t + 1) k)), (4, .int (nI ta)), (3, .int (nI 0)), (0, .ref (ad t)), (1, .int (nI 0)), (2, .ref (ad no)), (5, .int (nI n))]) hx hb dX7_says_272 hl (k := 8) rfl (m_inc k 1) (by decide) rfl (fun ls hl => ?_)
                            refine lv_goto (tgt := 61) hx hb dX7_says_275 (by decide) ?_
                            exact ih_61  n (k + 1) V_54 _ _ _ (by omega) (by omega) (by intro a ha; rw [eV_54, mU_no _ _ ha]; exact hfr a ha) (by first | (exfalso; omega) | skip; rw [eV_54, mU_row, evX_s (by omega)]; first | exact hR.push (by first | exact Int32.not_lt.mp (by assumption) | assumption) (by omega) | exact hR.nm (by intro h; first | exact absurd h.1 (Int32.not_le.mpr (by assumption)) | exact absurd h.2 (by omega)) (by assumption) (by omega) eix hix | exact hR.nt0 (by intro h; first | exact absurd h.1 (Int32.not_le.mpr (by assumption)) | exact absurd h.2 (by omega)) (by intro h; first | exact absurd h.1 (by assumption) | exact absurd h.2 (by omega)) (by assumption) (by omega) (by assumption) | exact hR.nt1 (by intro h; first | exact absurd h.1 (Int32.not_le.mpr (by assumption)) | exact absurd h.2 (by omega)) (by intro h; first | exact absurd h.1 (by assumption) | exact absurd h.2 (by omega)) (by assumption) (by omega) (by assumption) | exact hR.ng (by intro h; first | exact absurd h.1 (Int32.not_le.mpr (by assumption)) | exact absurd h.2 (by omega)) (by intro h; first | exact absurd h.1 (by assumption) | exact absurd h.2 (by omega)) (by assumption) (by omega) | exact hR.jn (by intro h; first | exact absurd h.1 (Int32.not_le.mpr (by assumption)) | exact absurd h.2 (by omega)) (by intro h; first | exact absurd h.1 (by assumption) | exact absurd h.2 (by omega)) (by intro h; first | exact absurd h.1 (by assumption) | exact absurd h.2 (by omega)) (by intro h; first | exact absurd h.1 (by assumption) | exact absurd h.2 (by omega)) (by omega)) (by omega) hW (lv_sub hl [3, 4, 5, 6, 7, 8, 0] rfl)
                      · skip
                        have c_47 : ¬ n ≤ 0 := mt (nI_leI (by omega) (by omega)).mpr c_47
                        refine lv_aload_n hx hb dX7_says_170 rfl (lv_at hl 4 rfl) ?_
                        refine m_getr S hW gt 4 rfl (j := (t + 2)) rfl kX7 (iW7 _) (by decide) (List.mem_cons_of_mem _ (wa_9 _ (List.mem_of_getElem? (i := 9) (by decide +kernel)))) dX7_says_171 ?_
                        refine lv_iload hx hb dX7_says_174 (lv_at hl 7 rfl) ?_
                        refine lv_iconst (v := nI 1) hx hb dX7_says_176 (by decide) ?_
                        refine lv_isub hx hb dX7_says_177 ?_
                        refine m_top (y := nI (n - 1)) (pk_sub (by omega)) ?_
                        refine lv_aload_n hx hb dX7_says_178 rfl (lv_at hl 4 rfl) ?_
                        refine m_getr S hW gt 4 rfl (j := (t + 2)) rfl kX7 (iW7 _) (by decide) (List.mem_cons_of_mem _ (wa_9 _ (List.mem_of_getElem? (i := 9) (by decide +kernel)))) dX7_says_179 ?_
                        refine lv_iload hx hb dX7_says_182 (lv_at hl 7 rfl) ?_
                        refine lv_iconst (v := nI 1) hx hb dX7_says_184 (by decide) ?_
                        refine lv_isub hx hb dX7_says_185 ?_
                        refine m_top (y := nI (n - 1)) (pk_sub (by omega)) ?_
                        refine m_iald S hW gt2 (n - 1) rfl (by omega) (by decide) dX7_says_186 ?_
                        refine m_top (y := (evX (V no) (V (t + 1)) 0 (k - 0)).2 (n - 1)) (hR.2 _ (by omega)) ?_
                        refine m_if_ne (tgt := 194) hx hb dX7_says_187 (by decide) (fun c_55 => ?_) (fun c_55 => ?_)
                        · skip
                          refine lv_iconst (v := nI 0) hx hb dX7_says_194 (by decide) ?_
                          refine m_iast S hW gt2 (n - 1) rfl (by omega) (by decide) dX7_says_195 (fun H locs hW => ?_)
                          obtain ⟨V_56, eV_56⟩ : ∃ z : mV, z = mU V1 (t + 2) (n - 1) (nI 0) := ⟨_, rfl⟩
                          rw [← eV_56] at hW
                          refine lv_goto (tgt := 272) hx hb dX7_says_196 (by decide) ?_
                          refine lv_iinc (v := nI (k + 1)) (lv' := [(6, .int (nI (k + 1))), (8, .int ((-(V (t + 1) k)) - (nI 2))), (7, .int (V (t + 1) k)), (4, .int (nI ta)), (3, .int (nI 0)), (0, .ref (ad t)), (1, .int (nI 0)), (2, .ref (ad no)), (5, .int (nI n))]) hx hb dX7_says_272 hl (k := 8) rfl (m_inc k 1) (by decide) rfl (fun ls hl => ?_)
                          refine lv_goto (tgt := 61) hx hb dX7_says_275 (by decide) ?_
                          exact ih_61  n (k + 1) V_56 _ _ _ (by omega) (by omega) (by intro a ha; rw [eV_56, mU_no _ _ ha]; exact hfr a ha) (by first | (exfalso; omega) | skip; rw [eV_56, mU_row, evX_s (by omega)]; first | exact hR.push (by first | exact Int32.not_lt.mp (by assumption) | assumption) (by omega) | exact hR.nm (by intro h; first | exact absurd h.1 (Int32.not_le.mpr (by assumption)) | exact absurd h.2 (by omega)) (by assumption) (by omega) eix hix | exact hR.nt0 (by intro h; first | exact absurd h.1 (Int32.not_le.mpr (by assumption)) | exact absurd h.2 (by omega)) (by intro h; first | exact absurd h.1 (by assumption) | exact absurd h.2 (by omega)) (by assumption) (by omega) (by assumption) | exact hR.nt1 (by intro h; first | exact absurd h.1 (Int32.not_le.mpr (by assumption)) | exact absurd h.2 (by omega)) (by intro h; first | exact absurd h.1 (by assumption) | exact absurd h.2 (by omega)) (by assumption) (by omega) (by assumption) | exact hR.ng (by intro h; first | exact absurd h.1 (Int32.not_le.mpr (by assumption)) | exact absurd h.2 (by omega)) (by intro h; first | exact absurd h.1 (by assumption) | exact absurd h.2 (by omega)) (by assumption) (by omega) | exact hR.jn (by intro h; first | exact absurd h.1 (Int32.not_le.mpr (by assumption)) | exact absurd h.2 (by omega)) (by intro h; first | exact absurd h.1 (by assumption) | exact absurd h.2 (by omega)) (by intro h; first | exact absurd h.1 (by assumption) | exact absurd h.2 (by omega)) (by intro h; first | exact absurd h.1 (by assumption) | exact absurd h.2 (by omega)) (by omega)) (by omega) hW (lv_sub hl [3, 4, 5, 6, 7, 8, 0] rfl)
                        · skip
                          refine lv_iconst (v := nI 1) hx hb dX7_says_190 (by decide) ?_
                          refine lv_goto (tgt := 195) hx hb dX7_says_191 (by decide) ?_
                          refine m_iast S hW gt2 (n - 1) rfl (by omega) (by decide) dX7_says_195 (fun H locs hW => ?_)
                          obtain ⟨V_57, eV_57⟩ : ∃ z : mV, z = mU V1 (t + 2) (n - 1) (nI 1) := ⟨_, rfl⟩
                          rw [← eV_57] at hW
                          refine lv_goto (tgt := 272) hx hb dX7_says_196 (by decide) ?_
                          refine lv_iinc (v := nI (k + 1)) (lv' := [(6, .int (nI (k + 1))), (8, .int ((-(V (t + 1) k)) - (nI 2))), (7, .int (V (t + 1) k)), (4, .int (nI ta)), (3, .int (nI 0)), (0, .ref (ad t)), (1, .int (nI 0)), (2, .ref (ad no)), (5, .int (nI n))]) hx hb dX7_says_272 hl (k := 8) rfl (m_inc k 1) (by decide) rfl (fun ls hl => ?_)
                          refine lv_goto (tgt := 61) hx hb dX7_says_275 (by decide) ?_
                          exact ih_61  n (k + 1) V_57 _ _ _ (by omega) (by omega) (by intro a ha; rw [eV_57, mU_no _ _ ha]; exact hfr a ha) (by first | (exfalso; omega) | skip; rw [eV_57, mU_row, evX_s (by omega)]; first | exact hR.push (by first | exact Int32.not_lt.mp (by assumption) | assumption) (by omega) | exact hR.nm (by intro h; first | exact absurd h.1 (Int32.not_le.mpr (by assumption)) | exact absurd h.2 (by omega)) (by assumption) (by omega) eix hix | exact hR.nt0 (by intro h; first | exact absurd h.1 (Int32.not_le.mpr (by assumption)) | exact absurd h.2 (by omega)) (by intro h; first | exact absurd h.1 (by assumption) | exact absurd h.2 (by omega)) (by assumption) (by omega) (by assumption) | exact hR.nt1 (by intro h; first | exact absurd h.1 (Int32.not_le.mpr (by assumption)) | exact absurd h.2 (by omega)) (by intro h; first | exact absurd h.1 (by assumption) | exact absurd h.2 (by omega)) (by assumption) (by omega) (by assumption) | exact hR.ng (by intro h; first | exact absurd h.1 (Int32.not_le.mpr (by assumption)) | exact absurd h.2 (by omega)) (by intro h; first | exact absurd h.1 (by assumption) | exact absurd h.2 (by omega)) (by assumption) (by omega) | exact hR.jn (by intro h; first | exact absurd h.1 (Int32.not_le.mpr (by assumption)) | exact absurd h.2 (by omega)) (by intro h; first | exact absurd h.1 (by assumption) | exact absurd h.2 (by omega)) (by intro h; first | exact absurd h.1 (by assumption) | exact absurd h.2 (by omega)) (by intro h; first | exact absurd h.1 (by assumption) | exact absurd h.2 (by omega)) (by omega)) (by omega) hW (lv_sub hl [3, 4, 5, 6, 7, 8, 0] rfl)
                  · exact absurd c_38 (by decide)
              · skip
                refine lv_iload hx hb dX7_says_99 (lv_at hl 7 rfl) ?_
                refine lv_bipush (v := nI 32) hx hb dX7_says_101 (by decide) ?_
                refine lv_icmp_ge (tgt := 121) hx hb dX7_says_103 (by decide) (fun c_58 => ?_) (fun c_58 => ?_)
                · skip
                  have c_58 : 32 ≤ n := (nI_leI (by omega) (by omega)).mp c_58
                  refine lv_iload hx hb dX7_says_121 (lv_at hl 0 rfl) ?_
                  refine lv_iconst (v := nI 0) hx hb dX7_says_123 (by decide) ?_
                  refine lv_aload_n hx hb dX7_says_124 rfl (lv_at hl 6 rfl) ?_
                  refine m_alen S hW gn dX7_says_125 ?_
                  refine lv_iconst (v := nI 1) hx hb dX7_says_126 (by decide) ?_
                  refine lv_isub hx hb dX7_says_127 ?_
                  refine m_cip (m_rSN S hW (c_X10_within_c l G ad sh1 V1 ((-(V (t + 1) k)) - (nI 2)) ((nI 6) - (nI 1)) 6 (by exact pk_sub_toInt (by omega) (by decide))) ⟨va_cnB 3 hts (gCall [] (List.forall_mem_cons.mpr ⟨(wa_8 _ (List.mem_of_getElem? (i := 17) (by decide +kernel))), (fun _ h => absurd h List.not_mem_nil)⟩)) rfl rfl rfl (hW.2.2.2.2.2.1 _ (List.mem_of_getElem? (i := 9) rfl)) (hts (.initialized RX10) (List.mem_cons_of_mem _ (wa_1 _ (List.mem_of_getElem? (i := 2) (by decide +kernel))))) (by decide +kernel) ⟨Nat.le_of_ble_eq_true rfl, Nat.le_of_ble_eq_true rfl⟩, hts (.static yX10_within) (List.mem_cons_of_mem _ (wa_8 _ (List.mem_of_getElem? (i := 16) (by decide +kernel)))), trivial⟩ rfl hl.1 rfl (Nat.le_of_ble_eq_true rfl) dX7_says_128 ⟨Nat.le_of_ble_eq_true rfl, Nat.le_of_ble_eq_true rfl⟩) hW (fun r_60 H locs hp_59 hW => ?_)
                  rcases hp_59 with ⟨rfl, w_61⟩ | ⟨rfl, w_62⟩
                  · skip
                    refine m_if_eq (tgt := 158) hx hb dX7_says_131 (by decide) (fun c_63 => ?_) (fun c_63 => ?_)
                    · exact absurd c_63 (by decide)
                    · skip
                      refine lv_iload hx hb dX7_says_134 (lv_at hl 7 rfl) ?_
                      refine lv_bipush (v := nI 32) hx hb dX7_says_136 (by decide) ?_
                      refine lv_icmp_ge (tgt := 158) hx hb dX7_says_138 (by decide) (fun c_64 => ?_) (fun c_64 => ?_)
                      · skip
                        have c_64 : 32 ≤ n := (nI_leI (by omega) (by omega)).mp c_64
                        refine lv_iload hx hb dX7_says_158 (lv_at hl 1 rfl) ?_
                        refine lv_bipush (v := -13) hx hb dX7_says_160 (by decide) ?_
                        refine lv_icmp_ne (tgt := 199) hx hb dX7_says_162 (by decide) (fun c_65 => ?_) (fun c_65 => ?_)
                        · skip
                          refine lv_iload hx hb dX7_says_199 (lv_at hl 1 rfl) ?_
                          refine lv_bipush (v := -14) hx hb dX7_says_201 (by decide) ?_
                          refine lv_icmp_ne (tgt := 233) hx hb dX7_says_203 (by decide) (fun c_66 => ?_) (fun c_66 => ?_)
                          · skip
                            refine lv_iload hx hb dX7_says_233 (lv_at hl 7 rfl) ?_
                            refine lv_iconst (v := nI 1) hx hb dX7_says_235 (by decide) ?_
                            refine lv_icmp_le (tgt := 272) hx hb dX7_says_236 (by decide) (fun c_67 => ?_) (fun c_67 => ?_)
                            · skip
                              have c_67 : n ≤ 1 := (nI_leI (by omega) (by omega)).mp c_67
                              refine lv_iinc (v := nI (k + 1)) (lv' := [(6, .int (nI (k + 1))), (8, .int ((-(V (t + 1) k)) - (nI 2))), (7, .int (V (t + 1) k)), (4, .int (nI ta)), (3, .int (nI 0)), (0, .ref (ad t)), (1, .int (nI 0)), (2, .ref (ad no)), (5, .int (nI n))]) hx hb dX7_says_272 hl (k := 8) rfl (m_inc k 1) (by decide) rfl (fun ls hl => ?_)
                              refine lv_goto (tgt := 61) hx hb dX7_says_275 (by decide) ?_
                              exact ih_61  n (k + 1) V1 _ _ _ (by omega) (by omega) (by exact hfr) (by rw [evX_s (by omega)]; exact hR.no (by intro h; first | exact absurd h.1 (Int32.not_le.mpr (by assumption)) | exact absurd h.2 (by omega)) (by intro h; first | exact absurd h.1 (by assumption) | exact absurd h.2 (by omega)) (by intro h; first | exact absurd h.1 (by assumption) | exact absurd h.2 (by omega)) (by intro h; first | exact absurd h.1 (by assumption) | exact absurd h.2 (by omega)) (by omega)) (by omega) hW (lv_sub hl [3, 4, 5, 6, 7, 8, 0] rfl)
                            · skip
                              have c_67 : ¬ n ≤ 1 := mt (nI_leI (by omega) (by omega)).mpr c_67
                              refine lv_iinc (v := nI (n - 1)) (lv' := [(5, .int (nI (n - 1))), (8, .int ((-(V (t + 1) k)) - (nI 2))), (7, .int (V (t + 1) k)), (4, .int (nI ta)), (3, .int (nI 0)), (0, .ref (ad t)), (1, .int (nI 0)), (2, .ref (ad no)), (6, .int (nI k))]) hx hb dX7_says_239 hl (k := 7) rfl (m_dec n 1 (by omega)) (by decide) rfl (fun ls hl => ?_)
                              refine lv_aload_n hx hb dX7_says_242 rfl (lv_at hl 5 rfl) ?_
                              refine m_getr S hW gt 4 rfl (j := (t + 2)) rfl kX7 (iW7 _) (by decide) (List.mem_cons_of_mem _ (wa_9 _ (List.mem_of_getElem? (i := 9) (by decide +kernel)))) dX7_says_243 ?_
                              refine lv_iload hx hb dX7_says_246 (lv_at hl 0 rfl) ?_
                              refine lv_iconst (v := nI 1) hx hb dX7_says_248 (by decide) ?_
                              refine lv_isub hx hb dX7_says_249 ?_
                              refine m_top (y := nI ((n - 1) - 1)) (pk_sub (by omega)) ?_
                              refine lv_iload hx hb dX7_says_250 (lv_at hl 2 rfl) ?_
                              refine lv_aload_n hx hb dX7_says_252 rfl (lv_at hl 5 rfl) ?_
                              refine m_getr S hW gt 4 rfl (j := (t + 2)) rfl kX7 (iW7 _) (by decide) (List.mem_cons_of_mem _ (wa_9 _ (List.mem_of_getElem? (i := 9) (by decide +kernel)))) dX7_says_253 ?_
                              refine lv_iload hx hb dX7_says_256 (lv_at hl 0 rfl) ?_
                              refine lv_iconst (v := nI 1) hx hb dX7_says_258 (by decide) ?_
                              refine lv_isub hx hb dX7_says_259 ?_
                              refine m_top (y := nI ((n - 1) - 1)) (pk_sub (by omega)) ?_
                              refine m_iald S hW gt2 ((n - 1) - 1) rfl (by omega) (by decide) dX7_says_260 ?_
                              refine m_top (y := (evX (V no) (V (t + 1)) 0 (k - 0)).2 (n - 1 - 1)) (hR.2 _ (by omega)) ?_
                              refine lv_aload_n hx hb dX7_says_261 rfl (lv_at hl 5 rfl) ?_
                              refine m_getr S hW gt 4 rfl (j := (t + 2)) rfl kX7 (iW7 _) (by decide) (List.mem_cons_of_mem _ (wa_9 _ (List.mem_of_getElem? (i := 9) (by decide +kernel)))) dX7_says_262 ?_
                              refine lv_iload hx hb dX7_says_265 (lv_at hl 0 rfl) ?_
                              refine m_iald S hW gt2 (n - 1) rfl (by omega) (by decide) dX7_says_267 ?_
                              refine m_top (y := (evX (V no) (V (t + 1)) 0 (k - 0)).2 (n - 1)) (hR.2 _ (by omega)) ?_
                              refine m_cie (m_rS S hW (c_X7_join l G ad sh1 V1 (V (t + 1) k) ((evX (V no) (V (t + 1)) 0 (k - 0)).2 (n - 1 - 1)) ((evX (V no) (V (t + 1)) 0 (k - 0)).2 (n - 1))) (va_cwS 3 hts (gCall [.methodLink RX7 34 yX7_join, .static yX7_join, .initialized RX7] (List.forall_mem_cons.mpr ⟨(wa_18 _ (List.mem_of_getElem? (i := 19) (by decide +kernel))), (List.forall_mem_cons.mpr ⟨(wa_18 _ (List.mem_of_getElem? (i := 17) (by decide +kernel))), (List.forall_mem_cons.mpr ⟨(wa_18 _ (List.mem_of_getElem? (i := 18) (by decide +kernel))), (List.forall_mem_cons.mpr ⟨(wa_9 _ (List.mem_of_getElem? (i := 4) (by decide +kernel))), (fun _ h => absurd h List.not_mem_nil)⟩)⟩)⟩)⟩)) rfl rfl rfl (by decide +kernel) ⟨Nat.le_of_ble_eq_true rfl, Nat.le_of_ble_eq_true rfl⟩) rfl hl.1 rfl (Nat.le_of_ble_eq_true rfl) dX7_says_268 ⟨Nat.le_of_ble_eq_true rfl, Nat.le_of_ble_eq_true rfl⟩) hW (fun H locs hW => ?_)
                              refine m_iast S hW gt2 ((n - 1) - 1) rfl (by omega) (by decide) dX7_says_271 (fun H locs hW => ?_)
                              obtain ⟨V_68, eV_68⟩ : ∃ z : mV, z = mU V1 (t + 2) ((n - 1) - 1) (fJoin (V (t + 1) k) ((evX (V no) (V (t + 1)) 0 (k - 0)).2 (n - 1 - 1)) ((evX (V no) (V (t + 1)) 0 (k - 0)).2 (n - 1))) := ⟨_, rfl⟩
                              rw [← eV_68] at hW
                              refine lv_iinc (v := nI (k + 1)) (lv' := [(6, .int (nI (k + 1))), (5, .int (nI (n - 1))), (8, .int ((-(V (t + 1) k)) - (nI 2))), (7, .int (V (t + 1) k)), (4, .int (nI ta)), (3, .int (nI 0)), (0, .ref (ad t)), (1, .int (nI 0)), (2, .ref (ad no))]) hx hb dX7_says_272 hl (k := 8) rfl (m_inc k 1) (by decide) rfl (fun ls hl => ?_)
                              refine lv_goto (tgt := 61) hx hb dX7_says_275 (by decide) ?_
                              exact ih_61  (n - 1) (k + 1) V_68 _ _ _ (by omega) (by omega) (by intro a ha; rw [eV_68, mU_no _ _ ha]; exact hfr a ha) (by first | (exfalso; omega) | skip; rw [eV_68, mU_row, evX_s (by omega)]; first | exact hR.push (by first | exact Int32.not_lt.mp (by assumption) | assumption) (by omega) | exact hR.nm (by intro h; first | exact absurd h.1 (Int32.not_le.mpr (by assumption)) | exact absurd h.2 (by omega)) (by assumption) (by omega) eix hix | exact hR.nt0 (by intro h; first | exact absurd h.1 (Int32.not_le.mpr (by assumption)) | exact absurd h.2 (by omega)) (by intro h; first | exact absurd h.1 (by assumption) | exact absurd h.2 (by omega)) (by assumption) (by omega) (by assumption) | exact hR.nt1 (by intro h; first | exact absurd h.1 (Int32.not_le.mpr (by assumption)) | exact absurd h.2 (by omega)) (by intro h; first | exact absurd h.1 (by assumption) | exact absurd h.2 (by omega)) (by assumption) (by omega) (by assumption) | exact hR.ng (by intro h; first | exact absurd h.1 (Int32.not_le.mpr (by assumption)) | exact absurd h.2 (by omega)) (by intro h; first | exact absurd h.1 (by assumption) | exact absurd h.2 (by omega)) (by assumption) (by omega) | exact hR.jn (by intro h; first | exact absurd h.1 (Int32.not_le.mpr (by assumption)) | exact absurd h.2 (by omega)) (by intro h; first | exact absurd h.1 (by assumption) | exact absurd h.2 (by omega)) (by intro h; first | exact absurd h.1 (by assumption) | exact absurd h.2 (by omega)) (by intro h; first | exact absurd h.1 (by assumption) | exact absurd h.2 (by omega)) (by omega)) (by omega) hW (lv_sub hl [4, 5, 6, 7, 8, 1, 0] rfl)
                          · skip
                            refine lv_iload hx hb dX7_says_206 (lv_at hl 7 rfl) ?_
                            refine m_if_le (tgt := 233) hx hb dX7_says_208 (by decide) (fun c_69 => ?_) (fun c_69 => ?_)
                            · skip
                              have c_69 : n ≤ 0 := (nI_leI (by omega) (by omega)).mp c_69
                              refine lv_iload hx hb dX7_says_233 (lv_at hl 7 rfl) ?_
                              refine lv_iconst (v := nI 1) hx hb dX7_says_235 (by decide) ?_
                              refine lv_icmp_le (tgt := 272) hx hb dX7_says_236 (by decide) (fun c_70 => ?_) (fun c_70 => ?_)
                              · skip
                                have c_70 : n ≤ 1 := (nI_leI (by omega) (by omega)).mp c_70
                                refine lv_iinc (v := nI (k + 1)) (lv' := [(6, .int (nI (k + 1))), (8, .int ((-(V (t + 1) k)) - (nI 2))), (7, .int (V (t + 1) k)), (4, .int (nI ta)), (3, .int (nI 0)), (0, .ref (ad t)), (1, .int (nI 0)), (2, .ref (ad no)), (5, .int (nI n))]) hx hb dX7_says_272 hl (k := 8) rfl (m_inc k 1) (by decide) rfl (fun ls hl => ?_)
                                refine lv_goto (tgt := 61) hx hb dX7_says_275 (by decide) ?_
                                exact ih_61  n (k + 1) V1 _ _ _ (by omega) (by omega) (by exact hfr) (by rw [evX_s (by omega)]; exact hR.no (by intro h; first | exact absurd h.1 (Int32.not_le.mpr (by assumption)) | exact absurd h.2 (by omega)) (by intro h; first | exact absurd h.1 (by assumption) | exact absurd h.2 (by omega)) (by intro h; first | exact absurd h.1 (by assumption) | exact absurd h.2 (by omega)) (by intro h; first | exact absurd h.1 (by assumption) | exact absurd h.2 (by omega)) (by omega)) (by omega) hW (lv_sub hl [3, 4, 5, 6, 7, 8, 0] rfl)
                              · skip
                                have c_70 : ¬ n ≤ 1 := mt (nI_leI (by omega) (by omega)).mpr c_70
                                refine lv_iinc (v := nI (n - 1)) (lv' := [(5, .int (nI (n - 1))), (8, .int ((-(V (t + 1) k)) - (nI 2))), (7, .int (V (t + 1) k)), (4, .int (nI ta)), (3, .int (nI 0)), (0, .ref (ad t)), (1, .int (nI 0)), (2, .ref (ad no)), (6, .int (nI k))]) hx hb dX7_says_239 hl (k := 7) rfl (m_dec n 1 (by omega)) (by decide) rfl (fun ls hl => ?_)
                                refine lv_aload_n hx hb dX7_says_242 rfl (lv_at hl 5 rfl) ?_
                                refine m_getr S hW gt 4 rfl (j := (t + 2)) rfl kX7 (iW7 _) (by decide) (List.mem_cons_of_mem _ (wa_9 _ (List.mem_of_getElem? (i := 9) (by decide +kernel)))) dX7_says_243 ?_
                                refine lv_iload hx hb dX7_says_246 (lv_at hl 0 rfl) ?_
                                refine lv_iconst (v := nI 1) hx hb dX7_says_248 (by decide) ?_
                                refine lv_isub hx hb dX7_says_249 ?_
                                refine m_top (y := nI ((n - 1) - 1)) (pk_sub (by omega)) ?_
                                refine lv_iload hx hb dX7_says_250 (lv_at hl 2 rfl) ?_
                                refine lv_aload_n hx hb dX7_says_252 rfl (lv_at hl 5 rfl) ?_
                                refine m_getr S hW gt 4 rfl (j := (t + 2)) rfl kX7 (iW7 _) (by decide) (List.mem_cons_of_mem _ (wa_9 _ (List.mem_of_getElem? (i := 9) (by decide +kernel)))) dX7_says_253 ?_
                                refine lv_iload hx hb dX7_says_256 (lv_at hl 0 rfl) ?_
                                refine lv_iconst (v := nI 1) hx hb dX7_says_258 (by decide) ?_
                                refine lv_isub hx hb dX7_says_259 ?_
                                refine m_top (y := nI ((n - 1) - 1)) (pk_sub (by omega)) ?_
                                refine m_iald S hW gt2 ((n - 1) - 1) rfl (by omega) (by decide) dX7_says_260 ?_
                                refine m_top (y := (evX (V no) (V (t + 1)) 0 (k - 0)).2 (n - 1 - 1)) (hR.2 _ (by omega)) ?_
                                refine lv_aload_n hx hb dX7_says_261 rfl (lv_at hl 5 rfl) ?_
                                refine m_getr S hW gt 4 rfl (j := (t + 2)) rfl kX7 (iW7 _) (by decide) (List.mem_cons_of_mem _ (wa_9 _ (List.mem_of_getElem? (i := 9) (by decide +kernel)))) dX7_says_262 ?_
                                refine lv_iload hx hb dX7_says_265 (lv_at hl 0 rfl) ?_
                                refine m_iald S hW gt2 (n - 1) rfl (by omega) (by decide) dX7_says_267 ?_
                                refine m_top (y := (evX (V no) (V (t + 1)) 0 (k - 0)).2 (n - 1)) (hR.2 _ (by omega)) ?_
                                refine m_cie (m_rS S hW (c_X7_join l G ad sh1 V1 (V (t + 1) k) ((evX (V no) (V (t + 1)) 0 (k - 0)).2 (n - 1 - 1)) ((evX (V no) (V (t + 1)) 0 (k - 0)).2 (n - 1))) (va_cwS 3 hts (gCall [.methodLink RX7 34 yX7_join, .static yX7_join, .initialized RX7] (List.forall_mem_cons.mpr ⟨(wa_18 _ (List.mem_of_getElem? (i := 19) (by decide +kernel))), (List.forall_mem_cons.mpr ⟨(wa_18 _ (List.mem_of_getElem? (i := 17) (by decide +kernel))), (List.forall_mem_cons.mpr ⟨(wa_18 _ (List.mem_of_getElem? (i := 18) (by decide +kernel))), (List.forall_mem_cons.mpr ⟨(wa_9 _ (List.mem_of_getElem? (i := 4) (by decide +kernel))), (fun _ h => absurd h List.not_mem_nil)⟩)⟩)⟩)⟩)) rfl rfl rfl (by decide +kernel) ⟨Nat.le_of_ble_eq_true rfl, Nat.le_of_ble_eq_true rfl⟩) rfl hl.1 rfl (Nat.le_of_ble_eq_true rfl) dX7_says_268 ⟨Nat.le_of_ble_eq_true rfl, Nat.le_of_ble_eq_true rfl⟩) hW (fun H locs hW => ?_)
                                refine m_iast S hW gt2 ((n - 1) - 1) rfl (by omega) (by decide) dX7_says_271 (fun H locs hW => ?_)
                                obtain ⟨V_71, eV_71⟩ : ∃ z : mV, z = mU V1 (t + 2) ((n - 1) - 1) (fJoin (V (t + 1) k) ((evX (V no) (V (t + 1)) 0 (k - 0)).2 (n - 1 - 1)) ((evX (V no) (V (t + 1)) 0 (k - 0)).2 (n - 1))) := ⟨_, rfl⟩
                                rw [← eV_71] at hW
                                refine lv_iinc (v := nI (k + 1)) (lv' := [(6, .int (nI (k + 1))), (5, .int (nI (n - 1))), (8, .int ((-(V (t + 1) k)) - (nI 2))), (7, .int (V (t + 1) k)), (4, .int (nI ta)), (3, .int (nI 0)), (0, .ref (ad t)), (1, .int (nI 0)), (2, .ref (ad no))]) hx hb dX7_says_272 hl (k := 8) rfl (m_inc k 1) (by decide) rfl (fun ls hl => ?_)
                                refine lv_goto (tgt := 61) hx hb dX7_says_275 (by decide) ?_
                                exact ih_61  (n - 1) (k + 1) V_71 _ _ _ (by omega) (by omega) (by intro a ha; rw [eV_71, mU_no _ _ ha]; exact hfr a ha) (by first | (exfalso; omega) | skip; rw [eV_71, mU_row, evX_s (by omega)]; first | exact hR.push (by first | exact Int32.not_lt.mp (by assumption) | assumption) (by omega) | exact hR.nm (by intro h; first | exact absurd h.1 (Int32.not_le.mpr (by assumption)) | exact absurd h.2 (by omega)) (by assumption) (by omega) eix hix | exact hR.nt0 (by intro h; first | exact absurd h.1 (Int32.not_le.mpr (by assumption)) | exact absurd h.2 (by omega)) (by intro h; first | exact absurd h.1 (by assumption) | exact absurd h.2 (by omega)) (by assumption) (by omega) (by assumption) | exact hR.nt1 (by intro h; first | exact absurd h.1 (Int32.not_le.mpr (by assumption)) | exact absurd h.2 (by omega)) (by intro h; first | exact absurd h.1 (by assumption) | exact absurd h.2 (by omega)) (by assumption) (by omega) (by assumption) | exact hR.ng (by intro h; first | exact absurd h.1 (Int32.not_le.mpr (by assumption)) | exact absurd h.2 (by omega)) (by intro h; first | exact absurd h.1 (by assumption) | exact absurd h.2 (by omega)) (by assumption) (by omega) | exact hR.jn (by intro h; first | exact absurd h.1 (Int32.not_le.mpr (by assumption)) | exact absurd h.2 (by omega)) (by intro h; first | exact absurd h.1 (by assumption) | exact absurd h.2 (by omega)) (by intro h; first | exact absurd h.1 (by assumption) | exact absurd h.2 (by omega)) (by intro h; first | exact absurd h.1 (by assumption) | exact absurd h.2 (by omega)) (by omega)) (by omega) hW (lv_sub hl [4, 5, 6, 7, 8, 1, 0] rfl)
                            · skip
                              have c_69 : ¬ n ≤ 0 := mt (nI_leI (by omega) (by omega)).mpr c_69
                              refine lv_aload_n hx hb dX7_says_211 rfl (lv_at hl 4 rfl) ?_
                              refine m_getr S hW gt 4 rfl (j := (t + 2)) rfl kX7 (iW7 _) (by decide) (List.mem_cons_of_mem _ (wa_9 _ (List.mem_of_getElem? (i := 9) (by decide +kernel)))) dX7_says_212 ?_
                              refine lv_iload hx hb dX7_says_215 (lv_at hl 7 rfl) ?_
                              refine lv_iconst (v := nI 1) hx hb dX7_says_217 (by decide) ?_
                              refine lv_isub hx hb dX7_says_218 ?_
                              refine m_top (y := nI (n - 1)) (pk_sub (by omega)) ?_
                              refine lv_aload_n hx hb dX7_says_219 rfl (lv_at hl 4 rfl) ?_
                              refine m_getr S hW gt 4 rfl (j := (t + 2)) rfl kX7 (iW7 _) (by decide) (List.mem_cons_of_mem _ (wa_9 _ (List.mem_of_getElem? (i := 9) (by decide +kernel)))) dX7_says_220 ?_
                              refine lv_iload hx hb dX7_says_223 (lv_at hl 7 rfl) ?_
                              refine lv_iconst (v := nI 1) hx hb dX7_says_225 (by decide) ?_
                              refine lv_isub hx hb dX7_says_226 ?_
                              refine m_top (y := nI (n - 1)) (pk_sub (by omega)) ?_
                              refine m_iald S hW gt2 (n - 1) rfl (by omega) (by decide) dX7_says_227 ?_
                              refine m_top (y := (evX (V no) (V (t + 1)) 0 (k - 0)).2 (n - 1)) (hR.2 _ (by omega)) ?_
                              refine lv_ineg hx hb dX7_says_228 ?_
                              refine m_iast S hW gt2 (n - 1) rfl (by omega) (by decide) dX7_says_229 (fun H locs hW => ?_)
                              obtain ⟨V_72, eV_72⟩ : ∃ z : mV, z = mU V1 (t + 2) (n - 1) ((-((evX (V no) (V (t + 1)) 0 (k - 0)).2 (n - 1)))) := ⟨_, rfl⟩
                              rw [← eV_72] at hW
                              refine lv_goto (tgt := 272) hx hb dX7_says_230 (by decide) ?_
                              refine lv_iinc (v := nI (k + 1)) (lv' := [(6, .int (nI (k + 1))), (8, .int ((-(V (t + 1) k)) - (nI 2))), (7, .int (V (t + 1) k)), (4, .int (nI ta)), (3, .int (nI 0)), (0, .ref (ad t)), (1, .int (nI 0)), (2, .ref (ad no)), (5, .int (nI n))]) hx hb dX7_says_272 hl (k := 8) rfl (m_inc k 1) (by decide) rfl (fun ls hl => ?_)
                              refine lv_goto (tgt := 61) hx hb dX7_says_275 (by decide) ?_
                              exact ih_61  n (k + 1) V_72 _ _ _ (by omega) (by omega) (by intro a ha; rw [eV_72, mU_no _ _ ha]; exact hfr a ha) (by first | (exfalso; omega) | skip; rw [eV_72, mU_row, evX_s (by omega)]; first | exact hR.push (by first | exact Int32.not_lt.mp (by assumption) | assumption) (by omega) | exact hR.nm (by intro h; first | exact absurd h.1 (Int32.not_le.mpr (by assumption)) | exact absurd h.2 (by omega)) (by assumption) (by omega) eix hix | exact hR.nt0 (by intro h; first | exact absurd h.1 (Int32.not_le.mpr (by assumption)) | exact absurd h.2 (by omega)) (by intro h; first | exact absurd h.1 (by assumption) | exact absurd h.2 (by omega)) (by assumption) (by omega) (by assumption) | exact hR.nt1 (by intro h; first | exact absurd h.1 (Int32.not_le.mpr (by assumption)) | exact absurd h.2 (by omega)) (by intro h; first | exact absurd h.1 (by assumption) | exact absurd h.2 (by omega)) (by assumption) (by omega) (by assumption) | exact hR.ng (by intro h; first | exact absurd h.1 (Int32.not_le.mpr (by assumption)) | exact absurd h.2 (by omega)) (by intro h; first | exact absurd h.1 (by assumption) | exact absurd h.2 (by omega)) (by assumption) (by omega) | exact hR.jn (by intro h; first | exact absurd h.1 (Int32.not_le.mpr (by assumption)) | exact absurd h.2 (by omega)) (by intro h; first | exact absurd h.1 (by assumption) | exact absurd h.2 (by omega)) (by intro h; first | exact absurd h.1 (by assumption) | exact absurd h.2 (by omega)) (by intro h; first | exact absurd h.1 (by assumption) | exact absurd h.2 (by omega)) (by omega)) (by omega) hW (lv_sub hl [3, 4, 5, 6, 7, 8, 0] rfl)
                        · skip
                          refine lv_iload hx hb dX7_says_165 (lv_at hl 7 rfl) ?_
                          refine m_if_le (tgt := 199) hx hb dX7_says_167 (by decide) (fun c_73 => ?_) (fun c_73 => ?_)
                          · skip
                            have c_73 : n ≤ 0 := (nI_leI (by omega) (by omega)).mp c_73
                            refine lv_iload hx hb dX7_says_199 (lv_at hl 1 rfl) ?_
                            refine lv_bipush (v := -14) hx hb dX7_says_201 (by decide) ?_
                            refine lv_icmp_ne (tgt := 233) hx hb dX7_says_203 (by decide) (fun c_74 => ?_) (fun c_74 => ?_)
                            · skip
                              refine lv_iload hx hb dX7_says_233 (lv_at hl 7 rfl) ?_
                              refine lv_iconst (v := nI 1) hx hb dX7_says_235 (by decide) ?_
                              refine lv_icmp_le (tgt := 272) hx hb dX7_says_236 (by decide) (fun c_75 => ?_) (fun c_75 => ?_)
                              · skip
                                have c_75 : n ≤ 1 := (nI_leI (by omega) (by omega)).mp c_75
                                refine lv_iinc (v := nI (k + 1)) (lv' := [(6, .int (nI (k + 1))), (8, .int ((-(V (t + 1) k)) - (nI 2))), (7, .int (V (t + 1) k)), (4, .int (nI ta)), (3, .int (nI 0)), (0, .ref (ad t)), (1, .int (nI 0)), (2, .ref (ad no)), (5, .int (nI n))]) hx hb dX7_says_272 hl (k := 8) rfl (m_inc k 1) (by decide) rfl (fun ls hl => ?_)
                                refine lv_goto (tgt := 61) hx hb dX7_says_275 (by decide) ?_
                                exact ih_61  n (k + 1) V1 _ _ _ (by omega) (by omega) (by exact hfr) (by rw [evX_s (by omega)]; exact hR.no (by intro h; first | exact absurd h.1 (Int32.not_le.mpr (by assumption)) | exact absurd h.2 (by omega)) (by intro h; first | exact absurd h.1 (by assumption) | exact absurd h.2 (by omega)) (by intro h; first | exact absurd h.1 (by assumption) | exact absurd h.2 (by omega)) (by intro h; first | exact absurd h.1 (by assumption) | exact absurd h.2 (by omega)) (by omega)) (by omega) hW (lv_sub hl [3, 4, 5, 6, 7, 8, 0] rfl)
                              · skip
                                have c_75 : ¬ n ≤ 1 := mt (nI_leI (by omega) (by omega)).mpr c_75
                                refine lv_iinc (v := nI (n - 1)) (lv' := [(5, .int (nI (n - 1))), (8, .int ((-(V (t + 1) k)) - (nI 2))), (7, .int (V (t + 1) k)), (4, .int (nI ta)), (3, .int (nI 0)), (0, .ref (ad t)), (1, .int (nI 0)), (2, .ref (ad no)), (6, .int (nI k))]) hx hb dX7_says_239 hl (k := 7) rfl (m_dec n 1 (by omega)) (by decide) rfl (fun ls hl => ?_)
                                refine lv_aload_n hx hb dX7_says_242 rfl (lv_at hl 5 rfl) ?_
                                refine m_getr S hW gt 4 rfl (j := (t + 2)) rfl kX7 (iW7 _) (by decide) (List.mem_cons_of_mem _ (wa_9 _ (List.mem_of_getElem? (i := 9) (by decide +kernel)))) dX7_says_243 ?_
                                refine lv_iload hx hb dX7_says_246 (lv_at hl 0 rfl) ?_
                                refine lv_iconst (v := nI 1) hx hb dX7_says_248 (by decide) ?_
                                refine lv_isub hx hb dX7_says_249 ?_
                                refine m_top (y := nI ((n - 1) - 1)) (pk_sub (by omega)) ?_
                                refine lv_iload hx hb dX7_says_250 (lv_at hl 2 rfl) ?_
                                refine lv_aload_n hx hb dX7_says_252 rfl (lv_at hl 5 rfl) ?_
                                refine m_getr S hW gt 4 rfl (j := (t + 2)) rfl kX7 (iW7 _) (by decide) (List.mem_cons_of_mem _ (wa_9 _ (List.mem_of_getElem? (i := 9) (by decide +kernel)))) dX7_says_253 ?_
                                refine lv_iload hx hb dX7_says_256 (lv_at hl 0 rfl) ?_
                                refine lv_iconst (v := nI 1) hx hb dX7_says_258 (by decide) ?_
                                refine lv_isub hx hb dX7_says_259 ?_
                                refine m_top (y := nI ((n - 1) - 1)) (pk_sub (by omega)) ?_
                                refine m_iald S hW gt2 ((n - 1) - 1) rfl (by omega) (by decide) dX7_says_260 ?_
                                refine m_top (y := (evX (V no) (V (t + 1)) 0 (k - 0)).2 (n - 1 - 1)) (hR.2 _ (by omega)) ?_
                                refine lv_aload_n hx hb dX7_says_261 rfl (lv_at hl 5 rfl) ?_
                                refine m_getr S hW gt 4 rfl (j := (t + 2)) rfl kX7 (iW7 _) (by decide) (List.mem_cons_of_mem _ (wa_9 _ (List.mem_of_getElem? (i := 9) (by decide +kernel)))) dX7_says_262 ?_
                                refine lv_iload hx hb dX7_says_265 (lv_at hl 0 rfl) ?_
                                refine m_iald S hW gt2 (n - 1) rfl (by omega) (by decide) dX7_says_267 ?_
                                refine m_top (y := (evX (V no) (V (t + 1)) 0 (k - 0)).2 (n - 1)) (hR.2 _ (by omega)) ?_
                                refine m_cie (m_rS S hW (c_X7_join l G ad sh1 V1 (V (t + 1) k) ((evX (V no) (V (t + 1)) 0 (k - 0)).2 (n - 1 - 1)) ((evX (V no) (V (t + 1)) 0 (k - 0)).2 (n - 1))) (va_cwS 3 hts (gCall [.methodLink RX7 34 yX7_join, .static yX7_join, .initialized RX7] (List.forall_mem_cons.mpr ⟨(wa_18 _ (List.mem_of_getElem? (i := 19) (by decide +kernel))), (List.forall_mem_cons.mpr ⟨(wa_18 _ (List.mem_of_getElem? (i := 17) (by decide +kernel))), (List.forall_mem_cons.mpr ⟨(wa_18 _ (List.mem_of_getElem? (i := 18) (by decide +kernel))), (List.forall_mem_cons.mpr ⟨(wa_9 _ (List.mem_of_getElem? (i := 4) (by decide +kernel))), (fun _ h => absurd h List.not_mem_nil)⟩)⟩)⟩)⟩)) rfl rfl rfl (by decide +kernel) ⟨Nat.le_of_ble_eq_true rfl, Nat.le_of_ble_eq_true rfl⟩) rfl hl.1 rfl (Nat.le_of_ble_eq_true rfl) dX7_says_268 ⟨Nat.le_of_ble_eq_true rfl, Nat.le_of_ble_eq_true rfl⟩) hW (fun H locs hW => ?_)
                                refine m_iast S hW gt2 ((n - 1) - 1) rfl (by omega) (by decide) dX7_says_271 (fun H locs hW => ?_)
                                obtain ⟨V_76, eV_76⟩ : ∃ z : mV, z = mU V1 (t + 2) ((n - 1) - 1) (fJoin (V (t + 1) k) ((evX (V no) (V (t + 1)) 0 (k - 0)).2 (n - 1 - 1)) ((evX (V no) (V (t + 1)) 0 (k - 0)).2 (n - 1))) := ⟨_, rfl⟩
                                rw [← eV_76] at hW
                                refine lv_iinc (v := nI (k + 1)) (lv' := [(6, .int (nI (k + 1))), (5, .int (nI (n - 1))), (8, .int ((-(V (t + 1) k)) - (nI 2))), (7, .int (V (t + 1) k)), (4, .int (nI ta)), (3, .int (nI 0)), (0, .ref (ad t)), (1, .int (nI 0)), (2, .ref (ad no))]) hx hb dX7_says_272 hl (k := 8) rfl (m_inc k 1) (by decide) rfl (fun ls hl => ?_)
                                refine lv_goto (tgt := 61) hx hb dX7_says_275 (by decide) ?_
                                exact ih_61  (n - 1) (k + 1) V_76 _ _ _ (by omega) (by omega) (by intro a ha; rw [eV_76, mU_no _ _ ha]; exact hfr a ha) (by first | (exfalso; omega) | skip; rw [eV_76, mU_row, evX_s (by omega)]; first | exact hR.push (by first | exact Int32.not_lt.mp (by assumption) | assumption) (by omega) | exact hR.nm (by intro h; first | exact absurd h.1 (Int32.not_le.mpr (by assumption)) | exact absurd h.2 (by omega)) (by assumption) (by omega) eix hix | exact hR.nt0 (by intro h; first | exact absurd h.1 (Int32.not_le.mpr (by assumption)) | exact absurd h.2 (by omega)) (by intro h; first | exact absurd h.1 (by assumption) | exact absurd h.2 (by omega)) (by assumption) (by omega) (by assumption) | exact hR.nt1 (by intro h; first | exact absurd h.1 (Int32.not_le.mpr (by assumption)) | exact absurd h.2 (by omega)) (by intro h; first | exact absurd h.1 (by assumption) | exact absurd h.2 (by omega)) (by assumption) (by omega) (by assumption) | exact hR.ng (by intro h; first | exact absurd h.1 (Int32.not_le.mpr (by assumption)) | exact absurd h.2 (by omega)) (by intro h; first | exact absurd h.1 (by assumption) | exact absurd h.2 (by omega)) (by assumption) (by omega) | exact hR.jn (by intro h; first | exact absurd h.1 (Int32.not_le.mpr (by assumption)) | exact absurd h.2 (by omega)) (by intro h; first | exact absurd h.1 (by assumption) | exact absurd h.2 (by omega)) (by intro h; first | exact absurd h.1 (by assumption) | exact absurd h.2 (by omega)) (by intro h; first | exact absurd h.1 (by assumption) | exact absurd h.2 (by omega)) (by omega)) (by omega) hW (lv_sub hl [4, 5, 6, 7, 8, 1, 0] rfl)
                            · skip
                              refine lv_iload hx hb dX7_says_206 (lv_at hl 7 rfl) ?_
                              refine m_if_le (tgt := 233) hx hb dX7_says_208 (by decide) (fun c_77 => ?_) (fun c_77 => ?_)
                              · skip
                                have c_77 : n ≤ 0 := (nI_leI (by omega) (by omega)).mp c_77
                                refine lv_iload hx hb dX7_says_233 (lv_at hl 7 rfl) ?_
                                refine lv_iconst (v := nI 1) hx hb dX7_says_235 (by decide) ?_
                                refine lv_icmp_le (tgt := 272) hx hb dX7_says_236 (by decide) (fun c_78 => ?_) (fun c_78 => ?_)
                                · skip
                                  have c_78 : n ≤ 1 := (nI_leI (by omega) (by omega)).mp c_78
                                  refine lv_iinc (v := nI (k + 1)) (lv' := [(6, .int (nI (k + 1))), (8, .int ((-(V (t + 1) k)) - (nI 2))), (7, .int (V (t + 1) k)), (4, .int (nI ta)), (3, .int (nI 0)), (0, .ref (ad t)), (1, .int (nI 0)), (2, .ref (ad no)), (5, .int (nI n))]) hx hb dX7_says_272 hl (k := 8) rfl (m_inc k 1) (by decide) rfl (fun ls hl => ?_)
                                  refine lv_goto (tgt := 61) hx hb dX7_says_275 (by decide) ?_
                                  exact ih_61  n (k + 1) V1 _ _ _ (by omega) (by omega) (by exact hfr) (by rw [evX_s (by omega)]; exact hR.no (by intro h; first | exact absurd h.1 (Int32.not_le.mpr (by assumption)) | exact absurd h.2 (by omega)) (by intro h; first | exact absurd h.1 (by assumption) | exact absurd h.2 (by omega)) (by intro h; first | exact absurd h.1 (by assumption) | exact absurd h.2 (by omega)) (by intro h; first | exact absurd h.1 (by assumption) | exact absurd h.2 (by omega)) (by omega)) (by omega) hW (lv_sub hl [3, 4, 5, 6, 7, 8, 0] rfl)
                                · skip
                                  have c_78 : ¬ n ≤ 1 := mt (nI_leI (by omega) (by omega)).mpr c_78
                                  refine lv_iinc (v := nI (n - 1)) (lv' := [(5, .int (nI (n - 1))), (8, .int ((-(V (t + 1) k)) - (nI 2))), (7, .int (V (t + 1) k)), (4, .int (nI ta)), (3, .int (nI 0)), (0, .ref (ad t)), (1, .int (nI 0)), (2, .ref (ad no)), (6, .int (nI k))]) hx hb dX7_says_239 hl (k := 7) rfl (m_dec n 1 (by omega)) (by decide) rfl (fun ls hl => ?_)
                                  refine lv_aload_n hx hb dX7_says_242 rfl (lv_at hl 5 rfl) ?_
                                  refine m_getr S hW gt 4 rfl (j := (t + 2)) rfl kX7 (iW7 _) (by decide) (List.mem_cons_of_mem _ (wa_9 _ (List.mem_of_getElem? (i := 9) (by decide +kernel)))) dX7_says_243 ?_
                                  refine lv_iload hx hb dX7_says_246 (lv_at hl 0 rfl) ?_
                                  refine lv_iconst (v := nI 1) hx hb dX7_says_248 (by decide) ?_
                                  refine lv_isub hx hb dX7_says_249 ?_
                                  refine m_top (y := nI ((n - 1) - 1)) (pk_sub (by omega)) ?_
                                  refine lv_iload hx hb dX7_says_250 (lv_at hl 2 rfl) ?_
                                  refine lv_aload_n hx hb dX7_says_252 rfl (lv_at hl 5 rfl) ?_
                                  refine m_getr S hW gt 4 rfl (j := (t + 2)) rfl kX7 (iW7 _) (by decide) (List.mem_cons_of_mem _ (wa_9 _ (List.mem_of_getElem? (i := 9) (by decide +kernel)))) dX7_says_253 ?_
                                  refine lv_iload hx hb dX7_says_256 (lv_at hl 0 rfl) ?_
                                  refine lv_iconst (v := nI 1) hx hb dX7_says_258 (by decide) ?_
                                  refine lv_isub hx hb dX7_says_259 ?_
                                  refine m_top (y := nI ((n - 1) - 1)) (pk_sub (by omega)) ?_
                                  refine m_iald S hW gt2 ((n - 1) - 1) rfl (by omega) (by decide) dX7_says_260 ?_
                                  refine m_top (y := (evX (V no) (V (t + 1)) 0 (k - 0)).2 (n - 1 - 1)) (hR.2 _ (by omega)) ?_
                                  refine lv_aload_n hx hb dX7_says_261 rfl (lv_at hl 5 rfl) ?_
                                  refine m_getr S hW gt 4 rfl (j := (t + 2)) rfl kX7 (iW7 _) (by decide) (List.mem_cons_of_mem _ (wa_9 _ (List.mem_of_getElem? (i := 9) (by decide +kernel)))) dX7_says_262 ?_
                                  refine lv_iload hx hb dX7_says_265 (lv_at hl 0 rfl) ?_
                                  refine m_iald S hW gt2 (n - 1) rfl (by omega) (by decide) dX7_says_267 ?_
                                  refine m_top (y := (evX (V no) (V (t + 1)) 0 (k - 0)).2 (n - 1)) (hR.2 _ (by omega)) ?_
                                  refine m_cie (m_rS S hW (c_X7_join l G ad sh1 V1 (V (t + 1) k) ((evX (V no) (V (t + 1)) 0 (k - 0)).2 (n - 1 - 1)) ((evX (V no) (V (t + 1)) 0 (k - 0)).2 (n - 1))) (va_cwS 3 hts (gCall [.methodLink RX7 34 yX7_join, .static yX7_join, .initialized RX7] (List.forall_mem_cons.mpr ⟨(wa_18 _ (List.mem_of_getElem? (i := 19) (by decide +kernel))), (List.forall_mem_cons.mpr ⟨(wa_18 _ (List.mem_of_getElem? (i := 17) (by decide +kernel))), (List.forall_mem_cons.mpr ⟨(wa_18 _ (List.mem_of_getElem? (i := 18) (by decide +kernel))), (List.forall_mem_cons.mpr ⟨(wa_9 _ (List.mem_of_getElem? (i := 4) (by decide +kernel))), (fun _ h => absurd h List.not_mem_nil)⟩)⟩)⟩)⟩)) rfl rfl rfl (by decide +kernel) ⟨Nat.le_of_ble_eq_true rfl, Nat.le_of_ble_eq_true rfl⟩) rfl hl.1 rfl (Nat.le_of_ble_eq_true rfl) dX7_says_268 ⟨Nat.le_of_ble_eq_true rfl, Nat.le_of_ble_eq_true rfl⟩) hW (fun H locs hW => ?_)
                                  refine m_iast S hW gt2 ((n - 1) - 1) rfl (by omega) (by decide) dX7_says_271 (fun H locs hW => ?_)
                                  obtain ⟨V_79, eV_79⟩ : ∃ z : mV, z = mU V1 (t + 2) ((n - 1) - 1) (fJoin (V (t + 1) k) ((evX (V no) (V (t + 1)) 0 (k - 0)).2 (n - 1 - 1)) ((evX (V no) (V (t + 1)) 0 (k - 0)).2 (n - 1))) := ⟨_, rfl⟩
                                  rw [← eV_79] at hW
                                  refine lv_iinc (v := nI (k + 1)) (lv' := [(6, .int (nI (k + 1))), (5, .int (nI (n - 1))), (8, .int ((-(V (t + 1) k)) - (nI 2))), (7, .int (V (t + 1) k)), (4, .int (nI ta)), (3, .int (nI 0)), (0, .ref (ad t)), (1, .int (nI 0)), (2, .ref (ad no))]) hx hb dX7_says_272 hl (k := 8) rfl (m_inc k 1) (by decide) rfl (fun ls hl => ?_)
                                  refine lv_goto (tgt := 61) hx hb dX7_says_275 (by decide) ?_
                                  exact ih_61  (n - 1) (k + 1) V_79 _ _ _ (by omega) (by omega) (by intro a ha; rw [eV_79, mU_no _ _ ha]; exact hfr a ha) (by first | (exfalso; omega) | skip; rw [eV_79, mU_row, evX_s (by omega)]; first | exact hR.push (by first | exact Int32.not_lt.mp (by assumption) | assumption) (by omega) | exact hR.nm (by intro h; first | exact absurd h.1 (Int32.not_le.mpr (by assumption)) | exact absurd h.2 (by omega)) (by assumption) (by omega) eix hix | exact hR.nt0 (by intro h; first | exact absurd h.1 (Int32.not_le.mpr (by assumption)) | exact absurd h.2 (by omega)) (by intro h; first | exact absurd h.1 (by assumption) | exact absurd h.2 (by omega)) (by assumption) (by omega) (by assumption) | exact hR.nt1 (by intro h; first | exact absurd h.1 (Int32.not_le.mpr (by assumption)) | exact absurd h.2 (by omega)) (by intro h; first | exact absurd h.1 (by assumption) | exact absurd h.2 (by omega)) (by assumption) (by omega) (by assumption) | exact hR.ng (by intro h; first | exact absurd h.1 (Int32.not_le.mpr (by assumption)) | exact absurd h.2 (by omega)) (by intro h; first | exact absurd h.1 (by assumption) | exact absurd h.2 (by omega)) (by assumption) (by omega) | exact hR.jn (by intro h; first | exact absurd h.1 (Int32.not_le.mpr (by assumption)) | exact absurd h.2 (by omega)) (by intro h; first | exact absurd h.1 (by assumption) | exact absurd h.2 (by omega)) (by intro h; first | exact absurd h.1 (by assumption) | exact absurd h.2 (by omega)) (by intro h; first | exact absurd h.1 (by assumption) | exact absurd h.2 (by omega)) (by omega)) (by omega) hW (lv_sub hl [4, 5, 6, 7, 8, 1, 0] rfl)
                              · skip
                                have c_77 : ¬ n ≤ 0 := mt (nI_leI (by omega) (by omega)).mpr c_77
                                refine lv_aload_n hx hb dX7_says_211 rfl (lv_at hl 4 rfl) ?_
                                refine m_getr S hW gt 4 rfl (j := (t + 2)) rfl kX7 (iW7 _) (by decide) (List.mem_cons_of_mem _ (wa_9 _ (List.mem_of_getElem? (i := 9) (by decide +kernel)))) dX7_says_212 ?_
                                refine lv_iload hx hb dX7_says_215 (lv_at hl 7 rfl) ?_
                                refine lv_iconst (v := nI 1) hx hb dX7_says_217 (by decide) ?_
                                refine lv_isub hx hb dX7_says_218 ?_
                                refine m_top (y := nI (n - 1)) (pk_sub (by omega)) ?_
                                refine lv_aload_n hx hb dX7_says_219 rfl (lv_at hl 4 rfl) ?_
                                refine m_getr S hW gt 4 rfl (j := (t + 2)) rfl kX7 (iW7 _) (by decide) (List.mem_cons_of_mem _ (wa_9 _ (List.mem_of_getElem? (i := 9) (by decide +kernel)))) dX7_says_220 ?_
                                refine lv_iload hx hb dX7_says_223 (lv_at hl 7 rfl) ?_
                                refine lv_iconst (v := nI 1) hx hb dX7_says_225 (by decide) ?_
                                refine lv_isub hx hb dX7_says_226 ?_
                                refine m_top (y := nI (n - 1)) (pk_sub (by omega)) ?_
                                refine m_iald S hW gt2 (n - 1) rfl (by omega) (by decide) dX7_says_227 ?_
                                refine m_top (y := (evX (V no) (V (t + 1)) 0 (k - 0)).2 (n - 1)) (hR.2 _ (by omega)) ?_
                                refine lv_ineg hx hb dX7_says_228 ?_
                                refine m_iast S hW gt2 (n - 1) rfl (by omega) (by decide) dX7_says_229 (fun H locs hW => ?_)
                                obtain ⟨V_80, eV_80⟩ : ∃ z : mV, z = mU V1 (t + 2) (n - 1) ((-((evX (V no) (V (t + 1)) 0 (k - 0)).2 (n - 1)))) := ⟨_, rfl⟩
                                rw [← eV_80] at hW
                                refine lv_goto (tgt := 272) hx hb dX7_says_230 (by decide) ?_
                                refine lv_iinc (v := nI (k + 1)) (lv' := [(6, .int (nI (k + 1))), (8, .int ((-(V (t + 1) k)) - (nI 2))), (7, .int (V (t + 1) k)), (4, .int (nI ta)), (3, .int (nI 0)), (0, .ref (ad t)), (1, .int (nI 0)), (2, .ref (ad no)), (5, .int (nI n))]) hx hb dX7_says_272 hl (k := 8) rfl (m_inc k 1) (by decide) rfl (fun ls hl => ?_)
                                refine lv_goto (tgt := 61) hx hb dX7_says_275 (by decide) ?_
                                exact ih_61  n (k + 1) V_80 _ _ _ (by omega) (by omega) (by intro a ha; rw [eV_80, mU_no _ _ ha]; exact hfr a ha) (by first | (exfalso; omega) | skip; rw [eV_80, mU_row, evX_s (by omega)]; first | exact hR.push (by first | exact Int32.not_lt.mp (by assumption) | assumption) (by omega) | exact hR.nm (by intro h; first | exact absurd h.1 (Int32.not_le.mpr (by assumption)) | exact absurd h.2 (by omega)) (by assumption) (by omega) eix hix | exact hR.nt0 (by intro h; first | exact absurd h.1 (Int32.not_le.mpr (by assumption)) | exact absurd h.2 (by omega)) (by intro h; first | exact absurd h.1 (by assumption) | exact absurd h.2 (by omega)) (by assumption) (by omega) (by assumption) | exact hR.nt1 (by intro h; first | exact absurd h.1 (Int32.not_le.mpr (by assumption)) | exact absurd h.2 (by omega)) (by intro h; first | exact absurd h.1 (by assumption) | exact absurd h.2 (by omega)) (by assumption) (by omega) (by assumption) | exact hR.ng (by intro h; first | exact absurd h.1 (Int32.not_le.mpr (by assumption)) | exact absurd h.2 (by omega)) (by intro h; first | exact absurd h.1 (by assumption) | exact absurd h.2 (by omega)) (by assumption) (by omega) | exact hR.jn (by intro h; first | exact absurd h.1 (Int32.not_le.mpr (by assumption)) | exact absurd h.2 (by omega)) (by intro h; first | exact absurd h.1 (by assumption) | exact absurd h.2 (by omega)) (by intro h; first | exact absurd h.1 (by assumption) | exact absurd h.2 (by omega)) (by intro h; first | exact absurd h.1 (by assumption) | exact absurd h.2 (by omega)) (by omega)) (by omega) hW (lv_sub hl [3, 4, 5, 6, 7, 8, 0] rfl)
                          · skip
                            have c_73 : ¬ n ≤ 0 := mt (nI_leI (by omega) (by omega)).mpr c_73
                            refine lv_aload_n hx hb dX7_says_170 rfl (lv_at hl 4 rfl) ?_
                            refine m_getr S hW gt 4 rfl (j := (t + 2)) rfl kX7 (iW7 _) (by decide) (List.mem_cons_of_mem _ (wa_9 _ (List.mem_of_getElem? (i := 9) (by decide +kernel)))) dX7_says_171 ?_
                            refine lv_iload hx hb dX7_says_174 (lv_at hl 7 rfl) ?_
                            refine lv_iconst (v := nI 1) hx hb dX7_says_176 (by decide) ?_
                            refine lv_isub hx hb dX7_says_177 ?_
                            refine m_top (y := nI (n - 1)) (pk_sub (by omega)) ?_
                            refine lv_aload_n hx hb dX7_says_178 rfl (lv_at hl 4 rfl) ?_
                            refine m_getr S hW gt 4 rfl (j := (t + 2)) rfl kX7 (iW7 _) (by decide) (List.mem_cons_of_mem _ (wa_9 _ (List.mem_of_getElem? (i := 9) (by decide +kernel)))) dX7_says_179 ?_
                            refine lv_iload hx hb dX7_says_182 (lv_at hl 7 rfl) ?_
                            refine lv_iconst (v := nI 1) hx hb dX7_says_184 (by decide) ?_
                            refine lv_isub hx hb dX7_says_185 ?_
                            refine m_top (y := nI (n - 1)) (pk_sub (by omega)) ?_
                            refine m_iald S hW gt2 (n - 1) rfl (by omega) (by decide) dX7_says_186 ?_
                            refine m_top (y := (evX (V no) (V (t + 1)) 0 (k - 0)).2 (n - 1)) (hR.2 _ (by omega)) ?_
                            refine m_if_ne (tgt := 194) hx hb dX7_says_187 (by decide) (fun c_81 => ?_) (fun c_81 => ?_)
                            · skip
                              refine lv_iconst (v := nI 0) hx hb dX7_says_194 (by decide) ?_
                              refine m_iast S hW gt2 (n - 1) rfl (by omega) (by decide) dX7_says_195 (fun H locs hW => ?_)
                              obtain ⟨V_82, eV_82⟩ : ∃ z : mV, z = mU V1 (t + 2) (n - 1) (nI 0) := ⟨_, rfl⟩
                              rw [← eV_82] at hW
                              refine lv_goto (tgt := 272) hx hb dX7_says_196 (by decide) ?_
                              refine lv_iinc (v := nI (k + 1)) (lv' := [(6, .int (nI (k + 1))), (8, .int ((-(V (t + 1) k)) - (nI 2))), (7, .int (V (t + 1) k)), (4, .int (nI ta)), (3, .int (nI 0)), (0, .ref (ad t)), (1, .int (nI 0)), (2, .ref (ad no)), (5, .int (nI n))]) hx hb dX7_says_272 hl (k := 8) rfl (m_inc k 1) (by decide) rfl (fun ls hl => ?_)
                              refine lv_goto (tgt := 61) hx hb dX7_says_275 (by decide) ?_
                              exact ih_61  n (k + 1) V_82 _ _ _ (by omega) (by omega) (by intro a ha; rw [eV_82, mU_no _ _ ha]; exact hfr a ha) (by first | (exfalso; omega) | skip; rw [eV_82, mU_row, evX_s (by omega)]; first | exact hR.push (by first | exact Int32.not_lt.mp (by assumption) | assumption) (by omega) | exact hR.nm (by intro h; first | exact absurd h.1 (Int32.not_le.mpr (by assumption)) | exact absurd h.2 (by omega)) (by assumption) (by omega) eix hix | exact hR.nt0 (by intro h; first | exact absurd h.1 (Int32.not_le.mpr (by assumption)) | exact absurd h.2 (by omega)) (by intro h; first | exact absurd h.1 (by assumption) | exact absurd h.2 (by omega)) (by assumption) (by omega) (by assumption) | exact hR.nt1 (by intro h; first | exact absurd h.1 (Int32.not_le.mpr (by assumption)) | exact absurd h.2 (by omega)) (by intro h; first | exact absurd h.1 (by assumption) | exact absurd h.2 (by omega)) (by assumption) (by omega) (by assumption) | exact hR.ng (by intro h; first | exact absurd h.1 (Int32.not_le.mpr (by assumption)) | exact absurd h.2 (by omega)) (by intro h; first | exact absurd h.1 (by assumption) | exact absurd h.2 (by omega)) (by assumption) (by omega) | exact hR.jn (by intro h; first | exact absurd h.1 (Int32.not_le.mpr (by assumption)) | exact absurd h.2 (by omega)) (by intro h; first | exact absurd h.1 (by assumption) | exact absurd h.2 (by omega)) (by intro h; first | exact absurd h.1 (by assumption) | exact absurd h.2 (by omega)) (by intro h; first | exact absurd h.1 (by assumption) | exact absurd h.2 (by omega)) (by omega)) (by omega) hW (lv_sub hl [3, 4, 5, 6, 7, 8, 0] rfl)
                            · skip
                              refine lv_iconst (v := nI 1) hx hb dX7_says_190 (by decide) ?_
                              refine lv_goto (tgt := 195) hx hb dX7_says_191 (by decide) ?_
                              refine m_iast S hW gt2 (n - 1) rfl (by omega) (by decide) dX7_says_195 (fun H locs hW => ?_)
                              obtain ⟨V_83, eV_83⟩ : ∃ z : mV, z = mU V1 (t + 2) (n - 1) (nI 1) := ⟨_, rfl⟩
                              rw [← eV_83] at hW
                              refine lv_goto (tgt := 272) hx hb dX7_says_196 (by decide) ?_
                              refine lv_iinc (v := nI (k + 1)) (lv' := [(6, .int (nI (k + 1))), (8, .int ((-(V (t + 1) k)) - (nI 2))), (7, .int (V (t + 1) k)), (4, .int (nI ta)), (3, .int (nI 0)), (0, .ref (ad t)), (1, .int (nI 0)), (2, .ref (ad no)), (5, .int (nI n))]) hx hb dX7_says_272 hl (k := 8) rfl (m_inc k 1) (by decide) rfl (fun ls hl => ?_)
                              refine lv_goto (tgt := 61) hx hb dX7_says_275 (by decide) ?_
                              exact ih_61  n (k + 1) V_83 _ _ _ (by omega) (by omega) (by intro a ha; rw [eV_83, mU_no _ _ ha]; exact hfr a ha) (by first | (exfalso; omega) | skip; rw [eV_83, mU_row, evX_s (by omega)]; first | exact hR.push (by first | exact Int32.not_lt.mp (by assumption) | assumption) (by omega) | exact hR.nm (by intro h; first | exact absurd h.1 (Int32.not_le.mpr (by assumption)) | exact absurd h.2 (by omega)) (by assumption) (by omega) eix hix | exact hR.nt0 (by intro h; first | exact absurd h.1 (Int32.not_le.mpr (by assumption)) | exact absurd h.2 (by omega)) (by intro h; first | exact absurd h.1 (by assumption) | exact absurd h.2 (by omega)) (by assumption) (by omega) (by assumption) | exact hR.nt1 (by intro h; first | exact absurd h.1 (Int32.not_le.mpr (by assumption)) | exact absurd h.2 (by omega)) (by intro h; first | exact absurd h.1 (by assumption) | exact absurd h.2 (by omega)) (by assumption) (by omega) (by assumption) | exact hR.ng (by intro h; first | exact absurd h.1 (Int32.not_le.mpr (by assumption)) | exact absurd h.2 (by omega)) (by intro h; first | exact absurd h.1 (by assumption) | exact absurd h.2 (by omega)) (by assumption) (by omega) | exact hR.jn (by intro h; first | exact absurd h.1 (Int32.not_le.mpr (by assumption)) | exact absurd h.2 (by omega)) (by intro h; first | exact absurd h.1 (by assumption) | exact absurd h.2 (by omega)) (by intro h; first | exact absurd h.1 (by assumption) | exact absurd h.2 (by omega)) (by intro h; first | exact absurd h.1 (by assumption) | exact absurd h.2 (by omega)) (by omega)) (by omega) hW (lv_sub hl [3, 4, 5, 6, 7, 8, 0] rfl)
                      · skip
                        have c_64 : ¬ 32 ≤ n := mt (nI_leI (by omega) (by omega)).mpr c_64
                        refine lv_aload_n hx hb dX7_says_141 rfl (lv_at hl 4 rfl) ?_
                        refine m_getr S hW gt 4 rfl (j := (t + 2)) rfl kX7 (iW7 _) (by decide) (List.mem_cons_of_mem _ (wa_9 _ (List.mem_of_getElem? (i := 9) (by decide +kernel)))) dX7_says_142 ?_
                        refine lv_iload hx hb dX7_says_145 (lv_at hl 7 rfl) ?_
                        refine lv_iinc (v := nI (n + 1)) (lv' := [(5, .int (nI (n + 1))), (8, .int ((-(V (t + 1) k)) - (nI 2))), (7, .int (V (t + 1) k)), (4, .int (nI ta)), (3, .int (nI 0)), (0, .ref (ad t)), (1, .int (nI 0)), (2, .ref (ad no)), (6, .int (nI k))]) hx hb dX7_says_147 hl (k := 7) rfl (m_inc n 1) (by decide) rfl (fun ls hl => ?_)
                        refine lv_aload_n hx hb dX7_says_150 rfl (lv_at hl 7 rfl) ?_
                        refine lv_iload hx hb dX7_says_151 (lv_at hl 1 rfl) ?_
                        obtain ⟨ix, eix, -, hix⟩ := w_61.ex
                        refine m_iald S hW gn ix eix hix (by decide) dX7_says_153 ?_
                        refine m_top (y := V no ix) (by rw [hfr _ hno2]) ?_
                        refine m_iast S hW gt2 n rfl (by omega) (by decide) dX7_says_154 (fun H locs hW => ?_)
                        obtain ⟨V_84, eV_84⟩ : ∃ z : mV, z = mU V1 (t + 2) n (V no ix) := ⟨_, rfl⟩
                        rw [← eV_84] at hW
                        refine lv_goto (tgt := 272) hx hb dX7_says_155 (by decide) ?_
                        refine lv_iinc (v := nI (k + 1)) (lv' := [(6, .int (nI (k + 1))), (5, .int (nI (n + 1))), (8, .int ((-(V (t + 1) k)) - (nI 2))), (7, .int (V (t + 1) k)), (4, .int (nI ta)), (3, .int (nI 0)), (0, .ref (ad t)), (1, .int (nI 0)), (2, .ref (ad no))]) hx hb dX7_says_272 hl (k := 8) rfl (m_inc k 1) (by decide) rfl (fun ls hl => ?_)
                        refine lv_goto (tgt := 61) hx hb dX7_says_275 (by decide) ?_
                        exact ih_61  (n + 1) (k + 1) V_84 _ _ _ (by omega) (by omega) (by intro a ha; rw [eV_84, mU_no _ _ ha]; exact hfr a ha) (by first | (exfalso; omega) | skip; rw [eV_84, mU_row, evX_s (by omega)]; first | exact hR.push (by first | exact Int32.not_lt.mp (by assumption) | assumption) (by omega) | exact hR.nm (by intro h; first | exact absurd h.1 (Int32.not_le.mpr (by assumption)) | exact absurd h.2 (by omega)) (by assumption) (by omega) eix hix | exact hR.nt0 (by intro h; first | exact absurd h.1 (Int32.not_le.mpr (by assumption)) | exact absurd h.2 (by omega)) (by intro h; first | exact absurd h.1 (by assumption) | exact absurd h.2 (by omega)) (by assumption) (by omega) (by assumption) | exact hR.nt1 (by intro h; first | exact absurd h.1 (Int32.not_le.mpr (by assumption)) | exact absurd h.2 (by omega)) (by intro h; first | exact absurd h.1 (by assumption) | exact absurd h.2 (by omega)) (by assumption) (by omega) (by assumption) | exact hR.ng (by intro h; first | exact absurd h.1 (Int32.not_le.mpr (by assumption)) | exact absurd h.2 (by omega)) (by intro h; first | exact absurd h.1 (by assumption) | exact absurd h.2 (by omega)) (by assumption) (by omega) | exact hR.jn (by intro h; first | exact absurd h.1 (Int32.not_le.mpr (by assumption)) | exact absurd h.2 (by omega)) (by intro h; first | exact absurd h.1 (by assumption) | exact absurd h.2 (by omega)) (by intro h; first | exact absurd h.1 (by assumption) | exact absurd h.2 (by omega)) (by intro h; first | exact absurd h.1 (by assumption) | exact absurd h.2 (by omega)) (by omega)) (by omega) hW (lv_sub hl [4, 5, 6, 7, 8, 1, 0] rfl)
                  · skip
                    refine m_if_eq (tgt := 158) hx hb dX7_says_131 (by decide) (fun c_85 => ?_) (fun c_85 => ?_)
                    · skip
                      refine lv_iload hx hb dX7_says_158 (lv_at hl 1 rfl) ?_
                      refine lv_bipush (v := -13) hx hb dX7_says_160 (by decide) ?_
                      refine lv_icmp_ne (tgt := 199) hx hb dX7_says_162 (by decide) (fun c_86 => ?_) (fun c_86 => ?_)
                      · skip
                        refine lv_iload hx hb dX7_says_199 (lv_at hl 1 rfl) ?_
                        refine lv_bipush (v := -14) hx hb dX7_says_201 (by decide) ?_
                        refine lv_icmp_ne (tgt := 233) hx hb dX7_says_203 (by decide) (fun c_87 => ?_) (fun c_87 => ?_)
                        · skip
                          refine lv_iload hx hb dX7_says_233 (lv_at hl 7 rfl) ?_
                          refine lv_iconst (v := nI 1) hx hb dX7_says_235 (by decide) ?_
                          refine lv_icmp_le (tgt := 272) hx hb dX7_says_236 (by decide) (fun c_88 => ?_) (fun c_88 => ?_)
                          · skip
                            have c_88 : n ≤ 1 := (nI_leI (by omega) (by omega)).mp c_88
                            refine lv_iinc (v := nI (k + 1)) (lv' := [(6, .int (nI (k + 1))), (8, .int ((-(V (t + 1) k)) - (nI 2))), (7, .int (V (t + 1) k)), (4, .int (nI ta)), (3, .int (nI 0)), (0, .ref (ad t)), (1, .int (nI 0)), (2, .ref (ad no)), (5, .int (nI n))]) hx hb dX7_says_272 hl (k := 8) rfl (m_inc k 1) (by decide) rfl (fun ls hl => ?_)
                            refine lv_goto (tgt := 61) hx hb dX7_says_275 (by decide) ?_
                            exact ih_61  n (k + 1) V1 _ _ _ (by omega) (by omega) (by exact hfr) (by rw [evX_s (by omega)]; exact hR.no (by intro h; first | exact absurd h.1 (Int32.not_le.mpr (by assumption)) | exact absurd h.2 (by omega)) (by intro h; first | exact absurd h.1 (by assumption) | exact absurd h.2 (by omega)) (by intro h; first | exact absurd h.1 (by assumption) | exact absurd h.2 (by omega)) (by intro h; first | exact absurd h.1 (by assumption) | exact absurd h.2 (by omega)) (by omega)) (by omega) hW (lv_sub hl [3, 4, 5, 6, 7, 8, 0] rfl)
                          · skip
                            have c_88 : ¬ n ≤ 1 := mt (nI_leI (by omega) (by omega)).mpr c_88
                            refine lv_iinc (v := nI (n - 1)) (lv' := [(5, .int (nI (n - 1))), (8, .int ((-(V (t + 1) k)) - (nI 2))), (7, .int (V (t + 1) k)), (4, .int (nI ta)), (3, .int (nI 0)), (0, .ref (ad t)), (1, .int (nI 0)), (2, .ref (ad no)), (6, .int (nI k))]) hx hb dX7_says_239 hl (k := 7) rfl (m_dec n 1 (by omega)) (by decide) rfl (fun ls hl => ?_)
                            refine lv_aload_n hx hb dX7_says_242 rfl (lv_at hl 5 rfl) ?_
                            refine m_getr S hW gt 4 rfl (j := (t + 2)) rfl kX7 (iW7 _) (by decide) (List.mem_cons_of_mem _ (wa_9 _ (List.mem_of_getElem? (i := 9) (by decide +kernel)))) dX7_says_243 ?_
                            refine lv_iload hx hb dX7_says_246 (lv_at hl 0 rfl) ?_
                            refine lv_iconst (v := nI 1) hx hb dX7_says_248 (by decide) ?_
                            refine lv_isub hx hb dX7_says_249 ?_
                            refine m_top (y := nI ((n - 1) - 1)) (pk_sub (by omega)) ?_
                            refine lv_iload hx hb dX7_says_250 (lv_at hl 2 rfl) ?_
                            refine lv_aload_n hx hb dX7_says_252 rfl (lv_at hl 5 rfl) ?_
                            refine m_getr S hW gt 4 rfl (j := (t + 2)) rfl kX7 (iW7 _) (by decide) (List.mem_cons_of_mem _ (wa_9 _ (List.mem_of_getElem? (i := 9) (by decide +kernel)))) dX7_says_253 ?_
                            refine lv_iload hx hb dX7_says_256 (lv_at hl 0 rfl) ?_
                            refine lv_iconst (v := nI 1) hx hb dX7_says_258 (by decide) ?_
                            refine lv_isub hx hb dX7_says_259 ?_
                            refine m_top (y := nI ((n - 1) - 1)) (pk_sub (by omega)) ?_
                            refine m_iald S hW gt2 ((n - 1) - 1) rfl (by omega) (by decide) dX7_says_260 ?_
                            refine m_top (y := (evX (V no) (V (t + 1)) 0 (k - 0)).2 (n - 1 - 1)) (hR.2 _ (by omega)) ?_
                            refine lv_aload_n hx hb dX7_says_261 rfl (lv_at hl 5 rfl) ?_
                            refine m_getr S hW gt 4 rfl (j := (t + 2)) rfl kX7 (iW7 _) (by decide) (List.mem_cons_of_mem _ (wa_9 _ (List.mem_of_getElem? (i := 9) (by decide +kernel)))) dX7_says_262 ?_
                            refine lv_iload hx hb dX7_says_265 (lv_at hl 0 rfl) ?_
                            refine m_iald S hW gt2 (n - 1) rfl (by omega) (by decide) dX7_says_267 ?_
                            refine m_top (y := (evX (V no) (V (t + 1)) 0 (k - 0)).2 (n - 1)) (hR.2 _ (by omega)) ?_
                            refine m_cie (m_rS S hW (c_X7_join l G ad sh1 V1 (V (t + 1) k) ((evX (V no) (V (t + 1)) 0 (k - 0)).2 (n - 1 - 1)) ((evX (V no) (V (t + 1)) 0 (k - 0)).2 (n - 1))) (va_cwS 3 hts (gCall [.methodLink RX7 34 yX7_join, .static yX7_join, .initialized RX7] (List.forall_mem_cons.mpr ⟨(wa_18 _ (List.mem_of_getElem? (i := 19) (by decide +kernel))), (List.forall_mem_cons.mpr ⟨(wa_18 _ (List.mem_of_getElem? (i := 17) (by decide +kernel))), (List.forall_mem_cons.mpr ⟨(wa_18 _ (List.mem_of_getElem? (i := 18) (by decide +kernel))), (List.forall_mem_cons.mpr ⟨(wa_9 _ (List.mem_of_getElem? (i := 4) (by decide +kernel))), (fun _ h => absurd h List.not_mem_nil)⟩)⟩)⟩)⟩)) rfl rfl rfl (by decide +kernel) ⟨Nat.le_of_ble_eq_true rfl, Nat.le_of_ble_eq_true rfl⟩) rfl hl.1 rfl (Nat.le_of_ble_eq_true rfl) dX7_says_268 ⟨Nat.le_of_ble_eq_true rfl, Nat.le_of_ble_eq_true rfl⟩) hW (fun H locs hW => ?_)
                            refine m_iast S hW gt2 ((n - 1) - 1) rfl (by omega) (by decide) dX7_says_271 (fun H locs hW => ?_)
                            obtain ⟨V_89, eV_89⟩ : ∃ z : mV, z = mU V1 (t + 2) ((n - 1) - 1) (fJoin (V (t + 1) k) ((evX (V no) (V (t + 1)) 0 (k - 0)).2 (n - 1 - 1)) ((evX (V no) (V (t + 1)) 0 (k - 0)).2 (n - 1))) := ⟨_, rfl⟩
                            rw [← eV_89] at hW
                            refine lv_iinc (v := nI (k + 1)) (lv' := [(6, .int (nI (k + 1))), (5, .int (nI (n - 1))), (8, .int ((-(V (t + 1) k)) - (nI 2))), (7, .int (V (t + 1) k)), (4, .int (nI ta)), (3, .int (nI 0)), (0, .ref (ad t)), (1, .int (nI 0)), (2, .ref (ad no))]) hx hb dX7_says_272 hl (k := 8) rfl (m_inc k 1) (by decide) rfl (fun ls hl => ?_)
                            refine lv_goto (tgt := 61) hx hb dX7_says_275 (by decide) ?_
                            exact ih_61  (n - 1) (k + 1) V_89 _ _ _ (by omega) (by omega) (by intro a ha; rw [eV_89, mU_no _ _ ha]; exact hfr a ha) (by first | (exfalso; omega) | skip; rw [eV_89, mU_row, evX_s (by omega)]; first | exact hR.push (by first | exact Int32.not_lt.mp (by assumption) | assumption) (by omega) | exact hR.nm (by intro h; first | exact absurd h.1 (Int32.not_le.mpr (by assumption)) | exact absurd h.2 (by omega)) (by assumption) (by omega) eix hix | exact hR.nt0 (by intro h; first | exact absurd h.1 (Int32.not_le.mpr (by assumption)) | exact absurd h.2 (by omega)) (by intro h; first | exact absurd h.1 (by assumption) | exact absurd h.2 (by omega)) (by assumption) (by omega) (by assumption) | exact hR.nt1 (by intro h; first | exact absurd h.1 (Int32.not_le.mpr (by assumption)) | exact absurd h.2 (by omega)) (by intro h; first | exact absurd h.1 (by assumption) | exact absurd h.2 (by omega)) (by assumption) (by omega) (by assumption) | exact hR.ng (by intro h; first | exact absurd h.1 (Int32.not_le.mpr (by assumption)) | exact absurd h.2 (by omega)) (by intro h; first | exact absurd h.1 (by assumption) | exact absurd h.2 (by omega)) (by assumption) (by omega) | exact hR.jn (by intro h; first | exact absurd h.1 (Int32.not_le.mpr (by assumption)) | exact absurd h.2 (by omega)) (by intro h; first | exact absurd h.1 (by assumption) | exact absurd h.2 (by omega)) (by intro h; first | exact absurd h.1 (by assumption) | exact absurd h.2 (by omega)) (by intro h; first | exact absurd h.1 (by assumption) | exact absurd h.2 (by omega)) (by omega)) (by omega) hW (lv_sub hl [4, 5, 6, 7, 8, 1, 0] rfl)
                        · skip
                          refine lv_iload hx hb dX7_says_206 (lv_at hl 7 rfl) ?_
                          refine m_if_le (tgt := 233) hx hb dX7_says_208 (by decide) (fun c_90 => ?_) (fun c_90 => ?_)
                          · skip
                            have c_90 : n ≤ 0 := (nI_leI (by omega) (by omega)).mp c_90
                            refine lv_iload hx hb dX7_says_233 (lv_at hl 7 rfl) ?_
                            refine lv_iconst (v := nI 1) hx hb dX7_says_235 (by decide) ?_
                            refine lv_icmp_le (tgt := 272) hx hb dX7_says_236 (by decide) (fun c_91 => ?_) (fun c_91 => ?_)
                            · skip
                              have c_91 : n ≤ 1 := (nI_leI (by omega) (by omega)).mp c_91
                              refine lv_iinc (v := nI (k + 1)) (lv' := [(6, .int (nI (k + 1))), (8, .int ((-(V (t + 1) k)) - (nI 2))), (7, .int (V (t + 1) k)), (4, .int (nI ta)), (3, .int (nI 0)), (0, .ref (ad t)), (1, .int (nI 0)), (2, .ref (ad no)), (5, .int (nI n))]) hx hb dX7_says_272 hl (k := 8) rfl (m_inc k 1) (by decide) rfl (fun ls hl => ?_)
                              refine lv_goto (tgt := 61) hx hb dX7_says_275 (by decide) ?_
                              exact ih_61  n (k + 1) V1 _ _ _ (by omega) (by omega) (by exact hfr) (by rw [evX_s (by omega)]; exact hR.no (by intro h; first | exact absurd h.1 (Int32.not_le.mpr (by assumption)) | exact absurd h.2 (by omega)) (by intro h; first | exact absurd h.1 (by assumption) | exact absurd h.2 (by omega)) (by intro h; first | exact absurd h.1 (by assumption) | exact absurd h.2 (by omega)) (by intro h; first | exact absurd h.1 (by assumption) | exact absurd h.2 (by omega)) (by omega)) (by omega) hW (lv_sub hl [3, 4, 5, 6, 7, 8, 0] rfl)
                            · skip
                              have c_91 : ¬ n ≤ 1 := mt (nI_leI (by omega) (by omega)).mpr c_91
                              refine lv_iinc (v := nI (n - 1)) (lv' := [(5, .int (nI (n - 1))), (8, .int ((-(V (t + 1) k)) - (nI 2))), (7, .int (V (t + 1) k)), (4, .int (nI ta)), (3, .int (nI 0)), (0, .ref (ad t)), (1, .int (nI 0)), (2, .ref (ad no)), (6, .int (nI k))]) hx hb dX7_says_239 hl (k := 7) rfl (m_dec n 1 (by omega)) (by decide) rfl (fun ls hl => ?_)
                              refine lv_aload_n hx hb dX7_says_242 rfl (lv_at hl 5 rfl) ?_
                              refine m_getr S hW gt 4 rfl (j := (t + 2)) rfl kX7 (iW7 _) (by decide) (List.mem_cons_of_mem _ (wa_9 _ (List.mem_of_getElem? (i := 9) (by decide +kernel)))) dX7_says_243 ?_
                              refine lv_iload hx hb dX7_says_246 (lv_at hl 0 rfl) ?_
                              refine lv_iconst (v := nI 1) hx hb dX7_says_248 (by decide) ?_
                              refine lv_isub hx hb dX7_says_249 ?_
                              refine m_top (y := nI ((n - 1) - 1)) (pk_sub (by omega)) ?_
                              refine lv_iload hx hb dX7_says_250 (lv_at hl 2 rfl) ?_
                              refine lv_aload_n hx hb dX7_says_252 rfl (lv_at hl 5 rfl) ?_
                              refine m_getr S hW gt 4 rfl (j := (t + 2)) rfl kX7 (iW7 _) (by decide) (List.mem_cons_of_mem _ (wa_9 _ (List.mem_of_getElem? (i := 9) (by decide +kernel)))) dX7_says_253 ?_
                              refine lv_iload hx hb dX7_says_256 (lv_at hl 0 rfl) ?_
                              refine lv_iconst (v := nI 1) hx hb dX7_says_258 (by decide) ?_
                              refine lv_isub hx hb dX7_says_259 ?_
                              refine m_top (y := nI ((n - 1) - 1)) (pk_sub (by omega)) ?_
                              refine m_iald S hW gt2 ((n - 1) - 1) rfl (by omega) (by decide) dX7_says_260 ?_
                              refine m_top (y := (evX (V no) (V (t + 1)) 0 (k - 0)).2 (n - 1 - 1)) (hR.2 _ (by omega)) ?_
                              refine lv_aload_n hx hb dX7_says_261 rfl (lv_at hl 5 rfl) ?_
                              refine m_getr S hW gt 4 rfl (j := (t + 2)) rfl kX7 (iW7 _) (by decide) (List.mem_cons_of_mem _ (wa_9 _ (List.mem_of_getElem? (i := 9) (by decide +kernel)))) dX7_says_262 ?_
                              refine lv_iload hx hb dX7_says_265 (lv_at hl 0 rfl) ?_
                              refine m_iald S hW gt2 (n - 1) rfl (by omega) (by decide) dX7_says_267 ?_
                              refine m_top (y := (evX (V no) (V (t + 1)) 0 (k - 0)).2 (n - 1)) (hR.2 _ (by omega)) ?_
                              refine m_cie (m_rS S hW (c_X7_join l G ad sh1 V1 (V (t + 1) k) ((evX (V no) (V (t + 1)) 0 (k - 0)).2 (n - 1 - 1)) ((evX (V no) (V (t + 1)) 0 (k - 0)).2 (n - 1))) (va_cwS 3 hts (gCall [.methodLink RX7 34 yX7_join, .static yX7_join, .initialized RX7] (List.forall_mem_cons.mpr ⟨(wa_18 _ (List.mem_of_getElem? (i := 19) (by decide +kernel))), (List.forall_mem_cons.mpr ⟨(wa_18 _ (List.mem_of_getElem? (i := 17) (by decide +kernel))), (List.forall_mem_cons.mpr ⟨(wa_18 _ (List.mem_of_getElem? (i := 18) (by decide +kernel))), (List.forall_mem_cons.mpr ⟨(wa_9 _ (List.mem_of_getElem? (i := 4) (by decide +kernel))), (fun _ h => absurd h List.not_mem_nil)⟩)⟩)⟩)⟩)) rfl rfl rfl (by decide +kernel) ⟨Nat.le_of_ble_eq_true rfl, Nat.le_of_ble_eq_true rfl⟩) rfl hl.1 rfl (Nat.le_of_ble_eq_true rfl) dX7_says_268 ⟨Nat.le_of_ble_eq_true rfl, Nat.le_of_ble_eq_true rfl⟩) hW (fun H locs hW => ?_)
                              refine m_iast S hW gt2 ((n - 1) - 1) rfl (by omega) (by decide) dX7_says_271 (fun H locs hW => ?_)
                              obtain ⟨V_92, eV_92⟩ : ∃ z : mV, z = mU V1 (t + 2) ((n - 1) - 1) (fJoin (V (t + 1) k) ((evX (V no) (V (t + 1)) 0 (k - 0)).2 (n - 1 - 1)) ((evX (V no) (V (t + 1)) 0 (k - 0)).2 (n - 1))) := ⟨_, rfl⟩
                              rw [← eV_92] at hW
                              refine lv_iinc (v := nI (k + 1)) (lv' := [(6, .int (nI (k + 1))), (5, .int (nI (n - 1))), (8, .int ((-(V (t + 1) k)) - (nI 2))), (7, .int (V (t + 1) k)), (4, .int (nI ta)), (3, .int (nI 0)), (0, .ref (ad t)), (1, .int (nI 0)), (2, .ref (ad no))]) hx hb dX7_says_272 hl (k := 8) rfl (m_inc k 1) (by decide) rfl (fun ls hl => ?_)
                              refine lv_goto (tgt := 61) hx hb dX7_says_275 (by decide) ?_
                              exact ih_61  (n - 1) (k + 1) V_92 _ _ _ (by omega) (by omega) (by intro a ha; rw [eV_92, mU_no _ _ ha]; exact hfr a ha) (by first | (exfalso; omega) | skip; rw [eV_92, mU_row, evX_s (by omega)]; first | exact hR.push (by first | exact Int32.not_lt.mp (by assumption) | assumption) (by omega) | exact hR.nm (by intro h; first | exact absurd h.1 (Int32.not_le.mpr (by assumption)) | exact absurd h.2 (by omega)) (by assumption) (by omega) eix hix | exact hR.nt0 (by intro h; first | exact absurd h.1 (Int32.not_le.mpr (by assumption)) | exact absurd h.2 (by omega)) (by intro h; first | exact absurd h.1 (by assumption) | exact absurd h.2 (by omega)) (by assumption) (by omega) (by assumption) | exact hR.nt1 (by intro h; first | exact absurd h.1 (Int32.not_le.mpr (by assumption)) | exact absurd h.2 (by omega)) (by intro h; first | exact absurd h.1 (by assumption) | exact absurd h.2 (by omega)) (by assumption) (by omega) (by assumption) | exact hR.ng (by intro h; first | exact absurd h.1 (Int32.not_le.mpr (by assumption)) | exact absurd h.2 (by omega)) (by intro h; first | exact absurd h.1 (by assumption) | exact absurd h.2 (by omega)) (by assumption) (by omega) | exact hR.jn (by intro h; first | exact absurd h.1 (Int32.not_le.mpr (by assumption)) | exact absurd h.2 (by omega)) (by intro h; first | exact absurd h.1 (by assumption) | exact absurd h.2 (by omega)) (by intro h; first | exact absurd h.1 (by assumption) | exact absurd h.2 (by omega)) (by intro h; first | exact absurd h.1 (by assumption) | exact absurd h.2 (by omega)) (by omega)) (by omega) hW (lv_sub hl [4, 5, 6, 7, 8, 1, 0] rfl)
                          · skip
                            have c_90 : ¬ n ≤ 0 := mt (nI_leI (by omega) (by omega)).mpr c_90
                            refine lv_aload_n hx hb dX7_says_211 rfl (lv_at hl 4 rfl) ?_
                            refine m_getr S hW gt 4 rfl (j := (t + 2)) rfl kX7 (iW7 _) (by decide) (List.mem_cons_of_mem _ (wa_9 _ (List.mem_of_getElem? (i := 9) (by decide +kernel)))) dX7_says_212 ?_
                            refine lv_iload hx hb dX7_says_215 (lv_at hl 7 rfl) ?_
                            refine lv_iconst (v := nI 1) hx hb dX7_says_217 (by decide) ?_
                            refine lv_isub hx hb dX7_says_218 ?_
                            refine m_top (y := nI (n - 1)) (pk_sub (by omega)) ?_
                            refine lv_aload_n hx hb dX7_says_219 rfl (lv_at hl 4 rfl) ?_
                            refine m_getr S hW gt 4 rfl (j := (t + 2)) rfl kX7 (iW7 _) (by decide) (List.mem_cons_of_mem _ (wa_9 _ (List.mem_of_getElem? (i := 9) (by decide +kernel)))) dX7_says_220 ?_
                            refine lv_iload hx hb dX7_says_223 (lv_at hl 7 rfl) ?_
                            refine lv_iconst (v := nI 1) hx hb dX7_says_225 (by decide) ?_
                            refine lv_isub hx hb dX7_says_226 ?_
                            refine m_top (y := nI (n - 1)) (pk_sub (by omega)) ?_
                            refine m_iald S hW gt2 (n - 1) rfl (by omega) (by decide) dX7_says_227 ?_
                            refine m_top (y := (evX (V no) (V (t + 1)) 0 (k - 0)).2 (n - 1)) (hR.2 _ (by omega)) ?_
                            refine lv_ineg hx hb dX7_says_228 ?_
                            refine m_iast S hW gt2 (n - 1) rfl (by omega) (by decide) dX7_says_229 (fun H locs hW => ?_)
                            obtain ⟨V_93, eV_93⟩ : ∃ z : mV, z = mU V1 (t + 2) (n - 1) ((-((evX (V no) (V (t + 1)) 0 (k - 0)).2 (n - 1)))) := ⟨_, rfl⟩
                            rw [← eV_93] at hW
                            refine lv_goto (tgt := 272) hx hb dX7_says_230 (by decide) ?_
                            refine lv_iinc (v := nI (k + 1)) (lv' := [(6, .int (nI (k + 1))), (8, .int ((-(V (t + 1) k)) - (nI 2))), (7, .int (V (t + 1) k)), (4, .int (nI ta)), (3, .int (nI 0)), (0, .ref (ad t)), (1, .int (nI 0)), (2, .ref (ad no)), (5, .int (nI n))]) hx hb dX7_says_272 hl (k := 8) rfl (m_inc k 1) (by decide) rfl (fun ls hl => ?_)
                            refine lv_goto (tgt := 61) hx hb dX7_says_275 (by decide) ?_
                            exact ih_61  n (k + 1) V_93 _ _ _ (by omega) (by omega) (by intro a ha; rw [eV_93, mU_no _ _ ha]; exact hfr a ha) (by first | (exfalso; omega) | skip; rw [eV_93, mU_row, evX_s (by omega)]; first | exact hR.push (by first | exact Int32.not_lt.mp (by assumption) | assumption) (by omega) | exact hR.nm (by intro h; first | exact absurd h.1 (Int32.not_le.mpr (by assumption)) | exact absurd h.2 (by omega)) (by assumption) (by omega) eix hix | exact hR.nt0 (by intro h; first | exact absurd h.1 (Int32.not_le.mpr (by assumption)) | exact absurd h.2 (by omega)) (by intro h; first | exact absurd h.1 (by assumption) | exact absurd h.2 (by omega)) (by assumption) (by omega) (by assumption) | exact hR.nt1 (by intro h; first | exact absurd h.1 (Int32.not_le.mpr (by assumption)) | exact absurd h.2 (by omega)) (by intro h; first | exact absurd h.1 (by assumption) | exact absurd h.2 (by omega)) (by assumption) (by omega) (by assumption) | exact hR.ng (by intro h; first | exact absurd h.1 (Int32.not_le.mpr (by assumption)) | exact absurd h.2 (by omega)) (by intro h; first | exact absurd h.1 (by assumption) | exact absurd h.2 (by omega)) (by assumption) (by omega) | exact hR.jn (by intro h; first | exact absurd h.1 (Int32.not_le.mpr (by assumption)) | exact absurd h.2 (by omega)) (by intro h; first | exact absurd h.1 (by assumption) | exact absurd h.2 (by omega)) (by intro h; first | exact absurd h.1 (by assumption) | exact absurd h.2 (by omega)) (by intro h; first | exact absurd h.1 (by assumption) | exact absurd h.2 (by omega)) (by omega)) (by omega) hW (lv_sub hl [3, 4, 5, 6, 7, 8, 0] rfl)
                      · skip
                        refine lv_iload hx hb dX7_says_165 (lv_at hl 7 rfl) ?_
                        refine m_if_le (tgt := 199) hx hb dX7_says_167 (by decide) (fun c_94 => ?_) (fun c_94 => ?_)
                        · skip
                          have c_94 : n ≤ 0 := (nI_leI (by omega) (by omega)).mp c_94
                          refine lv_iload hx hb dX7_says_199 (lv_at hl 1 rfl) ?_
                          refine lv_bipush (v := -14) hx hb dX7_says_201 (by decide) ?_
                          refine lv_icmp_ne (tgt := 233) hx hb dX7_says_203 (by decide) (fun c_95 => ?_) (fun c_95 => ?_)
                          · skip
                            refine lv_iload hx hb dX7_says_233 (lv_at hl 7 rfl) ?_
                            refine lv_iconst (v := nI 1) hx hb dX7_says_235 (by decide) ?_
                            refine lv_icmp_le (tgt := 272) hx hb dX7_says_236 (by decide) (fun c_96 => ?_) (fun c_96 => ?_)
                            · skip
                              have c_96 : n ≤ 1 := (nI_leI (by omega) (by omega)).mp c_96
                              refine lv_iinc (v := nI (k + 1)) (lv' := [(6, .int (nI (k + 1))), (8, .int ((-(V (t + 1) k)) - (nI 2))), (7, .int (V (t + 1) k)), (4, .int (nI ta)), (3, .int (nI 0)), (0, .ref (ad t)), (1, .int (nI 0)), (2, .ref (ad no)), (5, .int (nI n))]) hx hb dX7_says_272 hl (k := 8) rfl (m_inc k 1) (by decide) rfl (fun ls hl => ?_)
                              refine lv_goto (tgt := 61) hx hb dX7_says_275 (by decide) ?_
                              exact ih_61  n (k + 1) V1 _ _ _ (by omega) (by omega) (by exact hfr) (by rw [evX_s (by omega)]; exact hR.no (by intro h; first | exact absurd h.1 (Int32.not_le.mpr (by assumption)) | exact absurd h.2 (by omega)) (by intro h; first | exact absurd h.1 (by assumption) | exact absurd h.2 (by omega)) (by intro h; first | exact absurd h.1 (by assumption) | exact absurd h.2 (by omega)) (by intro h; first | exact absurd h.1 (by assumption) | exact absurd h.2 (by omega)) (by omega)) (by omega) hW (lv_sub hl [3, 4, 5, 6, 7, 8, 0] rfl)
                            · skip
                              have c_96 : ¬ n ≤ 1 := mt (nI_leI (by omega) (by omega)).mpr c_96
                              refine lv_iinc (v := nI (n - 1)) (lv' := [(5, .int (nI (n - 1))), (8, .int ((-(V (t + 1) k)) - (nI 2))), (7, .int (V (t + 1) k)), (4, .int (nI ta)), (3, .int (nI 0)), (0, .ref (ad t)), (1, .int (nI 0)), (2, .ref (ad no)), (6, .int (nI k))]) hx hb dX7_says_239 hl (k := 7) rfl (m_dec n 1 (by omega)) (by decide) rfl (fun ls hl => ?_)
                              refine lv_aload_n hx hb dX7_says_242 rfl (lv_at hl 5 rfl) ?_
                              refine m_getr S hW gt 4 rfl (j := (t + 2)) rfl kX7 (iW7 _) (by decide) (List.mem_cons_of_mem _ (wa_9 _ (List.mem_of_getElem? (i := 9) (by decide +kernel)))) dX7_says_243 ?_
                              refine lv_iload hx hb dX7_says_246 (lv_at hl 0 rfl) ?_
                              refine lv_iconst (v := nI 1) hx hb dX7_says_248 (by decide) ?_
                              refine lv_isub hx hb dX7_says_249 ?_
                              refine m_top (y := nI ((n - 1) - 1)) (pk_sub (by omega)) ?_
                              refine lv_iload hx hb dX7_says_250 (lv_at hl 2 rfl) ?_
                              refine lv_aload_n hx hb dX7_says_252 rfl (lv_at hl 5 rfl) ?_
                              refine m_getr S hW gt 4 rfl (j := (t + 2)) rfl kX7 (iW7 _) (by decide) (List.mem_cons_of_mem _ (wa_9 _ (List.mem_of_getElem? (i := 9) (by decide +kernel)))) dX7_says_253 ?_
                              refine lv_iload hx hb dX7_says_256 (lv_at hl 0 rfl) ?_
                              refine lv_iconst (v := nI 1) hx hb dX7_says_258 (by decide) ?_
                              refine lv_isub hx hb dX7_says_259 ?_
                              refine m_top (y := nI ((n - 1) - 1)) (pk_sub (by omega)) ?_
                              refine m_iald S hW gt2 ((n - 1) - 1) rfl (by omega) (by decide) dX7_says_260 ?_
                              refine m_top (y := (evX (V no) (V (t + 1)) 0 (k - 0)).2 (n - 1 - 1)) (hR.2 _ (by omega)) ?_
                              refine lv_aload_n hx hb dX7_says_261 rfl (lv_at hl 5 rfl) ?_
                              refine m_getr S hW gt 4 rfl (j := (t + 2)) rfl kX7 (iW7 _) (by decide) (List.mem_cons_of_mem _ (wa_9 _ (List.mem_of_getElem? (i := 9) (by decide +kernel)))) dX7_says_262 ?_
                              refine lv_iload hx hb dX7_says_265 (lv_at hl 0 rfl) ?_
                              refine m_iald S hW gt2 (n - 1) rfl (by omega) (by decide) dX7_says_267 ?_
                              refine m_top (y := (evX (V no) (V (t + 1)) 0 (k - 0)).2 (n - 1)) (hR.2 _ (by omega)) ?_
                              refine m_cie (m_rS S hW (c_X7_join l G ad sh1 V1 (V (t + 1) k) ((evX (V no) (V (t + 1)) 0 (k - 0)).2 (n - 1 - 1)) ((evX (V no) (V (t + 1)) 0 (k - 0)).2 (n - 1))) (va_cwS 3 hts (gCall [.methodLink RX7 34 yX7_join, .static yX7_join, .initialized RX7] (List.forall_mem_cons.mpr ⟨(wa_18 _ (List.mem_of_getElem? (i := 19) (by decide +kernel))), (List.forall_mem_cons.mpr ⟨(wa_18 _ (List.mem_of_getElem? (i := 17) (by decide +kernel))), (List.forall_mem_cons.mpr ⟨(wa_18 _ (List.mem_of_getElem? (i := 18) (by decide +kernel))), (List.forall_mem_cons.mpr ⟨(wa_9 _ (List.mem_of_getElem? (i := 4) (by decide +kernel))), (fun _ h => absurd h List.not_mem_nil)⟩)⟩)⟩)⟩)) rfl rfl rfl (by decide +kernel) ⟨Nat.le_of_ble_eq_true rfl, Nat.le_of_ble_eq_true rfl⟩) rfl hl.1 rfl (Nat.le_of_ble_eq_true rfl) dX7_says_268 ⟨Nat.le_of_ble_eq_true rfl, Nat.le_of_ble_eq_true rfl⟩) hW (fun H locs hW => ?_)
                              refine m_iast S hW gt2 ((n - 1) - 1) rfl (by omega) (by decide) dX7_says_271 (fun H locs hW => ?_)
                              obtain ⟨V_97, eV_97⟩ : ∃ z : mV, z = mU V1 (t + 2) ((n - 1) - 1) (fJoin (V (t + 1) k) ((evX (V no) (V (t + 1)) 0 (k - 0)).2 (n - 1 - 1)) ((evX (V no) (V (t + 1)) 0 (k - 0)).2 (n - 1))) := ⟨_, rfl⟩
                              rw [← eV_97] at hW
                              refine lv_iinc (v := nI (k + 1)) (lv' := [(6, .int (nI (k + 1))), (5, .int (nI (n - 1))), (8, .int ((-(V (t + 1) k)) - (nI 2))), (7, .int (V (t + 1) k)), (4, .int (nI ta)), (3, .int (nI 0)), (0, .ref (ad t)), (1, .int (nI 0)), (2, .ref (ad no))]) hx hb dX7_says_272 hl (k := 8) rfl (m_inc k 1) (by decide) rfl (fun ls hl => ?_)
                              refine lv_goto (tgt := 61) hx hb dX7_says_275 (by decide) ?_
                              exact ih_61  (n - 1) (k + 1) V_97 _ _ _ (by omega) (by omega) (by intro a ha; rw [eV_97, mU_no _ _ ha]; exact hfr a ha) (by first | (exfalso; omega) | skip; rw [eV_97, mU_row, evX_s (by omega)]; first | exact hR.push (by first | exact Int32.not_lt.mp (by assumption) | assumption) (by omega) | exact hR.nm (by intro h; first | exact absurd h.1 (Int32.not_le.mpr (by assumption)) | exact absurd h.2 (by omega)) (by assumption) (by omega) eix hix | exact hR.nt0 (by intro h; first | exact absurd h.1 (Int32.not_le.mpr (by assumption)) | exact absurd h.2 (by omega)) (by intro h; first | exact absurd h.1 (by assumption) | exact absurd h.2 (by omega)) (by assumption) (by omega) (by assumption) | exact hR.nt1 (by intro h; first | exact absurd h.1 (Int32.not_le.mpr (by assumption)) | exact absurd h.2 (by omega)) (by intro h; first | exact absurd h.1 (by assumption) | exact absurd h.2 (by omega)) (by assumption) (by omega) (by assumption) | exact hR.ng (by intro h; first | exact absurd h.1 (Int32.not_le.mpr (by assumption)) | exact absurd h.2 (by omega)) (by intro h; first | exact absurd h.1 (by assumption) | exact absurd h.2 (by omega)) (by assumption) (by omega) | exact hR.jn (by intro h; first | exact absurd h.1 (Int32.not_le.mpr (by assumption)) | exact absurd h.2 (by omega)) (by intro h; first | exact absurd h.1 (by assumption) | exact absurd h.2 (by omega)) (by intro h; first | exact absurd h.1 (by assumption) | exact absurd h.2 (by omega)) (by intro h; first | exact absurd h.1 (by assumption) | exact absurd h.2 (by omega)) (by omega)) (by omega) hW (lv_sub hl [4, 5, 6, 7, 8, 1, 0] rfl)
                          · skip
                            refine lv_iload hx hb dX7_says_206 (lv_at hl 7 rfl) ?_
                            refine m_if_le (tgt := 233) hx hb dX7_says_208 (by decide) (fun c_98 => ?_) (fun c_98 => ?_)
                            · skip
                              have c_98 : n ≤ 0 := (nI_leI (by omega) (by omega)).mp c_98
                              refine lv_iload hx hb dX7_says_233 (lv_at hl 7 rfl) ?_
                              refine lv_iconst (v := nI 1) hx hb dX7_says_235 (by decide) ?_
                              refine lv_icmp_le (tgt := 272) hx hb dX7_says_236 (by decide) (fun c_99 => ?_) (fun c_99 => ?_)
                              · skip
                                have c_99 : n ≤ 1 := (nI_leI (by omega) (by omega)).mp c_99
                                refine lv_iinc (v := nI (k + 1)) (lv' := [(6, .int (nI (k + 1))), (8, .int ((-(V (t + 1) k)) - (nI 2))), (7, .int (V (t + 1) k)), (4, .int (nI ta)), (3, .int (nI 0)), (0, .ref (ad t)), (1, .int (nI 0)), (2, .ref (ad no)), (5, .int (nI n))]) hx hb dX7_says_272 hl (k := 8) rfl (m_inc k 1) (by decide) rfl (fun ls hl => ?_)
                                refine lv_goto (tgt := 61) hx hb dX7_says_275 (by decide) ?_
                                exact ih_61  n (k + 1) V1 _ _ _ (by omega) (by omega) (by exact hfr) (by rw [evX_s (by omega)]; exact hR.no (by intro h; first | exact absurd h.1 (Int32.not_le.mpr (by assumption)) | exact absurd h.2 (by omega)) (by intro h; first | exact absurd h.1 (by assumption) | exact absurd h.2 (by omega)) (by intro h; first | exact absurd h.1 (by assumption) | exact absurd h.2 (by omega)) (by intro h; first | exact absurd h.1 (by assumption) | exact absurd h.2 (by omega)) (by omega)) (by omega) hW (lv_sub hl [3, 4, 5, 6, 7, 8, 0] rfl)
                              · skip
                                have c_99 : ¬ n ≤ 1 := mt (nI_leI (by omega) (by omega)).mpr c_99
                                refine lv_iinc (v := nI (n - 1)) (lv' := [(5, .int (nI (n - 1))), (8, .int ((-(V (t + 1) k)) - (nI 2))), (7, .int (V (t + 1) k)), (4, .int (nI ta)), (3, .int (nI 0)), (0, .ref (ad t)), (1, .int (nI 0)), (2, .ref (ad no)), (6, .int (nI k))]) hx hb dX7_says_239 hl (k := 7) rfl (m_dec n 1 (by omega)) (by decide) rfl (fun ls hl => ?_)
                                refine lv_aload_n hx hb dX7_says_242 rfl (lv_at hl 5 rfl) ?_
                                refine m_getr S hW gt 4 rfl (j := (t + 2)) rfl kX7 (iW7 _) (by decide) (List.mem_cons_of_mem _ (wa_9 _ (List.mem_of_getElem? (i := 9) (by decide +kernel)))) dX7_says_243 ?_
                                refine lv_iload hx hb dX7_says_246 (lv_at hl 0 rfl) ?_
                                refine lv_iconst (v := nI 1) hx hb dX7_says_248 (by decide) ?_
                                refine lv_isub hx hb dX7_says_249 ?_
                                refine m_top (y := nI ((n - 1) - 1)) (pk_sub (by omega)) ?_
                                refine lv_iload hx hb dX7_says_250 (lv_at hl 2 rfl) ?_
                                refine lv_aload_n hx hb dX7_says_252 rfl (lv_at hl 5 rfl) ?_
                                refine m_getr S hW gt 4 rfl (j := (t + 2)) rfl kX7 (iW7 _) (by decide) (List.mem_cons_of_mem _ (wa_9 _ (List.mem_of_getElem? (i := 9) (by decide +kernel)))) dX7_says_253 ?_
                                refine lv_iload hx hb dX7_says_256 (lv_at hl 0 rfl) ?_
                                refine lv_iconst (v := nI 1) hx hb dX7_says_258 (by decide) ?_
                                refine lv_isub hx hb dX7_says_259 ?_
                                refine m_top (y := nI ((n - 1) - 1)) (pk_sub (by omega)) ?_
                                refine m_iald S hW gt2 ((n - 1) - 1) rfl (by omega) (by decide) dX7_says_260 ?_
                                refine m_top (y := (evX (V no) (V (t + 1)) 0 (k - 0)).2 (n - 1 - 1)) (hR.2 _ (by omega)) ?_
                                refine lv_aload_n hx hb dX7_says_261 rfl (lv_at hl 5 rfl) ?_
                                refine m_getr S hW gt 4 rfl (j := (t + 2)) rfl kX7 (iW7 _) (by decide) (List.mem_cons_of_mem _ (wa_9 _ (List.mem_of_getElem? (i := 9) (by decide +kernel)))) dX7_says_262 ?_
                                refine lv_iload hx hb dX7_says_265 (lv_at hl 0 rfl) ?_
                                refine m_iald S hW gt2 (n - 1) rfl (by omega) (by decide) dX7_says_267 ?_
                                refine m_top (y := (evX (V no) (V (t + 1)) 0 (k - 0)).2 (n - 1)) (hR.2 _ (by omega)) ?_
                                refine m_cie (m_rS S hW (c_X7_join l G ad sh1 V1 (V (t + 1) k) ((evX (V no) (V (t + 1)) 0 (k - 0)).2 (n - 1 - 1)) ((evX (V no) (V (t + 1)) 0 (k - 0)).2 (n - 1))) (va_cwS 3 hts (gCall [.methodLink RX7 34 yX7_join, .static yX7_join, .initialized RX7] (List.forall_mem_cons.mpr ⟨(wa_18 _ (List.mem_of_getElem? (i := 19) (by decide +kernel))), (List.forall_mem_cons.mpr ⟨(wa_18 _ (List.mem_of_getElem? (i := 17) (by decide +kernel))), (List.forall_mem_cons.mpr ⟨(wa_18 _ (List.mem_of_getElem? (i := 18) (by decide +kernel))), (List.forall_mem_cons.mpr ⟨(wa_9 _ (List.mem_of_getElem? (i := 4) (by decide +kernel))), (fun _ h => absurd h List.not_mem_nil)⟩)⟩)⟩)⟩)) rfl rfl rfl (by decide +kernel) ⟨Nat.le_of_ble_eq_true rfl, Nat.le_of_ble_eq_true rfl⟩) rfl hl.1 rfl (Nat.le_of_ble_eq_true rfl) dX7_says_268 ⟨Nat.le_of_ble_eq_true rfl, Nat.le_of_ble_eq_true rfl⟩) hW (fun H locs hW => ?_)
                                refine m_iast S hW gt2 ((n - 1) - 1) rfl (by omega) (by decide) dX7_says_271 (fun H locs hW => ?_)
                                obtain ⟨V_100, eV_100⟩ : ∃ z : mV, z = mU V1 (t + 2) ((n - 1) - 1) (fJoin (V (t + 1) k) ((evX (V no) (V (t + 1)) 0 (k - 0)).2 (n - 1 - 1)) ((evX (V no) (V (t + 1)) 0 (k - 0)).2 (n - 1))) := ⟨_, rfl⟩
                                rw [← eV_100] at hW
                                refine lv_iinc (v := nI (k + 1)) (lv' := [(6, .int (nI (k + 1))), (5, .int (nI (n - 1))), (8, .int ((-(V (t + 1) k)) - (nI 2))), (7, .int (V (t + 1) k)), (4, .int (nI ta)), (3, .int (nI 0)), (0, .ref (ad t)), (1, .int (nI 0)), (2, .ref (ad no))]) hx hb dX7_says_272 hl (k := 8) rfl (m_inc k 1) (by decide) rfl (fun ls hl => ?_)
                                refine lv_goto (tgt := 61) hx hb dX7_says_275 (by decide) ?_
                                exact ih_61  (n - 1) (k + 1) V_100 _ _ _ (by omega) (by omega) (by intro a ha; rw [eV_100, mU_no _ _ ha]; exact hfr a ha) (by first | (exfalso; omega) | skip; rw [eV_100, mU_row, evX_s (by omega)]; first | exact hR.push (by first | exact Int32.not_lt.mp (by assumption) | assumption) (by omega) | exact hR.nm (by intro h; first | exact absurd h.1 (Int32.not_le.mpr (by assumption)) | exact absurd h.2 (by omega)) (by assumption) (by omega) eix hix | exact hR.nt0 (by intro h; first | exact absurd h.1 (Int32.not_le.mpr (by assumption)) | exact absurd h.2 (by omega)) (by intro h; first | exact absurd h.1 (by assumption) | exact absurd h.2 (by omega)) (by assumption) (by omega) (by assumption) | exact hR.nt1 (by intro h; first | exact absurd h.1 (Int32.not_le.mpr (by assumption)) | exact absurd h.2 (by omega)) (by intro h; first | exact absurd h.1 (by assumption) | exact absurd h.2 (by omega)) (by assumption) (by omega) (by assumption) | exact hR.ng (by intro h; first | exact absurd h.1 (Int32.not_le.mpr (by assumption)) | exact absurd h.2 (by omega)) (by intro h; first | exact absurd h.1 (by assumption) | exact absurd h.2 (by omega)) (by assumption) (by omega) | exact hR.jn (by intro h; first | exact absurd h.1 (Int32.not_le.mpr (by assumption)) | exact absurd h.2 (by omega)) (by intro h; first | exact absurd h.1 (by assumption) | exact absurd h.2 (by omega)) (by intro h; first | exact absurd h.1 (by assumption) | exact absurd h.2 (by omega)) (by intro h; first | exact absurd h.1 (by assumption) | exact absurd h.2 (by omega)) (by omega)) (by omega) hW (lv_sub hl [4, 5, 6, 7, 8, 1, 0] rfl)
                            · skip
                              have c_98 : ¬ n ≤ 0 := mt (nI_leI (by omega) (by omega)).mpr c_98
                              refine lv_aload_n hx hb dX7_says_211 rfl (lv_at hl 4 rfl) ?_
                              refine m_getr S hW gt 4 rfl (j := (t + 2)) rfl kX7 (iW7 _) (by decide) (List.mem_cons_of_mem _ (wa_9 _ (List.mem_of_getElem? (i := 9) (by decide +kernel)))) dX7_says_212 ?_
                              refine lv_iload hx hb dX7_says_215 (lv_at hl 7 rfl) ?_
                              refine lv_iconst (v := nI 1) hx hb dX7_says_217 (by decide) ?_
                              refine lv_isub hx hb dX7_says_218 ?_
                              refine m_top (y := nI (n - 1)) (pk_sub (by omega)) ?_
                              refine lv_aload_n hx hb dX7_says_219 rfl (lv_at hl 4 rfl) ?_
                              refine m_getr S hW gt 4 rfl (j := (t + 2)) rfl kX7 (iW7 _) (by decide) (List.mem_cons_of_mem _ (wa_9 _ (List.mem_of_getElem? (i := 9) (by decide +kernel)))) dX7_says_220 ?_
                              refine lv_iload hx hb dX7_says_223 (lv_at hl 7 rfl) ?_
                              refine lv_iconst (v := nI 1) hx hb dX7_says_225 (by decide) ?_
                              refine lv_isub hx hb dX7_says_226 ?_
                              refine m_top (y := nI (n - 1)) (pk_sub (by omega)) ?_
                              refine m_iald S hW gt2 (n - 1) rfl (by omega) (by decide) dX7_says_227 ?_
                              refine m_top (y := (evX (V no) (V (t + 1)) 0 (k - 0)).2 (n - 1)) (hR.2 _ (by omega)) ?_
                              refine lv_ineg hx hb dX7_says_228 ?_
                              refine m_iast S hW gt2 (n - 1) rfl (by omega) (by decide) dX7_says_229 (fun H locs hW => ?_)
                              obtain ⟨V_101, eV_101⟩ : ∃ z : mV, z = mU V1 (t + 2) (n - 1) ((-((evX (V no) (V (t + 1)) 0 (k - 0)).2 (n - 1)))) := ⟨_, rfl⟩
                              rw [← eV_101] at hW
                              refine lv_goto (tgt := 272) hx hb dX7_says_230 (by decide) ?_
                              refine lv_iinc (v := nI (k + 1)) (lv' := [(6, .int (nI (k + 1))), (8, .int ((-(V (t + 1) k)) - (nI 2))), (7, .int (V (t + 1) k)), (4, .int (nI ta)), (3, .int (nI 0)), (0, .ref (ad t)), (1, .int (nI 0)), (2, .ref (ad no)), (5, .int (nI n))]) hx hb dX7_says_272 hl (k := 8) rfl (m_inc k 1) (by decide) rfl (fun ls hl => ?_)
                              refine lv_goto (tgt := 61) hx hb dX7_says_275 (by decide) ?_
                              exact ih_61  n (k + 1) V_101 _ _ _ (by omega) (by omega) (by intro a ha; rw [eV_101, mU_no _ _ ha]; exact hfr a ha) (by first | (exfalso; omega) | skip; rw [eV_101, mU_row, evX_s (by omega)]; first | exact hR.push (by first | exact Int32.not_lt.mp (by assumption) | assumption) (by omega) | exact hR.nm (by intro h; first | exact absurd h.1 (Int32.not_le.mpr (by assumption)) | exact absurd h.2 (by omega)) (by assumption) (by omega) eix hix | exact hR.nt0 (by intro h; first | exact absurd h.1 (Int32.not_le.mpr (by assumption)) | exact absurd h.2 (by omega)) (by intro h; first | exact absurd h.1 (by assumption) | exact absurd h.2 (by omega)) (by assumption) (by omega) (by assumption) | exact hR.nt1 (by intro h; first | exact absurd h.1 (Int32.not_le.mpr (by assumption)) | exact absurd h.2 (by omega)) (by intro h; first | exact absurd h.1 (by assumption) | exact absurd h.2 (by omega)) (by assumption) (by omega) (by assumption) | exact hR.ng (by intro h; first | exact absurd h.1 (Int32.not_le.mpr (by assumption)) | exact absurd h.2 (by omega)) (by intro h; first | exact absurd h.1 (by assumption) | exact absurd h.2 (by omega)) (by assumption) (by omega) | exact hR.jn (by intro h; first | exact absurd h.1 (Int32.not_le.mpr (by assumption)) | exact absurd h.2 (by omega)) (by intro h; first | exact absurd h.1 (by assumption) | exact absurd h.2 (by omega)) (by intro h; first | exact absurd h.1 (by assumption) | exact absurd h.2 (by omega)) (by intro h; first | exact absurd h.1 (by assumption) | exact absurd h.2 (by omega)) (by omega)) (by omega) hW (lv_sub hl [3, 4, 5, 6, 7, 8, 0] rfl)
                        · skip
                          have c_94 : ¬ n ≤ 0 := mt (nI_leI (by omega) (by omega)).mpr c_94
                          refine lv_aload_n hx hb dX7_says_170 rfl (lv_at hl 4 rfl) ?_
                          refine m_getr S hW gt 4 rfl (j := (t + 2)) rfl kX7 (iW7 _) (by decide) (List.mem_cons_of_mem _ (wa_9 _ (List.mem_of_getElem? (i := 9) (by decide +kernel)))) dX7_says_171 ?_
                          refine lv_iload hx hb dX7_says_174 (lv_at hl 7 rfl) ?_
                          refine lv_iconst (v := nI 1) hx hb dX7_says_176 (by decide) ?_
                          refine lv_isub hx hb dX7_says_177 ?_
                          refine m_top (y := nI (n - 1)) (pk_sub (by omega)) ?_
                          refine lv_aload_n hx hb dX7_says_178 rfl (lv_at hl 4 rfl) ?_
                          refine m_getr S hW gt 4 rfl (j := (t + 2)) rfl kX7 (iW7 _) (by decide) (List.mem_cons_of_mem _ (wa_9 _ (List.mem_of_getElem? (i := 9) (by decide +kernel)))) dX7_says_179 ?_
                          refine lv_iload hx hb dX7_says_182 (lv_at hl 7 rfl) ?_
                          refine lv_iconst (v := nI 1) hx hb dX7_says_184 (by decide) ?_
                          refine lv_isub hx hb dX7_says_185 ?_
                          refine m_top (y := nI (n - 1)) (pk_sub (by omega)) ?_
                          refine m_iald S hW gt2 (n - 1) rfl (by omega) (by decide) dX7_says_186 ?_
                          refine m_top (y := (evX (V no) (V (t + 1)) 0 (k - 0)).2 (n - 1)) (hR.2 _ (by omega)) ?_
                          refine m_if_ne (tgt := 194) hx hb dX7_says_187 (by decide) (fun c_102 => ?_) (fun c_102 => ?_)
                          · skip
                            refine lv_iconst (v := nI 0) hx hb dX7_says_194 (by decide) ?_
                            refine m_iast S hW gt2 (n - 1) rfl (by omega) (by decide) dX7_says_195 (fun H locs hW => ?_)
                            obtain ⟨V_103, eV_103⟩ : ∃ z : mV, z = mU V1 (t + 2) (n - 1) (nI 0) := ⟨_, rfl⟩
                            rw [← eV_103] at hW
                            refine lv_goto (tgt := 272) hx hb dX7_says_196 (by decide) ?_
                            refine lv_iinc (v := nI (k + 1)) (lv' := [(6, .int (nI (k + 1))), (8, .int ((-(V (t + 1) k)) - (nI 2))), (7, .int (V (t + 1) k)), (4, .int (nI ta)), (3, .int (nI 0)), (0, .ref (ad t)), (1, .int (nI 0)), (2, .ref (ad no)), (5, .int (nI n))]) hx hb dX7_says_272 hl (k := 8) rfl (m_inc k 1) (by decide) rfl (fun ls hl => ?_)
                            refine lv_goto (tgt := 61) hx hb dX7_says_275 (by decide) ?_
                            exact ih_61  n (k + 1) V_103 _ _ _ (by omega) (by omega) (by intro a ha; rw [eV_103, mU_no _ _ ha]; exact hfr a ha) (by first | (exfalso; omega) | skip; rw [eV_103, mU_row, evX_s (by omega)]; first | exact hR.push (by first | exact Int32.not_lt.mp (by assumption) | assumption) (by omega) | exact hR.nm (by intro h; first | exact absurd h.1 (Int32.not_le.mpr (by assumption)) | exact absurd h.2 (by omega)) (by assumption) (by omega) eix hix | exact hR.nt0 (by intro h; first | exact absurd h.1 (Int32.not_le.mpr (by assumption)) | exact absurd h.2 (by omega)) (by intro h; first | exact absurd h.1 (by assumption) | exact absurd h.2 (by omega)) (by assumption) (by omega) (by assumption) | exact hR.nt1 (by intro h; first | exact absurd h.1 (Int32.not_le.mpr (by assumption)) | exact absurd h.2 (by omega)) (by intro h; first | exact absurd h.1 (by assumption) | exact absurd h.2 (by omega)) (by assumption) (by omega) (by assumption) | exact hR.ng (by intro h; first | exact absurd h.1 (Int32.not_le.mpr (by assumption)) | exact absurd h.2 (by omega)) (by intro h; first | exact absurd h.1 (by assumption) | exact absurd h.2 (by omega)) (by assumption) (by omega) | exact hR.jn (by intro h; first | exact absurd h.1 (Int32.not_le.mpr (by assumption)) | exact absurd h.2 (by omega)) (by intro h; first | exact absurd h.1 (by assumption) | exact absurd h.2 (by omega)) (by intro h; first | exact absurd h.1 (by assumption) | exact absurd h.2 (by omega)) (by intro h; first | exact absurd h.1 (by assumption) | exact absurd h.2 (by omega)) (by omega)) (by omega) hW (lv_sub hl [3, 4, 5, 6, 7, 8, 0] rfl)
                          · skip
                            refine lv_iconst (v := nI 1) hx hb dX7_says_190 (by decide) ?_
                            refine lv_goto (tgt := 195) hx hb dX7_says_191 (by decide) ?_
                            refine m_iast S hW gt2 (n - 1) rfl (by omega) (by decide) dX7_says_195 (fun H locs hW => ?_)
                            obtain ⟨V_104, eV_104⟩ : ∃ z : mV, z = mU V1 (t + 2) (n - 1) (nI 1) := ⟨_, rfl⟩
                            rw [← eV_104] at hW
                            refine lv_goto (tgt := 272) hx hb dX7_says_196 (by decide) ?_
                            refine lv_iinc (v := nI (k + 1)) (lv' := [(6, .int (nI (k + 1))), (8, .int ((-(V (t + 1) k)) - (nI 2))), (7, .int (V (t + 1) k)), (4, .int (nI ta)), (3, .int (nI 0)), (0, .ref (ad t)), (1, .int (nI 0)), (2, .ref (ad no)), (5, .int (nI n))]) hx hb dX7_says_272 hl (k := 8) rfl (m_inc k 1) (by decide) rfl (fun ls hl => ?_)
                            refine lv_goto (tgt := 61) hx hb dX7_says_275 (by decide) ?_
                            exact ih_61  n (k + 1) V_104 _ _ _ (by omega) (by omega) (by intro a ha; rw [eV_104, mU_no _ _ ha]; exact hfr a ha) (by first | (exfalso; omega) | skip; rw [eV_104, mU_row, evX_s (by omega)]; first | exact hR.push (by first | exact Int32.not_lt.mp (by assumption) | assumption) (by omega) | exact hR.nm (by intro h; first | exact absurd h.1 (Int32.not_le.mpr (by assumption)) | exact absurd h.2 (by omega)) (by assumption) (by omega) eix hix | exact hR.nt0 (by intro h; first | exact absurd h.1 (Int32.not_le.mpr (by assumption)) | exact absurd h.2 (by omega)) (by intro h; first | exact absurd h.1 (by assumption) | exact absurd h.2 (by omega)) (by assumption) (by omega) (by assumption) | exact hR.nt1 (by intro h; first | exact absurd h.1 (Int32.not_le.mpr (by assumption)) | exact absurd h.2 (by omega)) (by intro h; first | exact absurd h.1 (by assumption) | exact absurd h.2 (by omega)) (by assumption) (by omega) (by assumption) | exact hR.ng (by intro h; first | exact absurd h.1 (Int32.not_le.mpr (by assumption)) | exact absurd h.2 (by omega)) (by intro h; first | exact absurd h.1 (by assumption) | exact absurd h.2 (by omega)) (by assumption) (by omega) | exact hR.jn (by intro h; first | exact absurd h.1 (Int32.not_le.mpr (by assumption)) | exact absurd h.2 (by omega)) (by intro h; first | exact absurd h.1 (by assumption) | exact absurd h.2 (by omega)) (by intro h; first | exact absurd h.1 (by assumption) | exact absurd h.2 (by omega)) (by intro h; first | exact absurd h.1 (by assumption) | exact absurd h.2 (by omega)) (by omega)) (by omega) hW (lv_sub hl [3, 4, 5, 6, 7, 8, 0] rfl)
                    · exact absurd c_85 (by decide)
                · skip
                  have c_58 : ¬ 32 ≤ n := mt (nI_leI (by omega) (by omega)).mpr c_58
                  refine lv_aload_n hx hb dX7_says_106 rfl (lv_at hl 4 rfl) ?_
                  refine m_getr S hW gt 4 rfl (j := (t + 2)) rfl kX7 (iW7 _) (by decide) (List.mem_cons_of_mem _ (wa_9 _ (List.mem_of_getElem? (i := 9) (by decide +kernel)))) dX7_says_107 ?_
                  refine lv_iload hx hb dX7_says_110 (lv_at hl 7 rfl) ?_
                  refine lv_iinc (v := nI (n + 1)) (lv' := [(5, .int (nI (n + 1))), (8, .int ((-(V (t + 1) k)) - (nI 2))), (7, .int (V (t + 1) k)), (4, .int (nI ta)), (3, .int (nI 0)), (0, .ref (ad t)), (1, .int (nI 0)), (2, .ref (ad no)), (6, .int (nI k))]) hx hb dX7_says_112 hl (k := 7) rfl (m_inc n 1) (by decide) rfl (fun ls hl => ?_)
                  refine lv_iload hx hb dX7_says_115 (lv_at hl 2 rfl) ?_
                  refine m_iast S hW gt2 n rfl (by omega) (by decide) dX7_says_117 (fun H locs hW => ?_)
                  obtain ⟨V_105, eV_105⟩ : ∃ z : mV, z = mU V1 (t + 2) n (V (t + 1) k) := ⟨_, rfl⟩
                  rw [← eV_105] at hW
                  refine lv_goto (tgt := 272) hx hb dX7_says_118 (by decide) ?_
                  refine lv_iinc (v := nI (k + 1)) (lv' := [(6, .int (nI (k + 1))), (5, .int (nI (n + 1))), (8, .int ((-(V (t + 1) k)) - (nI 2))), (7, .int (V (t + 1) k)), (4, .int (nI ta)), (3, .int (nI 0)), (0, .ref (ad t)), (1, .int (nI 0)), (2, .ref (ad no))]) hx hb dX7_says_272 hl (k := 8) rfl (m_inc k 1) (by decide) rfl (fun ls hl => ?_)
                  refine lv_goto (tgt := 61) hx hb dX7_says_275 (by decide) ?_
                  exact ih_61  (n + 1) (k + 1) V_105 _ _ _ (by omega) (by omega) (by intro a ha; rw [eV_105, mU_no _ _ ha]; exact hfr a ha) (by first | (exfalso; omega) | skip; rw [eV_105, mU_row, evX_s (by omega)]; first | exact hR.push (by first | exact Int32.not_lt.mp (by assumption) | assumption) (by omega) | exact hR.nm (by intro h; first | exact absurd h.1 (Int32.not_le.mpr (by assumption)) | exact absurd h.2 (by omega)) (by assumption) (by omega) eix hix | exact hR.nt0 (by intro h; first | exact absurd h.1 (Int32.not_le.mpr (by assumption)) | exact absurd h.2 (by omega)) (by intro h; first | exact absurd h.1 (by assumption) | exact absurd h.2 (by omega)) (by assumption) (by omega) (by assumption) | exact hR.nt1 (by intro h; first | exact absurd h.1 (Int32.not_le.mpr (by assumption)) | exact absurd h.2 (by omega)) (by intro h; first | exact absurd h.1 (by assumption) | exact absurd h.2 (by omega)) (by assumption) (by omega) (by assumption) | exact hR.ng (by intro h; first | exact absurd h.1 (Int32.not_le.mpr (by assumption)) | exact absurd h.2 (by omega)) (by intro h; first | exact absurd h.1 (by assumption) | exact absurd h.2 (by omega)) (by assumption) (by omega) | exact hR.jn (by intro h; first | exact absurd h.1 (Int32.not_le.mpr (by assumption)) | exact absurd h.2 (by omega)) (by intro h; first | exact absurd h.1 (by assumption) | exact absurd h.2 (by omega)) (by intro h; first | exact absurd h.1 (by assumption) | exact absurd h.2 (by omega)) (by intro h; first | exact absurd h.1 (by assumption) | exact absurd h.2 (by omega)) (by omega)) (by omega) hW (lv_sub hl [4, 5, 6, 7, 8, 1, 0] rfl)
      exact loop_61 (ta - 0 + 1) 0 0 V0 _ _ _ (by omega) (by omega) (by exact hfr) (by rw [Nat.sub_self]; exact ⟨rfl, fun j hj => absurd hj (by omega)⟩) (by omega) hW (lv_sub hl [2, 3, 4, 5, 6, 1, 0] rfl)
set_option maxHeartbeats 4000000 in
set_option maxRecDepth 100000 in
theorem c_X7_says_1 (l : Launch) (G : mG) (ad : Nat → Nat) (sh : Nat → Option mSh) (V : mV) (t tl ta tb no : Nat) (ht : sh t = some (sText t)) (ht1 : sh (t + 1) = some (mI tl)) (ht2 : sh (t + 2) = some (mS 32)) (hta : V t 2 = nI ta) (htb : V t 3 = nI tb) (htl : ta ≤ tb ∧ tb ≤ tl ∧ tl ≤ 160) (hno : sh no = some (mI 6)) (hno2 : no ≠ t + 2) : mM l yX7_says wsX7_says ({ frames := 1, cells := 0, slots := 0, locals := 61 } : Room) G ad sh V [.ref (ad t), .int (nI 1), .ref (ad no)] 0 0 (mPe ad sh V (fAsk (V (t + 1)) ta tb tl 1 (V no))) := by
  refine mM.of (cc := cX7_says) (maxL := 9) (ret := (some .int)) (by decide) rfl (Nat.le_of_ble_eq_true rfl) ?_
  intro p e s m below meth c S hr hlk hnm hW ls hl
  obtain ⟨hx, hb, hml, hown, hts⟩ := id S
  have hl : lv_has ls 9 [(0, .ref (ad t)), (1, .int (nI 1)), (2, .ref (ad no))] := hl
  have hS0 : True := trivial
  obtain ⟨u, hW⟩ := hW.learn ht2
  have gt : va_up sh (t + 2) (some (mI 32)) t = some (sText t) := by simp [va_up, ht]
  have gt1 : va_up sh (t + 2) (some (mI 32)) (t + 1) = some (mI tl) := by simp [va_up, ht1]
  have gt2 : va_up sh (t + 2) (some (mI 32)) (t + 2) = some (mI 32) := by simp [va_up]
  have gn : va_up sh (t + 2) (some (mI 32)) no = some (mI 6) := by simp [va_up, hno2, hno]
  generalize hsh : va_up sh (t + 2) (some (mI 32)) = sh1 at hW gt gt1 gt2 gn
  generalize hV0 : va_up V (t + 2) u = V0 at hW
  have hfr : ∀ a, a ≠ t + 2 → V0 a = V a := fun a ha => by rw [← hV0]; simp [va_up, ha]
  refine lv_iload_n hx hb dX7_says_0 rfl (lv_at hl 1 rfl) ?_
  refine m_if_ne (tgt := 8) hx hb dX7_says_1 (by decide) (fun c_1 => ?_) (fun c_1 => ?_)
  · skip
    refine lv_iload_n hx hb dX7_says_8 rfl (lv_at hl 1 rfl) ?_
    refine lv_iconst (v := nI 1) hx hb dX7_says_9 (by decide) ?_
    refine lv_icmp_ne (tgt := 20) hx hb dX7_says_10 (by decide) (fun c_2 => ?_) (fun c_2 => ?_)
    · exact absurd c_2 (by decide)
    · skip
      refine lv_aload_n hx hb dX7_says_13 rfl (lv_at hl 0 rfl) ?_
      refine m_geti S hW gt 2 rfl kX7 (iW7 _) (by decide) (List.mem_cons_of_mem _ (wa_9 _ (List.mem_of_getElem? (i := 12) (by decide +kernel)))) dX7_says_14 ?_
      refine m_top (y := nI ta) (by rw [hfr t (by omega)]; exact hta) ?_
      refine lv_goto (tgt := 24) hx hb dX7_says_17 (by decide) ?_
      refine lv_istore_n (lv' := [(3, .int (nI ta)), (0, .ref (ad t)), (1, .int (nI 1)), (2, .ref (ad no))]) hx hb dX7_says_24 rfl hl (by decide) rfl (fun ls hl => ?_)
      refine lv_iload_n hx hb dX7_says_25 rfl (lv_at hl 2 rfl) ?_
      refine m_if_ne (tgt := 36) hx hb dX7_says_26 (by decide) (fun c_3 => ?_) (fun c_3 => ?_)
      · skip
        refine lv_iload_n hx hb dX7_says_36 rfl (lv_at hl 2 rfl) ?_
        refine lv_iconst (v := nI 1) hx hb dX7_says_37 (by decide) ?_
        refine lv_icmp_ne (tgt := 48) hx hb dX7_says_38 (by decide) (fun c_4 => ?_) (fun c_4 => ?_)
        · exact absurd c_4 (by decide)
        · skip
          refine lv_aload_n hx hb dX7_says_41 rfl (lv_at hl 1 rfl) ?_
          refine m_geti S hW gt 3 rfl kX7 (iW7 _) (by decide) (List.mem_cons_of_mem _ (wa_9 _ (List.mem_of_getElem? (i := 13) (by decide +kernel)))) dX7_says_42 ?_
          refine m_top (y := nI tb) (by rw [hfr t (by omega)]; exact htb) ?_
          refine lv_goto (tgt := 53) hx hb dX7_says_45 (by decide) ?_
          refine lv_istore (lv' := [(4, .int (nI tb)), (3, .int (nI ta)), (0, .ref (ad t)), (1, .int (nI 1)), (2, .ref (ad no))]) hx hb dX7_says_53 hl (by decide) rfl (fun ls hl => ?_)
          refine lv_iconst (v := nI 0) hx hb dX7_says_55 (by decide) ?_
          refine lv_istore (lv' := [(5, .int (nI 0)), (4, .int (nI tb)), (3, .int (nI ta)), (0, .ref (ad t)), (1, .int (nI 1)), (2, .ref (ad no))]) hx hb dX7_says_56 hl (by decide) rfl (fun ls hl => ?_)
          refine lv_iload_n hx hb dX7_says_58 rfl (lv_at hl 2 rfl) ?_
          refine lv_istore (lv' := [(6, .int (nI ta)), (5, .int (nI 0)), (4, .int (nI tb)), (3, .int (nI ta)), (0, .ref (ad t)), (1, .int (nI 1)), (2, .ref (ad no))]) hx hb dX7_says_59 hl (by decide) rfl (fun ls hl => ?_)
          have loop_61 : ∀ (n_61 : Nat) (n k : Nat) (V1 : mV) (H : Heap) (locs : List Loc) (ls : Array Slot), (n ≤ 32) → (ta ≤ k ∧ k ≤ tb) → (∀ a, a ≠ t + 2 → V1 a = V a) → (RelS n (V1 (t + 2)) (evX (V no) (V (t + 1)) ta (k - ta))) → (tb - k) < n_61 → mC (mA ad sh s.heap.size) s.heap s G ad sh1 V1 H locs → lv_has ls 9 [(4, .int (nI tb)), (3, .int (nI ta)), (0, .ref (ad t)), (1, .int (nI 1)), (2, .ref (ad no)), (5, .int (nI n)), (6, .int (nI k))] → W p l e ({ frames := 1, cells := 0, slots := 0, locals := 61 } : Room) s m ([.ref (ad t), .int (nI 1), .ref (ad no)] : List Value).toArray below meth c H locs 0 0 (MQ below (mPost G ad sh s.heap.size (mPe ad sh V (fAsk (V (t + 1)) ta tb tl 1 (V no)))) ([.ref (ad t), .int (nI 1), .ref (ad no)] : List Value).toArray s 0 0 (mA ad sh s.heap.size)) (F0 m 61 ls []) := by
            intro n_61
            induction n_61 with
            | zero => intro n k V1 H locs ls hn hk hfr hR hM_ hW hl; omega
            | succ n_61 ih_61 =>
              intro n k V1 H locs ls hn hk hfr hR hM_ hW hl
              refine lv_iload hx hb dX7_says_61 (lv_at hl 6 rfl) ?_
              refine lv_iload hx hb dX7_says_63 (lv_at hl 0 rfl) ?_
              refine lv_icmp_ge (tgt := 278) hx hb dX7_says_65 (by decide) (fun c_5 => ?_) (fun c_5 => ?_)
              · skip
                have c_5 : tb ≤ k := (nI_leI (by omega) (by omega)).mp c_5
                refine lv_iload hx hb dX7_says_278 (lv_at hl 5 rfl) ?_
                refine m_if_le (tgt := 295) hx hb dX7_says_280 (by decide) (fun c_6 => ?_) (fun c_6 => ?_)
                · skip
                  have c_6 : n ≤ 0 := (nI_leI (by omega) (by omega)).mp c_6
                  refine lv_iconst (v := nI 0) hx hb dX7_says_295 (by decide) ?_
                  refine lv_istore (lv' := [(6, .int (nI 0)), (4, .int (nI tb)), (3, .int (nI ta)), (0, .ref (ad t)), (1, .int (nI 1)), (2, .ref (ad no)), (5, .int (nI n))]) hx hb dX7_says_296 hl (by decide) rfl (fun ls hl => ?_)
                  refine lv_iconst (v := nI 0) hx hb dX7_says_298 (by decide) ?_
                  refine lv_iload hx hb dX7_says_299 (lv_at hl 0 rfl) ?_
                  refine lv_iload_n hx hb dX7_says_301 rfl (lv_at hl 4 rfl) ?_
                  refine lv_iconst (v := nI 1) hx hb dX7_says_302 (by decide) ?_
                  refine lv_icmp_ne (tgt := 311) hx hb dX7_says_303 (by decide) (fun c_7 => ?_) (fun c_7 => ?_)
                  · exact absurd c_7 (by decide)
                  · skip
                    refine lv_bipush (v := nI 99) hx hb dX7_says_306 (by decide) ?_
                    refine lv_goto (tgt := 314) hx hb dX7_says_308 (by decide) ?_
                    refine va_mmin hx hb (hml.trans hl.1.symm) hown (hts (.methodLink RX7 38 Lib.Math.min.name) (List.mem_cons_of_mem _ (wa_18 _ (List.mem_of_getElem? (i := 10) (by decide +kernel))))) (hts (.static Lib.Math.min.name) (List.mem_cons_of_mem _ (wa_18 _ (List.mem_of_getElem? (i := 11) (by decide +kernel))))) (hts (.initialized "java/lang/Math") (List.mem_cons_of_mem _ (wa_18 _ (List.mem_of_getElem? (i := 12) (by decide +kernel))))) (hts (.code Lib.Math.min.name Lib.Math.min.code 2 (some .int)) (List.mem_cons_of_mem _ (wa_18 _ (List.mem_of_getElem? (i := 13) (by decide +kernel))))) (Nat.le_of_ble_eq_true rfl) (Nat.le_of_ble_eq_true rfl) (Nat.le_of_ble_eq_true rfl) (Nat.le_of_ble_eq_true rfl) dX7_says_314 ?_
                    refine va_mmax hx hb (hml.trans hl.1.symm) hown (hts (.methodLink RX7 44 Lib.Math.max.name) (List.mem_cons_of_mem _ (wa_18 _ (List.mem_of_getElem? (i := 14) (by decide +kernel))))) (hts (.static Lib.Math.max.name) (List.mem_cons_of_mem _ (wa_18 _ (List.mem_of_getElem? (i := 15) (by decide +kernel))))) (hts (.initialized "java/lang/Math") (List.mem_cons_of_mem _ (wa_18 _ (List.mem_of_getElem? (i := 12) (by decide +kernel))))) (hts (.code Lib.Math.max.name Lib.Math.max.code 2 (some .int)) (List.mem_cons_of_mem _ (wa_18 _ (List.mem_of_getElem? (i := 16) (by decide +kernel))))) (Nat.le_of_ble_eq_true rfl) (Nat.le_of_ble_eq_true rfl) (Nat.le_of_ble_eq_true rfl) (Nat.le_of_ble_eq_true rfl) dX7_says_317 ?_
                    have hW := hW.forget (sh' := sh) (V' := V) gt2 ht2 (fun a ha => by rw [← hsh]; simp [va_up, ha]) (fun a ha => (hfr a ha).symm)
                    exact m_iret S hr hlk hW dX7_says_320 ⟨rfl, (by first | (exfalso; omega) | (rw [show k = tb by omega] at hR ⊢; rw [fAsk_1, fClamp, fTop, ← hR.1, if_pos (show 0 < n by omega)]; done) | (rw [show k = tb by omega] at hR; rw [fAsk_1, fClamp, fTop, ← hR.1, if_neg (show ¬ 0 < n by omega)]; done))⟩
                · skip
                  have c_6 : ¬ n ≤ 0 := mt (nI_leI (by omega) (by omega)).mpr c_6
                  refine lv_aload_n hx hb dX7_says_283 rfl (lv_at hl 2 rfl) ?_
                  refine m_getr S hW gt 4 rfl (j := (t + 2)) rfl kX7 (iW7 _) (by decide) (List.mem_cons_of_mem _ (wa_9 _ (List.mem_of_getElem? (i := 9) (by decide +kernel)))) dX7_says_284 ?_
                  refine lv_iload hx hb dX7_says_287 (lv_at hl 5 rfl) ?_
                  refine lv_iconst (v := nI 1) hx hb dX7_says_289 (by decide) ?_
                  refine lv_isub hx hb dX7_says_290 ?_
                  refine m_top (y := nI (n - 1)) (pk_sub (by omega)) ?_
                  refine m_iald S hW gt2 (n - 1) rfl (by omega) (by decide) dX7_says_291 ?_
                  refine m_top (y := (evX (V no) (V (t + 1)) ta (k - ta)).2 (n - 1)) (hR.2 _ (by omega)) ?_
                  refine lv_goto (tgt := 296) hx hb dX7_says_292 (by decide) ?_
                  refine lv_istore (lv' := [(6, .int ((evX (V no) (V (t + 1)) ta (k - ta)).2 (n - 1))), (4, .int (nI tb)), (3, .int (nI ta)), (0, .ref (ad t)), (1, .int (nI 1)), (2, .ref (ad no)), (5, .int (nI n))]) hx hb dX7_says_296 hl (by decide) rfl (fun ls hl => ?_)
                  refine lv_iconst (v := nI 0) hx hb dX7_says_298 (by decide) ?_
                  refine lv_iload hx hb dX7_says_299 (lv_at hl 0 rfl) ?_
                  refine lv_iload_n hx hb dX7_says_301 rfl (lv_at hl 4 rfl) ?_
                  refine lv_iconst (v := nI 1) hx hb dX7_says_302 (by decide) ?_
                  refine lv_icmp_ne (tgt := 311) hx hb dX7_says_303 (by decide) (fun c_8 => ?_) (fun c_8 => ?_)
                  · exact absurd c_8 (by decide)
                  · skip
                    refine lv_bipush (v := nI 99) hx hb dX7_says_306 (by decide) ?_
                    refine lv_goto (tgt := 314) hx hb dX7_says_308 (by decide) ?_
                    refine va_mmin hx hb (hml.trans hl.1.symm) hown (hts (.methodLink RX7 38 Lib.Math.min.name) (List.mem_cons_of_mem _ (wa_18 _ (List.mem_of_getElem? (i := 10) (by decide +kernel))))) (hts (.static Lib.Math.min.name) (List.mem_cons_of_mem _ (wa_18 _ (List.mem_of_getElem? (i := 11) (by decide +kernel))))) (hts (.initialized "java/lang/Math") (List.mem_cons_of_mem _ (wa_18 _ (List.mem_of_getElem? (i := 12) (by decide +kernel))))) (hts (.code Lib.Math.min.name Lib.Math.min.code 2 (some .int)) (List.mem_cons_of_mem _ (wa_18 _ (List.mem_of_getElem? (i := 13) (by decide +kernel))))) (Nat.le_of_ble_eq_true rfl) (Nat.le_of_ble_eq_true rfl) (Nat.le_of_ble_eq_true rfl) (Nat.le_of_ble_eq_true rfl) dX7_says_314 ?_
                    refine va_mmax hx hb (hml.trans hl.1.symm) hown (hts (.methodLink RX7 44 Lib.Math.max.name) (List.mem_cons_of_mem _ (wa_18 _ (List.mem_of_getElem? (i := 14) (by decide +kernel))))) (hts (.static Lib.Math.max.name) (List.mem_cons_of_mem _ (wa_18 _ (List.mem_of_getElem? (i := 15) (by decide +kernel))))) (hts (.initialized "java/lang/Math") (List.mem_cons_of_mem _ (wa_18 _ (List.mem_of_getElem? (i := 12) (by decide +kernel))))) (hts (.code Lib.Math.max.name Lib.Math.max.code 2 (some .int)) (List.mem_cons_of_mem _ (wa_18 _ (List.mem_of_getElem? (i := 16) (by decide +kernel))))) (Nat.le_of_ble_eq_true rfl) (Nat.le_of_ble_eq_true rfl) (Nat.le_of_ble_eq_true rfl) (Nat.le_of_ble_eq_true rfl) dX7_says_317 ?_
                    have hW := hW.forget (sh' := sh) (V' := V) gt2 ht2 (fun a ha => by rw [← hsh]; simp [va_up, ha]) (fun a ha => (hfr a ha).symm)
                    exact m_iret S hr hlk hW dX7_says_320 ⟨rfl, (by first | (exfalso; omega) | (rw [show k = tb by omega] at hR ⊢; rw [fAsk_1, fClamp, fTop, ← hR.1, if_pos (show 0 < n by omega)]; done) | (rw [show k = tb by omega] at hR; rw [fAsk_1, fClamp, fTop, ← hR.1, if_neg (show ¬ 0 < n by omega)]; done))⟩
              · skip
                have c_5 : ¬ tb ≤ k := mt (nI_leI (by omega) (by omega)).mpr c_5
                refine lv_iload hx hb dX7_says_68 (lv_at hl 6 rfl) ?_
                refine lv_aload_n hx hb dX7_says_70 rfl (lv_at hl 2 rfl) ?_
                refine m_getr S hW gt 1 rfl (j := (t + 1)) rfl kX7 (iW7 _) (by decide) (List.mem_cons_of_mem _ (wa_9 _ (List.mem_of_getElem? (i := 11) (by decide +kernel)))) dX7_says_71 ?_
                refine m_alen S hW gt1 dX7_says_74 ?_
                refine lv_icmp_ge (tgt := 278) hx hb dX7_says_75 (by decide) (fun c_9 => ?_) (fun c_9 => ?_)
                · skip
                  have c_9 : tl ≤ k := (nI_leI (by omega) (by omega)).mp c_9
                  refine lv_iload hx hb dX7_says_278 (lv_at hl 5 rfl) ?_
                  refine m_if_le (tgt := 295) hx hb dX7_says_280 (by decide) (fun c_10 => ?_) (fun c_10 => ?_)
                  · skip
                    have c_10 : n ≤ 0 := (nI_leI (by omega) (by omega)).mp c_10
                    refine lv_iconst (v := nI 0) hx hb dX7_says_295 (by decide) ?_
                    refine lv_istore (lv' := [(6, .int (nI 0)), (4, .int (nI tb)), (3, .int (nI ta)), (0, .ref (ad t)), (1, .int (nI 1)), (2, .ref (ad no)), (5, .int (nI n))]) hx hb dX7_says_296 hl (by decide) rfl (fun ls hl => ?_)
                    refine lv_iconst (v := nI 0) hx hb dX7_says_298 (by decide) ?_
                    refine lv_iload hx hb dX7_says_299 (lv_at hl 0 rfl) ?_
                    refine lv_iload_n hx hb dX7_says_301 rfl (lv_at hl 4 rfl) ?_
                    refine lv_iconst (v := nI 1) hx hb dX7_says_302 (by decide) ?_
                    refine lv_icmp_ne (tgt := 311) hx hb dX7_says_303 (by decide) (fun c_11 => ?_) (fun c_11 => ?_)
                    · exact absurd c_11 (by decide)
                    · skip
                      refine lv_bipush (v := nI 99) hx hb dX7_says_306 (by decide) ?_
                      refine lv_goto (tgt := 314) hx hb dX7_says_308 (by decide) ?_
                      refine va_mmin hx hb (hml.trans hl.1.symm) hown (hts (.methodLink RX7 38 Lib.Math.min.name) (List.mem_cons_of_mem _ (wa_18 _ (List.mem_of_getElem? (i := 10) (by decide +kernel))))) (hts (.static Lib.Math.min.name) (List.mem_cons_of_mem _ (wa_18 _ (List.mem_of_getElem? (i := 11) (by decide +kernel))))) (hts (.initialized "java/lang/Math") (List.mem_cons_of_mem _ (wa_18 _ (List.mem_of_getElem? (i := 12) (by decide +kernel))))) (hts (.code Lib.Math.min.name Lib.Math.min.code 2 (some .int)) (List.mem_cons_of_mem _ (wa_18 _ (List.mem_of_getElem? (i := 13) (by decide +kernel))))) (Nat.le_of_ble_eq_true rfl) (Nat.le_of_ble_eq_true rfl) (Nat.le_of_ble_eq_true rfl) (Nat.le_of_ble_eq_true rfl) dX7_says_314 ?_
                      refine va_mmax hx hb (hml.trans hl.1.symm) hown (hts (.methodLink RX7 44 Lib.Math.max.name) (List.mem_cons_of_mem _ (wa_18 _ (List.mem_of_getElem? (i := 14) (by decide +kernel))))) (hts (.static Lib.Math.max.name) (List.mem_cons_of_mem _ (wa_18 _ (List.mem_of_getElem? (i := 15) (by decide +kernel))))) (hts (.initialized "java/lang/Math") (List.mem_cons_of_mem _ (wa_18 _ (List.mem_of_getElem? (i := 12) (by decide +kernel))))) (hts (.code Lib.Math.max.name Lib.Math.max.code 2 (some .int)) (List.mem_cons_of_mem _ (wa_18 _ (List.mem_of_getElem? (i := 16) (by decide +kernel))))) (Nat.le_of_ble_eq_true rfl) (Nat.le_of_ble_eq_true rfl) (Nat.le_of_ble_eq_true rfl) (Nat.le_of_ble_eq_true rfl) dX7_says_317 ?_
                      have hW := hW.forget (sh' := sh) (V' := V) gt2 ht2 (fun a ha => by rw [← hsh]; simp [va_up, ha]) (fun a ha => (hfr a ha).symm)
                      exact m_iret S hr hlk hW dX7_says_320 ⟨rfl, (by first | (exfalso; omega) | (rw [show k = tb by omega] at hR ⊢; rw [fAsk_1, fClamp, fTop, ← hR.1, if_pos (show 0 < n by omega)]; done) | (rw [show k = tb by omega] at hR; rw [fAsk_1, fClamp, fTop, ← hR.1, if_neg (show ¬ 0 < n by omega)]; done))⟩
                  · skip
                    have c_10 : ¬ n ≤ 0 := mt (nI_leI (by omega) (by omega)).mpr c_10
                    refine lv_aload_n hx hb dX7_says_283 rfl (lv_at hl 2 rfl) ?_
                    refine m_getr S hW gt 4 rfl (j := (t + 2)) rfl kX7 (iW7 _) (by decide) (List.mem_cons_of_mem _ (wa_9 _ (List.mem_of_getElem? (i := 9) (by decide +kernel)))) dX7_says_284 ?_
                    refine lv_iload hx hb dX7_says_287 (lv_at hl 5 rfl) ?_
                    refine lv_iconst (v := nI 1) hx hb dX7_says_289 (by decide) ?_
                    refine lv_isub hx hb dX7_says_290 ?_
                    refine m_top (y := nI (n - 1)) (pk_sub (by omega)) ?_
                    refine m_iald S hW gt2 (n - 1) rfl (by omega) (by decide) dX7_says_291 ?_
                    refine m_top (y := (evX (V no) (V (t + 1)) ta (k - ta)).2 (n - 1)) (hR.2 _ (by omega)) ?_
                    refine lv_goto (tgt := 296) hx hb dX7_says_292 (by decide) ?_
                    refine lv_istore (lv' := [(6, .int ((evX (V no) (V (t + 1)) ta (k - ta)).2 (n - 1))), (4, .int (nI tb)), (3, .int (nI ta)), (0, .ref (ad t)), (1, .int (nI 1)), (2, .ref (ad no)), (5, .int (nI n))]) hx hb dX7_says_296 hl (by decide) rfl (fun ls hl => ?_)
                    refine lv_iconst (v := nI 0) hx hb dX7_says_298 (by decide) ?_
                    refine lv_iload hx hb dX7_says_299 (lv_at hl 0 rfl) ?_
                    refine lv_iload_n hx hb dX7_says_301 rfl (lv_at hl 4 rfl) ?_
                    refine lv_iconst (v := nI 1) hx hb dX7_says_302 (by decide) ?_
                    refine lv_icmp_ne (tgt := 311) hx hb dX7_says_303 (by decide) (fun c_12 => ?_) (fun c_12 => ?_)
                    · exact absurd c_12 (by decide)
                    · skip
                      refine lv_bipush (v := nI 99) hx hb dX7_says_306 (by decide) ?_
                      refine lv_goto (tgt := 314) hx hb dX7_says_308 (by decide) ?_
                      refine va_mmin hx hb (hml.trans hl.1.symm) hown (hts (.methodLink RX7 38 Lib.Math.min.name) (List.mem_cons_of_mem _ (wa_18 _ (List.mem_of_getElem? (i := 10) (by decide +kernel))))) (hts (.static Lib.Math.min.name) (List.mem_cons_of_mem _ (wa_18 _ (List.mem_of_getElem? (i := 11) (by decide +kernel))))) (hts (.initialized "java/lang/Math") (List.mem_cons_of_mem _ (wa_18 _ (List.mem_of_getElem? (i := 12) (by decide +kernel))))) (hts (.code Lib.Math.min.name Lib.Math.min.code 2 (some .int)) (List.mem_cons_of_mem _ (wa_18 _ (List.mem_of_getElem? (i := 13) (by decide +kernel))))) (Nat.le_of_ble_eq_true rfl) (Nat.le_of_ble_eq_true rfl) (Nat.le_of_ble_eq_true rfl) (Nat.le_of_ble_eq_true rfl) dX7_says_314 ?_
                      refine va_mmax hx hb (hml.trans hl.1.symm) hown (hts (.methodLink RX7 44 Lib.Math.max.name) (List.mem_cons_of_mem _ (wa_18 _ (List.mem_of_getElem? (i := 14) (by decide +kernel))))) (hts (.static Lib.Math.max.name) (List.mem_cons_of_mem _ (wa_18 _ (List.mem_of_getElem? (i := 15) (by decide +kernel))))) (hts (.initialized "java/lang/Math") (List.mem_cons_of_mem _ (wa_18 _ (List.mem_of_getElem? (i := 12) (by decide +kernel))))) (hts (.code Lib.Math.max.name Lib.Math.max.code 2 (some .int)) (List.mem_cons_of_mem _ (wa_18 _ (List.mem_of_getElem? (i := 16) (by decide +kernel))))) (Nat.le_of_ble_eq_true rfl) (Nat.le_of_ble_eq_true rfl) (Nat.le_of_ble_eq_true rfl) (Nat.le_of_ble_eq_true rfl) dX7_says_317 ?_
                      have hW := hW.forget (sh' := sh) (V' := V) gt2 ht2 (fun a ha => by rw [← hsh]; simp [va_up, ha]) (fun a ha => (hfr a ha).symm)
                      exact m_iret S hr hlk hW dX7_says_320 ⟨rfl, (by first | (exfalso; omega) | (rw [show k = tb by omega] at hR ⊢; rw [fAsk_1, fClamp, fTop, ← hR.1, if_pos (show 0 < n by omega)]; done) | (rw [show k = tb by omega] at hR; rw [fAsk_1, fClamp, fTop, ← hR.1, if_neg (show ¬ 0 < n by omega)]; done))⟩
                · skip
                  have c_9 : ¬ tl ≤ k := mt (nI_leI (by omega) (by omega)).mpr c_9
                  refine lv_aload_n hx hb dX7_says_78 rfl (lv_at hl 2 rfl) ?_
                  refine m_getr S hW gt 1 rfl (j := (t + 1)) rfl kX7 (iW7 _) (by decide) (List.mem_cons_of_mem _ (wa_9 _ (List.mem_of_getElem? (i := 11) (by decide +kernel)))) dX7_says_79 ?_
                  refine lv_iload hx hb dX7_says_82 (lv_at hl 6 rfl) ?_
                  refine m_iald S hW gt1 k rfl (by omega) (by omega) dX7_says_84 ?_
                  refine m_top (y := V (t + 1) k) (by rw [hfr _ (by omega)]) ?_
                  refine lv_istore (lv' := [(7, .int (V (t + 1) k)), (4, .int (nI tb)), (3, .int (nI ta)), (0, .ref (ad t)), (1, .int (nI 1)), (2, .ref (ad no)), (5, .int (nI n)), (6, .int (nI k))]) hx hb dX7_says_85 hl (by decide) rfl (fun ls hl => ?_)
                  refine lv_iload hx hb dX7_says_87 (lv_at hl 0 rfl) ?_
                  refine lv_ineg hx hb dX7_says_89 ?_
                  refine lv_iconst (v := nI 2) hx hb dX7_says_90 (by decide) ?_
                  refine lv_isub hx hb dX7_says_91 ?_
                  refine lv_istore (lv' := [(8, .int ((-(V (t + 1) k)) - (nI 2))), (7, .int (V (t + 1) k)), (4, .int (nI tb)), (3, .int (nI ta)), (0, .ref (ad t)), (1, .int (nI 1)), (2, .ref (ad no)), (5, .int (nI n)), (6, .int (nI k))]) hx hb dX7_says_92 hl (by decide) rfl (fun ls hl => ?_)
                  refine lv_iload hx hb dX7_says_94 (lv_at hl 1 rfl) ?_
                  refine m_if_lt (tgt := 121) hx hb dX7_says_96 (by decide) (fun c_13 => ?_) (fun c_13 => ?_)
                  · skip
                    refine lv_iload hx hb dX7_says_121 (lv_at hl 0 rfl) ?_
                    refine lv_iconst (v := nI 0) hx hb dX7_says_123 (by decide) ?_
                    refine lv_aload_n hx hb dX7_says_124 rfl (lv_at hl 6 rfl) ?_
                    refine m_alen S hW gn dX7_says_125 ?_
                    refine lv_iconst (v := nI 1) hx hb dX7_says_126 (by decide) ?_
                    refine lv_isub hx hb dX7_says_127 ?_
                    refine m_cip (m_rSN S hW (c_X10_within_c l G ad sh1 V1 ((-(V (t + 1) k)) - (nI 2)) ((nI 6) - (nI 1)) 6 (by exact pk_sub_toInt (by omega) (by decide))) ⟨va_cnB 3 hts (gCall [] (List.forall_mem_cons.mpr ⟨(wa_8 _ (List.mem_of_getElem? (i := 17) (by decide +kernel))), (fun _ h => absurd h List.not_mem_nil)⟩)) rfl rfl rfl (hW.2.2.2.2.2.1 _ (List.mem_of_getElem? (i := 9) rfl)) (hts (.initialized RX10) (List.mem_cons_of_mem _ (wa_1 _ (List.mem_of_getElem? (i := 2) (by decide +kernel))))) (by decide +kernel) ⟨Nat.le_of_ble_eq_true rfl, Nat.le_of_ble_eq_true rfl⟩, hts (.static yX10_within) (List.mem_cons_of_mem _ (wa_8 _ (List.mem_of_getElem? (i := 16) (by decide +kernel)))), trivial⟩ rfl hl.1 rfl (Nat.le_of_ble_eq_true rfl) dX7_says_128 ⟨Nat.le_of_ble_eq_true rfl, Nat.le_of_ble_eq_true rfl⟩) hW (fun r_15 H locs hp_14 hW => ?_)
                    rcases hp_14 with ⟨rfl, w_16⟩ | ⟨rfl, w_17⟩
                    · skip
                      refine m_if_eq (tgt := 158) hx hb dX7_says_131 (by decide) (fun c_18 => ?_) (fun c_18 => ?_)
                      · exact absurd c_18 (by decide)
                      · skip
                        refine lv_iload hx hb dX7_says_134 (lv_at hl 7 rfl) ?_
                        refine lv_bipush (v := nI 32) hx hb dX7_says_136 (by decide) ?_
                        refine lv_icmp_ge (tgt := 158) hx hb dX7_says_138 (by decide) (fun c_19 => ?_) (fun c_19 => ?_)
                        · skip
                          have c_19 : 32 ≤ n := (nI_leI (by omega) (by omega)).mp c_19
                          refine lv_iload hx hb dX7_says_158 (lv_at hl 1 rfl) ?_
                          refine lv_bipush (v := -13) hx hb dX7_says_160 (by decide) ?_
                          refine lv_icmp_ne (tgt := 199) hx hb dX7_says_162 (by decide) (fun c_20 => ?_) (fun c_20 => ?_)
                          · skip
                            refine lv_iload hx hb dX7_says_199 (lv_at hl 1 rfl) ?_
                            refine lv_bipush (v := -14) hx hb dX7_says_201 (by decide) ?_
                            refine lv_icmp_ne (tgt := 233) hx hb dX7_says_203 (by decide) (fun c_21 => ?_) (fun c_21 => ?_)
                            · skip
                              refine lv_iload hx hb dX7_says_233 (lv_at hl 7 rfl) ?_
                              refine lv_iconst (v := nI 1) hx hb dX7_says_235 (by decide) ?_
                              refine lv_icmp_le (tgt := 272) hx hb dX7_says_236 (by decide) (fun c_22 => ?_) (fun c_22 => ?_)
                              · skip
                                have c_22 : n ≤ 1 := (nI_leI (by omega) (by omega)).mp c_22
                                refine lv_iinc (v := nI (k + 1)) (lv' := [(6, .int (nI (k + 1))), (8, .int ((-(V (t + 1) k)) - (nI 2))), (7, .int (V (t + 1) k)), (4, .int (nI tb)), (3, .int (nI ta)), (0, .ref (ad t)), (1, .int (nI 1)), (2, .ref (ad no)), (5, .int (nI n))]) hx hb dX7_says_272 hl (k := 8) rfl (m_inc k 1) (by decide) rfl (fun ls hl => ?_)
                                refine lv_goto (tgt := 61) hx hb dX7_says_275 (by decide) ?_
                                exact ih_61  n (k + 1) V1 _ _ _ (by omega) (by omega) (by exact hfr) (by rw [evX_s (by omega)]; exact hR.no (by intro h; first | exact absurd h.1 (Int32.not_le.mpr (by assumption)) | exact absurd h.2 (by omega)) (by intro h; first | exact absurd h.1 (by assumption) | exact absurd h.2 (by omega)) (by intro h; first | exact absurd h.1 (by assumption) | exact absurd h.2 (by omega)) (by intro h; first | exact absurd h.1 (by assumption) | exact absurd h.2 (by omega)) (by omega)) (by omega) hW (lv_sub hl [3, 4, 5, 6, 7, 8, 0] rfl)
                              · skip
                                have c_22 : ¬ n ≤ 1 := mt (nI_leI (by omega) (by omega)).mpr c_22
                                refine lv_iinc (v := nI (n - 1)) (lv' := [(5, .int (nI (n - 1))), (8, .int ((-(V (t + 1) k)) - (nI 2))), (7, .int (V (t + 1) k)), (4, .int (nI tb)), (3, .int (nI ta)), (0, .ref (ad t)), (1, .int (nI 1)), (2, .ref (ad no)), (6, .int (nI k))]) hx hb dX7_says_239 hl (k := 7) rfl (m_dec n 1 (by omega)) (by decide) rfl (fun ls hl => ?_)
                                refine lv_aload_n hx hb dX7_says_242 rfl (lv_at hl 5 rfl) ?_
                                refine m_getr S hW gt 4 rfl (j := (t + 2)) rfl kX7 (iW7 _) (by decide) (List.mem_cons_of_mem _ (wa_9 _ (List.mem_of_getElem? (i := 9) (by decide +kernel)))) dX7_says_243 ?_
                                refine lv_iload hx hb dX7_says_246 (lv_at hl 0 rfl) ?_
                                refine lv_iconst (v := nI 1) hx hb dX7_says_248 (by decide) ?_
                                refine lv_isub hx hb dX7_says_249 ?_
                                refine m_top (y := nI ((n - 1) - 1)) (pk_sub (by omega)) ?_
                                refine lv_iload hx hb dX7_says_250 (lv_at hl 2 rfl) ?_
                                refine lv_aload_n hx hb dX7_says_252 rfl (lv_at hl 5 rfl) ?_
                                refine m_getr S hW gt 4 rfl (j := (t + 2)) rfl kX7 (iW7 _) (by decide) (List.mem_cons_of_mem _ (wa_9 _ (List.mem_of_getElem? (i := 9) (by decide +kernel)))) dX7_says_253 ?_
                                refine lv_iload hx hb dX7_says_256 (lv_at hl 0 rfl) ?_
                                refine lv_iconst (v := nI 1) hx hb dX7_says_258 (by decide) ?_
                                refine lv_isub hx hb dX7_says_259 ?_
                                refine m_top (y := nI ((n - 1) - 1)) (pk_sub (by omega)) ?_
                                refine m_iald S hW gt2 ((n - 1) - 1) rfl (by omega) (by decide) dX7_says_260 ?_
                                refine m_top (y := (evX (V no) (V (t + 1)) ta (k - ta)).2 (n - 1 - 1)) (hR.2 _ (by omega)) ?_
                                refine lv_aload_n hx hb dX7_says_261 rfl (lv_at hl 5 rfl) ?_
                                refine m_getr S hW gt 4 rfl (j := (t + 2)) rfl kX7 (iW7 _) (by decide) (List.mem_cons_of_mem _ (wa_9 _ (List.mem_of_getElem? (i := 9) (by decide +kernel)))) dX7_says_262 ?_
                                refine lv_iload hx hb dX7_says_265 (lv_at hl 0 rfl) ?_
                                refine m_iald S hW gt2 (n - 1) rfl (by omega) (by decide) dX7_says_267 ?_
                                refine m_top (y := (evX (V no) (V (t + 1)) ta (k - ta)).2 (n - 1)) (hR.2 _ (by omega)) ?_
                                refine m_cie (m_rS S hW (c_X7_join l G ad sh1 V1 (V (t + 1) k) ((evX (V no) (V (t + 1)) ta (k - ta)).2 (n - 1 - 1)) ((evX (V no) (V (t + 1)) ta (k - ta)).2 (n - 1))) (va_cwS 3 hts (gCall [.methodLink RX7 34 yX7_join, .static yX7_join, .initialized RX7] (List.forall_mem_cons.mpr ⟨(wa_18 _ (List.mem_of_getElem? (i := 19) (by decide +kernel))), (List.forall_mem_cons.mpr ⟨(wa_18 _ (List.mem_of_getElem? (i := 17) (by decide +kernel))), (List.forall_mem_cons.mpr ⟨(wa_18 _ (List.mem_of_getElem? (i := 18) (by decide +kernel))), (List.forall_mem_cons.mpr ⟨(wa_9 _ (List.mem_of_getElem? (i := 4) (by decide +kernel))), (fun _ h => absurd h List.not_mem_nil)⟩)⟩)⟩)⟩)) rfl rfl rfl (by decide +kernel) ⟨Nat.le_of_ble_eq_true rfl, Nat.le_of_ble_eq_true rfl⟩) rfl hl.1 rfl (Nat.le_of_ble_eq_true rfl) dX7_says_268 ⟨Nat.le_of_ble_eq_true rfl, Nat.le_of_ble_eq_true rfl⟩) hW (fun H locs hW => ?_)
                                refine m_iast S hW gt2 ((n - 1) - 1) rfl (by omega) (by decide) dX7_says_271 (fun H locs hW => ?_)
                                obtain ⟨V_23, eV_23⟩ : ∃ z : mV, z = mU V1 (t + 2) ((n - 1) - 1) (fJoin (V (t + 1) k) ((evX (V no) (V (t + 1)) ta (k - ta)).2 (n - 1 - 1)) ((evX (V no) (V (t + 1)) ta (k - ta)).2 (n - 1))) := ⟨_, rfl⟩
                                rw [← eV_23] at hW
                                refine lv_iinc (v := nI (k + 1)) (lv' := [(6, .int (nI (k + 1))), (5, .int (nI (n - 1))), (8, .int ((-(V (t + 1) k)) - (nI 2))), (7, .int (V (t + 1) k)), (4, .int (nI tb)), (3, .int (nI ta)), (0, .ref (ad t)), (1, .int (nI 1)), (2, .ref (ad no))]) hx hb dX7_says_272 hl (k := 8) rfl (m_inc k 1) (by decide) rfl (fun ls hl => ?_)
                                refine lv_goto (tgt := 61) hx hb dX7_says_275 (by decide) ?_
                                exact ih_61  (n - 1) (k + 1) V_23 _ _ _ (by omega) (by omega) (by intro a ha; rw [eV_23, mU_no _ _ ha]; exact hfr a ha) (by first | (exfalso; omega) | skip; rw [eV_23, mU_row, evX_s (by omega)]; first | exact hR.push (by first | exact Int32.not_lt.mp (by assumption) | assumption) (by omega) | exact hR.nm (by intro h; first | exact absurd h.1 (Int32.not_le.mpr (by assumption)) | exact absurd h.2 (by omega)) (by assumption) (by omega) eix hix | exact hR.nt0 (by intro h; first | exact absurd h.1 (Int32.not_le.mpr (by assumption)) | exact absurd h.2 (by omega)) (by intro h; first | exact absurd h.1 (by assumption) | exact absurd h.2 (by omega)) (by assumption) (by omega) (by assumption) | exact hR.nt1 (by intro h; first | exact absurd h.1 (Int32.not_le.mpr (by assumption)) | exact absurd h.2 (by omega)) (by intro h; first | exact absurd h.1 (by assumption) | exact absurd h.2 (by omega)) (by assumption) (by omega) (by assumption) | exact hR.ng (by intro h; first | exact absurd h.1 (Int32.not_le.mpr (by assumption)) | exact absurd h.2 (by omega)) (by intro h; first | exact absurd h.1 (by assumption) | exact absurd h.2 (by omega)) (by assumption) (by omega) | exact hR.jn (by intro h; first | exact absurd h.1 (Int32.not_le.mpr (by assumption)) | exact absurd h.2 (by omega)) (by intro h; first | exact absurd h.1 (by assumption) | exact absurd h.2 (by omega)) (by intro h; first | exact absurd h.1 (by assumption) | exact absurd h.2 (by omega)) (by intro h; first | exact absurd h.1 (by assumption) | exact absurd h.2 (by omega)) (by omega)) (by omega) hW (lv_sub hl [4, 5, 6, 7, 8, 1, 0] rfl)
                            · skip
                              refine lv_iload hx hb dX7_says_206 (lv_at hl 7 rfl) ?_
                              refine m_if_le (tgt := 233) hx hb dX7_says_208 (by decide) (fun c_24 => ?_) (fun c_24 => ?_)
                              · skip
                                have c_24 : n ≤ 0 := (nI_leI (by omega) (by omega)).mp c_24
                                refine lv_iload hx hb dX7_says_233 (lv_at hl 7 rfl) ?_
                                refine lv_iconst (v := nI 1) hx hb dX7_says_235 (by decide) ?_
                                refine lv_icmp_le (tgt := 272) hx hb dX7_says_236 (by decide) (fun c_25 => ?_) (fun c_25 => ?_)
                                · skip
                                  have c_25 : n ≤ 1 := (nI_leI (by omega) (by omega)).mp c_25
                                  refine lv_iinc (v := nI (k + 1)) (lv' := [(6, .int (nI (k + 1))), (8, .int ((-(V (t + 1) k)) - (nI 2))), (7, .int (V (t + 1) k)), (4, .int (nI tb)), (3, .int (nI ta)), (0, .ref (ad t)), (1, .int (nI 1)), (2, .ref (ad no)), (5, .int (nI n))]) hx hb dX7_says_272 hl (k := 8) rfl (m_inc k 1) (by decide) rfl (fun ls hl => ?_)
                                  refine lv_goto (tgt := 61) hx hb dX7_says_275 (by decide) ?_
                                  exact ih_61  n (k + 1) V1 _ _ _ (by omega) (by omega) (by exact hfr) (by rw [evX_s (by omega)]; exact hR.no (by intro h; first | exact absurd h.1 (Int32.not_le.mpr (by assumption)) | exact absurd h.2 (by omega)) (by intro h; first | exact absurd h.1 (by assumption) | exact absurd h.2 (by omega)) (by intro h; first | exact absurd h.1 (by assumption) | exact absurd h.2 (by omega)) (by intro h; first | exact absurd h.1 (by assumption) | exact absurd h.2 (by omega)) (by omega)) (by omega) hW (lv_sub hl [3, 4, 5, 6, 7, 8, 0] rfl)
                                · skip
                                  have c_25 : ¬ n ≤ 1 := mt (nI_leI (by omega) (by omega)).mpr c_25
                                  refine lv_iinc (v := nI (n - 1)) (lv' := [(5, .int (nI (n - 1))), (8, .int ((-(V (t + 1) k)) - (nI 2))), (7, .int (V (t + 1) k)), (4, .int (nI tb)), (3, .int (nI ta)), (0, .ref (ad t)), (1, .int (nI 1)), (2, .ref (ad no)), (6, .int (nI k))]) hx hb dX7_says_239 hl (k := 7) rfl (m_dec n 1 (by omega)) (by decide) rfl (fun ls hl => ?_)
                                  refine lv_aload_n hx hb dX7_says_242 rfl (lv_at hl 5 rfl) ?_
                                  refine m_getr S hW gt 4 rfl (j := (t + 2)) rfl kX7 (iW7 _) (by decide) (List.mem_cons_of_mem _ (wa_9 _ (List.mem_of_getElem? (i := 9) (by decide +kernel)))) dX7_says_243 ?_
                                  refine lv_iload hx hb dX7_says_246 (lv_at hl 0 rfl) ?_
                                  refine lv_iconst (v := nI 1) hx hb dX7_says_248 (by decide) ?_
                                  refine lv_isub hx hb dX7_says_249 ?_
                                  refine m_top (y := nI ((n - 1) - 1)) (pk_sub (by omega)) ?_
                                  refine lv_iload hx hb dX7_says_250 (lv_at hl 2 rfl) ?_
                                  refine lv_aload_n hx hb dX7_says_252 rfl (lv_at hl 5 rfl) ?_
                                  refine m_getr S hW gt 4 rfl (j := (t + 2)) rfl kX7 (iW7 _) (by decide) (List.mem_cons_of_mem _ (wa_9 _ (List.mem_of_getElem? (i := 9) (by decide +kernel)))) dX7_says_253 ?_
                                  refine lv_iload hx hb dX7_says_256 (lv_at hl 0 rfl) ?_
                                  refine lv_iconst (v := nI 1) hx hb dX7_says_258 (by decide) ?_
                                  refine lv_isub hx hb dX7_says_259 ?_
                                  refine m_top (y := nI ((n - 1) - 1)) (pk_sub (by omega)) ?_
                                  refine m_iald S hW gt2 ((n - 1) - 1) rfl (by omega) (by decide) dX7_says_260 ?_
                                  refine m_top (y := (evX (V no) (V (t + 1)) ta (k - ta)).2 (n - 1 - 1)) (hR.2 _ (by omega)) ?_
                                  refine lv_aload_n hx hb dX7_says_261 rfl (lv_at hl 5 rfl) ?_
                                  refine m_getr S hW gt 4 rfl (j := (t + 2)) rfl kX7 (iW7 _) (by decide) (List.mem_cons_of_mem _ (wa_9 _ (List.mem_of_getElem? (i := 9) (by decide +kernel)))) dX7_says_262 ?_
                                  refine lv_iload hx hb dX7_says_265 (lv_at hl 0 rfl) ?_
                                  refine m_iald S hW gt2 (n - 1) rfl (by omega) (by decide) dX7_says_267 ?_
                                  refine m_top (y := (evX (V no) (V (t + 1)) ta (k - ta)).2 (n - 1)) (hR.2 _ (by omega)) ?_
                                  refine m_cie (m_rS S hW (c_X7_join l G ad sh1 V1 (V (t + 1) k) ((evX (V no) (V (t + 1)) ta (k - ta)).2 (n - 1 - 1)) ((evX (V no) (V (t + 1)) ta (k - ta)).2 (n - 1))) (va_cwS 3 hts (gCall [.methodLink RX7 34 yX7_join, .static yX7_join, .initialized RX7] (List.forall_mem_cons.mpr ⟨(wa_18 _ (List.mem_of_getElem? (i := 19) (by decide +kernel))), (List.forall_mem_cons.mpr ⟨(wa_18 _ (List.mem_of_getElem? (i := 17) (by decide +kernel))), (List.forall_mem_cons.mpr ⟨(wa_18 _ (List.mem_of_getElem? (i := 18) (by decide +kernel))), (List.forall_mem_cons.mpr ⟨(wa_9 _ (List.mem_of_getElem? (i := 4) (by decide +kernel))), (fun _ h => absurd h List.not_mem_nil)⟩)⟩)⟩)⟩)) rfl rfl rfl (by decide +kernel) ⟨Nat.le_of_ble_eq_true rfl, Nat.le_of_ble_eq_true rfl⟩) rfl hl.1 rfl (Nat.le_of_ble_eq_true rfl) dX7_says_268 ⟨Nat.le_of_ble_eq_true rfl, Nat.le_of_ble_eq_true rfl⟩) hW (fun H locs hW => ?_)
                                  refine m_iast S hW gt2 ((n - 1) - 1) rfl (by omega) (by decide) dX7_says_271 (fun H locs hW => ?_)
                                  obtain ⟨V_26, eV_26⟩ : ∃ z : mV, z = mU V1 (t + 2) ((n - 1) - 1) (fJoin (V (t + 1) k) ((evX (V no) (V (t + 1)) ta (k - ta)).2 (n - 1 - 1)) ((evX (V no) (V (t + 1)) ta (k - ta)).2 (n - 1))) := ⟨_, rfl⟩
                                  rw [← eV_26] at hW
                                  refine lv_iinc (v := nI (k + 1)) (lv' := [(6, .int (nI (k + 1))), (5, .int (nI (n - 1))), (8, .int ((-(V (t + 1) k)) - (nI 2))), (7, .int (V (t + 1) k)), (4, .int (nI tb)), (3, .int (nI ta)), (0, .ref (ad t)), (1, .int (nI 1)), (2, .ref (ad no))]) hx hb dX7_says_272 hl (k := 8) rfl (m_inc k 1) (by decide) rfl (fun ls hl => ?_)
                                  refine lv_goto (tgt := 61) hx hb dX7_says_275 (by decide) ?_
                                  exact ih_61  (n - 1) (k + 1) V_26 _ _ _ (by omega) (by omega) (by intro a ha; rw [eV_26, mU_no _ _ ha]; exact hfr a ha) (by first | (exfalso; omega) | skip; rw [eV_26, mU_row, evX_s (by omega)]; first | exact hR.push (by first | exact Int32.not_lt.mp (by assumption) | assumption) (by omega) | exact hR.nm (by intro h; first | exact absurd h.1 (Int32.not_le.mpr (by assumption)) | exact absurd h.2 (by omega)) (by assumption) (by omega) eix hix | exact hR.nt0 (by intro h; first | exact absurd h.1 (Int32.not_le.mpr (by assumption)) | exact absurd h.2 (by omega)) (by intro h; first | exact absurd h.1 (by assumption) | exact absurd h.2 (by omega)) (by assumption) (by omega) (by assumption) | exact hR.nt1 (by intro h; first | exact absurd h.1 (Int32.not_le.mpr (by assumption)) | exact absurd h.2 (by omega)) (by intro h; first | exact absurd h.1 (by assumption) | exact absurd h.2 (by omega)) (by assumption) (by omega) (by assumption) | exact hR.ng (by intro h; first | exact absurd h.1 (Int32.not_le.mpr (by assumption)) | exact absurd h.2 (by omega)) (by intro h; first | exact absurd h.1 (by assumption) | exact absurd h.2 (by omega)) (by assumption) (by omega) | exact hR.jn (by intro h; first | exact absurd h.1 (Int32.not_le.mpr (by assumption)) | exact absurd h.2 (by omega)) (by intro h; first | exact absurd h.1 (by assumption) | exact absurd h.2 (by omega)) (by intro h; first | exact absurd h.1 (by assumption) | exact absurd h.2 (by omega)) (by intro h; first | exact absurd h.1 (by assumption) | exact absurd h.2 (by omega)) (by omega)) (by omega) hW (lv_sub hl [4, 5, 6, 7, 8, 1, 0] rfl)
                              · skip
                                have c_24 : ¬ n ≤ 0 := mt (nI_leI (by omega) (by omega)).mpr c_24
                                refine lv_aload_n hx hb dX7_says_211 rfl (lv_at hl 4 rfl) ?_
                                refine m_getr S hW gt 4 rfl (j := (t + 2)) rfl kX7 (iW7 _) (by decide) (List.mem_cons_of_mem _ (wa_9 _ (List.mem_of_getElem? (i := 9) (by decide +kernel)))) dX7_says_212 ?_
                                refine lv_iload hx hb dX7_says_215 (lv_at hl 7 rfl) ?_
                                refine lv_iconst (v := nI 1) hx hb dX7_says_217 (by decide) ?_
                                refine lv_isub hx hb dX7_says_218 ?_
                                refine m_top (y := nI (n - 1)) (pk_sub (by omega)) ?_
                                refine lv_aload_n hx hb dX7_says_219 rfl (lv_at hl 4 rfl) ?_
                                refine m_getr S hW gt 4 rfl (j := (t + 2)) rfl kX7 (iW7 _) (by decide) (List.mem_cons_of_mem _ (wa_9 _ (List.mem_of_getElem? (i := 9) (by decide +kernel)))) dX7_says_220 ?_
                                refine lv_iload hx hb dX7_says_223 (lv_at hl 7 rfl) ?_
                                refine lv_iconst (v := nI 1) hx hb dX7_says_225 (by decide) ?_
                                refine lv_isub hx hb dX7_says_226 ?_
                                refine m_top (y := nI (n - 1)) (pk_sub (by omega)) ?_
                                refine m_iald S hW gt2 (n - 1) rfl (by omega) (by decide) dX7_says_227 ?_
                                refine m_top (y := (evX (V no) (V (t + 1)) ta (k - ta)).2 (n - 1)) (hR.2 _ (by omega)) ?_
                                refine lv_ineg hx hb dX7_says_228 ?_
                                refine m_iast S hW gt2 (n - 1) rfl (by omega) (by decide) dX7_says_229 (fun H locs hW => ?_)
                                obtain ⟨V_27, eV_27⟩ : ∃ z : mV, z = mU V1 (t + 2) (n - 1) ((-((evX (V no) (V (t + 1)) ta (k - ta)).2 (n - 1)))) := ⟨_, rfl⟩
                                rw [← eV_27] at hW
                                refine lv_goto (tgt := 272) hx hb dX7_says_230 (by decide) ?_
                                refine lv_iinc (v := nI (k + 1)) (lv' := [(6, .int (nI (k + 1))), (8, .int ((-(V (t + 1) k)) - (nI 2))), (7, .int (V (t + 1) k)), (4, .int (nI tb)), (3, .int (nI ta)), (0, .ref (ad t)), (1, .int (nI 1)), (2, .ref (ad no)), (5, .int (nI n))]) hx hb dX7_says_272 hl (k := 8) rfl (m_inc k 1) (by decide) rfl (fun ls hl => ?_)
                                refine lv_goto (tgt := 61) hx hb dX7_says_275 (by decide) ?_
                                exact ih_61  n (k + 1) V_27 _ _ _ (by omega) (by omega) (by intro a ha; rw [eV_27, mU_no _ _ ha]; exact hfr a ha) (by first | (exfalso; omega) | skip; rw [eV_27, mU_row, evX_s (by omega)]; first | exact hR.push (by first | exact Int32.not_lt.mp (by assumption) | assumption) (by omega) | exact hR.nm (by intro h; first | exact absurd h.1 (Int32.not_le.mpr (by assumption)) | exact absurd h.2 (by omega)) (by assumption) (by omega) eix hix | exact hR.nt0 (by intro h; first | exact absurd h.1 (Int32.not_le.mpr (by assumption)) | exact absurd h.2 (by omega)) (by intro h; first | exact absurd h.1 (by assumption) | exact absurd h.2 (by omega)) (by assumption) (by omega) (by assumption) | exact hR.nt1 (by intro h; first | exact absurd h.1 (Int32.not_le.mpr (by assumption)) | exact absurd h.2 (by omega)) (by intro h; first | exact absurd h.1 (by assumption) | exact absurd h.2 (by omega)) (by assumption) (by omega) (by assumption) | exact hR.ng (by intro h; first | exact absurd h.1 (Int32.not_le.mpr (by assumption)) | exact absurd h.2 (by omega)) (by intro h; first | exact absurd h.1 (by assumption) | exact absurd h.2 (by omega)) (by assumption) (by omega) | exact hR.jn (by intro h; first | exact absurd h.1 (Int32.not_le.mpr (by assumption)) | exact absurd h.2 (by omega)) (by intro h; first | exact absurd h.1 (by assumption) | exact absurd h.2 (by omega)) (by intro h; first | exact absurd h.1 (by assumption) | exact absurd h.2 (by omega)) (by intro h; first | exact absurd h.1 (by assumption) | exact absurd h.2 (by omega)) (by omega)) (by omega) hW (lv_sub hl [3, 4, 5, 6, 7, 8, 0] rfl)
                          · skip
                            refine lv_iload hx hb dX7_says_165 (lv_at hl 7 rfl) ?_
                            refine m_if_le (tgt := 199) hx hb dX7_says_167 (by decide) (fun c_28 => ?_) (fun c_28 => ?_)
                            · skip
                              have c_28 : n ≤ 0 := (nI_leI (by omega) (by omega)).mp c_28
                              refine lv_iload hx hb dX7_says_199 (lv_at hl 1 rfl) ?_
                              refine lv_bipush (v := -14) hx hb dX7_says_201 (by decide) ?_
                              refine lv_icmp_ne (tgt := 233) hx hb dX7_says_203 (by decide) (fun c_29 => ?_) (fun c_29 => ?_)
                              · skip
                                refine lv_iload hx hb dX7_says_233 (lv_at hl 7 rfl) ?_
                                refine lv_iconst (v := nI 1) hx hb dX7_says_235 (by decide) ?_
                                refine lv_icmp_le (tgt := 272) hx hb dX7_says_236 (by decide) (fun c_30 => ?_) (fun c_30 => ?_)
                                · skip
                                  have c_30 : n ≤ 1 := (nI_leI (by omega) (by omega)).mp c_30
                                  refine lv_iinc (v := nI (k + 1)) (lv' := [(6, .int (nI (k + 1))), (8, .int ((-(V (t + 1) k)) - (nI 2))), (7, .int (V (t + 1) k)), (4, .int (nI tb)), (3, .int (nI ta)), (0, .ref (ad t)), (1, .int (nI 1)), (2, .ref (ad no)), (5, .int (nI n))]) hx hb dX7_says_272 hl (k := 8) rfl (m_inc k 1) (by decide) rfl (fun ls hl => ?_)
                                  refine lv_goto (tgt := 61) hx hb dX7_says_275 (by decide) ?_
                                  exact ih_61  n (k + 1) V1 _ _ _ (by omega) (by omega) (by exact hfr) (by rw [evX_s (by omega)]; exact hR.no (by intro h; first | exact absurd h.1 (Int32.not_le.mpr (by assumption)) | exact absurd h.2 (by omega)) (by intro h; first | exact absurd h.1 (by assumption) | exact absurd h.2 (by omega)) (by intro h; first | exact absurd h.1 (by assumption) | exact absurd h.2 (by omega)) (by intro h; first | exact absurd h.1 (by assumption) | exact absurd h.2 (by omega)) (by omega)) (by omega) hW (lv_sub hl [3, 4, 5, 6, 7, 8, 0] rfl)
                                · skip
                                  have c_30 : ¬ n ≤ 1 := mt (nI_leI (by omega) (by omega)).mpr c_30
                                  refine lv_iinc (v := nI (n - 1)) (lv' := [(5, .int (nI (n - 1))), (8, .int ((-(V (t + 1) k)) - (nI 2))), (7, .int (V (t + 1) k)), (4, .int (nI tb)), (3, .int (nI ta)), (0, .ref (ad t)), (1, .int (nI 1)), (2, .ref (ad no)), (6, .int (nI k))]) hx hb dX7_says_239 hl (k := 7) rfl (m_dec n 1 (by omega)) (by decide) rfl (fun ls hl => ?_)
                                  refine lv_aload_n hx hb dX7_says_242 rfl (lv_at hl 5 rfl) ?_
                                  refine m_getr S hW gt 4 rfl (j := (t + 2)) rfl kX7 (iW7 _) (by decide) (List.mem_cons_of_mem _ (wa_9 _ (List.mem_of_getElem? (i := 9) (by decide +kernel)))) dX7_says_243 ?_
                                  refine lv_iload hx hb dX7_says_246 (lv_at hl 0 rfl) ?_
                                  refine lv_iconst (v := nI 1) hx hb dX7_says_248 (by decide) ?_
                                  refine lv_isub hx hb dX7_says_249 ?_
                                  refine m_top (y := nI ((n - 1) - 1)) (pk_sub (by omega)) ?_
                                  refine lv_iload hx hb dX7_says_250 (lv_at hl 2 rfl) ?_
                                  refine lv_aload_n hx hb dX7_says_252 rfl (lv_at hl 5 rfl) ?_
                                  refine m_getr S hW gt 4 rfl (j := (t + 2)) rfl kX7 (iW7 _) (by decide) (List.mem_cons_of_mem _ (wa_9 _ (List.mem_of_getElem? (i := 9) (by decide +kernel)))) dX7_says_253 ?_
                                  refine lv_iload hx hb dX7_says_256 (lv_at hl 0 rfl) ?_
                                  refine lv_iconst (v := nI 1) hx hb dX7_says_258 (by decide) ?_
                                  refine lv_isub hx hb dX7_says_259 ?_
                                  refine m_top (y := nI ((n - 1) - 1)) (pk_sub (by omega)) ?_
                                  refine m_iald S hW gt2 ((n - 1) - 1) rfl (by omega) (by decide) dX7_says_260 ?_
                                  refine m_top (y := (evX (V no) (V (t + 1)) ta (k - ta)).2 (n - 1 - 1)) (hR.2 _ (by omega)) ?_
                                  refine lv_aload_n hx hb dX7_says_261 rfl (lv_at hl 5 rfl) ?_
                                  refine m_getr S hW gt 4 rfl (j := (t + 2)) rfl kX7 (iW7 _) (by decide) (List.mem_cons_of_mem _ (wa_9 _ (List.mem_of_getElem? (i := 9) (by decide +kernel)))) dX7_says_262 ?_
                                  refine lv_iload hx hb dX7_says_265 (lv_at hl 0 rfl) ?_
                                  refine m_iald S hW gt2 (n - 1) rfl (by omega) (by decide) dX7_says_267 ?_
                                  refine m_top (y := (evX (V no) (V (t + 1)) ta (k - ta)).2 (n - 1)) (hR.2 _ (by omega)) ?_
                                  refine m_cie (m_rS S hW (c_X7_join l G ad sh1 V1 (V (t + 1) k) ((evX (V no) (V (t + 1)) ta (k - ta)).2 (n - 1 - 1)) ((evX (V no) (V (t + 1)) ta (k - ta)).2 (n - 1))) (va_cwS 3 hts (gCall [.methodLink RX7 34 yX7_join, .static yX7_join, .initialized RX7] (List.forall_mem_cons.mpr ⟨(wa_18 _ (List.mem_of_getElem? (i := 19) (by decide +kernel))), (List.forall_mem_cons.mpr ⟨(wa_18 _ (List.mem_of_getElem? (i := 17) (by decide +kernel))), (List.forall_mem_cons.mpr ⟨(wa_18 _ (List.mem_of_getElem? (i := 18) (by decide +kernel))), (List.forall_mem_cons.mpr ⟨(wa_9 _ (List.mem_of_getElem? (i := 4) (by decide +kernel))), (fun _ h => absurd h List.not_mem_nil)⟩)⟩)⟩)⟩)) rfl rfl rfl (by decide +kernel) ⟨Nat.le_of_ble_eq_true rfl, Nat.le_of_ble_eq_true rfl⟩) rfl hl.1 rfl (Nat.le_of_ble_eq_true rfl) dX7_says_268 ⟨Nat.le_of_ble_eq_true rfl, Nat.le_of_ble_eq_true rfl⟩) hW (fun H locs hW => ?_)
                                  refine m_iast S hW gt2 ((n - 1) - 1) rfl (by omega) (by decide) dX7_says_271 (fun H locs hW => ?_)
                                  obtain ⟨V_31, eV_31⟩ : ∃ z : mV, z = mU V1 (t + 2) ((n - 1) - 1) (fJoin (V (t + 1) k) ((evX (V no) (V (t + 1)) ta (k - ta)).2 (n - 1 - 1)) ((evX (V no) (V (t + 1)) ta (k - ta)).2 (n - 1))) := ⟨_, rfl⟩
                                  rw [← eV_31] at hW
                                  refine lv_iinc (v := nI (k + 1)) (lv' := [(6, .int (nI (k + 1))), (5, .int (nI (n - 1))), (8, .int ((-(V (t + 1) k)) - (nI 2))), (7, .int (V (t + 1) k)), (4, .int (nI tb)), (3, .int (nI ta)), (0, .ref (ad t)), (1, .int (nI 1)), (2, .ref (ad no))]) hx hb dX7_says_272 hl (k := 8) rfl (m_inc k 1) (by decide) rfl (fun ls hl => ?_)
                                  refine lv_goto (tgt := 61) hx hb dX7_says_275 (by decide) ?_
                                  exact ih_61  (n - 1) (k + 1) V_31 _ _ _ (by omega) (by omega) (by intro a ha; rw [eV_31, mU_no _ _ ha]; exact hfr a ha) (by first | (exfalso; omega) | skip; rw [eV_31, mU_row, evX_s (by omega)]; first | exact hR.push (by first | exact Int32.not_lt.mp (by assumption) | assumption) (by omega) | exact hR.nm (by intro h; first | exact absurd h.1 (Int32.not_le.mpr (by assumption)) | exact absurd h.2 (by omega)) (by assumption) (by omega) eix hix | exact hR.nt0 (by intro h; first | exact absurd h.1 (Int32.not_le.mpr (by assumption)) | exact absurd h.2 (by omega)) (by intro h; first | exact absurd h.1 (by assumption) | exact absurd h.2 (by omega)) (by assumption) (by omega) (by assumption) | exact hR.nt1 (by intro h; first | exact absurd h.1 (Int32.not_le.mpr (by assumption)) | exact absurd h.2 (by omega)) (by intro h; first | exact absurd h.1 (by assumption) | exact absurd h.2 (by omega)) (by assumption) (by omega) (by assumption) | exact hR.ng (by intro h; first | exact absurd h.1 (Int32.not_le.mpr (by assumption)) | exact absurd h.2 (by omega)) (by intro h; first | exact absurd h.1 (by assumption) | exact absurd h.2 (by omega)) (by assumption) (by omega) | exact hR.jn (by intro h; first | exact absurd h.1 (Int32.not_le.mpr (by assumption)) | exact absurd h.2 (by omega)) (by intro h; first | exact absurd h.1 (by assumption) | exact absurd h.2 (by omega)) (by intro h; first | exact absurd h.1 (by assumption) | exact absurd h.2 (by omega)) (by intro h; first | exact absurd h.1 (by assumption) | exact absurd h.2 (by omega)) (by omega)) (by omega) hW (lv_sub hl [4, 5, 6, 7, 8, 1, 0] rfl)
                              · skip
                                refine lv_iload hx hb dX7_says_206 (lv_at hl 7 rfl) ?_
                                refine m_if_le (tgt := 233) hx hb dX7_says_208 (by decide) (fun c_32 => ?_) (fun c_32 => ?_)
                                · skip
                                  have c_32 : n ≤ 0 := (nI_leI (by omega) (by omega)).mp c_32
                                  refine lv_iload hx hb dX7_says_233 (lv_at hl 7 rfl) ?_
                                  refine lv_iconst (v := nI 1) hx hb dX7_says_235 (by decide) ?_
                                  refine lv_icmp_le (tgt := 272) hx hb dX7_says_236 (by decide) (fun c_33 => ?_) (fun c_33 => ?_)
                                  · skip
                                    have c_33 : n ≤ 1 := (nI_leI (by omega) (by omega)).mp c_33
                                    refine lv_iinc (v := nI (k + 1)) (lv' := [(6, .int (nI (k + 1))), (8, .int ((-(V (t + 1) k)) - (nI 2))), (7, .int (V (t + 1) k)), (4, .int (nI tb)), (3, .int (nI ta)), (0, .ref (ad t)), (1, .int (nI 1)), (2, .ref (ad no)), (5, .int (nI n))]) hx hb dX7_says_272 hl (k := 8) rfl (m_inc k 1) (by decide) rfl (fun ls hl => ?_)
                                    refine lv_goto (tgt := 61) hx hb dX7_says_275 (by decide) ?_
                                    exact ih_61  n (k + 1) V1 _ _ _ (by omega) (by omega) (by exact hfr) (by rw [evX_s (by omega)]; exact hR.no (by intro h; first | exact absurd h.1 (Int32.not_le.mpr (by assumption)) | exact absurd h.2 (by omega)) (by intro h; first | exact absurd h.1 (by assumption) | exact absurd h.2 (by omega)) (by intro h; first | exact absurd h.1 (by assumption) | exact absurd h.2 (by omega)) (by intro h; first | exact absurd h.1 (by assumption) | exact absurd h.2 (by omega)) (by omega)) (by omega) hW (lv_sub hl [3, 4, 5, 6, 7, 8, 0] rfl)
                                  · skip
                                    have c_33 : ¬ n ≤ 1 := mt (nI_leI (by omega) (by omega)).mpr c_33
                                    refine lv_iinc (v := nI (n - 1)) (lv' := [(5, .int (nI (n - 1))), (8, .int ((-(V (t + 1) k)) - (nI 2))), (7, .int (V (t + 1) k)), (4, .int (nI tb)), (3, .int (nI ta)), (0, .ref (ad t)), (1, .int (nI 1)), (2, .ref (ad no)), (6, .int (nI k))]) hx hb dX7_says_239 hl (k := 7) rfl (m_dec n 1 (by omega)) (by decide) rfl (fun ls hl => ?_)
                                    refine lv_aload_n hx hb dX7_says_242 rfl (lv_at hl 5 rfl) ?_
                                    refine m_getr S hW gt 4 rfl (j := (t + 2)) rfl kX7 (iW7 _) (by decide) (List.mem_cons_of_mem _ (wa_9 _ (List.mem_of_getElem? (i := 9) (by decide +kernel)))) dX7_says_243 ?_
                                    refine lv_iload hx hb dX7_says_246 (lv_at hl 0 rfl) ?_
                                    refine lv_iconst (v := nI 1) hx hb dX7_says_248 (by decide) ?_
                                    refine lv_isub hx hb dX7_says_249 ?_
                                    refine m_top (y := nI ((n - 1) - 1)) (pk_sub (by omega)) ?_
                                    refine lv_iload hx hb dX7_says_250 (lv_at hl 2 rfl) ?_
                                    refine lv_aload_n hx hb dX7_says_252 rfl (lv_at hl 5 rfl) ?_
                                    refine m_getr S hW gt 4 rfl (j := (t + 2)) rfl kX7 (iW7 _) (by decide) (List.mem_cons_of_mem _ (wa_9 _ (List.mem_of_getElem? (i := 9) (by decide +kernel)))) dX7_says_253 ?_
                                    refine lv_iload hx hb dX7_says_256 (lv_at hl 0 rfl) ?_
                                    refine lv_iconst (v := nI 1) hx hb dX7_says_258 (by decide) ?_
                                    refine lv_isub hx hb dX7_says_259 ?_
                                    refine m_top (y := nI ((n - 1) - 1)) (pk_sub (by omega)) ?_
                                    refine m_iald S hW gt2 ((n - 1) - 1) rfl (by omega) (by decide) dX7_says_260 ?_
                                    refine m_top (y := (evX (V no) (V (t + 1)) ta (k - ta)).2 (n - 1 - 1)) (hR.2 _ (by omega)) ?_
                                    refine lv_aload_n hx hb dX7_says_261 rfl (lv_at hl 5 rfl) ?_
                                    refine m_getr S hW gt 4 rfl (j := (t + 2)) rfl kX7 (iW7 _) (by decide) (List.mem_cons_of_mem _ (wa_9 _ (List.mem_of_getElem? (i := 9) (by decide +kernel)))) dX7_says_262 ?_
                                    refine lv_iload hx hb dX7_says_265 (lv_at hl 0 rfl) ?_
                                    refine m_iald S hW gt2 (n - 1) rfl (by omega) (by decide) dX7_says_267 ?_
                                    refine m_top (y := (evX (V no) (V (t + 1)) ta (k - ta)).2 (n - 1)) (hR.2 _ (by omega)) ?_
                                    refine m_cie (m_rS S hW (c_X7_join l G ad sh1 V1 (V (t + 1) k) ((evX (V no) (V (t + 1)) ta (k - ta)).2 (n - 1 - 1)) ((evX (V no) (V (t + 1)) ta (k - ta)).2 (n - 1))) (va_cwS 3 hts (gCall [.methodLink RX7 34 yX7_join, .static yX7_join, .initialized RX7] (List.forall_mem_cons.mpr ⟨(wa_18 _ (List.mem_of_getElem? (i := 19) (by decide +kernel))), (List.forall_mem_cons.mpr ⟨(wa_18 _ (List.mem_of_getElem? (i := 17) (by decide +kernel))), (List.forall_mem_cons.mpr ⟨(wa_18 _ (List.mem_of_getElem? (i := 18) (by decide +kernel))), (List.forall_mem_cons.mpr ⟨(wa_9 _ (List.mem_of_getElem? (i := 4) (by decide +kernel))), (fun _ h => absurd h List.not_mem_nil)⟩)⟩)⟩)⟩)) rfl rfl rfl (by decide +kernel) ⟨Nat.le_of_ble_eq_true rfl, Nat.le_of_ble_eq_true rfl⟩) rfl hl.1 rfl (Nat.le_of_ble_eq_true rfl) dX7_says_268 ⟨Nat.le_of_ble_eq_true rfl, Nat.le_of_ble_eq_true rfl⟩) hW (fun H locs hW => ?_)
                                    refine m_iast S hW gt2 ((n - 1) - 1) rfl (by omega) (by decide) dX7_says_271 (fun H locs hW => ?_)
                                    obtain ⟨V_34, eV_34⟩ : ∃ z : mV, z = mU V1 (t + 2) ((n - 1) - 1) (fJoin (V (t + 1) k) ((evX (V no) (V (t + 1)) ta (k - ta)).2 (n - 1 - 1)) ((evX (V no) (V (t + 1)) ta (k - ta)).2 (n - 1))) := ⟨_, rfl⟩
                                    rw [← eV_34] at hW
                                    refine lv_iinc (v := nI (k + 1)) (lv' := [(6, .int (nI (k + 1))), (5, .int (nI (n - 1))), (8, .int ((-(V (t + 1) k)) - (nI 2))), (7, .int (V (t + 1) k)), (4, .int (nI tb)), (3, .int (nI ta)), (0, .ref (ad t)), (1, .int (nI 1)), (2, .ref (ad no))]) hx hb dX7_says_272 hl (k := 8) rfl (m_inc k 1) (by decide) rfl (fun ls hl => ?_)
                                    refine lv_goto (tgt := 61) hx hb dX7_says_275 (by decide) ?_
                                    exact ih_61  (n - 1) (k + 1) V_34 _ _ _ (by omega) (by omega) (by intro a ha; rw [eV_34, mU_no _ _ ha]; exact hfr a ha) (by first | (exfalso; omega) | skip; rw [eV_34, mU_row, evX_s (by omega)]; first | exact hR.push (by first | exact Int32.not_lt.mp (by assumption) | assumption) (by omega) | exact hR.nm (by intro h; first | exact absurd h.1 (Int32.not_le.mpr (by assumption)) | exact absurd h.2 (by omega)) (by assumption) (by omega) eix hix | exact hR.nt0 (by intro h; first | exact absurd h.1 (Int32.not_le.mpr (by assumption)) | exact absurd h.2 (by omega)) (by intro h; first | exact absurd h.1 (by assumption) | exact absurd h.2 (by omega)) (by assumption) (by omega) (by assumption) | exact hR.nt1 (by intro h; first | exact absurd h.1 (Int32.not_le.mpr (by assumption)) | exact absurd h.2 (by omega)) (by intro h; first | exact absurd h.1 (by assumption) | exact absurd h.2 (by omega)) (by assumption) (by omega) (by assumption) | exact hR.ng (by intro h; first | exact absurd h.1 (Int32.not_le.mpr (by assumption)) | exact absurd h.2 (by omega)) (by intro h; first | exact absurd h.1 (by assumption) | exact absurd h.2 (by omega)) (by assumption) (by omega) | exact hR.jn (by intro h; first | exact absurd h.1 (Int32.not_le.mpr (by assumption)) | exact absurd h.2 (by omega)) (by intro h; first | exact absurd h.1 (by assumption) | exact absurd h.2 (by omega)) (by intro h; first | exact absurd h.1 (by assumption) | exact absurd h.2 (by omega)) (by intro h; first | exact absurd h.1 (by assumption) | exact absurd h.2 (by omega)) (by omega)) (by omega) hW (lv_sub hl [4, 5, 6, 7, 8, 1, 0] rfl)
                                · skip
                                  have c_32 : ¬ n ≤ 0 := mt (nI_leI (by omega) (by omega)).mpr c_32
                                  refine lv_aload_n hx hb dX7_says_211 rfl (lv_at hl 4 rfl) ?_
                                  refine m_getr S hW gt 4 rfl (j := (t + 2)) rfl kX7 (iW7 _) (by decide) (List.mem_cons_of_mem _ (wa_9 _ (List.mem_of_getElem? (i := 9) (by decide +kernel)))) dX7_says_212 ?_
                                  refine lv_iload hx hb dX7_says_215 (lv_at hl 7 rfl) ?_
                                  refine lv_iconst (v := nI 1) hx hb dX7_says_217 (by decide) ?_
                                  refine lv_isub hx hb dX7_says_218 ?_
                                  refine m_top (y := nI (n - 1)) (pk_sub (by omega)) ?_
                                  refine lv_aload_n hx hb dX7_says_219 rfl (lv_at hl 4 rfl) ?_
                                  refine m_getr S hW gt 4 rfl (j := (t + 2)) rfl kX7 (iW7 _) (by decide) (List.mem_cons_of_mem _ (wa_9 _ (List.mem_of_getElem? (i := 9) (by decide +kernel)))) dX7_says_220 ?_
                                  refine lv_iload hx hb dX7_says_223 (lv_at hl 7 rfl) ?_
                                  refine lv_iconst (v := nI 1) hx hb dX7_says_225 (by decide) ?_
                                  refine lv_isub hx hb dX7_says_226 ?_
                                  refine m_top (y := nI (n - 1)) (pk_sub (by omega)) ?_
                                  refine m_iald S hW gt2 (n - 1) rfl (by omega) (by decide) dX7_says_227 ?_
                                  refine m_top (y := (evX (V no) (V (t + 1)) ta (k - ta)).2 (n - 1)) (hR.2 _ (by omega)) ?_
                                  refine lv_ineg hx hb dX7_says_228 ?_
                                  refine m_iast S hW gt2 (n - 1) rfl (by omega) (by decide) dX7_says_229 (fun H locs hW => ?_)
                                  obtain ⟨V_35, eV_35⟩ : ∃ z : mV, z = mU V1 (t + 2) (n - 1) ((-((evX (V no) (V (t + 1)) ta (k - ta)).2 (n - 1)))) := ⟨_, rfl⟩
                                  rw [← eV_35] at hW
                                  refine lv_goto (tgt := 272) hx hb dX7_says_230 (by decide) ?_
                                  refine lv_iinc (v := nI (k + 1)) (lv' := [(6, .int (nI (k + 1))), (8, .int ((-(V (t + 1) k)) - (nI 2))), (7, .int (V (t + 1) k)), (4, .int (nI tb)), (3, .int (nI ta)), (0, .ref (ad t)), (1, .int (nI 1)), (2, .ref (ad no)), (5, .int (nI n))]) hx hb dX7_says_272 hl (k := 8) rfl (m_inc k 1) (by decide) rfl (fun ls hl => ?_)
                                  refine lv_goto (tgt := 61) hx hb dX7_says_275 (by decide) ?_
                                  exact ih_61  n (k + 1) V_35 _ _ _ (by omega) (by omega) (by intro a ha; rw [eV_35, mU_no _ _ ha]; exact hfr a ha) (by first | (exfalso; omega) | skip; rw [eV_35, mU_row, evX_s (by omega)]; first | exact hR.push (by first | exact Int32.not_lt.mp (by assumption) | assumption) (by omega) | exact hR.nm (by intro h; first | exact absurd h.1 (Int32.not_le.mpr (by assumption)) | exact absurd h.2 (by omega)) (by assumption) (by omega) eix hix | exact hR.nt0 (by intro h; first | exact absurd h.1 (Int32.not_le.mpr (by assumption)) | exact absurd h.2 (by omega)) (by intro h; first | exact absurd h.1 (by assumption) | exact absurd h.2 (by omega)) (by assumption) (by omega) (by assumption) | exact hR.nt1 (by intro h; first | exact absurd h.1 (Int32.not_le.mpr (by assumption)) | exact absurd h.2 (by omega)) (by intro h; first | exact absurd h.1 (by assumption) | exact absurd h.2 (by omega)) (by assumption) (by omega) (by assumption) | exact hR.ng (by intro h; first | exact absurd h.1 (Int32.not_le.mpr (by assumption)) | exact absurd h.2 (by omega)) (by intro h; first | exact absurd h.1 (by assumption) | exact absurd h.2 (by omega)) (by assumption) (by omega) | exact hR.jn (by intro h; first | exact absurd h.1 (Int32.not_le.mpr (by assumption)) | exact absurd h.2 (by omega)) (by intro h; first | exact absurd h.1 (by assumption) | exact absurd h.2 (by omega)) (by intro h; first | exact absurd h.1 (by assumption) | exact absurd h.2 (by omega)) (by intro h; first | exact absurd h.1 (by assumption) | exact absurd h.2 (by omega)) (by omega)) (by omega) hW (lv_sub hl [3, 4, 5, 6, 7, 8, 0] rfl)
                            · skip
                              have c_28 : ¬ n ≤ 0 := mt (nI_leI (by omega) (by omega)).mpr c_28
                              refine lv_aload_n hx hb dX7_says_170 rfl (lv_at hl 4 rfl) ?_
                              refine m_getr S hW gt 4 rfl (j := (t + 2)) rfl kX7 (iW7 _) (by decide) (List.mem_cons_of_mem _ (wa_9 _ (List.mem_of_getElem? (i := 9) (by decide +kernel)))) dX7_says_171 ?_
                              refine lv_iload hx hb dX7_says_174 (lv_at hl 7 rfl) ?_
                              refine lv_iconst (v := nI 1) hx hb dX7_says_176 (by decide) ?_
                              refine lv_isub hx hb dX7_says_177 ?_
                              refine m_top (y := nI (n - 1)) (pk_sub (by omega)) ?_
                              refine lv_aload_n hx hb dX7_says_178 rfl (lv_at hl 4 rfl) ?_
                              refine m_getr S hW gt 4 rfl (j := (t + 2)) rfl kX7 (iW7 _) (by decide) (List.mem_cons_of_mem _ (wa_9 _ (List.mem_of_getElem? (i := 9) (by decide +kernel)))) dX7_says_179 ?_
                              refine lv_iload hx hb dX7_says_182 (lv_at hl 7 rfl) ?_
                              refine lv_iconst (v := nI 1) hx hb dX7_says_184 (by decide) ?_
                              refine lv_isub hx hb dX7_says_185 ?_
                              refine m_top (y := nI (n - 1)) (pk_sub (by omega)) ?_
                              refine m_iald S hW gt2 (n - 1) rfl (by omega) (by decide) dX7_says_186 ?_
                              refine m_top (y := (evX (V no) (V (t + 1)) ta (k - ta)).2 (n - 1)) (hR.2 _ (by omega)) ?_
                              refine m_if_ne (tgt := 194) hx hb dX7_says_187 (by decide) (fun c_36 => ?_) (fun c_36 => ?_)
                              · skip
                                refine lv_iconst (v := nI 0) hx hb dX7_says_194 (by decide) ?_
                                refine m_iast S hW gt2 (n - 1) rfl (by omega) (by decide) dX7_says_195 (fun H locs hW => ?_)
                                obtain ⟨V_37, eV_37⟩ : ∃ z : mV, z = mU V1 (t + 2) (n - 1) (nI 0) := ⟨_, rfl⟩
                                rw [← eV_37] at hW
                                refine lv_goto (tgt := 272) hx hb dX7_says_196 (by decide) ?_
                                refine lv_iinc (v := nI (k + 1)) (lv' := [(6, .int (nI (k + 1))), (8, .int ((-(V (t + 1) k)) - (nI 2))), (7, .int (V (t + 1) k)), (4, .int (nI tb)), (3, .int (nI ta)), (0, .ref (ad t)), (1, .int (nI 1)), (2, .ref (ad no)), (5, .int (nI n))]) hx hb dX7_says_272 hl (k := 8) rfl (m_inc k 1) (by decide) rfl (fun ls hl => ?_)
                                refine lv_goto (tgt := 61) hx hb dX7_says_275 (by decide) ?_
                                exact ih_61  n (k + 1) V_37 _ _ _ (by omega) (by omega) (by intro a ha; rw [eV_37, mU_no _ _ ha]; exact hfr a ha) (by first | (exfalso; omega) | skip; rw [eV_37, mU_row, evX_s (by omega)]; first | exact hR.push (by first | exact Int32.not_lt.mp (by assumption) | assumption) (by omega) | exact hR.nm (by intro h; first | exact absurd h.1 (Int32.not_le.mpr (by assumption)) | exact absurd h.2 (by omega)) (by assumption) (by omega) eix hix | exact hR.nt0 (by intro h; first | exact absurd h.1 (Int32.not_le.mpr (by assumption)) | exact absurd h.2 (by omega)) (by intro h; first | exact absurd h.1 (by assumption) | exact absurd h.2 (by omega)) (by assumption) (by omega) (by assumption) | exact hR.nt1 (by intro h; first | exact absurd h.1 (Int32.not_le.mpr (by assumption)) | exact absurd h.2 (by omega)) (by intro h; first | exact absurd h.1 (by assumption) | exact absurd h.2 (by omega)) (by assumption) (by omega) (by assumption) | exact hR.ng (by intro h; first | exact absurd h.1 (Int32.not_le.mpr (by assumption)) | exact absurd h.2 (by omega)) (by intro h; first | exact absurd h.1 (by assumption) | exact absurd h.2 (by omega)) (by assumption) (by omega) | exact hR.jn (by intro h; first | exact absurd h.1 (Int32.not_le.mpr (by assumption)) | exact absurd h.2 (by omega)) (by intro h; first | exact absurd h.1 (by assumption) | exact absurd h.2 (by omega)) (by intro h; first | exact absurd h.1 (by assumption) | exact absurd h.2 (by omega)) (by intro h; first | exact absurd h.1 (by assumption) | exact absurd h.2 (by omega)) (by omega)) (by omega) hW (lv_sub hl [3, 4, 5, 6, 7, 8, 0] rfl)
                              · skip
                                refine lv_iconst (v := nI 1) hx hb dX7_says_190 (by decide) ?_
                                refine lv_goto (tgt := 195) hx hb dX7_says_191 (by decide) ?_
                                refine m_iast S hW gt2 (n - 1) rfl (by omega) (by decide) dX7_says_195 (fun H locs hW => ?_)
                                obtain ⟨V_38, eV_38⟩ : ∃ z : mV, z = mU V1 (t + 2) (n - 1) (nI 1) := ⟨_, rfl⟩
                                rw [← eV_38] at hW
                                refine lv_goto (tgt := 272) hx hb dX7_says_196 (by decide) ?_
                                refine lv_iinc (v := nI (k + 1)) (lv' := [(6, .int (nI (k + 1))), (8, .int ((-(V (t + 1) k)) - (nI 2))), (7, .int (V (t + 1) k)), (4, .int (nI tb)), (3, .int (nI ta)), (0, .ref (ad t)), (1, .int (nI 1)), (2, .ref (ad no)), (5, .int (nI n))]) hx hb dX7_says_272 hl (k := 8) rfl (m_inc k 1) (by decide) rfl (fun ls hl => ?_)
                                refine lv_goto (tgt := 61) hx hb dX7_says_275 (by decide) ?_
                                exact ih_61  n (k + 1) V_38 _ _ _ (by omega) (by omega) (by intro a ha; rw [eV_38, mU_no _ _ ha]; exact hfr a ha) (by first | (exfalso; omega) | skip; rw [eV_38, mU_row, evX_s (by omega)]; first | exact hR.push (by first | exact Int32.not_lt.mp (by assumption) | assumption) (by omega) | exact hR.nm (by intro h; first | exact absurd h.1 (Int32.not_le.mpr (by assumption)) | exact absurd h.2 (by omega)) (by assumption) (by omega) eix hix | exact hR.nt0 (by intro h; first | exact absurd h.1 (Int32.not_le.mpr (by assumption)) | exact absurd h.2 (by omega)) (by intro h; first | exact absurd h.1 (by assumption) | exact absurd h.2 (by omega)) (by assumption) (by omega) (by assumption) | exact hR.nt1 (by intro h; first | exact absurd h.1 (Int32.not_le.mpr (by assumption)) | exact absurd h.2 (by omega)) (by intro h; first | exact absurd h.1 (by assumption) | exact absurd h.2 (by omega)) (by assumption) (by omega) (by assumption) | exact hR.ng (by intro h; first | exact absurd h.1 (Int32.not_le.mpr (by assumption)) | exact absurd h.2 (by omega)) (by intro h; first | exact absurd h.1 (by assumption) | exact absurd h.2 (by omega)) (by assumption) (by omega) | exact hR.jn (by intro h; first | exact absurd h.1 (Int32.not_le.mpr (by assumption)) | exact absurd h.2 (by omega)) (by intro h; first | exact absurd h.1 (by assumption) | exact absurd h.2 (by omega)) (by intro h; first | exact absurd h.1 (by assumption) | exact absurd h.2 (by omega)) (by intro h; first | exact absurd h.1 (by assumption) | exact absurd h.2 (by omega)) (by omega)) (by omega) hW (lv_sub hl [3, 4, 5, 6, 7, 8, 0] rfl)
                        · skip
                          have c_19 : ¬ 32 ≤ n := mt (nI_leI (by omega) (by omega)).mpr c_19
                          refine lv_aload_n hx hb dX7_says_141 rfl (lv_at hl 4 rfl) ?_
                          refine m_getr S hW gt 4 rfl (j := (t + 2)) rfl kX7 (iW7 _) (by decide) (List.mem_cons_of_mem _ (wa_9 _ (List.mem_of_getElem? (i := 9) (by decide +kernel)))) dX7_says_142 ?_
                          refine lv_iload hx hb dX7_says_145 (lv_at hl 7 rfl) ?_
                          refine lv_iinc (v := nI (n + 1)) (lv' := [(5, .int (nI (n + 1))), (8, .int ((-(V (t + 1) k)) - (nI 2))), (7, .int (V (t + 1) k)), (4, .int (nI tb)), (3, .int (nI ta)), (0, .ref (ad t)), (1, .int (nI 1)), (2, .ref (ad no)), (6, .int (nI k))]) hx hb dX7_says_147 hl (k := 7) rfl (m_inc n 1) (by decide) rfl (fun ls hl => ?_)
                          refine lv_aload_n hx hb dX7_says_150 rfl (lv_at hl 7 rfl) ?_
                          refine lv_iload hx hb dX7_says_151 (lv_at hl 1 rfl) ?_
                          obtain ⟨ix, eix, -, hix⟩ := w_16.ex
                          refine m_iald S hW gn ix eix hix (by decide) dX7_says_153 ?_
                          refine m_top (y := V no ix) (by rw [hfr _ hno2]) ?_
                          refine m_iast S hW gt2 n rfl (by omega) (by decide) dX7_says_154 (fun H locs hW => ?_)
                          obtain ⟨V_39, eV_39⟩ : ∃ z : mV, z = mU V1 (t + 2) n (V no ix) := ⟨_, rfl⟩
                          rw [← eV_39] at hW
                          refine lv_goto (tgt := 272) hx hb dX7_says_155 (by decide) ?_
                          refine lv_iinc (v := nI (k + 1)) (lv' := [(6, .int (nI (k + 1))), (5, .int (nI (n + 1))), (8, .int ((-(V (t + 1) k)) - (nI 2))), (7, .int (V (t + 1) k)), (4, .int (nI tb)), (3, .int (nI ta)), (0, .ref (ad t)), (1, .int (nI 1)), (2, .ref (ad no))]) hx hb dX7_says_272 hl (k := 8) rfl (m_inc k 1) (by decide) rfl (fun ls hl => ?_)
                          refine lv_goto (tgt := 61) hx hb dX7_says_275 (by decide) ?_
                          exact ih_61  (n + 1) (k + 1) V_39 _ _ _ (by omega) (by omega) (by intro a ha; rw [eV_39, mU_no _ _ ha]; exact hfr a ha) (by first | (exfalso; omega) | skip; rw [eV_39, mU_row, evX_s (by omega)]; first | exact hR.push (by first | exact Int32.not_lt.mp (by assumption) | assumption) (by omega) | exact hR.nm (by intro h; first | exact absurd h.1 (Int32.not_le.mpr (by assumption)) | exact absurd h.2 (by omega)) (by assumption) (by omega) eix hix | exact hR.nt0 (by intro h; first | exact absurd h.1 (Int32.not_le.mpr (by assumption)) | exact absurd h.2 (by omega)) (by intro h; first | exact absurd h.1 (by assumption) | exact absurd h.2 (by omega)) (by assumption) (by omega) (by assumption) | exact hR.nt1 (by intro h; first | exact absurd h.1 (Int32.not_le.mpr (by assumption)) | exact absurd h.2 (by omega)) (by intro h; first | exact absurd h.1 (by assumption) | exact absurd h.2 (by omega)) (by assumption) (by omega) (by assumption) | exact hR.ng (by intro h; first | exact absurd h.1 (Int32.not_le.mpr (by assumption)) | exact absurd h.2 (by omega)) (by intro h; first | exact absurd h.1 (by assumption) | exact absurd h.2 (by omega)) (by assumption) (by omega) | exact hR.jn (by intro h; first | exact absurd h.1 (Int32.not_le.mpr (by assumption)) | exact absurd h.2 (by omega)) (by intro h; first | exact absurd h.1 (by assumption) | exact absurd h.2 (by omega)) (by intro h; first | exact absurd h.1 (by assumption) | exact absurd h.2 (by omega)) (by intro h; first | exact absurd h.1 (by assumption) | exact absurd h.2 (by omega)) (by omega)) (by omega) hW (lv_sub hl [4, 5, 6, 7, 8, 1, 0] rfl)
                    · skip
                      refine m_if_eq (tgt := 158) hx hb dX7_says_131 (by decide) (fun c_40 => ?_) (fun c_40 => ?_)
                      · skip
                        refine lv_iload hx hb dX7_says_158 (lv_at hl 1 rfl) ?_
                        refine lv_bipush (v := -13) hx hb dX7_says_160 (by decide) ?_
                        refine lv_icmp_ne (tgt := 199) hx hb dX7_says_162 (by decide) (fun c_41 => ?_) (fun c_41 => ?_)
                        · skip
                          refine lv_iload hx hb dX7_says_199 (lv_at hl 1 rfl) ?_
                          refine lv_bipush (v := -14) hx hb dX7_says_201 (by decide) ?_
                          refine lv_icmp_ne (tgt := 233) hx hb dX7_says_203 (by decide) (fun c_42 => ?_) (fun c_42 => ?_)
                          · skip
                            refine lv_iload hx hb dX7_says_233 (lv_at hl 7 rfl) ?_
                            refine lv_iconst (v := nI 1) hx hb dX7_says_235 (by decide) ?_
                            refine lv_icmp_le (tgt := 272) hx hb dX7_says_236 (by decide) (fun c_43 => ?_) (fun c_43 => ?_)
                            · skip
                              have c_43 : n ≤ 1 := (nI_leI (by omega) (by omega)).mp c_43
                              refine lv_iinc (v := nI (k + 1)) (lv' := [(6, .int (nI (k + 1))), (8, .int ((-(V (t + 1) k)) - (nI 2))), (7, .int (V (t + 1) k)), (4, .int (nI tb)), (3, .int (nI ta)), (0, .ref (ad t)), (1, .int (nI 1)), (2, .ref (ad no)), (5, .int (nI n))]) hx hb dX7_says_272 hl (k := 8) rfl (m_inc k 1) (by decide) rfl (fun ls hl => ?_)
                              refine lv_goto (tgt := 61) hx hb dX7_says_275 (by decide) ?_
                              exact ih_61  n (k + 1) V1 _ _ _ (by omega) (by omega) (by exact hfr) (by rw [evX_s (by omega)]; exact hR.no (by intro h; first | exact absurd h.1 (Int32.not_le.mpr (by assumption)) | exact absurd h.2 (by omega)) (by intro h; first | exact absurd h.1 (by assumption) | exact absurd h.2 (by omega)) (by intro h; first | exact absurd h.1 (by assumption) | exact absurd h.2 (by omega)) (by intro h; first | exact absurd h.1 (by assumption) | exact absurd h.2 (by omega)) (by omega)) (by omega) hW (lv_sub hl [3, 4, 5, 6, 7, 8, 0] rfl)
                            · skip
                              have c_43 : ¬ n ≤ 1 := mt (nI_leI (by omega) (by omega)).mpr c_43
                              refine lv_iinc (v := nI (n - 1)) (lv' := [(5, .int (nI (n - 1))), (8, .int ((-(V (t + 1) k)) - (nI 2))), (7, .int (V (t + 1) k)), (4, .int (nI tb)), (3, .int (nI ta)), (0, .ref (ad t)), (1, .int (nI 1)), (2, .ref (ad no)), (6, .int (nI k))]) hx hb dX7_says_239 hl (k := 7) rfl (m_dec n 1 (by omega)) (by decide) rfl (fun ls hl => ?_)
                              refine lv_aload_n hx hb dX7_says_242 rfl (lv_at hl 5 rfl) ?_
                              refine m_getr S hW gt 4 rfl (j := (t + 2)) rfl kX7 (iW7 _) (by decide) (List.mem_cons_of_mem _ (wa_9 _ (List.mem_of_getElem? (i := 9) (by decide +kernel)))) dX7_says_243 ?_
                              refine lv_iload hx hb dX7_says_246 (lv_at hl 0 rfl) ?_
                              refine lv_iconst (v := nI 1) hx hb dX7_says_248 (by decide) ?_
                              refine lv_isub hx hb dX7_says_249 ?_
                              refine m_top (y := nI ((n - 1) - 1)) (pk_sub (by omega)) ?_
                              refine lv_iload hx hb dX7_says_250 (lv_at hl 2 rfl) ?_
                              refine lv_aload_n hx hb dX7_says_252 rfl (lv_at hl 5 rfl) ?_
                              refine m_getr S hW gt 4 rfl (j := (t + 2)) rfl kX7 (iW7 _) (by decide) (List.mem_cons_of_mem _ (wa_9 _ (List.mem_of_getElem? (i := 9) (by decide +kernel)))) dX7_says_253 ?_
                              refine lv_iload hx hb dX7_says_256 (lv_at hl 0 rfl) ?_
                              refine lv_iconst (v := nI 1) hx hb dX7_says_258 (by decide) ?_
                              refine lv_isub hx hb dX7_says_259 ?_
                              refine m_top (y := nI ((n - 1) - 1)) (pk_sub (by omega)) ?_
                              refine m_iald S hW gt2 ((n - 1) - 1) rfl (by omega) (by decide) dX7_says_260 ?_
                              refine m_top (y := (evX (V no) (V (t + 1)) ta (k - ta)).2 (n - 1 - 1)) (hR.2 _ (by omega)) ?_
                              refine lv_aload_n hx hb dX7_says_261 rfl (lv_at hl 5 rfl) ?_
                              refine m_getr S hW gt 4 rfl (j := (t + 2)) rfl kX7 (iW7 _) (by decide) (List.mem_cons_of_mem _ (wa_9 _ (List.mem_of_getElem? (i := 9) (by decide +kernel)))) dX7_says_262 ?_
                              refine lv_iload hx hb dX7_says_265 (lv_at hl 0 rfl) ?_
                              refine m_iald S hW gt2 (n - 1) rfl (by omega) (by decide) dX7_says_267 ?_
                              refine m_top (y := (evX (V no) (V (t + 1)) ta (k - ta)).2 (n - 1)) (hR.2 _ (by omega)) ?_
                              refine m_cie (m_rS S hW (c_X7_join l G ad sh1 V1 (V (t + 1) k) ((evX (V no) (V (t + 1)) ta (k - ta)).2 (n - 1 - 1)) ((evX (V no) (V (t + 1)) ta (k - ta)).2 (n - 1))) (va_cwS 3 hts (gCall [.methodLink RX7 34 yX7_join, .static yX7_join, .initialized RX7] (List.forall_mem_cons.mpr ⟨(wa_18 _ (List.mem_of_getElem? (i := 19) (by decide +kernel))), (List.forall_mem_cons.mpr ⟨(wa_18 _ (List.mem_of_getElem? (i := 17) (by decide +kernel))), (List.forall_mem_cons.mpr ⟨(wa_18 _ (List.mem_of_getElem? (i := 18) (by decide +kernel))), (List.forall_mem_cons.mpr ⟨(wa_9 _ (List.mem_of_getElem? (i := 4) (by decide +kernel))), (fun _ h => absurd h List.not_mem_nil)⟩)⟩)⟩)⟩)) rfl rfl rfl (by decide +kernel) ⟨Nat.le_of_ble_eq_true rfl, Nat.le_of_ble_eq_true rfl⟩) rfl hl.1 rfl (Nat.le_of_ble_eq_true rfl) dX7_says_268 ⟨Nat.le_of_ble_eq_true rfl, Nat.le_of_ble_eq_true rfl⟩) hW (fun H locs hW => ?_)
                              refine m_iast S hW gt2 ((n - 1) - 1) rfl (by omega) (by decide) dX7_says_271 (fun H locs hW => ?_)
                              obtain ⟨V_44, eV_44⟩ : ∃ z : mV, z = mU V1 (t + 2) ((n - 1) - 1) (fJoin (V (t + 1) k) ((evX (V no) (V (t + 1)) ta (k - ta)).2 (n - 1 - 1)) ((evX (V no) (V (t + 1)) ta (k - ta)).2 (n - 1))) := ⟨_, rfl⟩
                              rw [← eV_44] at hW
                              refine lv_iinc (v := nI (k + 1)) (lv' := [(6, .int (nI (k + 1))), (5, .int (nI (n - 1))), (8, .int ((-(V (t + 1) k)) - (nI 2))), (7, .int (V (t + 1) k)), (4, .int (nI tb)), (3, .int (nI ta)), (0, .ref (ad t)), (1, .int (nI 1)), (2, .ref (ad no))]) hx hb dX7_says_272 hl (k := 8) rfl (m_inc k 1) (by decide) rfl (fun ls hl => ?_)
                              refine lv_goto (tgt := 61) hx hb dX7_says_275 (by decide) ?_
                              exact ih_61  (n - 1) (k + 1) V_44 _ _ _ (by omega) (by omega) (by intro a ha; rw [eV_44, mU_no _ _ ha]; exact hfr a ha) (by first | (exfalso; omega) | skip; rw [eV_44, mU_row, evX_s (by omega)]; first | exact hR.push (by first | exact Int32.not_lt.mp (by assumption) | assumption) (by omega) | exact hR.nm (by intro h; first | exact absurd h.1 (Int32.not_le.mpr (by assumption)) | exact absurd h.2 (by omega)) (by assumption) (by omega) eix hix | exact hR.nt0 (by intro h; first | exact absurd h.1 (Int32.not_le.mpr (by assumption)) | exact absurd h.2 (by omega)) (by intro h; first | exact absurd h.1 (by assumption) | exact absurd h.2 (by omega)) (by assumption) (by omega) (by assumption) | exact hR.nt1 (by intro h; first | exact absurd h.1 (Int32.not_le.mpr (by assumption)) | exact absurd h.2 (by omega)) (by intro h; first | exact absurd h.1 (by assumption) | exact absurd h.2 (by omega)) (by assumption) (by omega) (by assumption) | exact hR.ng (by intro h; first | exact absurd h.1 (Int32.not_le.mpr (by assumption)) | exact absurd h.2 (by omega)) (by intro h; first | exact absurd h.1 (by assumption) | exact absurd h.2 (by omega)) (by assumption) (by omega) | exact hR.jn (by intro h; first | exact absurd h.1 (Int32.not_le.mpr (by assumption)) | exact absurd h.2 (by omega)) (by intro h; first | exact absurd h.1 (by assumption) | exact absurd h.2 (by omega)) (by intro h; first | exact absurd h.1 (by assumption) | exact absurd h.2 (by omega)) (by intro h; first | exact absurd h.1 (by assumption) | exact absurd h.2 (by omega)) (by omega)) (by omega) hW (lv_sub hl [4, 5, 6, 7, 8, 1, 0] rfl)
                          · skip
                            refine lv_iload hx hb dX7_says_206 (lv_at hl 7 rfl) ?_
                            refine m_if_le (tgt := 233) hx hb dX7_says_208 (by decide) (fun c_45 => ?_) (fun c_45 => ?_)
                            · skip
                              have c_45 : n ≤ 0 := (nI_leI (by omega) (by omega)).mp c_45
                              refine lv_iload hx hb dX7_says_233 (lv_at hl 7 rfl) ?_
                              refine lv_iconst (v := nI 1) hx hb dX7_says_235 (by decide) ?_
                              refine lv_icmp_le (tgt := 272) hx hb dX7_says_236 (by decide) (fun c_46 => ?_) (fun c_46 => ?_)
                              · skip
                                have c_46 : n ≤ 1 := (nI_leI (by omega) (by omega)).mp c_46
                                refine lv_iinc (v := nI (k + 1)) (lv' := [(6, .int (nI (k + 1))), (8, .int ((-(V (t + 1) k)) - (nI 2))), (7, .int (V (t + 1) k)), (4, .int (nI tb)), (3, .int (nI ta)), (0, .ref (ad t)), (1, .int (nI 1)), (2, .ref (ad no)), (5, .int (nI n))]) hx hb dX7_says_272 hl (k := 8) rfl (m_inc k 1) (by decide) rfl (fun ls hl => ?_)
                                refine lv_goto (tgt := 61) hx hb dX7_says_275 (by decide) ?_
                                exact ih_61  n (k + 1) V1 _ _ _ (by omega) (by omega) (by exact hfr) (by rw [evX_s (by omega)]; exact hR.no (by intro h; first | exact absurd h.1 (Int32.not_le.mpr (by assumption)) | exact absurd h.2 (by omega)) (by intro h; first | exact absurd h.1 (by assumption) | exact absurd h.2 (by omega)) (by intro h; first | exact absurd h.1 (by assumption) | exact absurd h.2 (by omega)) (by intro h; first | exact absurd h.1 (by assumption) | exact absurd h.2 (by omega)) (by omega)) (by omega) hW (lv_sub hl [3, 4, 5, 6, 7, 8, 0] rfl)
                              · skip
                                have c_46 : ¬ n ≤ 1 := mt (nI_leI (by omega) (by omega)).mpr c_46
                                refine lv_iinc (v := nI (n - 1)) (lv' := [(5, .int (nI (n - 1))), (8, .int ((-(V (t + 1) k)) - (nI 2))), (7, .int (V (t + 1) k)), (4, .int (nI tb)), (3, .int (nI ta)), (0, .ref (ad t)), (1, .int (nI 1)), (2, .ref (ad no)), (6, .int (nI k))]) hx hb dX7_says_239 hl (k := 7) rfl (m_dec n 1 (by omega)) (by decide) rfl (fun ls hl => ?_)
                                refine lv_aload_n hx hb dX7_says_242 rfl (lv_at hl 5 rfl) ?_
                                refine m_getr S hW gt 4 rfl (j := (t + 2)) rfl kX7 (iW7 _) (by decide) (List.mem_cons_of_mem _ (wa_9 _ (List.mem_of_getElem? (i := 9) (by decide +kernel)))) dX7_says_243 ?_
                                refine lv_iload hx hb dX7_says_246 (lv_at hl 0 rfl) ?_
                                refine lv_iconst (v := nI 1) hx hb dX7_says_248 (by decide) ?_
                                refine lv_isub hx hb dX7_says_249 ?_
                                refine m_top (y := nI ((n - 1) - 1)) (pk_sub (by omega)) ?_
                                refine lv_iload hx hb dX7_says_250 (lv_at hl 2 rfl) ?_
                                refine lv_aload_n hx hb dX7_says_252 rfl (lv_at hl 5 rfl) ?_
                                refine m_getr S hW gt 4 rfl (j := (t + 2)) rfl kX7 (iW7 _) (by decide) (List.mem_cons_of_mem _ (wa_9 _ (List.mem_of_getElem? (i := 9) (by decide +kernel)))) dX7_says_253 ?_
                                refine lv_iload hx hb dX7_says_256 (lv_at hl 0 rfl) ?_
                                refine lv_iconst (v := nI 1) hx hb dX7_says_258 (by decide) ?_
                                refine lv_isub hx hb dX7_says_259 ?_
                                refine m_top (y := nI ((n - 1) - 1)) (pk_sub (by omega)) ?_
                                refine m_iald S hW gt2 ((n - 1) - 1) rfl (by omega) (by decide) dX7_says_260 ?_
                                refine m_top (y := (evX (V no) (V (t + 1)) ta (k - ta)).2 (n - 1 - 1)) (hR.2 _ (by omega)) ?_
                                refine lv_aload_n hx hb dX7_says_261 rfl (lv_at hl 5 rfl) ?_
                                refine m_getr S hW gt 4 rfl (j := (t + 2)) rfl kX7 (iW7 _) (by decide) (List.mem_cons_of_mem _ (wa_9 _ (List.mem_of_getElem? (i := 9) (by decide +kernel)))) dX7_says_262 ?_
                                refine lv_iload hx hb dX7_says_265 (lv_at hl 0 rfl) ?_
                                refine m_iald S hW gt2 (n - 1) rfl (by omega) (by decide) dX7_says_267 ?_
                                refine m_top (y := (evX (V no) (V (t + 1)) ta (k - ta)).2 (n - 1)) (hR.2 _ (by omega)) ?_
                                refine m_cie (m_rS S hW (c_X7_join l G ad sh1 V1 (V (t + 1) k) ((evX (V no) (V (t + 1)) ta (k - ta)).2 (n - 1 - 1)) ((evX (V no) (V (t + 1)) ta (k - ta)).2 (n - 1))) (va_cwS 3 hts (gCall [.methodLink RX7 34 yX7_join, .static yX7_join, .initialized RX7] (List.forall_mem_cons.mpr ⟨(wa_18 _ (List.mem_of_getElem? (i := 19) (by decide +kernel))), (List.forall_mem_cons.mpr ⟨(wa_18 _ (List.mem_of_getElem? (i := 17) (by decide +kernel))), (List.forall_mem_cons.mpr ⟨(wa_18 _ (List.mem_of_getElem? (i := 18) (by decide +kernel))), (List.forall_mem_cons.mpr ⟨(wa_9 _ (List.mem_of_getElem? (i := 4) (by decide +kernel))), (fun _ h => absurd h List.not_mem_nil)⟩)⟩)⟩)⟩)) rfl rfl rfl (by decide +kernel) ⟨Nat.le_of_ble_eq_true rfl, Nat.le_of_ble_eq_true rfl⟩) rfl hl.1 rfl (Nat.le_of_ble_eq_true rfl) dX7_says_268 ⟨Nat.le_of_ble_eq_true rfl, Nat.le_of_ble_eq_true rfl⟩) hW (fun H locs hW => ?_)
                                refine m_iast S hW gt2 ((n - 1) - 1) rfl (by omega) (by decide) dX7_says_271 (fun H locs hW => ?_)
                                obtain ⟨V_47, eV_47⟩ : ∃ z : mV, z = mU V1 (t + 2) ((n - 1) - 1) (fJoin (V (t + 1) k) ((evX (V no) (V (t + 1)) ta (k - ta)).2 (n - 1 - 1)) ((evX (V no) (V (t + 1)) ta (k - ta)).2 (n - 1))) := ⟨_, rfl⟩
                                rw [← eV_47] at hW
                                refine lv_iinc (v := nI (k + 1)) (lv' := [(6, .int (nI (k + 1))), (5, .int (nI (n - 1))), (8, .int ((-(V (t + 1) k)) - (nI 2))), (7, .int (V (t + 1) k)), (4, .int (nI tb)), (3, .int (nI ta)), (0, .ref (ad t)), (1, .int (nI 1)), (2, .ref (ad no))]) hx hb dX7_says_272 hl (k := 8) rfl (m_inc k 1) (by decide) rfl (fun ls hl => ?_)
                                refine lv_goto (tgt := 61) hx hb dX7_says_275 (by decide) ?_
                                exact ih_61  (n - 1) (k + 1) V_47 _ _ _ (by omega) (by omega) (by intro a ha; rw [eV_47, mU_no _ _ ha]; exact hfr a ha) (by first | (exfalso; omega) | skip; rw [eV_47, mU_row, evX_s (by omega)]; first | exact hR.push (by first | exact Int32.not_lt.mp (by assumption) | assumption) (by omega) | exact hR.nm (by intro h; first | exact absurd h.1 (Int32.not_le.mpr (by assumption)) | exact absurd h.2 (by omega)) (by assumption) (by omega) eix hix | exact hR.nt0 (by intro h; first | exact absurd h.1 (Int32.not_le.mpr (by assumption)) | exact absurd h.2 (by omega)) (by intro h; first | exact absurd h.1 (by assumption) | exact absurd h.2 (by omega)) (by assumption) (by omega) (by assumption) | exact hR.nt1 (by intro h; first | exact absurd h.1 (Int32.not_le.mpr (by assumption)) | exact absurd h.2 (by omega)) (by intro h; first | exact absurd h.1 (by assumption) | exact absurd h.2 (by omega)) (by assumption) (by omega) (by assumption) | exact hR.ng (by intro h; first | exact absurd h.1 (Int32.not_le.mpr (by assumption)) | exact absurd h.2 (by omega)) (by intro h; first | exact absurd h.1 (by assumption) | exact absurd h.2 (by omega)) (by assumption) (by omega) | exact hR.jn (by intro h; first | exact absurd h.1 (Int32.not_le.mpr (by assumption)) | exact absurd h.2 (by omega)) (by intro h; first | exact absurd h.1 (by assumption) | exact absurd h.2 (by omega)) (by intro h; first | exact absurd h.1 (by assumption) | exact absurd h.2 (by omega)) (by intro h; first | exact absurd h.1 (by assumption) | exact absurd h.2 (by omega)) (by omega)) (by omega) hW (lv_sub hl [4, 5, 6, 7, 8, 1, 0] rfl)
                            · skip
                              have c_45 : ¬ n ≤ 0 := mt (nI_leI (by omega) (by omega)).mpr c_45
                              refine lv_aload_n hx hb dX7_says_211 rfl (lv_at hl 4 rfl) ?_
                              refine m_getr S hW gt 4 rfl (j := (t + 2)) rfl kX7 (iW7 _) (by decide) (List.mem_cons_of_mem _ (wa_9 _ (List.mem_of_getElem? (i := 9) (by decide +kernel)))) dX7_says_212 ?_
                              refine lv_iload hx hb dX7_says_215 (lv_at hl 7 rfl) ?_
                              refine lv_iconst (v := nI 1) hx hb dX7_says_217 (by decide) ?_
                              refine lv_isub hx hb dX7_says_218 ?_
                              refine m_top (y := nI (n - 1)) (pk_sub (by omega)) ?_
                              refine lv_aload_n hx hb dX7_says_219 rfl (lv_at hl 4 rfl) ?_
                              refine m_getr S hW gt 4 rfl (j := (t + 2)) rfl kX7 (iW7 _) (by decide) (List.mem_cons_of_mem _ (wa_9 _ (List.mem_of_getElem? (i := 9) (by decide +kernel)))) dX7_says_220 ?_
                              refine lv_iload hx hb dX7_says_223 (lv_at hl 7 rfl) ?_
                              refine lv_iconst (v := nI 1) hx hb dX7_says_225 (by decide) ?_
                              refine lv_isub hx hb dX7_says_226 ?_
                              refine m_top (y := nI (n - 1)) (pk_sub (by omega)) ?_
                              refine m_iald S hW gt2 (n - 1) rfl (by omega) (by decide) dX7_says_227 ?_
                              refine m_top (y := (evX (V no) (V (t + 1)) ta (k - ta)).2 (n - 1)) (hR.2 _ (by omega)) ?_
                              refine lv_ineg hx hb dX7_says_228 ?_
                              refine m_iast S hW gt2 (n - 1) rfl (by omega) (by decide) dX7_says_229 (fun H locs hW => ?_)
                              obtain ⟨V_48, eV_48⟩ : ∃ z : mV, z = mU V1 (t + 2) (n - 1) ((-((evX (V no) (V (t + 1)) ta (k - ta)).2 (n - 1)))) := ⟨_, rfl⟩
                              rw [← eV_48] at hW
                              refine lv_goto (tgt := 272) hx hb dX7_says_230 (by decide) ?_
                              refine lv_iinc (v := nI (k + 1)) (lv' := [(6, .int (nI (k + 1))), (8, .int ((-(V (t + 1) k)) - (nI 2))), (7, .int (V (t + 1) k)), (4, .int (nI tb)), (3, .int (nI ta)), (0, .ref (ad t)), (1, .int (nI 1)), (2, .ref (ad no)), (5, .int (nI n))]) hx hb dX7_says_272 hl (k := 8) rfl (m_inc k 1) (by decide) rfl (fun ls hl => ?_)
                              refine lv_goto (tgt := 61) hx hb dX7_says_275 (by decide) ?_
                              exact ih_61  n (k + 1) V_48 _ _ _ (by omega) (by omega) (by intro a ha; rw [eV_48, mU_no _ _ ha]; exact hfr a ha) (by first | (exfalso; omega) | skip; rw [eV_48, mU_row, evX_s (by omega)]; first | exact hR.push (by first | exact Int32.not_lt.mp (by assumption) | assumption) (by omega) | exact hR.nm (by intro h; first | exact absurd h.1 (Int32.not_le.mpr (by assumption)) | exact absurd h.2 (by omega)) (by assumption) (by omega) eix hix | exact hR.nt0 (by intro h; first | exact absurd h.1 (Int32.not_le.mpr (by assumption)) | exact absurd h.2 (by omega)) (by intro h; first | exact absurd h.1 (by assumption) | exact absurd h.2 (by omega)) (by assumption) (by omega) (by assumption) | exact hR.nt1 (by intro h; first | exact absurd h.1 (Int32.not_le.mpr (by assumption)) | exact absurd h.2 (by omega)) (by intro h; first | exact absurd h.1 (by assumption) | exact absurd h.2 (by omega)) (by assumption) (by omega) (by assumption) | exact hR.ng (by intro h; first | exact absurd h.1 (Int32.not_le.mpr (by assumption)) | exact absurd h.2 (by omega)) (by intro h; first | exact absurd h.1 (by assumption) | exact absurd h.2 (by omega)) (by assumption) (by omega) | exact hR.jn (by intro h; first | exact absurd h.1 (Int32.not_le.mpr (by assumption)) | exact absurd h.2 (by omega)) (by intro h; first | exact absurd h.1 (by assumption) | exact absurd h.2 (by omega)) (by intro h; first | exact absurd h.1 (by assumption) | exact absurd h.2 (by omega)) (by intro h; first | exact absurd h.1 (by assumption) | exact absurd h.2 (by omega)) (by omega)) (by omega) hW (lv_sub hl [3, 4, 5, 6, 7, 8, 0] rfl)
                        · skip
                          refine lv_iload hx hb dX7_says_165 (lv_at hl 7 rfl) ?_
                          refine m_if_le (tgt := 199) hx hb dX7_says_167 (by decide) (fun c_49 => ?_) (fun c_49 => ?_)
                          · skip
                            have c_49 : n ≤ 0 := (nI_leI (by omega) (by omega)).mp c_49
                            refine lv_iload hx hb dX7_says_199 (lv_at hl 1 rfl) ?_
                            refine lv_bipush (v := -14) hx hb dX7_says_201 (by decide) ?_
                            refine lv_icmp_ne (tgt := 233) hx hb dX7_says_203 (by decide) (fun c_50 => ?_) (fun c_50 => ?_)
                            · skip
                              refine lv_iload hx hb dX7_says_233 (lv_at hl 7 rfl) ?_
                              refine lv_iconst (v := nI 1) hx hb dX7_says_235 (by decide) ?_
                              refine lv_icmp_le (tgt := 272) hx hb dX7_says_236 (by decide) (fun c_51 => ?_) (fun c_51 => ?_)
                              · skip
                                have c_51 : n ≤ 1 := (nI_leI (by omega) (by omega)).mp c_51
                                refine lv_iinc (v := nI (k + 1)) (lv' := [(6, .int (nI (k + 1))), (8, .int ((-(V (t + 1) k)) - (nI 2))), (7, .int (V (t + 1) k)), (4, .int (nI tb)), (3, .int (nI ta)), (0, .ref (ad t)), (1, .int (nI 1)), (2, .ref (ad no)), (5, .int (nI n))]) hx hb dX7_says_272 hl (k := 8) rfl (m_inc k 1) (by decide) rfl (fun ls hl => ?_)
                                refine lv_goto (tgt := 61) hx hb dX7_says_275 (by decide) ?_
                                exact ih_61  n (k + 1) V1 _ _ _ (by omega) (by omega) (by exact hfr) (by rw [evX_s (by omega)]; exact hR.no (by intro h; first | exact absurd h.1 (Int32.not_le.mpr (by assumption)) | exact absurd h.2 (by omega)) (by intro h; first | exact absurd h.1 (by assumption) | exact absurd h.2 (by omega)) (by intro h; first | exact absurd h.1 (by assumption) | exact absurd h.2 (by omega)) (by intro h; first | exact absurd h.1 (by assumption) | exact absurd h.2 (by omega)) (by omega)) (by omega) hW (lv_sub hl [3, 4, 5, 6, 7, 8, 0] rfl)
                              · skip
                                have c_51 : ¬ n ≤ 1 := mt (nI_leI (by omega) (by omega)).mpr c_51
                                refine lv_iinc (v := nI (n - 1)) (lv' := [(5, .int (nI (n - 1))), (8, .int ((-(V (t + 1) k)) - (nI 2))), (7, .int (V (t + 1) k)), (4, .int (nI tb)), (3, .int (nI ta)), (0, .ref (ad t)), (1, .int (nI 1)), (2, .ref (ad no)), (6, .int (nI k))]) hx hb dX7_says_239 hl (k := 7) rfl (m_dec n 1 (by omega)) (by decide) rfl (fun ls hl => ?_)
                                refine lv_aload_n hx hb dX7_says_242 rfl (lv_at hl 5 rfl) ?_
                                refine m_getr S hW gt 4 rfl (j := (t + 2)) rfl kX7 (iW7 _) (by decide) (List.mem_cons_of_mem _ (wa_9 _ (List.mem_of_getElem? (i := 9) (by decide +kernel)))) dX7_says_243 ?_
                                refine lv_iload hx hb dX7_says_246 (lv_at hl 0 rfl) ?_
                                refine lv_iconst (v := nI 1) hx hb dX7_says_248 (by decide) ?_
                                refine lv_isub hx hb dX7_says_249 ?_
                                refine m_top (y := nI ((n - 1) - 1)) (pk_sub (by omega)) ?_
                                refine lv_iload hx hb dX7_says_250 (lv_at hl 2 rfl) ?_
                                refine lv_aload_n hx hb dX7_says_252 rfl (lv_at hl 5 rfl) ?_
                                refine m_getr S hW gt 4 rfl (j := (t + 2)) rfl kX7 (iW7 _) (by decide) (List.mem_cons_of_mem _ (wa_9 _ (List.mem_of_getElem? (i := 9) (by decide +kernel)))) dX7_says_253 ?_
                                refine lv_iload hx hb dX7_says_256 (lv_at hl 0 rfl) ?_
                                refine lv_iconst (v := nI 1) hx hb dX7_says_258 (by decide) ?_
                                refine lv_isub hx hb dX7_says_259 ?_
                                refine m_top (y := nI ((n - 1) - 1)) (pk_sub (by omega)) ?_
                                refine m_iald S hW gt2 ((n - 1) - 1) rfl (by omega) (by decide) dX7_says_260 ?_
                                refine m_top (y := (evX (V no) (V (t + 1)) ta (k - ta)).2 (n - 1 - 1)) (hR.2 _ (by omega)) ?_
                                refine lv_aload_n hx hb dX7_says_261 rfl (lv_at hl 5 rfl) ?_
                                refine m_getr S hW gt 4 rfl (j := (t + 2)) rfl kX7 (iW7 _) (by decide) (List.mem_cons_of_mem _ (wa_9 _ (List.mem_of_getElem? (i := 9) (by decide +kernel)))) dX7_says_262 ?_
                                refine lv_iload hx hb dX7_says_265 (lv_at hl 0 rfl) ?_
                                refine m_iald S hW gt2 (n - 1) rfl (by omega) (by decide) dX7_says_267 ?_
                                refine m_top (y := (evX (V no) (V (t + 1)) ta (k - ta)).2 (n - 1)) (hR.2 _ (by omega)) ?_
                                refine m_cie (m_rS S hW (c_X7_join l G ad sh1 V1 (V (t + 1) k) ((evX (V no) (V (t + 1)) ta (k - ta)).2 (n - 1 - 1)) ((evX (V no) (V (t + 1)) ta (k - ta)).2 (n - 1))) (va_cwS 3 hts (gCall [.methodLink RX7 34 yX7_join, .static yX7_join, .initialized RX7] (List.forall_mem_cons.mpr ⟨(wa_18 _ (List.mem_of_getElem? (i := 19) (by decide +kernel))), (List.forall_mem_cons.mpr ⟨(wa_18 _ (List.mem_of_getElem? (i := 17) (by decide +kernel))), (List.forall_mem_cons.mpr ⟨(wa_18 _ (List.mem_of_getElem? (i := 18) (by decide +kernel))), (List.forall_mem_cons.mpr ⟨(wa_9 _ (List.mem_of_getElem? (i := 4) (by decide +kernel))), (fun _ h => absurd h List.not_mem_nil)⟩)⟩)⟩)⟩)) rfl rfl rfl (by decide +kernel) ⟨Nat.le_of_ble_eq_true rfl, Nat.le_of_ble_eq_true rfl⟩) rfl hl.1 rfl (Nat.le_of_ble_eq_true rfl) dX7_says_268 ⟨Nat.le_of_ble_eq_true rfl, Nat.le_of_ble_eq_true rfl⟩) hW (fun H locs hW => ?_)
                                refine m_iast S hW gt2 ((n - 1) - 1) rfl (by omega) (by decide) dX7_says_271 (fun H locs hW => ?_)
                                obtain ⟨V_52, eV_52⟩ : ∃ z : mV, z = mU V1 (t + 2) ((n - 1) - 1) (fJoin (V (t + 1) k) ((evX (V no) (V (t + 1)) ta (k - ta)).2 (n - 1 - 1)) ((evX (V no) (V (t + 1)) ta (k - ta)).2 (n - 1))) := ⟨_, rfl⟩
                                rw [← eV_52] at hW
                                refine lv_iinc (v := nI (k + 1)) (lv' := [(6, .int (nI (k + 1))), (5, .int (nI (n - 1))), (8, .int ((-(V (t + 1) k)) - (nI 2))), (7, .int (V (t + 1) k)), (4, .int (nI tb)), (3, .int (nI ta)), (0, .ref (ad t)), (1, .int (nI 1)), (2, .ref (ad no))]) hx hb dX7_says_272 hl (k := 8) rfl (m_inc k 1) (by decide) rfl (fun ls hl => ?_)
                                refine lv_goto (tgt := 61) hx hb dX7_says_275 (by decide) ?_
                                exact ih_61  (n - 1) (k + 1) V_52 _ _ _ (by omega) (by omega) (by intro a ha; rw [eV_52, mU_no _ _ ha]; exact hfr a ha) (by first | (exfalso; omega) | skip; rw [eV_52, mU_row, evX_s (by omega)]; first | exact hR.push (by first | exact Int32.not_lt.mp (by assumption) | assumption) (by omega) | exact hR.nm (by intro h; first | exact absurd h.1 (Int32.not_le.mpr (by assumption)) | exact absurd h.2 (by omega)) (by assumption) (by omega) eix hix | exact hR.nt0 (by intro h; first | exact absurd h.1 (Int32.not_le.mpr (by assumption)) | exact absurd h.2 (by omega)) (by intro h; first | exact absurd h.1 (by assumption) | exact absurd h.2 (by omega)) (by assumption) (by omega) (by assumption) | exact hR.nt1 (by intro h; first | exact absurd h.1 (Int32.not_le.mpr (by assumption)) | exact absurd h.2 (by omega)) (by intro h; first | exact absurd h.1 (by assumption) | exact absurd h.2 (by omega)) (by assumption) (by omega) (by assumption) | exact hR.ng (by intro h; first | exact absurd h.1 (Int32.not_le.mpr (by assumption)) | exact absurd h.2 (by omega)) (by intro h; first | exact absurd h.1 (by assumption) | exact absurd h.2 (by omega)) (by assumption) (by omega) | exact hR.jn (by intro h; first | exact absurd h.1 (Int32.not_le.mpr (by assumption)) | exact absurd h.2 (by omega)) (by intro h; first | exact absurd h.1 (by assumption) | exact absurd h.2 (by omega)) (by intro h; first | exact absurd h.1 (by assumption) | exact absurd h.2 (by omega)) (by intro h; first | exact absurd h.1 (by assumption) | exact absurd h.2 (by omega)) (by omega)) (by omega) hW (lv_sub hl [4, 5, 6, 7, 8, 1, 0] rfl)
                            · skip
                              refine lv_iload hx hb dX7_says_206 (lv_at hl 7 rfl) ?_
                              refine m_if_le (tgt := 233) hx hb dX7_says_208 (by decide) (fun c_53 => ?_) (fun c_53 => ?_)
                              · skip
                                have c_53 : n ≤ 0 := (nI_leI (by omega) (by omega)).mp c_53
                                refine lv_iload hx hb dX7_says_233 (lv_at hl 7 rfl) ?_
                                refine lv_iconst (v := nI 1) hx hb dX7_says_235 (by decide) ?_
                                refine lv_icmp_le (tgt := 272) hx hb dX7_says_236 (by decide) (fun c_54 => ?_) (fun c_54 => ?_)
                                · skip
                                  have c_54 : n ≤ 1 := (nI_leI (by omega) (by omega)).mp c_54
                                  refine lv_iinc (v := nI (k + 1)) (lv' := [(6, .int (nI (k + 1))), (8, .int ((-(V (t + 1) k)) - (nI 2))), (7, .int (V (t + 1) k)), (4, .int (nI tb)), (3, .int (nI ta)), (0, .ref (ad t)), (1, .int (nI 1)), (2, .ref (ad no)), (5, .int (nI n))]) hx hb dX7_says_272 hl (k := 8) rfl (m_inc k 1) (by decide) rfl (fun ls hl => ?_)
                                  refine lv_goto (tgt := 61) hx hb dX7_says_275 (by decide) ?_
                                  exact ih_61  n (k + 1) V1 _ _ _ (by omega) (by omega) (by exact hfr) (by rw [evX_s (by omega)]; exact hR.no (by intro h; first | exact absurd h.1 (Int32.not_le.mpr (by assumption)) | exact absurd h.2 (by omega)) (by intro h; first | exact absurd h.1 (by assumption) | exact absurd h.2 (by omega)) (by intro h; first | exact absurd h.1 (by assumption) | exact absurd h.2 (by omega)) (by intro h; first | exact absurd h.1 (by assumption) | exact absurd h.2 (by omega)) (by omega)) (by omega) hW (lv_sub hl [3, 4, 5, 6, 7, 8, 0] rfl)
                                · skip
                                  have c_54 : ¬ n ≤ 1 := mt (nI_leI (by omega) (by omega)).mpr c_54
                                  refine lv_iinc (v := nI (n - 1)) (lv' := [(5, .int (nI (n - 1))), (8, .int ((-(V (t + 1) k)) - (nI 2))), (7, .int (V (t + 1) k)), (4, .int (nI tb)), (3, .int (nI ta)), (0, .ref (ad t)), (1, .int (nI 1)), (2, .ref (ad no)), (6, .int (nI k))]) hx hb dX7_says_239 hl (k := 7) rfl (m_dec n 1 (by omega)) (by decide) rfl (fun ls hl => ?_)
                                  refine lv_aload_n hx hb dX7_says_242 rfl (lv_at hl 5 rfl) ?_
                                  refine m_getr S hW gt 4 rfl (j := (t + 2)) rfl kX7 (iW7 _) (by decide) (List.mem_cons_of_mem _ (wa_9 _ (List.mem_of_getElem? (i := 9) (by decide +kernel)))) dX7_says_243 ?_
                                  refine lv_iload hx hb dX7_says_246 (lv_at hl 0 rfl) ?_
                                  refine lv_iconst (v := nI 1) hx hb dX7_says_248 (by decide) ?_
                                  refine lv_isub hx hb dX7_says_249 ?_
                                  refine m_top (y := nI ((n - 1) - 1)) (pk_sub (by omega)) ?_
                                  refine lv_iload hx hb dX7_says_250 (lv_at hl 2 rfl) ?_
                                  refine lv_aload_n hx hb dX7_says_252 rfl (lv_at hl 5 rfl) ?_
                                  refine m_getr S hW gt 4 rfl (j := (t + 2)) rfl kX7 (iW7 _) (by decide) (List.mem_cons_of_mem _ (wa_9 _ (List.mem_of_getElem? (i := 9) (by decide +kernel)))) dX7_says_253 ?_
                                  refine lv_iload hx hb dX7_says_256 (lv_at hl 0 rfl) ?_
                                  refine lv_iconst (v := nI 1) hx hb dX7_says_258 (by decide) ?_
                                  refine lv_isub hx hb dX7_says_259 ?_
                                  refine m_top (y := nI ((n - 1) - 1)) (pk_sub (by omega)) ?_
                                  refine m_iald S hW gt2 ((n - 1) - 1) rfl (by omega) (by decide) dX7_says_260 ?_
                                  refine m_top (y := (evX (V no) (V (t + 1)) ta (k - ta)).2 (n - 1 - 1)) (hR.2 _ (by omega)) ?_
                                  refine lv_aload_n hx hb dX7_says_261 rfl (lv_at hl 5 rfl) ?_
                                  refine m_getr S hW gt 4 rfl (j := (t + 2)) rfl kX7 (iW7 _) (by decide) (List.mem_cons_of_mem _ (wa_9 _ (List.mem_of_getElem? (i := 9) (by decide +kernel)))) dX7_says_262 ?_
                                  refine lv_iload hx hb dX7_says_265 (lv_at hl 0 rfl) ?_
                                  refine m_iald S hW gt2 (n - 1) rfl (by omega) (by decide) dX7_says_267 ?_
                                  refine m_top (y := (evX (V no) (V (t + 1)) ta (k - ta)).2 (n - 1)) (hR.2 _ (by omega)) ?_
                                  refine m_cie (m_rS S hW (c_X7_join l G ad sh1 V1 (V (t + 1) k) ((evX (V no) (V (t + 1)) ta (k - ta)).2 (n - 1 - 1)) ((evX (V no) (V (t + 1)) ta (k - ta)).2 (n - 1))) (va_cwS 3 hts (gCall [.methodLink RX7 34 yX7_join, .static yX7_join, .initialized RX7] (List.forall_mem_cons.mpr ⟨(wa_18 _ (List.mem_of_getElem? (i := 19) (by decide +kernel))), (List.forall_mem_cons.mpr ⟨(wa_18 _ (List.mem_of_getElem? (i := 17) (by decide +kernel))), (List.forall_mem_cons.mpr ⟨(wa_18 _ (List.mem_of_getElem? (i := 18) (by decide +kernel))), (List.forall_mem_cons.mpr ⟨(wa_9 _ (List.mem_of_getElem? (i := 4) (by decide +kernel))), (fun _ h => absurd h List.not_mem_nil)⟩)⟩)⟩)⟩)) rfl rfl rfl (by decide +kernel) ⟨Nat.le_of_ble_eq_true rfl, Nat.le_of_ble_eq_true rfl⟩) rfl hl.1 rfl (Nat.le_of_ble_eq_true rfl) dX7_says_268 ⟨Nat.le_of_ble_eq_true rfl, Nat.le_of_ble_eq_true rfl⟩) hW (fun H locs hW => ?_)
                                  refine m_iast S hW gt2 ((n - 1) - 1) rfl (by omega) (by decide) dX7_says_271 (fun H locs hW => ?_)
                                  obtain ⟨V_55, eV_55⟩ : ∃ z : mV, z = mU V1 (t + 2) ((n - 1) - 1) (fJoin (V (t + 1) k) ((evX (V no) (V (t + 1)) ta (k - ta)).2 (n - 1 - 1)) ((evX (V no) (V (t + 1)) ta (k - ta)).2 (n - 1))) := ⟨_, rfl⟩
                                  rw [← eV_55] at hW
                                  refine lv_iinc (v := nI (k + 1)) (lv' := [(6, .int (nI (k + 1))), (5, .int (nI (n - 1))), (8, .int ((-(V (t + 1) k)) - (nI 2))), (7, .int (V (t + 1) k)), (4, .int (nI tb)), (3, .int (nI ta)), (0, .ref (ad t)), (1, .int (nI 1)), (2, .ref (ad no))]) hx hb dX7_says_272 hl (k := 8) rfl (m_inc k 1) (by decide) rfl (fun ls hl => ?_)
                                  refine lv_goto (tgt := 61) hx hb dX7_says_275 (by decide) ?_
                                  exact ih_61  (n - 1) (k + 1) V_55 _ _ _ (by omega) (by omega) (by intro a ha; rw [eV_55, mU_no _ _ ha]; exact hfr a ha) (by first | (exfalso; omega) | skip; rw [eV_55, mU_row, evX_s (by omega)]; first | exact hR.push (by first | exact Int32.not_lt.mp (by assumption) | assumption) (by omega) | exact hR.nm (by intro h; first | exact absurd h.1 (Int32.not_le.mpr (by assumption)) | exact absurd h.2 (by omega)) (by assumption) (by omega) eix hix | exact hR.nt0 (by intro h; first | exact absurd h.1 (Int32.not_le.mpr (by assumption)) | exact absurd h.2 (by omega)) (by intro h; first | exact absurd h.1 (by assumption) | exact absurd h.2 (by omega)) (by assumption) (by omega) (by assumption) | exact hR.nt1 (by intro h; first | exact absurd h.1 (Int32.not_le.mpr (by assumption)) | exact absurd h.2 (by omega)) (by intro h; first | exact absurd h.1 (by assumption) | exact absurd h.2 (by omega)) (by assumption) (by omega) (by assumption) | exact hR.ng (by intro h; first | exact absurd h.1 (Int32.not_le.mpr (by assumption)) | exact absurd h.2 (by omega)) (by intro h; first | exact absurd h.1 (by assumption) | exact absurd h.2 (by omega)) (by assumption) (by omega) | exact hR.jn (by intro h; first | exact absurd h.1 (Int32.not_le.mpr (by assumption)) | exact absurd h.2 (by omega)) (by intro h; first | exact absurd h.1 (by assumption) | exact absurd h.2 (by omega)) (by intro h; first | exact absurd h.1 (by assumption) | exact absurd h.2 (by omega)) (by intro h; first | exact absurd h.1 (by assumption) | exact absurd h.2 (by omega)) (by omega)) (by omega) hW (lv_sub hl [4, 5, 6, 7, 8, 1, 0] rfl)
                              · skip
                                have c_53 : ¬ n ≤ 0 := mt (nI_leI (by omega) (by omega)).mpr c_53
                                refine lv_aload_n hx hb dX7_says_211 rfl (lv_at hl 4 rfl) ?_
                                refine m_getr S hW gt 4 rfl (j := (t + 2)) rfl kX7 (iW7 _) (by decide) (List.mem_cons_of_mem _ (wa_9 _ (List.mem_of_getElem? (i := 9) (by decide +kernel)))) dX7_says_212 ?_
                                refine lv_iload hx hb dX7_says_215 (lv_at hl 7 rfl) ?_
                                refine lv_iconst (v := nI 1) hx hb dX7_says_217 (by decide) ?_
                                refine lv_isub hx hb dX7_says_218 ?_
                                refine m_top (y := nI (n - 1)) (pk_sub (by omega)) ?_
                                refine lv_aload_n hx hb dX7_says_219 rfl (lv_at hl 4 rfl) ?_
                                refine m_getr S hW gt 4 rfl (j := (t + 2)) rfl kX7 (iW7 _) (by decide) (List.mem_cons_of_mem _ (wa_9 _ (List.mem_of_getElem? (i := 9) (by decide +kernel)))) dX7_says_220 ?_
                                refine lv_iload hx hb dX7_says_223 (lv_at hl 7 rfl) ?_
                                refine lv_iconst (v := nI 1) hx hb dX7_says_225 (by decide) ?_
                                refine lv_isub hx hb dX7_says_226 ?_
                                refine m_top (y := nI (n - 1)) (pk_sub (by omega)) ?_
                                refine m_iald S hW gt2 (n - 1) rfl (by omega) (by decide) dX7_says_227 ?_
                                refine m_top (y := (evX (V no) (V (t + 1)) ta (k - ta)).2 (n - 1)) (hR.2 _ (by omega)) ?_
                                refine lv_ineg hx hb dX7_says_228 ?_
                                refine m_iast S hW gt2 (n - 1) rfl (by omega) (by decide) dX7_says_229 (fun H locs hW => ?_)
                                obtain ⟨V_56, eV_56⟩ : ∃ z : mV, z = mU V1 (t + 2) (n - 1) ((-((evX (V no) (V (t + 1)) ta (k - ta)).2 (n - 1)))) := ⟨_, rfl⟩
                                rw [← eV_56] at hW
                                refine lv_goto (tgt := 272) hx hb dX7_says_230 (by decide) ?_
                                refine lv_iinc (v := nI (k + 1)) (lv' := [(6, .int (nI (k + 1))), (8, .int ((-(V (t + 1) k)) - (nI 2))), (7, .int (V (t + 1) k)), (4, .int (nI tb)), (3, .int (nI ta)), (0, .ref (ad t)), (1, .int (nI 1)), (2, .ref (ad no)), (5, .int (nI n))]) hx hb dX7_says_272 hl (k := 8) rfl (m_inc k 1) (by decide) rfl (fun ls hl => ?_)
                                refine lv_goto (tgt := 61) hx hb dX7_says_275 (by decide) ?_
                                exact ih_61  n (k + 1) V_56 _ _ _ (by omega) (by omega) (by intro a ha; rw [eV_56, mU_no _ _ ha]; exact hfr a ha) (by first | (exfalso; omega) | skip; rw [eV_56, mU_row, evX_s (by omega)]; first | exact hR.push (by first | exact Int32.not_lt.mp (by assumption) | assumption) (by omega) | exact hR.nm (by intro h; first | exact absurd h.1 (Int32.not_le.mpr (by assumption)) | exact absurd h.2 (by omega)) (by assumption) (by omega) eix hix | exact hR.nt0 (by intro h; first | exact absurd h.1 (Int32.not_le.mpr (by assumption)) | exact absurd h.2 (by omega)) (by intro h; first | exact absurd h.1 (by assumption) | exact absurd h.2 (by omega)) (by assumption) (by omega) (by assumption) | exact hR.nt1 (by intro h; first | exact absurd h.1 (Int32.not_le.mpr (by assumption)) | exact absurd h.2 (by omega)) (by intro h; first | exact absurd h.1 (by assumption) | exact absurd h.2 (by omega)) (by assumption) (by omega) (by assumption) | exact hR.ng (by intro h; first | exact absurd h.1 (Int32.not_le.mpr (by assumption)) | exact absurd h.2 (by omega)) (by intro h; first | exact absurd h.1 (by assumption) | exact absurd h.2 (by omega)) (by assumption) (by omega) | exact hR.jn (by intro h; first | exact absurd h.1 (Int32.not_le.mpr (by assumption)) | exact absurd h.2 (by omega)) (by intro h; first | exact absurd h.1 (by assumption) | exact absurd h.2 (by omega)) (by intro h; first | exact absurd h.1 (by assumption) | exact absurd h.2 (by omega)) (by intro h; first | exact absurd h.1 (by assumption) | exact absurd h.2 (by omega)) (by omega)) (by omega) hW (lv_sub hl [3, 4, 5, 6, 7, 8, 0] rfl)
                          · skip
                            have c_49 : ¬ n ≤ 0 := mt (nI_leI (by omega) (by omega)).mpr c_49
                            refine lv_aload_n hx hb dX7_says_170 rfl (lv_at hl 4 rfl) ?_
                            refine m_getr S hW gt 4 rfl (j := (t + 2)) rfl kX7 (iW7 _) (by decide) (List.mem_cons_of_mem _ (wa_9 _ (List.mem_of_getElem? (i := 9) (by decide +kernel)))) dX7_says_171 ?_
                            refine lv_iload hx hb dX7_says_174 (lv_at hl 7 rfl) ?_
                            refine lv_iconst (v := nI 1) hx hb dX7_says_176 (by decide) ?_
                            refine lv_isub hx hb dX7_says_177 ?_
                            refine m_top (y := nI (n - 1)) (pk_sub (by omega)) ?_
                            refine lv_aload_n hx hb dX7_says_178 rfl (lv_at hl 4 rfl) ?_
                            refine m_getr S hW gt 4 rfl (j := (t + 2)) rfl kX7 (iW7 _) (by decide) (List.mem_cons_of_mem _ (wa_9 _ (List.mem_of_getElem? (i := 9) (by decide +kernel)))) dX7_says_179 ?_
                            refine lv_iload hx hb dX7_says_182 (lv_at hl 7 rfl) ?_
                            refine lv_iconst (v := nI 1) hx hb dX7_says_184 (by decide) ?_
                            refine lv_isub hx hb dX7_says_185 ?_
                            refine m_top (y := nI (n - 1)) (pk_sub (by omega)) ?_
                            refine m_iald S hW gt2 (n - 1) rfl (by omega) (by decide) dX7_says_186 ?_
                            refine m_top (y := (evX (V no) (V (t + 1)) ta (k - ta)).2 (n - 1)) (hR.2 _ (by omega)) ?_
                            refine m_if_ne (tgt := 194) hx hb dX7_says_187 (by decide) (fun c_57 => ?_) (fun c_57 => ?_)
                            · skip
                              refine lv_iconst (v := nI 0) hx hb dX7_says_194 (by decide) ?_
                              refine m_iast S hW gt2 (n - 1) rfl (by omega) (by decide) dX7_says_195 (fun H locs hW => ?_)
                              obtain ⟨V_58, eV_58⟩ : ∃ z : mV, z = mU V1 (t + 2) (n - 1) (nI 0) := ⟨_, rfl⟩
                              rw [← eV_58] at hW
                              refine lv_goto (tgt := 272) hx hb dX7_says_196 (by decide) ?_
                              refine lv_iinc (v := nI (k + 1)) (lv' := [(6, .int (nI (k + 1))), (8, .int ((-(V (t + 1) k)) - (nI 2))), (7, .int (V (t + 1) k)), (4, .int (nI tb)), (3, .int (nI ta)), (0, .ref (ad t)), (1, .int (nI 1)), (2, .ref (ad no)), (5, .int (nI n))]) hx hb dX7_says_272 hl (k := 8) rfl (m_inc k 1) (by decide) rfl (fun ls hl => ?_)
                              refine lv_goto (tgt := 61) hx hb dX7_says_275 (by decide) ?_
                              exact ih_61  n (k + 1) V_58 _ _ _ (by omega) (by omega) (by intro a ha; rw [eV_58, mU_no _ _ ha]; exact hfr a ha) (by first | (exfalso; omega) | skip; rw [eV_58, mU_row, evX_s (by omega)]; first | exact hR.push (by first | exact Int32.not_lt.mp (by assumption) | assumption) (by omega) | exact hR.nm (by intro h; first | exact absurd h.1 (Int32.not_le.mpr (by assumption)) | exact absurd h.2 (by omega)) (by assumption) (by omega) eix hix | exact hR.nt0 (by intro h; first | exact absurd h.1 (Int32.not_le.mpr (by assumption)) | exact absurd h.2 (by omega)) (by intro h; first | exact absurd h.1 (by assumption) | exact absurd h.2 (by omega)) (by assumption) (by omega) (by assumption) | exact hR.nt1 (by intro h; first | exact absurd h.1 (Int32.not_le.mpr (by assumption)) | exact absurd h.2 (by omega)) (by intro h; first | exact absurd h.1 (by assumption) | exact absurd h.2 (by omega)) (by assumption) (by omega) (by assumption) | exact hR.ng (by intro h; first | exact absurd h.1 (Int32.not_le.mpr (by assumption)) | exact absurd h.2 (by omega)) (by intro h; first | exact absurd h.1 (by assumption) | exact absurd h.2 (by omega)) (by assumption) (by omega) | exact hR.jn (by intro h; first | exact absurd h.1 (Int32.not_le.mpr (by assumption)) | exact absurd h.2 (by omega)) (by intro h; first | exact absurd h.1 (by assumption) | exact absurd h.2 (by omega)) (by intro h; first | exact absurd h.1 (by assumption) | exact absurd h.2 (by omega)) (by intro h; first | exact absurd h.1 (by assumption) | exact absurd h.2 (by omega)) (by omega)) (by omega) hW (lv_sub hl [3, 4, 5, 6, 7, 8, 0] rfl)
                            · skip
                              refine lv_iconst (v := nI 1) hx hb dX7_says_190 (by decide) ?_
                              refine lv_goto (tgt := 195) hx hb dX7_says_191 (by decide) ?_
                              refine m_iast S hW gt2 (n - 1) rfl (by omega) (by decide) dX7_says_195 (fun H locs hW => ?_)
                              obtain ⟨V_59, eV_59⟩ : ∃ z : mV, z = mU V1 (t + 2) (n - 1) (nI 1) := ⟨_, rfl⟩
                              rw [← eV_59] at hW
                              refine lv_goto (tgt := 272) hx hb dX7_says_196 (by decide) ?_
                              refine lv_iinc (v := nI (k + 1)) (lv' := [(6, .int (nI (k + 1))), (8, .int ((-(V (t + 1) k)) - (nI 2))), (7, .int (V (t + 1) k)), (4, .int (nI tb)), (3, .int (nI ta)), (0, .ref (ad t)), (1, .int (nI 1)), (2, .ref (ad no)), (5, .int (nI n))]) hx hb dX7_says_272 hl (k := 8) rfl (m_inc k 1) (by decide) rfl (fun ls hl => ?_)
                              refine lv_goto (tgt := 61) hx hb dX7_says_275 (by decide) ?_
                              exact ih_61  n (k + 1) V_59 _ _ _ (by omega) (by omega) (by intro a ha; rw [eV_59, mU_no _ _ ha]; exact hfr a ha) (by first | (exfalso; omega) | skip; rw [eV_59, mU_row, evX_s (by omega)]; first | exact hR.push (by first | exact Int32.not_lt.mp (by assumption) | assumption) (by omega) | exact hR.nm (by intro h; first | exact absurd h.1 (Int32.not_le.mpr (by assumption)) | exact absurd h.2 (by omega)) (by assumption) (by omega) eix hix | exact hR.nt0 (by intro h; first | exact absurd h.1 (Int32.not_le.mpr (by assumption)) | exact absurd h.2 (by omega)) (by intro h; first | exact absurd h.1 (by assumption) | exact absurd h.2 (by omega)) (by assumption) (by omega) (by assumption) | exact hR.nt1 (by intro h; first | exact absurd h.1 (Int32.not_le.mpr (by assumption)) | exact absurd h.2 (by omega)) (by intro h; first | exact absurd h.1 (by assumption) | exact absurd h.2 (by omega)) (by assumption) (by omega) (by assumption) | exact hR.ng (by intro h; first | exact absurd h.1 (Int32.not_le.mpr (by assumption)) | exact absurd h.2 (by omega)) (by intro h; first | exact absurd h.1 (by assumption) | exact absurd h.2 (by omega)) (by assumption) (by omega) | exact hR.jn (by intro h; first | exact absurd h.1 (Int32.not_le.mpr (by assumption)) | exact absurd h.2 (by omega)) (by intro h; first | exact absurd h.1 (by assumption) | exact absurd h.2 (by omega)) (by intro h; first | exact absurd h.1 (by assumption) | exact absurd h.2 (by omega)) (by intro h; first | exact absurd h.1 (by assumption) | exact absurd h.2 (by omega)) (by omega)) (by omega) hW (lv_sub hl [3, 4, 5, 6, 7, 8, 0] rfl)
                      · exact absurd c_40 (by decide)
                  · skip
                    refine lv_iload hx hb dX7_says_99 (lv_at hl 7 rfl) ?_
                    refine lv_bipush (v := nI 32) hx hb dX7_says_101 (by decide) ?_
                    refine lv_icmp_ge (tgt := 121) hx hb dX7_says_103 (by decide) (fun c_60 => ?_) (fun c_60 => ?_)
                    · skip
                      have c_60 : 32 ≤ n := (nI_leI (by omega) (by omega)).mp c_60
                      refine lv_iload hx hb dX7_says_121 (lv_at hl 0 rfl) ?_
                      refine lv_iconst (v := nI 0) hx hb dX7_says_123 (by decide) ?_
                      refine lv_aload_n hx hb dX7_says_124 rfl (lv_at hl 6 rfl) ?_
                      refine m_alen S hW gn dX7_says_125 ?_
                      refine lv_iconst (v := nI 1) hx hb dX7_says_126 (by decide) ?_
                      refine lv_isub hx hb dX7_says_127 ?_
                      refine m_cip (m_rSN S hW (c_X10_within_c l G ad sh1 V1 ((-(V (t + 1) k)) - (nI 2)) ((nI 6) - (nI 1)) 6 (by exact pk_sub_toInt (by omega) (by decide))) ⟨va_cnB 3 hts (gCall [] (List.forall_mem_cons.mpr ⟨(wa_8 _ (List.mem_of_getElem? (i := 17) (by decide +kernel))), (fun _ h => absurd h List.not_mem_nil)⟩)) rfl rfl rfl (hW.2.2.2.2.2.1 _ (List.mem_of_getElem? (i := 9) rfl)) (hts (.initialized RX10) (List.mem_cons_of_mem _ (wa_1 _ (List.mem_of_getElem? (i := 2) (by decide +kernel))))) (by decide +kernel) ⟨Nat.le_of_ble_eq_true rfl, Nat.le_of_ble_eq_true rfl⟩, hts (.static yX10_within) (List.mem_cons_of_mem _ (wa_8 _ (List.mem_of_getElem? (i := 16) (by decide +kernel)))), trivial⟩ rfl hl.1 rfl (Nat.le_of_ble_eq_true rfl) dX7_says_128 ⟨Nat.le_of_ble_eq_true rfl, Nat.le_of_ble_eq_true rfl⟩) hW (fun r_62 H locs hp_61 hW => ?_)
                      rcases hp_61 with ⟨rfl, w_63⟩ | ⟨rfl, w_64⟩
                      · skip
                        refine m_if_eq (tgt := 158) hx hb dX7_says_131 (by decide) (fun c_65 => ?_) (fun c_65 => ?_)
                        · exact absurd c_65 (by decide)
                        · skip
                          refine lv_iload hx hb dX7_says_134 (lv_at hl 7 rfl) ?_
                          refine lv_bipush (v := nI 32) hx hb dX7_says_136 (by decide) ?_
                          refine lv_icmp_ge (tgt := 158) hx hb dX7_says_138 (by decide) (fun c_66 => ?_) (fun c_66 => ?_)
                          · skip
                            have c_66 : 32 ≤ n := (nI_leI (by omega) (by omega)).mp c_66
                            refine lv_iload hx hb dX7_says_158 (lv_at hl 1 rfl) ?_
                            refine lv_bipush (v := -13) hx hb dX7_says_160 (by decide) ?_
                            refine lv_icmp_ne (tgt := 199) hx hb dX7_says_162 (by decide) (fun c_67 => ?_) (fun c_67 => ?_)
                            · skip
                              refine lv_iload hx hb dX7_says_199 (lv_at hl 1 rfl) ?_
                              refine lv_bipush (v := -14) hx hb dX7_says_201 (by decide) ?_
                              refine lv_icmp_ne (tgt := 233) hx hb dX7_says_203 (by decide) (fun c_68 => ?_) (fun c_68 => ?_)
                              · skip
                                refine lv_iload hx hb dX7_says_233 (lv_at hl 7 rfl) ?_
                                refine lv_iconst (v := nI 1) hx hb dX7_says_235 (by decide) ?_
                                refine lv_icmp_le (tgt := 272) hx hb dX7_says_236 (by decide) (fun c_69 => ?_) (fun c_69 => ?_)
                                · skip
                                  have c_69 : n ≤ 1 := (nI_leI (by omega) (by omega)).mp c_69
                                  refine lv_iinc (v := nI (k + 1)) (lv' := [(6, .int (nI (k + 1))), (8, .int ((-(V (t + 1) k)) - (nI 2))), (7, .int (V (t + 1) k)), (4, .int (nI tb)), (3, .int (nI ta)), (0, .ref (ad t)), (1, .int (nI 1)), (2, .ref (ad no)), (5, .int (nI n))]) hx hb dX7_says_272 hl (k := 8) rfl (m_inc k 1) (by decide) rfl (fun ls hl => ?_)
                                  refine lv_goto (tgt := 61) hx hb dX7_says_275 (by decide) ?_
                                  exact ih_61  n (k + 1) V1 _ _ _ (by omega) (by omega) (by exact hfr) (by rw [evX_s (by omega)]; exact hR.no (by intro h; first | exact absurd h.1 (Int32.not_le.mpr (by assumption)) | exact absurd h.2 (by omega)) (by intro h; first | exact absurd h.1 (by assumption) | exact absurd h.2 (by omega)) (by intro h; first | exact absurd h.1 (by assumption) | exact absurd h.2 (by omega)) (by intro h; first | exact absurd h.1 (by assumption) | exact absurd h.2 (by omega)) (by omega)) (by omega) hW (lv_sub hl [3, 4, 5, 6, 7, 8, 0] rfl)
                                · skip
                                  have c_69 : ¬ n ≤ 1 := mt (nI_leI (by omega) (by omega)).mpr c_69
                                  refine lv_iinc (v := nI (n - 1)) (lv' := [(5, .int (nI (n - 1))), (8, .int ((-(V (t + 1) k)) - (nI 2))), (7, .int (V (t + 1) k)), (4, .int (nI tb)), (3, .int (nI ta)), (0, .ref (ad t)), (1, .int (nI 1)), (2, .ref (ad no)), (6, .int (nI k))]) hx hb dX7_says_239 hl (k := 7) rfl (m_dec n 1 (by omega)) (by decide) rfl (fun ls hl => ?_)
                                  refine lv_aload_n hx hb dX7_says_242 rfl (lv_at hl 5 rfl) ?_
                                  refine m_getr S hW gt 4 rfl (j := (t + 2)) rfl kX7 (iW7 _) (by decide) (List.mem_cons_of_mem _ (wa_9 _ (List.mem_of_getElem? (i := 9) (by decide +kernel)))) dX7_says_243 ?_
                                  refine lv_iload hx hb dX7_says_246 (lv_at hl 0 rfl) ?_
                                  refine lv_iconst (v := nI 1) hx hb dX7_says_248 (by decide) ?_
                                  refine lv_isub hx hb dX7_says_249 ?_
                                  refine m_top (y := nI ((n - 1) - 1)) (pk_sub (by omega)) ?_
                                  refine lv_iload hx hb dX7_says_250 (lv_at hl 2 rfl) ?_
                                  refine lv_aload_n hx hb dX7_says_252 rfl (lv_at hl 5 rfl) ?_
                                  refine m_getr S hW gt 4 rfl (j := (t + 2)) rfl kX7 (iW7 _) (by decide) (List.mem_cons_of_mem _ (wa_9 _ (List.mem_of_getElem? (i := 9) (by decide +kernel)))) dX7_says_253 ?_
                                  refine lv_iload hx hb dX7_says_256 (lv_at hl 0 rfl) ?_
                                  refine lv_iconst (v := nI 1) hx hb dX7_says_258 (by decide) ?_
                                  refine lv_isub hx hb dX7_says_259 ?_
                                  refine m_top (y := nI ((n - 1) - 1)) (pk_sub (by omega)) ?_
                                  refine m_iald S hW gt2 ((n - 1) - 1) rfl (by omega) (by decide) dX7_says_260 ?_
                                  refine m_top (y := (evX (V no) (V (t + 1)) ta (k - ta)).2 (n - 1 - 1)) (hR.2 _ (by omega)) ?_
                                  refine lv_aload_n hx hb dX7_says_261 rfl (lv_at hl 5 rfl) ?_
                                  refine m_getr S hW gt 4 rfl (j := (t + 2)) rfl kX7 (iW7 _) (by decide) (List.mem_cons_of_mem _ (wa_9 _ (List.mem_of_getElem? (i := 9) (by decide +kernel)))) dX7_says_262 ?_
                                  refine lv_iload hx hb dX7_says_265 (lv_at hl 0 rfl) ?_
                                  refine m_iald S hW gt2 (n - 1) rfl (by omega) (by decide) dX7_says_267 ?_
                                  refine m_top (y := (evX (V no) (V (t + 1)) ta (k - ta)).2 (n - 1)) (hR.2 _ (by omega)) ?_
                                  refine m_cie (m_rS S hW (c_X7_join l G ad sh1 V1 (V (t + 1) k) ((evX (V no) (V (t + 1)) ta (k - ta)).2 (n - 1 - 1)) ((evX (V no) (V (t + 1)) ta (k - ta)).2 (n - 1))) (va_cwS 3 hts (gCall [.methodLink RX7 34 yX7_join, .static yX7_join, .initialized RX7] (List.forall_mem_cons.mpr ⟨(wa_18 _ (List.mem_of_getElem? (i := 19) (by decide +kernel))), (List.forall_mem_cons.mpr ⟨(wa_18 _ (List.mem_of_getElem? (i := 17) (by decide +kernel))), (List.forall_mem_cons.mpr ⟨(wa_18 _ (List.mem_of_getElem? (i := 18) (by decide +kernel))), (List.forall_mem_cons.mpr ⟨(wa_9 _ (List.mem_of_getElem? (i := 4) (by decide +kernel))), (fun _ h => absurd h List.not_mem_nil)⟩)⟩)⟩)⟩)) rfl rfl rfl (by decide +kernel) ⟨Nat.le_of_ble_eq_true rfl, Nat.le_of_ble_eq_true rfl⟩) rfl hl.1 rfl (Nat.le_of_ble_eq_true rfl) dX7_says_268 ⟨Nat.le_of_ble_eq_true rfl, Nat.le_of_ble_eq_true rfl⟩) hW (fun H locs hW => ?_)
                                  refine m_iast S hW gt2 ((n - 1) - 1) rfl (by omega) (by decide) dX7_says_271 (fun H locs hW => ?_)
                                  obtain ⟨V_70, eV_70⟩ : ∃ z : mV, z = mU V1 (t + 2) ((n - 1) - 1) (fJoin (V (t + 1) k) ((evX (V no) (V (t + 1)) ta (k - ta)).2 (n - 1 - 1)) ((evX (V no) (V (t + 1)) ta (k - ta)).2 (n - 1))) := ⟨_, rfl⟩
                                  rw [← eV_70] at hW
                                  refine lv_iinc (v := nI (k + 1)) (lv' := [(6, .int (nI (k + 1))), (5, .int (nI (n - 1))), (8, .int ((-(V (t + 1) k)) - (nI 2))), (7, .int (V (t + 1) k)), (4, .int (nI tb)), (3, .int (nI ta)), (0, .ref (ad t)), (1, .int (nI 1)), (2, .ref (ad no))]) hx hb dX7_says_272 hl (k := 8) rfl (m_inc k 1) (by decide) rfl (fun ls hl => ?_)
                                  refine lv_goto (tgt := 61) hx hb dX7_says_275 (by decide) ?_
                                  exact ih_61  (n - 1) (k + 1) V_70 _ _ _ (by omega) (by omega) (by intro a ha; rw [eV_70, mU_no _ _ ha]; exact hfr a ha) (by first | (exfalso; omega) | skip; rw [eV_70, mU_row, evX_s (by omega)]; first | exact hR.push (by first | exact Int32.not_lt.mp (by assumption) | assumption) (by omega) | exact hR.nm (by intro h; first | exact absurd h.1 (Int32.not_le.mpr (by assumption)) | exact absurd h.2 (by omega)) (by assumption) (by omega) eix hix | exact hR.nt0 (by intro h; first | exact absurd h.1 (Int32.not_le.mpr (by assumption)) | exact absurd h.2 (by omega)) (by intro h; first | exact absurd h.1 (by assumption) | exact absurd h.2 (by omega)) (by assumption) (by omega) (by assumption) | exact hR.nt1 (by intro h; first | exact absurd h.1 (Int32.not_le.mpr (by assumption)) | exact absurd h.2 (by omega)) (by intro h; first | exact absurd h.1 (by assumption) | exact absurd h.2 (by omega)) (by assumption) (by omega) (by assumption) | exact hR.ng (by intro h; first | exact absurd h.1 (Int32.not_le.mpr (by assumption)) | exact absurd h.2 (by omega)) (by intro h; first | exact absurd h.1 (by assumption) | exact absurd h.2 (by omega)) (by assumption) (by omega) | exact hR.jn (by intro h; first | exact absurd h.1 (Int32.not_le.mpr (by assumption)) | exact absurd h.2 (by omega)) (by intro h; first | exact absurd h.1 (by assumption) | exact absurd h.2 (by omega)) (by intro h; first | exact absurd h.1 (by assumption) | exact absurd h.2 (by omega)) (by intro h; first | exact absurd h.1 (by assumption) | exact absurd h.2 (by omega)) (by omega)) (by omega) hW (lv_sub hl [4, 5, 6, 7, 8, 1, 0] rfl)
                              · skip
                                refine lv_iload hx hb dX7_says_206 (lv_at hl 7 rfl) ?_
                                refine m_if_le (tgt := 233) hx hb dX7_says_208 (by decide) (fun c_71 => ?_) (fun c_71 => ?_)
                                · skip
                                  have c_71 : n ≤ 0 := (nI_leI (by omega) (by omega)).mp c_71
                                  refine lv_iload hx hb dX7_says_233 (lv_at hl 7 rfl) ?_
                                  refine lv_iconst (v := nI 1) hx hb dX7_says_235 (by decide) ?_
                                  refine lv_icmp_le (tgt := 272) hx hb dX7_says_236 (by decide) (fun c_72 => ?_) (fun c_72 => ?_)
                                  · skip
                                    have c_72 : n ≤ 1 := (nI_leI (by omega) (by omega)).mp c_72
                                    refine lv_iinc (v := nI (k + 1)) (lv' := [(6, .int (nI (k + 1))), (8, .int ((-(V (t + 1) k)) - (nI 2))), (7, .int (V (t + 1) k)), (4, .int (nI tb)), (3, .int (nI ta)), (0, .ref (ad t)), (1, .int (nI 1)), (2, .ref (ad no)), (5, .int (nI n))]) hx hb dX7_says_272 hl (k := 8) rfl (m_inc k 1) (by decide) rfl (fun ls hl => ?_)
                                    refine lv_goto (tgt := 61) hx hb dX7_says_275 (by decide) ?_
                                    exact ih_61  n (k + 1) V1 _ _ _ (by omega) (by omega) (by exact hfr) (by rw [evX_s (by omega)]; exact hR.no (by intro h; first | exact absurd h.1 (Int32.not_le.mpr (by assumption)) | exact absurd h.2 (by omega)) (by intro h; first | exact absurd h.1 (by assumption) | exact absurd h.2 (by omega)) (by intro h; first | exact absurd h.1 (by assumption) | exact absurd h.2 (by omega)) (by intro h; first | exact absurd h.1 (by assumption) | exact absurd h.2 (by omega)) (by omega)) (by omega) hW (lv_sub hl [3, 4, 5, 6, 7, 8, 0] rfl)
                                  · skip
                                    have c_72 : ¬ n ≤ 1 := mt (nI_leI (by omega) (by omega)).mpr c_72
                                    refine lv_iinc (v := nI (n - 1)) (lv' := [(5, .int (nI (n - 1))), (8, .int ((-(V (t + 1) k)) - (nI 2))), (7, .int (V (t + 1) k)), (4, .int (nI tb)), (3, .int (nI ta)), (0, .ref (ad t)), (1, .int (nI 1)), (2, .ref (ad no)), (6, .int (nI k))]) hx hb dX7_says_239 hl (k := 7) rfl (m_dec n 1 (by omega)) (by decide) rfl (fun ls hl => ?_)
                                    refine lv_aload_n hx hb dX7_says_242 rfl (lv_at hl 5 rfl) ?_
                                    refine m_getr S hW gt 4 rfl (j := (t + 2)) rfl kX7 (iW7 _) (by decide) (List.mem_cons_of_mem _ (wa_9 _ (List.mem_of_getElem? (i := 9) (by decide +kernel)))) dX7_says_243 ?_
                                    refine lv_iload hx hb dX7_says_246 (lv_at hl 0 rfl) ?_
                                    refine lv_iconst (v := nI 1) hx hb dX7_says_248 (by decide) ?_
                                    refine lv_isub hx hb dX7_says_249 ?_
                                    refine m_top (y := nI ((n - 1) - 1)) (pk_sub (by omega)) ?_
                                    refine lv_iload hx hb dX7_says_250 (lv_at hl 2 rfl) ?_
                                    refine lv_aload_n hx hb dX7_says_252 rfl (lv_at hl 5 rfl) ?_
                                    refine m_getr S hW gt 4 rfl (j := (t + 2)) rfl kX7 (iW7 _) (by decide) (List.mem_cons_of_mem _ (wa_9 _ (List.mem_of_getElem? (i := 9) (by decide +kernel)))) dX7_says_253 ?_
                                    refine lv_iload hx hb dX7_says_256 (lv_at hl 0 rfl) ?_
                                    refine lv_iconst (v := nI 1) hx hb dX7_says_258 (by decide) ?_
                                    refine lv_isub hx hb dX7_says_259 ?_
                                    refine m_top (y := nI ((n - 1) - 1)) (pk_sub (by omega)) ?_
                                    refine m_iald S hW gt2 ((n - 1) - 1) rfl (by omega) (by decide) dX7_says_260 ?_
                                    refine m_top (y := (evX (V no) (V (t + 1)) ta (k - ta)).2 (n - 1 - 1)) (hR.2 _ (by omega)) ?_
                                    refine lv_aload_n hx hb dX7_says_261 rfl (lv_at hl 5 rfl) ?_
                                    refine m_getr S hW gt 4 rfl (j := (t + 2)) rfl kX7 (iW7 _) (by decide) (List.mem_cons_of_mem _ (wa_9 _ (List.mem_of_getElem? (i := 9) (by decide +kernel)))) dX7_says_262 ?_
                                    refine lv_iload hx hb dX7_says_265 (lv_at hl 0 rfl) ?_
                                    refine m_iald S hW gt2 (n - 1) rfl (by omega) (by decide) dX7_says_267 ?_
                                    refine m_top (y := (evX (V no) (V (t + 1)) ta (k - ta)).2 (n - 1)) (hR.2 _ (by omega)) ?_
                                    refine m_cie (m_rS S hW (c_X7_join l G ad sh1 V1 (V (t + 1) k) ((evX (V no) (V (t + 1)) ta (k - ta)).2 (n - 1 - 1)) ((evX (V no) (V (t + 1)) ta (k - ta)).2 (n - 1))) (va_cwS 3 hts (gCall [.methodLink RX7 34 yX7_join, .static yX7_join, .initialized RX7] (List.forall_mem_cons.mpr ⟨(wa_18 _ (List.mem_of_getElem? (i := 19) (by decide +kernel))), (List.forall_mem_cons.mpr ⟨(wa_18 _ (List.mem_of_getElem? (i := 17) (by decide +kernel))), (List.forall_mem_cons.mpr ⟨(wa_18 _ (List.mem_of_getElem? (i := 18) (by decide +kernel))), (List.forall_mem_cons.mpr ⟨(wa_9 _ (List.mem_of_getElem? (i := 4) (by decide +kernel))), (fun _ h => absurd h List.not_mem_nil)⟩)⟩)⟩)⟩)) rfl rfl rfl (by decide +kernel) ⟨Nat.le_of_ble_eq_true rfl, Nat.le_of_ble_eq_true rfl⟩) rfl hl.1 rfl (Nat.le_of_ble_eq_true rfl) dX7_says_268 ⟨Nat.le_of_ble_eq_true rfl, Nat.le_of_ble_eq_true rfl⟩) hW (fun H locs hW => ?_)
                                    refine m_iast S hW gt2 ((n - 1) - 1) rfl (by omega) (by decide) dX7_says_271 (fun H locs hW => ?_)
                                    obtain ⟨V_73, eV_73⟩ : ∃ z : mV, z = mU V1 (t + 2) ((n - 1) - 1) (fJoin (V (t + 1) k) ((evX (V no) (V (t + 1)) ta (k - ta)).2 (n - 1 - 1)) ((evX (V no) (V (t + 1)) ta (k - ta)).2 (n - 1))) := ⟨_, rfl⟩
                                    rw [← eV_73] at hW
                                    refine lv_iinc (v := nI (k + 1)) (lv' := [(6, .int (nI (k + 1))), (5, .int (nI (n - 1))), (8, .int ((-(V (t + 1) k)) - (nI 2))), (7, .int (V (t + 1) k)), (4, .int (nI tb)), (3, .int (nI ta)), (0, .ref (ad t)), (1, .int (nI 1)), (2, .ref (ad no))]) hx hb dX7_says_272 hl (k := 8) rfl (m_inc k 1) (by decide) rfl (fun ls hl => ?_)
                                    refine lv_goto (tgt := 61) hx hb dX7_says_275 (by decide) ?_
                                    exact ih_61  (n - 1) (k + 1) V_73 _ _ _ (by omega) (by omega) (by intro a ha; rw [eV_73, mU_no _ _ ha]; exact hfr a ha) (by first | (exfalso; omega) | skip; rw [eV_73, mU_row, evX_s (by omega)]; first | exact hR.push (by first | exact Int32.not_lt.mp (by assumption) | assumption) (by omega) | exact hR.nm (by intro h; first | exact absurd h.1 (Int32.not_le.mpr (by assumption)) | exact absurd h.2 (by omega)) (by assumption) (by omega) eix hix | exact hR.nt0 (by intro h; first | exact absurd h.1 (Int32.not_le.mpr (by assumption)) | exact absurd h.2 (by omega)) (by intro h; first | exact absurd h.1 (by assumption) | exact absurd h.2 (by omega)) (by assumption) (by omega) (by assumption) | exact hR.nt1 (by intro h; first | exact absurd h.1 (Int32.not_le.mpr (by assumption)) | exact absurd h.2 (by omega)) (by intro h; first | exact absurd h.1 (by assumption) | exact absurd h.2 (by omega)) (by assumption) (by omega) (by assumption) | exact hR.ng (by intro h; first | exact absurd h.1 (Int32.not_le.mpr (by assumption)) | exact absurd h.2 (by omega)) (by intro h; first | exact absurd h.1 (by assumption) | exact absurd h.2 (by omega)) (by assumption) (by omega) | exact hR.jn (by intro h; first | exact absurd h.1 (Int32.not_le.mpr (by assumption)) | exact absurd h.2 (by omega)) (by intro h; first | exact absurd h.1 (by assumption) | exact absurd h.2 (by omega)) (by intro h; first | exact absurd h.1 (by assumption) | exact absurd h.2 (by omega)) (by intro h; first | exact absurd h.1 (by assumption) | exact absurd h.2 (by omega)) (by omega)) (by omega) hW (lv_sub hl [4, 5, 6, 7, 8, 1, 0] rfl)
                                · skip
                                  have c_71 : ¬ n ≤ 0 := mt (nI_leI (by omega) (by omega)).mpr c_71
                                  refine lv_aload_n hx hb dX7_says_211 rfl (lv_at hl 4 rfl) ?_
                                  refine m_getr S hW gt 4 rfl (j := (t + 2)) rfl kX7 (iW7 _) (by decide) (List.mem_cons_of_mem _ (wa_9 _ (List.mem_of_getElem? (i := 9) (by decide +kernel)))) dX7_says_212 ?_
                                  refine lv_iload hx hb dX7_says_215 (lv_at hl 7 rfl) ?_
                                  refine lv_iconst (v := nI 1) hx hb dX7_says_217 (by decide) ?_
                                  refine lv_isub hx hb dX7_says_218 ?_
                                  refine m_top (y := nI (n - 1)) (pk_sub (by omega)) ?_
                                  refine lv_aload_n hx hb dX7_says_219 rfl (lv_at hl 4 rfl) ?_
                                  refine m_getr S hW gt 4 rfl (j := (t + 2)) rfl kX7 (iW7 _) (by decide) (List.mem_cons_of_mem _ (wa_9 _ (List.mem_of_getElem? (i := 9) (by decide +kernel)))) dX7_says_220 ?_
                                  refine lv_iload hx hb dX7_says_223 (lv_at hl 7 rfl) ?_
                                  refine lv_iconst (v := nI 1) hx hb dX7_says_225 (by decide) ?_
                                  refine lv_isub hx hb dX7_says_226 ?_
                                  refine m_top (y := nI (n - 1)) (pk_sub (by omega)) ?_
                                  refine m_iald S hW gt2 (n - 1) rfl (by omega) (by decide) dX7_says_227 ?_
                                  refine m_top (y := (evX (V no) (V (t + 1)) ta (k - ta)).2 (n - 1)) (hR.2 _ (by omega)) ?_
                                  refine lv_ineg hx hb dX7_says_228 ?_
                                  refine m_iast S hW gt2 (n - 1) rfl (by omega) (by decide) dX7_says_229 (fun H locs hW => ?_)
                                  obtain ⟨V_74, eV_74⟩ : ∃ z : mV, z = mU V1 (t + 2) (n - 1) ((-((evX (V no) (V (t + 1)) ta (k - ta)).2 (n - 1)))) := ⟨_, rfl⟩
                                  rw [← eV_74] at hW
                                  refine lv_goto (tgt := 272) hx hb dX7_says_230 (by decide) ?_
                                  refine lv_iinc (v := nI (k + 1)) (lv' := [(6, .int (nI (k + 1))), (8, .int ((-(V (t + 1) k)) - (nI 2))), (7, .int (V (t + 1) k)), (4, .int (nI tb)), (3, .int (nI ta)), (0, .ref (ad t)), (1, .int (nI 1)), (2, .ref (ad no)), (5, .int (nI n))]) hx hb dX7_says_272 hl (k := 8) rfl (m_inc k 1) (by decide) rfl (fun ls hl => ?_)
                                  refine lv_goto (tgt := 61) hx hb dX7_says_275 (by decide) ?_
                                  exact ih_61  n (k + 1) V_74 _ _ _ (by omega) (by omega) (by intro a ha; rw [eV_74, mU_no _ _ ha]; exact hfr a ha) (by first | (exfalso; omega) | skip; rw [eV_74, mU_row, evX_s (by omega)]; first | exact hR.push (by first | exact Int32.not_lt.mp (by assumption) | assumption) (by omega) | exact hR.nm (by intro h; first | exact absurd h.1 (Int32.not_le.mpr (by assumption)) | exact absurd h.2 (by omega)) (by assumption) (by omega) eix hix | exact hR.nt0 (by intro h; first | exact absurd h.1 (Int32.not_le.mpr (by assumption)) | exact absurd h.2 (by omega)) (by intro h; first | exact absurd h.1 (by assumption) | exact absurd h.2 (by omega)) (by assumption) (by omega) (by assumption) | exact hR.nt1 (by intro h; first | exact absurd h.1 (Int32.not_le.mpr (by assumption)) | exact absurd h.2 (by omega)) (by intro h; first | exact absurd h.1 (by assumption) | exact absurd h.2 (by omega)) (by assumption) (by omega) (by assumption) | exact hR.ng (by intro h; first | exact absurd h.1 (Int32.not_le.mpr (by assumption)) | exact absurd h.2 (by omega)) (by intro h; first | exact absurd h.1 (by assumption) | exact absurd h.2 (by omega)) (by assumption) (by omega) | exact hR.jn (by intro h; first | exact absurd h.1 (Int32.not_le.mpr (by assumption)) | exact absurd h.2 (by omega)) (by intro h; first | exact absurd h.1 (by assumption) | exact absurd h.2 (by omega)) (by intro h; first | exact absurd h.1 (by assumption) | exact absurd h.2 (by omega)) (by intro h; first | exact absurd h.1 (by assumption) | exact absurd h.2 (by omega)) (by omega)) (by omega) hW (lv_sub hl [3, 4, 5, 6, 7, 8, 0] rfl)
                            · skip
                              refine lv_iload hx hb dX7_says_165 (lv_at hl 7 rfl) ?_
                              refine m_if_le (tgt := 199) hx hb dX7_says_167 (by decide) (fun c_75 => ?_) (fun c_75 => ?_)
                              · skip
                                have c_75 : n ≤ 0 := (nI_leI (by omega) (by omega)).mp c_75
                                refine lv_iload hx hb dX7_says_199 (lv_at hl 1 rfl) ?_
                                refine lv_bipush (v := -14) hx hb dX7_says_201 (by decide) ?_
                                refine lv_icmp_ne (tgt := 233) hx hb dX7_says_203 (by decide) (fun c_76 => ?_) (fun c_76 => ?_)
                                · skip
                                  refine lv_iload hx hb dX7_says_233 (lv_at hl 7 rfl) ?_
                                  refine lv_iconst (v := nI 1) hx hb dX7_says_235 (by decide) ?_
                                  refine lv_icmp_le (tgt := 272) hx hb dX7_says_236 (by decide) (fun c_77 => ?_) (fun c_77 => ?_)
                                  · skip
                                    have c_77 : n ≤ 1 := (nI_leI (by omega) (by omega)).mp c_77
                                    refine lv_iinc (v := nI (k + 1)) (lv' := [(6, .int (nI (k + 1))), (8, .int ((-(V (t + 1) k)) - (nI 2))), (7, .int (V (t + 1) k)), (4, .int (nI tb)), (3, .int (nI ta)), (0, .ref (ad t)), (1, .int (nI 1)), (2, .ref (ad no)), (5, .int (nI n))]) hx hb dX7_says_272 hl (k := 8) rfl (m_inc k 1) (by decide) rfl (fun ls hl => ?_)
                                    refine lv_goto (tgt := 61) hx hb dX7_says_275 (by decide) ?_
                                    exact ih_61  n (k + 1) V1 _ _ _ (by omega) (by omega) (by exact hfr) (by rw [evX_s (by omega)]; exact hR.no (by intro h; first | exact absurd h.1 (Int32.not_le.mpr (by assumption)) | exact absurd h.2 (by omega)) (by intro h; first | exact absurd h.1 (by assumption) | exact absurd h.2 (by omega)) (by intro h; first | exact absurd h.1 (by assumption) | exact absurd h.2 (by omega)) (by intro h; first | exact absurd h.1 (by assumption) | exact absurd h.2 (by omega)) (by omega)) (by omega) hW (lv_sub hl [3, 4, 5, 6, 7, 8, 0] rfl)
                                  · skip
                                    have c_77 : ¬ n ≤ 1 := mt (nI_leI (by omega) (by omega)).mpr c_77
                                    refine lv_iinc (v := nI (n - 1)) (lv' := [(5, .int (nI (n - 1))), (8, .int ((-(V (t + 1) k)) - (nI 2))), (7, .int (V (t + 1) k)), (4, .int (nI tb)), (3, .int (nI ta)), (0, .ref (ad t)), (1, .int (nI 1)), (2, .ref (ad no)), (6, .int (nI k))]) hx hb dX7_says_239 hl (k := 7) rfl (m_dec n 1 (by omega)) (by decide) rfl (fun ls hl => ?_)
                                    refine lv_aload_n hx hb dX7_says_242 rfl (lv_at hl 5 rfl) ?_
                                    refine m_getr S hW gt 4 rfl (j := (t + 2)) rfl kX7 (iW7 _) (by decide) (List.mem_cons_of_mem _ (wa_9 _ (List.mem_of_getElem? (i := 9) (by decide +kernel)))) dX7_says_243 ?_
                                    refine lv_iload hx hb dX7_says_246 (lv_at hl 0 rfl) ?_
                                    refine lv_iconst (v := nI 1) hx hb dX7_says_248 (by decide) ?_
                                    refine lv_isub hx hb dX7_says_249 ?_
                                    refine m_top (y := nI ((n - 1) - 1)) (pk_sub (by omega)) ?_
                                    refine lv_iload hx hb dX7_says_250 (lv_at hl 2 rfl) ?_
                                    refine lv_aload_n hx hb dX7_says_252 rfl (lv_at hl 5 rfl) ?_
                                    refine m_getr S hW gt 4 rfl (j := (t + 2)) rfl kX7 (iW7 _) (by decide) (List.mem_cons_of_mem _ (wa_9 _ (List.mem_of_getElem? (i := 9) (by decide +kernel)))) dX7_says_253 ?_
                                    refine lv_iload hx hb dX7_says_256 (lv_at hl 0 rfl) ?_
                                    refine lv_iconst (v := nI 1) hx hb dX7_says_258 (by decide) ?_
                                    refine lv_isub hx hb dX7_says_259 ?_
                                    refine m_top (y := nI ((n - 1) - 1)) (pk_sub (by omega)) ?_
                                    refine m_iald S hW gt2 ((n - 1) - 1) rfl (by omega) (by decide) dX7_says_260 ?_
                                    refine m_top (y := (evX (V no) (V (t + 1)) ta (k - ta)).2 (n - 1 - 1)) (hR.2 _ (by omega)) ?_
                                    refine lv_aload_n hx hb dX7_says_261 rfl (lv_at hl 5 rfl) ?_
                                    refine m_getr S hW gt 4 rfl (j := (t + 2)) rfl kX7 (iW7 _) (by decide) (List.mem_cons_of_mem _ (wa_9 _ (List.mem_of_getElem? (i := 9) (by decide +kernel)))) dX7_says_262 ?_
                                    refine lv_iload hx hb dX7_says_265 (lv_at hl 0 rfl) ?_
                                    refine m_iald S hW gt2 (n - 1) rfl (by omega) (by decide) dX7_says_267 ?_
                                    refine m_top (y := (evX (V no) (V (t + 1)) ta (k - ta)).2 (n - 1)) (hR.2 _ (by omega)) ?_
                                    refine m_cie (m_rS S hW (c_X7_join l G ad sh1 V1 (V (t + 1) k) ((evX (V no) (V (t + 1)) ta (k - ta)).2 (n - 1 - 1)) ((evX (V no) (V (t + 1)) ta (k - ta)).2 (n - 1))) (va_cwS 3 hts (gCall [.methodLink RX7 34 yX7_join, .static yX7_join, .initialized RX7] (List.forall_mem_cons.mpr ⟨(wa_18 _ (List.mem_of_getElem? (i := 19) (by decide +kernel))), (List.forall_mem_cons.mpr ⟨(wa_18 _ (List.mem_of_getElem? (i := 17) (by decide +kernel))), (List.forall_mem_cons.mpr ⟨(wa_18 _ (List.mem_of_getElem? (i := 18) (by decide +kernel))), (List.forall_mem_cons.mpr ⟨(wa_9 _ (List.mem_of_getElem? (i := 4) (by decide +kernel))), (fun _ h => absurd h List.not_mem_nil)⟩)⟩)⟩)⟩)) rfl rfl rfl (by decide +kernel) ⟨Nat.le_of_ble_eq_true rfl, Nat.le_of_ble_eq_true rfl⟩) rfl hl.1 rfl (Nat.le_of_ble_eq_true rfl) dX7_says_268 ⟨Nat.le_of_ble_eq_true rfl, Nat.le_of_ble_eq_true rfl⟩) hW (fun H locs hW => ?_)
                                    refine m_iast S hW gt2 ((n - 1) - 1) rfl (by omega) (by decide) dX7_says_271 (fun H locs hW => ?_)
                                    obtain ⟨V_78, eV_78⟩ : ∃ z : mV, z = mU V1 (t + 2) ((n - 1) - 1) (fJoin (V (t + 1) k) ((evX (V no) (V (t + 1)) ta (k - ta)).2 (n - 1 - 1)) ((evX (V no) (V (t + 1)) ta (k - ta)).2 (n - 1))) := ⟨_, rfl⟩
                                    rw [← eV_78] at hW
                                    refine lv_iinc (v := nI (k + 1)) (lv' := [(6, .int (nI (k + 1))), (5, .int (nI (n - 1))), (8, .int ((-(V (t + 1) k)) - (nI 2))), (7, .int (V (t + 1) k)), (4, .int (nI tb)), (3, .int (nI ta)), (0, .ref (ad t)), (1, .int (nI 1)), (2, .ref (ad no))]) hx hb dX7_says_272 hl (k := 8) rfl (m_inc k 1) (by decide) rfl (fun ls hl => ?_)
                                    refine lv_goto (tgt := 61) hx hb dX7_says_275 (by decide) ?_
                                    exact ih_61  (n - 1) (k + 1) V_78 _ _ _ (by omega) (by omega) (by intro a ha; rw [eV_78, mU_no _ _ ha]; exact hfr a ha) (by first | (exfalso; omega) | skip; rw [eV_78, mU_row, evX_s (by omega)]; first | exact hR.push (by first | exact Int32.not_lt.mp (by assumption) | assumption) (by omega) | exact hR.nm (by intro h; first | exact absurd h.1 (Int32.not_le.mpr (by assumption)) | exact absurd h.2 (by omega)) (by assumption) (by omega) eix hix | exact hR.nt0 (by intro h; first | exact absurd h.1 (Int32.not_le.mpr (by assumption)) | exact absurd h.2 (by omega)) (by intro h; first | exact absurd h.1 (by assumption) | exact absurd h.2 (by omega)) (by assumption) (by omega) (by assumption) | exact hR.nt1 (by intro h; first | exact absurd h.1 (Int32.not_le.mpr (by assumption)) | exact absurd h.2 (by omega)) (by intro h; first | exact absurd h.1 (by assumption) | exact absurd h.2 (by omega)) (by assumption) (by omega) (by assumption) | exact hR.ng (by intro h; first | exact absurd h.1 (Int32.not_le.mpr (by assumption)) | exact absurd h.2 (by omega)) (by intro h; first | exact absurd h.1 (by assumption) | exact absurd h.2 (by omega)) (by assumption) (by omega) | exact hR.jn (by intro h; first | exact absurd h.1 (Int32.not_le.mpr (by assumption)) | exact absurd h.2 (by omega)) (by intro h; first | exact absurd h.1 (by assumption) | exact absurd h.2 (by omega)) (by intro h; first | exact absurd h.1 (by assumption) | exact absurd h.2 (by omega)) (by intro h; first | exact absurd h.1 (by assumption) | exact absurd h.2 (by omega)) (by omega)) (by omega) hW (lv_sub hl [4, 5, 6, 7, 8, 1, 0] rfl)
                                · skip
                                  refine lv_iload hx hb dX7_says_206 (lv_at hl 7 rfl) ?_
                                  refine m_if_le (tgt := 233) hx hb dX7_says_208 (by decide) (fun c_79 => ?_) (fun c_79 => ?_)
                                  · skip
                                    have c_79 : n ≤ 0 := (nI_leI (by omega) (by omega)).mp c_79
                                    refine lv_iload hx hb dX7_says_233 (lv_at hl 7 rfl) ?_
                                    refine lv_iconst (v := nI 1) hx hb dX7_says_235 (by decide) ?_
                                    refine lv_icmp_le (tgt := 272) hx hb dX7_says_236 (by decide) (fun c_80 => ?_) (fun c_80 => ?_)
                                    · skip
                                      have c_80 : n ≤ 1 := (nI_leI (by omega) (by omega)).mp c_80
                                      refine lv_iinc (v := nI (k + 1)) (lv' := [(6, .int (nI (k + 1))), (8, .int ((-(V (t + 1) k)) - (nI 2))), (7, .int (V (t + 1) k)), (4, .int (nI tb)), (3, .int (nI ta)), (0, .ref (ad t)), (1, .int (nI 1)), (2, .ref (ad no)), (5, .int (nI n))]) hx hb dX7_says_272 hl (k := 8) rfl (m_inc k 1) (by decide) rfl (fun ls hl => ?_)
                                      refine lv_goto (tgt := 61) hx hb dX7_says_275 (by decide) ?_
                                      exact ih_61  n (k + 1) V1 _ _ _ (by omega) (by omega) (by exact hfr) (by rw [evX_s (by omega)]; exact hR.no (by intro h; first | exact absurd h.1 (Int32.not_le.mpr (by assumption)) | exact absurd h.2 (by omega)) (by intro h; first | exact absurd h.1 (by assumption) | exact absurd h.2 (by omega)) (by intro h; first | exact absurd h.1 (by assumption) | exact absurd h.2 (by omega)) (by intro h; first | exact absurd h.1 (by assumption) | exact absurd h.2 (by omega)) (by omega)) (by omega) hW (lv_sub hl [3, 4, 5, 6, 7, 8, 0] rfl)
                                    · skip
                                      have c_80 : ¬ n ≤ 1 := mt (nI_leI (by omega) (by omega)).mpr c_80
                                      refine lv_iinc (v := nI (n - 1)) (lv' := [(5, .int (nI (n - 1))), (8, .int ((-(V (t + 1) k)) - (nI 2))), (7, .int (V (t + 1) k)), (4, .int (nI tb)), (3, .int (nI ta)), (0, .ref (ad t)), (1, .int (nI 1)), (2, .ref (ad no)), (6, .int (nI k))]) hx hb dX7_says_239 hl (k := 7) rfl (m_dec n 1 (by omega)) (by decide) rfl (fun ls hl => ?_)
                                      refine lv_aload_n hx hb dX7_says_242 rfl (lv_at hl 5 rfl) ?_
                                      refine m_getr S hW gt 4 rfl (j := (t + 2)) rfl kX7 (iW7 _) (by decide) (List.mem_cons_of_mem _ (wa_9 _ (List.mem_of_getElem? (i := 9) (by decide +kernel)))) dX7_says_243 ?_
                                      refine lv_iload hx hb dX7_says_246 (lv_at hl 0 rfl) ?_
                                      refine lv_iconst (v := nI 1) hx hb dX7_says_248 (by decide) ?_
                                      refine lv_isub hx hb dX7_says_249 ?_
                                      refine m_top (y := nI ((n - 1) - 1)) (pk_sub (by omega)) ?_
                                      refine lv_iload hx hb dX7_says_250 (lv_at hl 2 rfl) ?_
                                      refine lv_aload_n hx hb dX7_says_252 rfl (lv_at hl 5 rfl) ?_
                                      refine m_getr S hW gt 4 rfl (j := (t + 2)) rfl kX7 (iW7 _) (by decide) (List.mem_cons_of_mem _ (wa_9 _ (List.mem_of_getElem? (i := 9) (by decide +kernel)))) dX7_says_253 ?_
                                      refine lv_iload hx hb dX7_says_256 (lv_at hl 0 rfl) ?_
                                      refine lv_iconst (v := nI 1) hx hb dX7_says_258 (by decide) ?_
                                      refine lv_isub hx hb dX7_says_259 ?_
                                      refine m_top (y := nI ((n - 1) - 1)) (pk_sub (by omega)) ?_
                                      refine m_iald S hW gt2 ((n - 1) - 1) rfl (by omega) (by decide) dX7_says_260 ?_
                                      refine m_top (y := (evX (V no) (V (t + 1)) ta (k - ta)).2 (n - 1 - 1)) (hR.2 _ (by omega)) ?_
                                      refine lv_aload_n hx hb dX7_says_261 rfl (lv_at hl 5 rfl) ?_
                                      refine m_getr S hW gt 4 rfl (j := (t + 2)) rfl kX7 (iW7 _) (by decide) (List.mem_cons_of_mem _ (wa_9 _ (List.mem_of_getElem? (i := 9) (by decide +kernel)))) dX7_says_262 ?_
                                      refine lv_iload hx hb dX7_says_265 (lv_at hl 0 rfl) ?_
                                      refine m_iald S hW gt2 (n - 1) rfl (by omega) (by decide) dX7_says_267 ?_
                                      refine m_top (y := (evX (V no) (V (t + 1)) ta (k - ta)).2 (n - 1)) (hR.2 _ (by omega)) ?_
                                      refine m_cie (m_rS S hW (c_X7_join l G ad sh1 V1 (V (t + 1) k) ((evX (V no) (V (t + 1)) ta (k - ta)).2 (n - 1 - 1)) ((evX (V no) (V (t + 1)) ta (k - ta)).2 (n - 1))) (va_cwS 3 hts (gCall [.methodLink RX7 34 yX7_join, .static yX7_join, .initialized RX7] (List.forall_mem_cons.mpr ⟨(wa_18 _ (List.mem_of_getElem? (i := 19) (by decide +kernel))), (List.forall_mem_cons.mpr ⟨(wa_18 _ (List.mem_of_getElem? (i := 17) (by decide +kernel))), (List.forall_mem_cons.mpr ⟨(wa_18 _ (List.mem_of_getElem? (i := 18) (by decide +kernel))), (List.forall_mem_cons.mpr ⟨(wa_9 _ (List.mem_of_getElem? (i := 4) (by decide +kernel))), (fun _ h => absurd h List.not_mem_nil)⟩)⟩)⟩)⟩)) rfl rfl rfl (by decide +kernel) ⟨Nat.le_of_ble_eq_true rfl, Nat.le_of_ble_eq_true rfl⟩) rfl hl.1 rfl (Nat.le_of_ble_eq_true rfl) dX7_says_268 ⟨Nat.le_of_ble_eq_true rfl, Nat.le_of_ble_eq_true rfl⟩) hW (fun H locs hW => ?_)
                                      refine m_iast S hW gt2 ((n - 1) - 1) rfl (by omega) (by decide) dX7_says_271 (fun H locs hW => ?_)
                                      obtain ⟨V_81, eV_81⟩ : ∃ z : mV, z = mU V1 (t + 2) ((n - 1) - 1) (fJoin (V (t + 1) k) ((evX (V no) (V (t + 1)) ta (k - ta)).2 (n - 1 - 1)) ((evX (V no) (V (t + 1)) ta (k - ta)).2 (n - 1))) := ⟨_, rfl⟩
                                      rw [← eV_81] at hW
                                      refine lv_iinc (v := nI (k + 1)) (lv' := [(6, .int (nI (k + 1))), (5, .int (nI (n - 1))), (8, .int ((-(V (t + 1) k)) - (nI 2))), (7, .int (V (t + 1) k)), (4, .int (nI tb)), (3, .int (nI ta)), (0, .ref (ad t)), (1, .int (nI 1)), (2, .ref (ad no))]) hx hb dX7_says_272 hl (k := 8) rfl (m_inc k 1) (by decide) rfl (fun ls hl => ?_)
                                      refine lv_goto (tgt := 61) hx hb dX7_says_275 (by decide) ?_
                                      exact ih_61  (n - 1) (k + 1) V_81 _ _ _ (by omega) (by omega) (by intro a ha; rw [eV_81, mU_no _ _ ha]; exact hfr a ha) (by first | (exfalso; omega) | skip; rw [eV_81, mU_row, evX_s (by omega)]; first | exact hR.push (by first | exact Int32.not_lt.mp (by assumption) | assumption) (by omega) | exact hR.nm (by intro h; first | exact absurd h.1 (Int32.not_le.mpr (by assumption)) | exact absurd h.2 (by omega)) (by assumption) (by omega) eix hix | exact hR.nt0 (by intro h; first | exact absurd h.1 (Int32.not_le.mpr (by assumption)) | exact absurd h.2 (by omega)) (by intro h; first | exact absurd h.1 (by assumption) | exact absurd h.2 (by omega)) (by assumption) (by omega) (by assumption) | exact hR.nt1 (by intro h; first | exact absurd h.1 (Int32.not_le.mpr (by assumption)) | exact absurd h.2 (by omega)) (by intro h; first | exact absurd h.1 (by assumption) | exact absurd h.2 (by omega)) (by assumption) (by omega) (by assumption) | exact hR.ng (by intro h; first | exact absurd h.1 (Int32.not_le.mpr (by assumption)) | exact absurd h.2 (by omega)) (by intro h; first | exact absurd h.1 (by assumption) | exact absurd h.2 (by omega)) (by assumption) (by omega) | exact hR.jn (by intro h; first | exact absurd h.1 (Int32.not_le.mpr (by assumption)) | exact absurd h.2 (by omega)) (by intro h; first | exact absurd h.1 (by assumption) | exact absurd h.2 (by omega)) (by intro h; first | exact absurd h.1 (by assumption) | exact absurd h.2 (by omega)) (by intro h; first | exact absurd h.1 (by assumption) | exact absurd h.2 (by omega)) (by omega)) (by omega) hW (lv_sub hl [4, 5, 6, 7, 8, 1, 0] rfl)
                                  · skip
                                    have c_79 : ¬ n ≤ 0 := mt (nI_leI (by omega) (by omega)).mpr c_79
                                    refine lv_aload_n hx hb dX7_says_211 rfl (lv_at hl 4 rfl) ?_
                                    refine m_getr S hW gt 4 rfl (j := (t + 2)) rfl kX7 (iW7 _) (by decide) (List.mem_cons_of_mem _ (wa_9 _ (List.mem_of_getElem? (i := 9) (by decide +kernel)))) dX7_says_212 ?_
                                    refine lv_iload hx hb dX7_says_215 (lv_at hl 7 rfl) ?_
                                    refine lv_iconst (v := nI 1) hx hb dX7_says_217 (by decide) ?_
                                    refine lv_isub hx hb dX7_says_218 ?_
                                    refine m_top (y := nI (n - 1)) (pk_sub (by omega)) ?_
                                    refine lv_aload_n hx hb dX7_says_219 rfl (lv_at hl 4 rfl) ?_
                                    refine m_getr S hW gt 4 rfl (j := (t + 2)) rfl kX7 (iW7 _) (by decide) (List.mem_cons_of_mem _ (wa_9 _ (List.mem_of_getElem? (i := 9) (by decide +kernel)))) dX7_says_220 ?_
                                    refine lv_iload hx hb dX7_says_223 (lv_at hl 7 rfl) ?_
                                    refine lv_iconst (v := nI 1) hx hb dX7_says_225 (by decide) ?_
                                    refine lv_isub hx hb dX7_says_226 ?_
                                    refine m_top (y := nI (n - 1)) (pk_sub (by omega)) ?_
                                    refine m_iald S hW gt2 (n - 1) rfl (by omega) (by decide) dX7_says_227 ?_
                                    refine m_top (y := (evX (V no) (V (t + 1)) ta (k - ta)).2 (n - 1)) (hR.2 _ (by omega)) ?_
                                    refine lv_ineg hx hb dX7_says_228 ?_
                                    refine m_iast S hW gt2 (n - 1) rfl (by omega) (by decide) dX7_says_229 (fun H locs hW => ?_)
                                    obtain ⟨V_82, eV_82⟩ : ∃ z : mV, z = mU V1 (t + 2) (n - 1) ((-((evX (V no) (V (t + 1)) ta (k - ta)).2 (n - 1)))) := ⟨_, rfl⟩
                                    rw [← eV_82] at hW
                                    refine lv_goto (tgt := 272) hx hb dX7_says_230 (by decide) ?_
                                    refine lv_iinc (v := nI (k + 1)) (lv' := [(6, .int (nI (k + 1))), (8, .int ((-(V (t + 1) k)) - (nI 2))), (7, .int (V (t + 1) k)), (4, .int (nI tb)), (3, .int (nI ta)), (0, .ref (ad t)), (1, .int (nI 1)), (2, .ref (ad no)), (5, .int (nI n))]) hx hb dX7_says_272 hl (k := 8) rfl (m_inc k 1) (by decide) rfl (fun ls hl => ?_)
                                    refine lv_goto (tgt := 61) hx hb dX7_says_275 (by decide) ?_
                                    exact ih_61  n (k + 1) V_82 _ _ _ (by omega) (by omega) (by intro a ha; rw [eV_82, mU_no _ _ ha]; exact hfr a ha) (by first | (exfalso; omega) | skip; rw [eV_82, mU_row, evX_s (by omega)]; first | exact hR.push (by first | exact Int32.not_lt.mp (by assumption) | assumption) (by omega) | exact hR.nm (by intro h; first | exact absurd h.1 (Int32.not_le.mpr (by assumption)) | exact absurd h.2 (by omega)) (by assumption) (by omega) eix hix | exact hR.nt0 (by intro h; first | exact absurd h.1 (Int32.not_le.mpr (by assumption)) | exact absurd h.2 (by omega)) (by intro h; first | exact absurd h.1 (by assumption) | exact absurd h.2 (by omega)) (by assumption) (by omega) (by assumption) | exact hR.nt1 (by intro h; first | exact absurd h.1 (Int32.not_le.mpr (by assumption)) | exact absurd h.2 (by omega)) (by intro h; first | exact absurd h.1 (by assumption) | exact absurd h.2 (by omega)) (by assumption) (by omega) (by assumption) | exact hR.ng (by intro h; first | exact absurd h.1 (Int32.not_le.mpr (by assumption)) | exact absurd h.2 (by omega)) (by intro h; first | exact absurd h.1 (by assumption) | exact absurd h.2 (by omega)) (by assumption) (by omega) | exact hR.jn (by intro h; first | exact absurd h.1 (Int32.not_le.mpr (by assumption)) | exact absurd h.2 (by omega)) (by intro h; first | exact absurd h.1 (by assumption) | exact absurd h.2 (by omega)) (by intro h; first | exact absurd h.1 (by assumption) | exact absurd h.2 (by omega)) (by intro h; first | exact absurd h.1 (by assumption) | exact absurd h.2 (by omega)) (by omega)) (by omega) hW (lv_sub hl [3, 4, 5, 6, 7, 8, 0] rfl)
                              · skip
                                have c_75 : ¬ n ≤ 0 := mt (nI_leI (by omega) (by omega)).mpr c_75
                                refine lv_aload_n hx hb dX7_says_170 rfl (lv_at hl 4 rfl) ?_
                                refine m_getr S hW gt 4 rfl (j := (t + 2)) rfl kX7 (iW7 _) (by decide) (List.mem_cons_of_mem _ (wa_9 _ (List.mem_of_getElem? (i := 9) (by decide +kernel)))) dX7_says_171 ?_
                                refine lv_iload hx hb dX7_says_174 (lv_at hl 7 rfl) ?_
                                refine lv_iconst (v := nI 1) hx hb dX7_says_176 (by decide) ?_
                                refine lv_isub hx hb dX7_says_177 ?_
                                refine m_top (y := nI (n - 1)) (pk_sub (by omega)) ?_
                                refine lv_aload_n hx hb dX7_says_178 rfl (lv_at hl 4 rfl) ?_
                                refine m_getr S hW gt 4 rfl (j := (t + 2)) rfl kX7 (iW7 _) (by decide) (List.mem_cons_of_mem _ (wa_9 _ (List.mem_of_getElem? (i := 9) (by decide +kernel)))) dX7_says_179 ?_
                                refine lv_iload hx hb dX7_says_182 (lv_at hl 7 rfl) ?_
                                refine lv_iconst (v := nI 1) hx hb dX7_says_184 (by decide) ?_
                                refine lv_isub hx hb dX7_says_185 ?_
                                refine m_top (y := nI (n - 1)) (pk_sub (by omega)) ?_
                                refine m_iald S hW gt2 (n - 1) rfl (by omega) (by decide) dX7_says_186 ?_
                                refine m_top (y := (evX (V no) (V (t + 1)) ta (k - ta)).2 (n - 1)) (hR.2 _ (by omega)) ?_
                                refine m_if_ne (tgt := 194) hx hb dX7_says_187 (by decide) (fun c_83 => ?_) (fun c_83 => ?_)
                                · skip
                                  refine lv_iconst (v := nI 0) hx hb dX7_says_194 (by decide) ?_
                                  refine m_iast S hW gt2 (n - 1) rfl (by omega) (by decide) dX7_says_195 (fun H locs hW => ?_)
                                  obtain ⟨V_84, eV_84⟩ : ∃ z : mV, z = mU V1 (t + 2) (n - 1) (nI 0) := ⟨_, rfl⟩
                                  rw [← eV_84] at hW
                                  refine lv_goto (tgt := 272) hx hb dX7_says_196 (by decide) ?_
                                  refine lv_iinc (v := nI (k + 1)) (lv' := [(6, .int (nI (k + 1))), (8, .int ((-(V (t + 1) k)) - (nI 2))), (7, .int (V (t + 1) k)), (4, .int (nI tb)), (3, .int (nI ta)), (0, .ref (ad t)), (1, .int (nI 1)), (2, .ref (ad no)), (5, .int (nI n))]) hx hb dX7_says_272 hl (k := 8) rfl (m_inc k 1) (by decide) rfl (fun ls hl => ?_)
                                  refine lv_goto (tgt := 61) hx hb dX7_says_275 (by decide) ?_
                                  exact ih_61  n (k + 1) V_84 _ _ _ (by omega) (by omega) (by intro a ha; rw [eV_84, mU_no _ _ ha]; exact hfr a ha) (by first | (exfalso; omega) | skip; rw [eV_84, mU_row, evX_s (by omega)]; first | exact hR.push (by first | exact Int32.not_lt.mp (by assumption) | assumption) (by omega) | exact hR.nm (by intro h; first | exact absurd h.1 (Int32.not_le.mpr (by assumption)) | exact absurd h.2 (by omega)) (by assumption) (by omega) eix hix | exact hR.nt0 (by intro h; first | exact absurd h.1 (Int32.not_le.mpr (by assumption)) | exact absurd h.2 (by omega)) (by intro h; first | exact absurd h.1 (by assumption) | exact absurd h.2 (by omega)) (by assumption) (by omega) (by assumption) | exact hR.nt1 (by intro h; first | exact absurd h.1 (Int32.not_le.mpr (by assumption)) | exact absurd h.2 (by omega)) (by intro h; first | exact absurd h.1 (by assumption) | exact absurd h.2 (by omega)) (by assumption) (by omega) (by assumption) | exact hR.ng (by intro h; first | exact absurd h.1 (Int32.not_le.mpr (by assumption)) | exact absurd h.2 (by omega)) (by intro h; first | exact absurd h.1 (by assumption) | exact absurd h.2 (by omega)) (by assumption) (by omega) | exact hR.jn (by intro h; first | exact absurd h.1 (Int32.not_le.mpr (by assumption)) | exact absurd h.2 (by omega)) (by intro h; first | exact absurd h.1 (by assumption) | exact absurd h.2 (by omega)) (by intro h; first | exact absurd h.1 (by assumption) | exact absurd h.2 (by omega)) (by intro h; first | exact absurd h.1 (by assumption) | exact absurd h.2 (by omega)) (by omega)) (by omega) hW (lv_sub hl [3, 4, 5, 6, 7, 8, 0] rfl)
                                · skip
                                  refine lv_iconst (v := nI 1) hx hb dX7_says_190 (by decide) ?_
                                  refine lv_goto (tgt := 195) hx hb dX7_says_191 (by decide) ?_
                                  refine m_iast S hW gt2 (n - 1) rfl (by omega) (by decide) dX7_says_195 (fun H locs hW => ?_)
                                  obtain ⟨V_85, eV_85⟩ : ∃ z : mV, z = mU V1 (t + 2) (n - 1) (nI 1) := ⟨_, rfl⟩
                                  rw [← eV_85] at hW
                                  refine lv_goto (tgt := 272) hx hb dX7_says_196 (by decide) ?_
                                  refine lv_iinc (v := nI (k + 1)) (lv' := [(6, .int (nI (k + 1))), (8, .int ((-(V (t + 1) k)) - (nI 2))), (7, .int (V (t + 1) k)), (4, .int (nI tb)), (3, .int (nI ta)), (0, .ref (ad t)), (1, .int (nI 1)), (2, .ref (ad no)), (5, .int (nI n))]) hx hb dX7_says_272 hl (k := 8) rfl (m_inc k 1) (by decide) rfl (fun ls hl => ?_)
                                  refine lv_goto (tgt := 61) hx hb dX7_says_275 (by decide) ?_
                                  exact ih_61  n (k + 1) V_85 _ _ _ (by omega) (by omega) (by intro a ha; rw [eV_85, mU_no _ _ ha]; exact hfr a ha) (by first | (exfalso; omega) | skip; rw [eV_85, mU_row, evX_s (by omega)]; first | exact hR.push (by first | exact Int32.not_lt.mp (by assumption) | assumption) (by omega) | exact hR.nm (by intro h; first | exact absurd h.1 (Int32.not_le.mpr (by assumption)) | exact absurd h.2 (by omega)) (by assumption) (by omega) eix hix | exact hR.nt0 (by intro h; first | exact absurd h.1 (Int32.not_le.mpr (by assumption)) | exact absurd h.2 (by omega)) (by intro h; first | exact absurd h.1 (by assumption) | exact absurd h.2 (by omega)) (by assumption) (by omega) (by assumption) | exact hR.nt1 (by intro h; first | exact absurd h.1 (Int32.not_le.mpr (by assumption)) | exact absurd h.2 (by omega)) (by intro h; first | exact absurd h.1 (by assumption) | exact absurd h.2 (by omega)) (by assumption) (by omega) (by assumption) | exact hR.ng (by intro h; first | exact absurd h.1 (Int32.not_le.mpr (by assumption)) | exact absurd h.2 (by omega)) (by intro h; first | exact absurd h.1 (by assumption) | exact absurd h.2 (by omega)) (by assumption) (by omega) | exact hR.jn (by intro h; first | exact absurd h.1 (Int32.not_le.mpr (by assumption)) | exact absurd h.2 (by omega)) (by intro h; first | exact absurd h.1 (by assumption) | exact absurd h.2 (by omega)) (by intro h; first | exact absurd h.1 (by assumption) | exact absurd h.2 (by omega)) (by intro h; first | exact absurd h.1 (by assumption) | exact absurd h.2 (by omega)) (by omega)) (by omega) hW (lv_sub hl [3, 4, 5, 6, 7, 8, 0] rfl)
                          · skip
                            have c_66 : ¬ 32 ≤ n := mt (nI_leI (by omega) (by omega)).mpr c_66
                            refine lv_aload_n hx hb dX7_says_141 rfl (lv_at hl 4 rfl) ?_
                            refine m_getr S hW gt 4 rfl (j := (t + 2)) rfl kX7 (iW7 _) (by decide) (List.mem_cons_of_mem _ (wa_9 _ (List.mem_of_getElem? (i := 9) (by decide +kernel)))) dX7_says_142 ?_
                            refine lv_iload hx hb dX7_says_145 (lv_at hl 7 rfl) ?_
                            refine lv_iinc (v := nI (n + 1)) (lv' := [(5, .int (nI (n + 1))), (8, .int ((-(V (t + 1) k)) - (nI 2))), (7, .int (V (t + 1) k)), (4, .int (nI tb)), (3, .int (nI ta)), (0, .ref (ad t)), (1, .int (nI 1)), (2, .ref (ad no)), (6, .int (nI k))]) hx hb dX7_says_147 hl (k := 7) rfl (m_inc n 1) (by decide) rfl (fun ls hl => ?_)
                            refine lv_aload_n hx hb dX7_says_150 rfl (lv_at hl 7 rfl) ?_
                            refine lv_iload hx hb dX7_says_151 (lv_at hl 1 rfl) ?_
                            obtain ⟨ix, eix, -, hix⟩ := w_63.ex
                            refine m_iald S hW gn ix eix hix (by decide) dX7_says_153 ?_
                            refine m_top (y := V no ix) (by rw [hfr _ hno2]) ?_
                            refine m_iast S hW gt2 n rfl (by omega) (by decide) dX7_says_154 (fun H locs hW => ?_)
                            obtain ⟨V_86, eV_86⟩ : ∃ z : mV, z = mU V1 (t + 2) n (V no ix) := ⟨_, rfl⟩
                            rw [← eV_86] at hW
                            refine lv_goto (tgt := 272) hx hb dX7_says_155 (by decide) ?_
                            refine lv_iinc (v := nI (k + 1)) (lv' := [(6, .int (nI (k + 1))), (5, .int (nI (n + 1))), (8, .int ((-(V (t + 1) k)) - (nI 2))), (7, .int (V (t + 1) k)), (4, .int (nI tb)), (3, .int (nI ta)), (0, .ref (ad t)), (1, .int (nI 1)), (2, .ref (ad no))]) hx hb dX7_says_272 hl (k := 8) rfl (m_inc k 1) (by decide) rfl (fun ls hl => ?_)
                            refine lv_goto (tgt := 61) hx hb dX7_says_275 (by decide) ?_
                            exact ih_61  (n + 1) (k + 1) V_86 _ _ _ (by omega) (by omega) (by intro a ha; rw [eV_86, mU_no _ _ ha]; exact hfr a ha) (by first | (exfalso; omega) | skip; rw [eV_86, mU_row, evX_s (by omega)]; first | exact hR.push (by first | exact Int32.not_lt.mp (by assumption) | assumption) (by omega) | exact hR.nm (by intro h; first | exact absurd h.1 (Int32.not_le.mpr (by assumption)) | exact absurd h.2 (by omega)) (by assumption) (by omega) eix hix | exact hR.nt0 (by intro h; first | exact absurd h.1 (Int32.not_le.mpr (by assumption)) | exact absurd h.2 (by omega)) (by intro h; first | exact absurd h.1 (by assumption) | exact absurd h.2 (by omega)) (by assumption) (by omega) (by assumption) | exact hR.nt1 (by intro h; first | exact absurd h.1 (Int32.not_le.mpr (by assumption)) | exact absurd h.2 (by omega)) (by intro h; first | exact absurd h.1 (by assumption) | exact absurd h.2 (by omega)) (by assumption) (by omega) (by assumption) | exact hR.ng (by intro h; first | exact absurd h.1 (Int32.not_le.mpr (by assumption)) | exact absurd h.2 (by omega)) (by intro h; first | exact absurd h.1 (by assumption) | exact absurd h.2 (by omega)) (by assumption) (by omega) | exact hR.jn (by intro h; first | exact absurd h.1 (Int32.not_le.mpr (by assumption)) | exact absurd h.2 (by omega)) (by intro h; first | exact absurd h.1 (by assumption) | exact absurd h.2 (by omega)) (by intro h; first | exact absurd h.1 (by assumption) | exact absurd h.2 (by omega)) (by intro h; first | exact absurd h.1 (by assumption) | exact absurd h.2 (by omega)) (by omega)) (by omega) hW (lv_sub hl [4, 5, 6, 7, 8, 1, 0] rfl)
                      · skip
                        refine m_if_eq (tgt := 158) hx hb dX7_says_131 (by decide) (fun c_87 => ?_) (fun c_87 => ?_)
                        · skip
                          refine lv_iload hx hb dX7_says_158 (lv_at hl 1 rfl) ?_
                          refine lv_bipush (v := -13) hx hb dX7_says_160 (by decide) ?_
                          refine lv_icmp_ne (tgt := 199) hx hb dX7_says_162 (by decide) (fun c_88 => ?_) (fun c_88 => ?_)
                          · skip
                            refine lv_iload hx hb dX7_says_199 (lv_at hl 1 rfl) ?_
                            refine lv_bipush (v := -14) hx hb dX7_says_201 (by decide) ?_
                            refine lv_icmp_ne (tgt := 233) hx hb dX7_says_203 (by decide) (fun c_89 => ?_) (fun c_89 => ?_)
                            · skip
                              refine lv_iload hx hb dX7_says_233 (lv_at hl 7 rfl) ?_
                              refine lv_iconst (v := nI 1) hx hb dX7_says_235 (by decide) ?_
                              refine lv_icmp_le (tgt := 272) hx hb dX7_says_236 (by decide) (fun c_90 => ?_) (fun c_90 => ?_)
                              · skip
                                have c_90 : n ≤ 1 := (nI_leI (by omega) (by omega)).mp c_90
                                refine lv_iinc (v := nI (k + 1)) (lv' := [(6, .int (nI (k + 1))), (8, .int ((-(V (t + 1) k)) - (nI 2))), (7, .int (V (t + 1) k)), (4, .int (nI tb)), (3, .int (nI ta)), (0, .ref (ad t)), (1, .int (nI 1)), (2, .ref (ad no)), (5, .int (nI n))]) hx hb dX7_says_272 hl (k := 8) rfl (m_inc k 1) (by decide) rfl (fun ls hl => ?_)
                                refine lv_goto (tgt := 61) hx hb dX7_says_275 (by decide) ?_
                                exact ih_61  n (k + 1) V1 _ _ _ (by omega) (by omega) (by exact hfr) (by rw [evX_s (by omega)]; exact hR.no (by intro h; first | exact absurd h.1 (Int32.not_le.mpr (by assumption)) | exact absurd h.2 (by omega)) (by intro h; first | exact absurd h.1 (by assumption) | exact absurd h.2 (by omega)) (by intro h; first | exact absurd h.1 (by assumption) | exact absurd h.2 (by omega)) (by intro h; first | exact absurd h.1 (by assumption) | exact absurd h.2 (by omega)) (by omega)) (by omega) hW (lv_sub hl [3, 4, 5, 6, 7, 8, 0] rfl)
                              · skip
                                have c_90 : ¬ n ≤ 1 := mt (nI_leI (by omega) (by omega)).mpr c_90
                                refine lv_iinc (v := nI (n - 1)) (lv' := [(5, .int (nI (n - 1))), (8, .int ((-(V (t + 1) k)) - (nI 2))), (7, .int (V (t + 1) k)), (4, .int (nI tb)), (3, .int (nI ta)), (0, .ref (ad t)), (1, .int (nI 1)), (2, .ref (ad no)), (6, .int (nI k))]) hx hb dX7_says_239 hl (k := 7) rfl (m_dec n 1 (by omega)) (by decide) rfl (fun ls hl => ?_)
                                refine lv_aload_n hx hb dX7_says_242 rfl (lv_at hl 5 rfl) ?_
                                refine m_getr S hW gt 4 rfl (j := (t + 2)) rfl kX7 (iW7 _) (by decide) (List.mem_cons_of_mem _ (wa_9 _ (List.mem_of_getElem? (i := 9) (by decide +kernel)))) dX7_says_243 ?_
                                refine lv_iload hx hb dX7_says_246 (lv_at hl 0 rfl) ?_
                                refine lv_iconst (v := nI 1) hx hb dX7_says_248 (by decide) ?_
                                refine lv_isub hx hb dX7_says_249 ?_
                                refine m_top (y := nI ((n - 1) - 1)) (pk_sub (by omega)) ?_
                                refine lv_iload hx hb dX7_says_250 (lv_at hl 2 rfl) ?_
                                refine lv_aload_n hx hb dX7_says_252 rfl (lv_at hl 5 rfl) ?_
                                refine m_getr S hW gt 4 rfl (j := (t + 2)) rfl kX7 (iW7 _) (by decide) (List.mem_cons_of_mem _ (wa_9 _ (List.mem_of_getElem? (i := 9) (by decide +kernel)))) dX7_says_253 ?_
                                refine lv_iload hx hb dX7_says_256 (lv_at hl 0 rfl) ?_
                                refine lv_iconst (v := nI 1) hx hb dX7_says_258 (by decide) ?_
                                refine lv_isub hx hb dX7_says_259 ?_
                                refine m_top (y := nI ((n - 1) - 1)) (pk_sub (by omega)) ?_
                                refine m_iald S hW gt2 ((n - 1) - 1) rfl (by omega) (by decide) dX7_says_260 ?_
                                refine m_top (y := (evX (V no) (V (t + 1)) ta (k - ta)).2 (n - 1 - 1)) (hR.2 _ (by omega)) ?_
                                refine lv_aload_n hx hb dX7_says_261 rfl (lv_at hl 5 rfl) ?_
                                refine m_getr S hW gt 4 rfl (j := (t + 2)) rfl kX7 (iW7 _) (by decide) (List.mem_cons_of_mem _ (wa_9 _ (List.mem_of_getElem? (i := 9) (by decide +kernel)))) dX7_says_262 ?_
                                refine lv_iload hx hb dX7_says_265 (lv_at hl 0 rfl) ?_
                                refine m_iald S hW gt2 (n - 1) rfl (by omega) (by decide) dX7_says_267 ?_
                                refine m_top (y := (evX (V no) (V (t + 1)) ta (k - ta)).2 (n - 1)) (hR.2 _ (by omega)) ?_
                                refine m_cie (m_rS S hW (c_X7_join l G ad sh1 V1 (V (t + 1) k) ((evX (V no) (V (t + 1)) ta (k - ta)).2 (n - 1 - 1)) ((evX (V no) (V (t + 1)) ta (k - ta)).2 (n - 1))) (va_cwS 3 hts (gCall [.methodLink RX7 34 yX7_join, .static yX7_join, .initialized RX7] (List.forall_mem_cons.mpr ⟨(wa_18 _ (List.mem_of_getElem? (i := 19) (by decide +kernel))), (List.forall_mem_cons.mpr ⟨(wa_18 _ (List.mem_of_getElem? (i := 17) (by decide +kernel))), (List.forall_mem_cons.mpr ⟨(wa_18 _ (List.mem_of_getElem? (i := 18) (by decide +kernel))), (List.forall_mem_cons.mpr ⟨(wa_9 _ (List.mem_of_getElem? (i := 4) (by decide +kernel))), (fun _ h => absurd h List.not_mem_nil)⟩)⟩)⟩)⟩)) rfl rfl rfl (by decide +kernel) ⟨Nat.le_of_ble_eq_true rfl, Nat.le_of_ble_eq_true rfl⟩) rfl hl.1 rfl (Nat.le_of_ble_eq_true rfl) dX7_says_268 ⟨Nat.le_of_ble_eq_true rfl, Nat.le_of_ble_eq_true rfl⟩) hW (fun H locs hW => ?_)
                                refine m_iast S hW gt2 ((n - 1) - 1) rfl (by omega) (by decide) dX7_says_271 (fun H locs hW => ?_)
                                obtain ⟨V_91, eV_91⟩ : ∃ z : mV, z = mU V1 (t + 2) ((n - 1) - 1) (fJoin (V (t + 1) k) ((evX (V no) (V (t + 1)) ta (k - ta)).2 (n - 1 - 1)) ((evX (V no) (V (t + 1)) ta (k - ta)).2 (n - 1))) := ⟨_, rfl⟩
                                rw [← eV_91] at hW
                                refine lv_iinc (v := nI (k + 1)) (lv' := [(6, .int (nI (k + 1))), (5, .int (nI (n - 1))), (8, .int ((-(V (t + 1) k)) - (nI 2))), (7, .int (V (t + 1) k)), (4, .int (nI tb)), (3, .int (nI ta)), (0, .ref (ad t)), (1, .int (nI 1)), (2, .ref (ad no))]) hx hb dX7_says_272 hl (k := 8) rfl (m_inc k 1) (by decide) rfl (fun ls hl => ?_)
                                refine lv_goto (tgt := 61) hx hb dX7_says_275 (by decide) ?_
                                exact ih_61  (n - 1) (k + 1) V_91 _ _ _ (by omega) (by omega) (by intro a ha; rw [eV_91, mU_no _ _ ha]; exact hfr a ha) (by first | (exfalso; omega) | skip; rw [eV_91, mU_row, evX_s (by omega)]; first | exact hR.push (by first | exact Int32.not_lt.mp (by assumption) | assumption) (by omega) | exact hR.nm (by intro h; first | exact absurd h.1 (Int32.not_le.mpr (by assumption)) | exact absurd h.2 (by omega)) (by assumption) (by omega) eix hix | exact hR.nt0 (by intro h; first | exact absurd h.1 (Int32.not_le.mpr (by assumption)) | exact absurd h.2 (by omega)) (by intro h; first | exact absurd h.1 (by assumption) | exact absurd h.2 (by omega)) (by assumption) (by omega) (by assumption) | exact hR.nt1 (by intro h; first | exact absurd h.1 (Int32.not_le.mpr (by assumption)) | exact absurd h.2 (by omega)) (by intro h; first | exact absurd h.1 (by assumption) | exact absurd h.2 (by omega)) (by assumption) (by omega) (by assumption) | exact hR.ng (by intro h; first | exact absurd h.1 (Int32.not_le.mpr (by assumption)) | exact absurd h.2 (by omega)) (by intro h; first | exact absurd h.1 (by assumption) | exact absurd h.2 (by omega)) (by assumption) (by omega) | exact hR.jn (by intro h; first | exact absurd h.1 (Int32.not_le.mpr (by assumption)) | exact absurd h.2 (by omega)) (by intro h; first | exact absurd h.1 (by assumption) | exact absurd h.2 (by omega)) (by intro h; first | exact absurd h.1 (by assumption) | exact absurd h.2 (by omega)) (by intro h; first | exact absurd h.1 (by assumption) | exact absurd h.2 (by omega)) (by omega)) (by omega) hW (lv_sub hl [4, 5, 6, 7, 8, 1, 0] rfl)
                            · skip
                              refine lv_iload hx hb dX7_says_206 (lv_at hl 7 rfl) ?_
                              refine m_if_le (tgt := 233) hx hb dX7_says_208 (by decide) (fun c_92 => ?_) (fun c_92 => ?_)
                              · skip
                                have c_92 : n ≤ 0 := (nI_leI (by omega) (by omega)).mp c_92
                                refine lv_iload hx hb dX7_says_233 (lv_at hl 7 rfl) ?_
                                refine lv_iconst (v := nI 1) hx hb dX7_says_235 (by decide) ?_
                                refine lv_icmp_le (tgt := 272) hx hb dX7_says_236 (by decide) (fun c_93 => ?_) (fun c_93 => ?_)
                                · skip
                                  have c_93 : n ≤ 1 := (nI_leI (by omega) (by omega)).mp c_93
                                  refine lv_iinc (v := nI (k + 1)) (lv' := [(6, .int (nI (k + 1))), (8, .int ((-(V (t + 1) k)) - (nI 2))), (7, .int (V (t + 1) k)), (4, .int (nI tb)), (3, .int (nI ta)), (0, .ref (ad t)), (1, .int (nI 1)), (2, .ref (ad no)), (5, .int (nI n))]) hx hb dX7_says_272 hl (k := 8) rfl (m_inc k 1) (by decide) rfl (fun ls hl => ?_)
                                  refine lv_goto (tgt := 61) hx hb dX7_says_275 (by decide) ?_
                                  exact ih_61  n (k + 1) V1 _ _ _ (by omega) (by omega) (by exact hfr) (by rw [evX_s (by omega)]; exact hR.no (by intro h; first | exact absurd h.1 (Int32.not_le.mpr (by assumption)) | exact absurd h.2 (by omega)) (by intro h; first | exact absurd h.1 (by assumption) | exact absurd h.2 (by omega)) (by intro h; first | exact absurd h.1 (by assumption) | exact absurd h.2 (by omega)) (by intro h; first | exact absurd h.1 (by assumption) | exact absurd h.2 (by omega)) (by omega)) (by omega) hW (lv_sub hl [3, 4, 5, 6, 7, 8, 0] rfl)
                                · skip
                                  have c_93 : ¬ n ≤ 1 := mt (nI_leI (by omega) (by omega)).mpr c_93
                                  refine lv_iinc (v := nI (n - 1)) (lv' := [(5, .int (nI (n - 1))), (8, .int ((-(V (t + 1) k)) - (nI 2))), (7, .int (V (t + 1) k)), (4, .int (nI tb)), (3, .int (nI ta)), (0, .ref (ad t)), (1, .int (nI 1)), (2, .ref (ad no)), (6, .int (nI k))]) hx hb dX7_says_239 hl (k := 7) rfl (m_dec n 1 (by omega)) (by decide) rfl (fun ls hl => ?_)
                                  refine lv_aload_n hx hb dX7_says_242 rfl (lv_at hl 5 rfl) ?_
                                  refine m_getr S hW gt 4 rfl (j := (t + 2)) rfl kX7 (iW7 _) (by decide) (List.mem_cons_of_mem _ (wa_9 _ (List.mem_of_getElem? (i := 9) (by decide +kernel)))) dX7_says_243 ?_
                                  refine lv_iload hx hb dX7_says_246 (lv_at hl 0 rfl) ?_
                                  refine lv_iconst (v := nI 1) hx hb dX7_says_248 (by decide) ?_
                                  refine lv_isub hx hb dX7_says_249 ?_
                                  refine m_top (y := nI ((n - 1) - 1)) (pk_sub (by omega)) ?_
                                  refine lv_iload hx hb dX7_says_250 (lv_at hl 2 rfl) ?_
                                  refine lv_aload_n hx hb dX7_says_252 rfl (lv_at hl 5 rfl) ?_
                                  refine m_getr S hW gt 4 rfl (j := (t + 2)) rfl kX7 (iW7 _) (by decide) (List.mem_cons_of_mem _ (wa_9 _ (List.mem_of_getElem? (i := 9) (by decide +kernel)))) dX7_says_253 ?_
                                  refine lv_iload hx hb dX7_says_256 (lv_at hl 0 rfl) ?_
                                  refine lv_iconst (v := nI 1) hx hb dX7_says_258 (by decide) ?_
                                  refine lv_isub hx hb dX7_says_259 ?_
                                  refine m_top (y := nI ((n - 1) - 1)) (pk_sub (by omega)) ?_
                                  refine m_iald S hW gt2 ((n - 1) - 1) rfl (by omega) (by decide) dX7_says_260 ?_
                                  refine m_top (y := (evX (V no) (V (t + 1)) ta (k - ta)).2 (n - 1 - 1)) (hR.2 _ (by omega)) ?_
                                  refine lv_aload_n hx hb dX7_says_261 rfl (lv_at hl 5 rfl) ?_
                                  refine m_getr S hW gt 4 rfl (j := (t + 2)) rfl kX7 (iW7 _) (by decide) (List.mem_cons_of_mem _ (wa_9 _ (List.mem_of_getElem? (i := 9) (by decide +kernel)))) dX7_says_262 ?_
                                  refine lv_iload hx hb dX7_says_265 (lv_at hl 0 rfl) ?_
                                  refine m_iald S hW gt2 (n - 1) rfl (by omega) (by decide) dX7_says_267 ?_
                                  refine m_top (y := (evX (V no) (V (t + 1)) ta (k - ta)).2 (n - 1)) (hR.2 _ (by omega)) ?_
                                  refine m_cie (m_rS S hW (c_X7_join l G ad sh1 V1 (V (t + 1) k) ((evX (V no) (V (t + 1)) ta (k - ta)).2 (n - 1 - 1)) ((evX (V no) (V (t + 1)) ta (k - ta)).2 (n - 1))) (va_cwS 3 hts (gCall [.methodLink RX7 34 yX7_join, .static yX7_join, .initialized RX7] (List.forall_mem_cons.mpr ⟨(wa_18 _ (List.mem_of_getElem? (i := 19) (by decide +kernel))), (List.forall_mem_cons.mpr ⟨(wa_18 _ (List.mem_of_getElem? (i := 17) (by decide +kernel))), (List.forall_mem_cons.mpr ⟨(wa_18 _ (List.mem_of_getElem? (i := 18) (by decide +kernel))), (List.forall_mem_cons.mpr ⟨(wa_9 _ (List.mem_of_getElem? (i := 4) (by decide +kernel))), (fun _ h => absurd h List.not_mem_nil)⟩)⟩)⟩)⟩)) rfl rfl rfl (by decide +kernel) ⟨Nat.le_of_ble_eq_true rfl, Nat.le_of_ble_eq_true rfl⟩) rfl hl.1 rfl (Nat.le_of_ble_eq_true rfl) dX7_says_268 ⟨Nat.le_of_ble_eq_true rfl, Nat.le_of_ble_eq_true rfl⟩) hW (fun H locs hW => ?_)
                                  refine m_iast S hW gt2 ((n - 1) - 1) rfl (by omega) (by decide) dX7_says_271 (fun H locs hW => ?_)
                                  obtain ⟨V_94, eV_94⟩ : ∃ z : mV, z = mU V1 (t + 2) ((n - 1) - 1) (fJoin (V (t + 1) k) ((evX (V no) (V (t + 1)) ta (k - ta)).2 (n - 1 - 1)) ((evX (V no) (V (t + 1)) ta (k - ta)).2 (n - 1))) := ⟨_, rfl⟩
                                  rw [← eV_94] at hW
                                  refine lv_iinc (v := nI (k + 1)) (lv' := [(6, .int (nI (k + 1))), (5, .int (nI (n - 1))), (8, .int ((-(V (t + 1) k)) - (nI 2))), (7, .int (V (t + 1) k)), (4, .int (nI tb)), (3, .int (nI ta)), (0, .ref (ad t)), (1, .int (nI 1)), (2, .ref (ad no))]) hx hb dX7_says_272 hl (k := 8) rfl (m_inc k 1) (by decide) rfl (fun ls hl => ?_)
                                  refine lv_goto (tgt := 61) hx hb dX7_says_275 (by decide) ?_
                                  exact ih_61  (n - 1) (k + 1) V_94 _ _ _ (by omega) (by omega) (by intro a ha; rw [eV_94, mU_no _ _ ha]; exact hfr a ha) (by first | (exfalso; omega) | skip; rw [eV_94, mU_row, evX_s (by omega)]; first | exact hR.push (by first | exact Int32.not_lt.mp (by assumption) | assumption) (by omega) | exact hR.nm (by intro h; first | exact absurd h.1 (Int32.not_le.mpr (by assumption)) | exact absurd h.2 (by omega)) (by assumption) (by omega) eix hix | exact hR.nt0 (by intro h; first | exact absurd h.1 (Int32.not_le.mpr (by assumption)) | exact absurd h.2 (by omega)) (by intro h; first | exact absurd h.1 (by assumption) | exact absurd h.2 (by omega)) (by assumption) (by omega) (by assumption) | exact hR.nt1 (by intro h; first | exact absurd h.1 (Int32.not_le.mpr (by assumption)) | exact absurd h.2 (by omega)) (by intro h; first | exact absurd h.1 (by assumption) | exact absurd h.2 (by omega)) (by assumption) (by omega) (by assumption) | exact hR.ng (by intro h; first | exact absurd h.1 (Int32.not_le.mpr (by assumption)) | exact absurd h.2 (by omega)) (by intro h; first | exact absurd h.1 (by assumption) | exact absurd h.2 (by omega)) (by assumption) (by omega) | exact hR.jn (by intro h; first | exact absurd h.1 (Int32.not_le.mpr (by assumption)) | exact absurd h.2 (by omega)) (by intro h; first | exact absurd h.1 (by assumption) | exact absurd h.2 (by omega)) (by intro h; first | exact absurd h.1 (by assumption) | exact absurd h.2 (by omega)) (by intro h; first | exact absurd h.1 (by assumption) | exact absurd h.2 (by omega)) (by omega)) (by omega) hW (lv_sub hl [4, 5, 6, 7, 8, 1, 0] rfl)
                              · skip
                                have c_92 : ¬ n ≤ 0 := mt (nI_leI (by omega) (by omega)).mpr c_92
                                refine lv_aload_n hx hb dX7_says_211 rfl (lv_at hl 4 rfl) ?_
                                refine m_getr S hW gt 4 rfl (j := (t + 2)) rfl kX7 (iW7 _) (by decide) (List.mem_cons_of_mem _ (wa_9 _ (List.mem_of_getElem? (i := 9) (by decide +kernel)))) dX7_says_212 ?_
                                refine lv_iload hx hb dX7_says_215 (lv_at hl 7 rfl) ?_
                                refine lv_iconst (v := nI 1) hx hb dX7_says_217 (by decide) ?_
                                refine lv_isub hx hb dX7_says_218 ?_
                                refine m_top (y := nI (n - 1)) (pk_sub (by omega)) ?_
                                refine lv_aload_n hx hb dX7_says_219 rfl (lv_at hl 4 rfl) ?_
                                refine m_getr S hW gt 4 rfl (j := (t + 2)) rfl kX7 (iW7 _) (by decide) (List.mem_cons_of_mem _ (wa_9 _ (List.mem_of_getElem? (i := 9) (by decide +kernel)))) dX7_says_220 ?_
                                refine lv_iload hx hb dX7_says_223 (lv_at hl 7 rfl) ?_
                                refine lv_iconst (v := nI 1) hx hb dX7_says_225 (by decide) ?_
                                refine lv_isub hx hb dX7_says_226 ?_
                                refine m_top (y := nI (n - 1)) (pk_sub (by omega)) ?_
                                refine m_iald S hW gt2 (n - 1) rfl (by omega) (by decide) dX7_says_227 ?_
                                refine m_top (y := (evX (V no) (V (t + 1)) ta (k - ta)).2 (n - 1)) (hR.2 _ (by omega)) ?_
                                refine lv_ineg hx hb dX7_says_228 ?_
                                refine m_iast S hW gt2 (n - 1) rfl (by omega) (by decide) dX7_says_229 (fun H locs hW => ?_)
                                obtain ⟨V_95, eV_95⟩ : ∃ z : mV, z = mU V1 (t + 2) (n - 1) ((-((evX (V no) (V (t + 1)) ta (k - ta)).2 (n - 1)))) := ⟨_, rfl⟩
                                rw [← eV_95] at hW
                                refine lv_goto (tgt := 272) hx hb dX7_says_230 (by decide) ?_
                                refine lv_iinc (v := nI (k + 1)) (lv' := [(6, .int (nI (k + 1))), (8, .int ((-(V (t + 1) k)) - (nI 2))), (7, .int (V (t + 1) k)), (4, .int (nI tb)), (3, .int (nI ta)), (0, .ref (ad t)), (1, .int (nI 1)), (2, .ref (ad no)), (5, .int (nI n))]) hx hb dX7_says_272 hl (k := 8) rfl (m_inc k 1) (by decide) rfl (fun ls hl => ?_)
                                refine lv_goto (tgt := 61) hx hb dX7_says_275 (by decide) ?_
                                exact ih_61  n (k + 1) V_95 _ _ _ (by omega) (by omega) (by intro a ha; rw [eV_95, mU_no _ _ ha]; exact hfr a ha) (by first | (exfalso; omega) | skip; rw [eV_95, mU_row, evX_s (by omega)]; first | exact hR.push (by first | exact Int32.not_lt.mp (by assumption) | assumption) (by omega) | exact hR.nm (by intro h; first | exact absurd h.1 (Int32.not_le.mpr (by assumption)) | exact absurd h.2 (by omega)) (by assumption) (by omega) eix hix | exact hR.nt0 (by intro h; first | exact absurd h.1 (Int32.not_le.mpr (by assumption)) | exact absurd h.2 (by omega)) (by intro h; first | exact absurd h.1 (by assumption) | exact absurd h.2 (by omega)) (by assumption) (by omega) (by assumption) | exact hR.nt1 (by intro h; first | exact absurd h.1 (Int32.not_le.mpr (by assumption)) | exact absurd h.2 (by omega)) (by intro h; first | exact absurd h.1 (by assumption) | exact absurd h.2 (by omega)) (by assumption) (by omega) (by assumption) | exact hR.ng (by intro h; first | exact absurd h.1 (Int32.not_le.mpr (by assumption)) | exact absurd h.2 (by omega)) (by intro h; first | exact absurd h.1 (by assumption) | exact absurd h.2 (by omega)) (by assumption) (by omega) | exact hR.jn (by intro h; first | exact absurd h.1 (Int32.not_le.mpr (by assumption)) | exact absurd h.2 (by omega)) (by intro h; first | exact absurd h.1 (by assumption) | exact absurd h.2 (by omega)) (by intro h; first | exact absurd h.1 (by assumption) | exact absurd h.2 (by omega)) (by intro h; first | exact absurd h.1 (by assumption) | exact absurd h.2 (by omega)) (by omega)) (by omega) hW (lv_sub hl [3, 4, 5, 6, 7, 8, 0] rfl)
                          · skip
                            refine lv_iload hx hb dX7_says_165 (lv_at hl 7 rfl) ?_
                            refine m_if_le (tgt := 199) hx hb dX7_says_167 (by decide) (fun c_96 => ?_) (fun c_96 => ?_)
                            · skip
                              have c_96 : n ≤ 0 := (nI_leI (by omega) (by omega)).mp c_96
                              refine lv_iload hx hb dX7_says_199 (lv_at hl 1 rfl) ?_
                              refine lv_bipush (v := -14) hx hb dX7_says_201 (by decide) ?_
                              refine lv_icmp_ne (tgt := 233) hx hb dX7_says_203 (by decide) (fun c_97 => ?_) (fun c_97 => ?_)
                              · skip
                                refine lv_iload hx hb dX7_says_233 (lv_at hl 7 rfl) ?_
                                refine lv_iconst (v := nI 1) hx hb dX7_says_235 (by decide) ?_
                                refine lv_icmp_le (tgt := 272) hx hb dX7_says_236 (by decide) (fun c_98 => ?_) (fun c_98 => ?_)
                                · skip
                                  have c_98 : n ≤ 1 := (nI_leI (by omega) (by omega)).mp c_98
                                  refine lv_iinc (v := nI (k + 1)) (lv' := [(6, .int (nI (k + 1))), (8, .int ((-(V (t + 1) k)) - (nI 2))), (7, .int (V (t + 1) k)), (4, .int (nI tb)), (3, .int (nI ta)), (0, .ref (ad t)), (1, .int (nI 1)), (2, .ref (ad no)), (5, .int (nI n))]) hx hb dX7_says_272 hl (k := 8) rfl (m_inc k 1) (by decide) rfl (fun ls hl => ?_)
                                  refine lv_goto (tgt := 61) hx hb dX7_says_275 (by decide) ?_
                                  exact ih_61  n (k + 1) V1 _ _ _ (by omega) (by omega) (by exact hfr) (by rw [evX_s (by omega)]; exact hR.no (by intro h; first | exact absurd h.1 (Int32.not_le.mpr (by assumption)) | exact absurd h.2 (by omega)) (by intro h; first | exact absurd h.1 (by assumption) | exact absurd h.2 (by omega)) (by intro h; first | exact absurd h.1 (by assumption) | exact absurd h.2 (by omega)) (by intro h; first | exact absurd h.1 (by assumption) | exact absurd h.2 (by omega)) (by omega)) (by omega) hW (lv_sub hl [3, 4, 5, 6, 7, 8, 0] rfl)
                                · skip
                                  have c_98 : ¬ n ≤ 1 := mt (nI_leI (by omega) (by omega)).mpr c_98
                                  refine lv_iinc (v := nI (n - 1)) (lv' := [(5, .int (nI (n - 1))), (8, .int ((-(V (t + 1) k)) - (nI 2))), (7, .int (V (t + 1) k)), (4, .int (nI tb)), (3, .int (nI ta)), (0, .ref (ad t)), (1, .int (nI 1)), (2, .ref (ad no)), (6, .int (nI k))]) hx hb dX7_says_239 hl (k := 7) rfl (m_dec n 1 (by omega)) (by decide) rfl (fun ls hl => ?_)
                                  refine lv_aload_n hx hb dX7_says_242 rfl (lv_at hl 5 rfl) ?_
                                  refine m_getr S hW gt 4 rfl (j := (t + 2)) rfl kX7 (iW7 _) (by decide) (List.mem_cons_of_mem _ (wa_9 _ (List.mem_of_getElem? (i := 9) (by decide +kernel)))) dX7_says_243 ?_
                                  refine lv_iload hx hb dX7_says_246 (lv_at hl 0 rfl) ?_
                                  refine lv_iconst (v := nI 1) hx hb dX7_says_248 (by decide) ?_
                                  refine lv_isub hx hb dX7_says_249 ?_
                                  refine m_top (y := nI ((n - 1) - 1)) (pk_sub (by omega)) ?_
                                  refine lv_iload hx hb dX7_says_250 (lv_at hl 2 rfl) ?_
                                  refine lv_aload_n hx hb dX7_says_252 rfl (lv_at hl 5 rfl) ?_
                                  refine m_getr S hW gt 4 rfl (j := (t + 2)) rfl kX7 (iW7 _) (by decide) (List.mem_cons_of_mem _ (wa_9 _ (List.mem_of_getElem? (i := 9) (by decide +kernel)))) dX7_says_253 ?_
                                  refine lv_iload hx hb dX7_says_256 (lv_at hl 0 rfl) ?_
                                  refine lv_iconst (v := nI 1) hx hb dX7_says_258 (by decide) ?_
                                  refine lv_isub hx hb dX7_says_259 ?_
                                  refine m_top (y := nI ((n - 1) - 1)) (pk_sub (by omega)) ?_
                                  refine m_iald S hW gt2 ((n - 1) - 1) rfl (by omega) (by decide) dX7_says_260 ?_
                                  refine m_top (y := (evX (V no) (V (t + 1)) ta (k - ta)).2 (n - 1 - 1)) (hR.2 _ (by omega)) ?_
                                  refine lv_aload_n hx hb dX7_says_261 rfl (lv_at hl 5 rfl) ?_
                                  refine m_getr S hW gt 4 rfl (j := (t + 2)) rfl kX7 (iW7 _) (by decide) (List.mem_cons_of_mem _ (wa_9 _ (List.mem_of_getElem? (i := 9) (by decide +kernel)))) dX7_says_262 ?_
                                  refine lv_iload hx hb dX7_says_265 (lv_at hl 0 rfl) ?_
                                  refine m_iald S hW gt2 (n - 1) rfl (by omega) (by decide) dX7_says_267 ?_
                                  refine m_top (y := (evX (V no) (V (t + 1)) ta (k - ta)).2 (n - 1)) (hR.2 _ (by omega)) ?_
                                  refine m_cie (m_rS S hW (c_X7_join l G ad sh1 V1 (V (t + 1) k) ((evX (V no) (V (t + 1)) ta (k - ta)).2 (n - 1 - 1)) ((evX (V no) (V (t + 1)) ta (k - ta)).2 (n - 1))) (va_cwS 3 hts (gCall [.methodLink RX7 34 yX7_join, .static yX7_join, .initialized RX7] (List.forall_mem_cons.mpr ⟨(wa_18 _ (List.mem_of_getElem? (i := 19) (by decide +kernel))), (List.forall_mem_cons.mpr ⟨(wa_18 _ (List.mem_of_getElem? (i := 17) (by decide +kernel))), (List.forall_mem_cons.mpr ⟨(wa_18 _ (List.mem_of_getElem? (i := 18) (by decide +kernel))), (List.forall_mem_cons.mpr ⟨(wa_9 _ (List.mem_of_getElem? (i := 4) (by decide +kernel))), (fun _ h => absurd h List.not_mem_nil)⟩)⟩)⟩)⟩)) rfl rfl rfl (by decide +kernel) ⟨Nat.le_of_ble_eq_true rfl, Nat.le_of_ble_eq_true rfl⟩) rfl hl.1 rfl (Nat.le_of_ble_eq_true rfl) dX7_says_268 ⟨Nat.le_of_ble_eq_true rfl, Nat.le_of_ble_eq_true rfl⟩) hW (fun H locs hW => ?_)
                                  refine m_iast S hW gt2 ((n - 1) - 1) rfl (by omega) (by decide) dX7_says_271 (fun H locs hW => ?_)
                                  obtain ⟨V_99, eV_99⟩ : ∃ z : mV, z = mU V1 (t + 2) ((n - 1) - 1) (fJoin (V (t + 1) k) ((evX (V no) (V (t + 1)) ta (k - ta)).2 (n - 1 - 1)) ((evX (V no) (V (t + 1)) ta (k - ta)).2 (n - 1))) := ⟨_, rfl⟩
                                  rw [← eV_99] at hW
                                  refine lv_iinc (v := nI (k + 1)) (lv' := [(6, .int (nI (k + 1))), (5, .int (nI (n - 1))), (8, .int ((-(V (t + 1) k)) - (nI 2))), (7, .int (V (t + 1) k)), (4, .int (nI tb)), (3, .int (nI ta)), (0, .ref (ad t)), (1, .int (nI 1)), (2, .ref (ad no))]) hx hb dX7_says_272 hl (k := 8) rfl (m_inc k 1) (by decide) rfl (fun ls hl => ?_)
                                  refine lv_goto (tgt := 61) hx hb dX7_says_275 (by decide) ?_
                                  exact ih_61  (n - 1) (k + 1) V_99 _ _ _ (by omega) (by omega) (by intro a ha; rw [eV_99, mU_no _ _ ha]; exact hfr a ha) (by first | (exfalso; omega) | skip; rw [eV_99, mU_row, evX_s (by omega)]; first | exact hR.push (by first | exact Int32.not_lt.mp (by assumption) | assumption) (by omega) | exact hR.nm (by intro h; first | exact absurd h.1 (Int32.not_le.mpr (by assumption)) | exact absurd h.2 (by omega)) (by assumption) (by omega) eix hix | exact hR.nt0 (by intro h; first | exact absurd h.1 (Int32.not_le.mpr (by assumption)) | exact absurd h.2 (by omega)) (by intro h; first | exact absurd h.1 (by assumption) | exact absurd h.2 (by omega)) (by assumption) (by omega) (by assumption) | exact hR.nt1 (by intro h; first | exact absurd h.1 (Int32.not_le.mpr (by assumption)) | exact absurd h.2 (by omega)) (by intro h; first | exact absurd h.1 (by assumption) | exact absurd h.2 (by omega)) (by assumption) (by omega) (by assumption) | exact hR.ng (by intro h; first | exact absurd h.1 (Int32.not_le.mpr (by assumption)) | exact absurd h.2 (by omega)) (by intro h; first | exact absurd h.1 (by assumption) | exact absurd h.2 (by omega)) (by assumption) (by omega) | exact hR.jn (by intro h; first | exact absurd h.1 (Int32.not_le.mpr (by assumption)) | exact absurd h.2 (by omega)) (by intro h; first | exact absurd h.1 (by assumption) | exact absurd h.2 (by omega)) (by intro h; first | exact absurd h.1 (by assumption) | exact absurd h.2 (by omega)) (by intro h; first | exact absurd h.1 (by assumption) | exact absurd h.2 (by omega)) (by omega)) (by omega) hW (lv_sub hl [4, 5, 6, 7, 8, 1, 0] rfl)
                              · skip
                                refine lv_iload hx hb dX7_says_206 (lv_at hl 7 rfl) ?_
                                refine m_if_le (tgt := 233) hx hb dX7_says_208 (by decide) (fun c_100 => ?_) (fun c_100 => ?_)
                                · skip
                                  have c_100 : n ≤ 0 := (nI_leI (by omega) (by omega)).mp c_100
                                  refine lv_iload hx hb dX7_says_233 (lv_at hl 7 rfl) ?_
                                  refine lv_iconst (v := nI 1) hx hb dX7_says_235 (by decide) ?_
                                  refine lv_icmp_le (tgt := 272) hx hb dX7_says_236 (by decide) (fun c_101 => ?_) (fun c_101 => ?_)
                                  · skip
                                    have c_101 : n ≤ 1 := (nI_leI (by omega) (by omega)).mp c_101
                                    refine lv_iinc (v := nI (k + 1)) (lv' := [(6, .int (nI (k + 1))), (8, .int ((-(V (t + 1) k)) - (nI 2))), (7, .int (V (t + 1) k)), (4, .int (nI tb)), (3, .int (nI ta)), (0, .ref (ad t)), (1, .int (nI 1)), (2, .ref (ad no)), (5, .int (nI n))]) hx hb dX7_says_272 hl (k := 8) rfl (m_inc k 1) (by decide) rfl (fun ls hl => ?_)
                                    refine lv_goto (tgt := 61) hx hb dX7_says_275 (by decide) ?_
                                    exact ih_61  n (k + 1) V1 _ _ _ (by omega) (by omega) (by exact hfr) (by rw [evX_s (by omega)]; exact hR.no (by intro h; first | exact absurd h.1 (Int32.not_le.mpr (by assumption)) | exact absurd h.2 (by omega)) (by intro h; first | exact absurd h.1 (by assumption) | exact absurd h.2 (by omega)) (by intro h; first | exact absurd h.1 (by assumption) | exact absurd h.2 (by omega)) (by intro h; first | exact absurd h.1 (by assumption) | exact absurd h.2 (by omega)) (by omega)) (by omega) hW (lv_sub hl [3, 4, 5, 6, 7, 8, 0] rfl)
                                  · skip
                                    have c_101 : ¬ n ≤ 1 := mt (nI_leI (by omega) (by omega)).mpr c_101
                                    refine lv_iinc (v := nI (n - 1)) (lv' := [(5, .int (nI (n - 1))), (8, .int ((-(V (t + 1) k)) - (nI 2))), (7, .int (V (t + 1) k)), (4, .int (nI tb)), (3, .int (nI ta)), (0, .ref (ad t)), (1, .int (nI 1)), (2, .ref (ad no)), (6, .int (nI k))]) hx hb dX7_says_239 hl (k := 7) rfl (m_dec n 1 (by omega)) (by decide) rfl (fun ls hl => ?_)
                                    refine lv_aload_n hx hb dX7_says_242 rfl (lv_at hl 5 rfl) ?_
                                    refine m_getr S hW gt 4 rfl (j := (t + 2)) rfl kX7 (iW7 _) (by decide) (List.mem_cons_of_mem _ (wa_9 _ (List.mem_of_getElem? (i := 9) (by decide +kernel)))) dX7_says_243 ?_
                                    refine lv_iload hx hb dX7_says_246 (lv_at hl 0 rfl) ?_
                                    refine lv_iconst (v := nI 1) hx hb dX7_says_248 (by decide) ?_
                                    refine lv_isub hx hb dX7_says_249 ?_
                                    refine m_top (y := nI ((n - 1) - 1)) (pk_sub (by omega)) ?_
                                    refine lv_iload hx hb dX7_says_250 (lv_at hl 2 rfl) ?_
                                    refine lv_aload_n hx hb dX7_says_252 rfl (lv_at hl 5 rfl) ?_
                                    refine m_getr S hW gt 4 rfl (j := (t + 2)) rfl kX7 (iW7 _) (by decide) (List.mem_cons_of_mem _ (wa_9 _ (List.mem_of_getElem? (i := 9) (by decide +kernel)))) dX7_says_253 ?_
                                    refine lv_iload hx hb dX7_says_256 (lv_at hl 0 rfl) ?_
                                    refine lv_iconst (v := nI 1) hx hb dX7_says_258 (by decide) ?_
                                    refine lv_isub hx hb dX7_says_259 ?_
                                    refine m_top (y := nI ((n - 1) - 1)) (pk_sub (by omega)) ?_
                                    refine m_iald S hW gt2 ((n - 1) - 1) rfl (by omega) (by decide) dX7_says_260 ?_
                                    refine m_top (y := (evX (V no) (V (t + 1)) ta (k - ta)).2 (n - 1 - 1)) (hR.2 _ (by omega)) ?_
                                    refine lv_aload_n hx hb dX7_says_261 rfl (lv_at hl 5 rfl) ?_
                                    refine m_getr S hW gt 4 rfl (j := (t + 2)) rfl kX7 (iW7 _) (by decide) (List.mem_cons_of_mem _ (wa_9 _ (List.mem_of_getElem? (i := 9) (by decide +kernel)))) dX7_says_262 ?_
                                    refine lv_iload hx hb dX7_says_265 (lv_at hl 0 rfl) ?_
                                    refine m_iald S hW gt2 (n - 1) rfl (by omega) (by decide) dX7_says_267 ?_
                                    refine m_top (y := (evX (V no) (V (t + 1)) ta (k - ta)).2 (n - 1)) (hR.2 _ (by omega)) ?_
                                    refine m_cie (m_rS S hW (c_X7_join l G ad sh1 V1 (V (t + 1) k) ((evX (V no) (V (t + 1)) ta (k - ta)).2 (n - 1 - 1)) ((evX (V no) (V (t + 1)) ta (k - ta)).2 (n - 1))) (va_cwS 3 hts (gCall [.methodLink RX7 34 yX7_join, .static yX7_join, .initialized RX7] (List.forall_mem_cons.mpr ⟨(wa_18 _ (List.mem_of_getElem? (i := 19) (by decide +kernel))), (List.forall_mem_cons.mpr ⟨(wa_18 _ (List.mem_of_getElem? (i := 17) (by decide +kernel))), (List.forall_mem_cons.mpr ⟨(wa_18 _ (List.mem_of_getElem? (i := 18) (by decide +kernel))), (List.forall_mem_cons.mpr ⟨(wa_9 _ (List.mem_of_getElem? (i := 4) (by decide +kernel))), (fun _ h => absurd h List.not_mem_nil)⟩)⟩)⟩)⟩)) rfl rfl rfl (by decide +kernel) ⟨Nat.le_of_ble_eq_true rfl, Nat.le_of_ble_eq_true rfl⟩) rfl hl.1 rfl (Nat.le_of_ble_eq_true rfl) dX7_says_268 ⟨Nat.le_of_ble_eq_true rfl, Nat.le_of_ble_eq_true rfl⟩) hW (fun H locs hW => ?_)
                                    refine m_iast S hW gt2 ((n - 1) - 1) rfl (by omega) (by decide) dX7_says_271 (fun H locs hW => ?_)
                                    obtain ⟨V_102, eV_102⟩ : ∃ z : mV, z = mU V1 (t + 2) ((n - 1) - 1) (fJoin (V (t + 1) k) ((evX (V no) (V (t + 1)) ta (k - ta)).2 (n - 1 - 1)) ((evX (V no) (V (t + 1)) ta (k - ta)).2 (n - 1))) := ⟨_, rfl⟩
                                    rw [← eV_102] at hW
                                    refine lv_iinc (v := nI (k + 1)) (lv' := [(6, .int (nI (k + 1))), (5, .int (nI (n - 1))), (8, .int ((-(V (t + 1) k)) - (nI 2))), (7, .int (V (t + 1) k)), (4, .int (nI tb)), (3, .int (nI ta)), (0, .ref (ad t)), (1, .int (nI 1)), (2, .ref (ad no))]) hx hb dX7_says_272 hl (k := 8) rfl (m_inc k 1) (by decide) rfl (fun ls hl => ?_)
                                    refine lv_goto (tgt := 61) hx hb dX7_says_275 (by decide) ?_
                                    exact ih_61  (n - 1) (k + 1) V_102 _ _ _ (by omega) (by omega) (by intro a ha; rw [eV_102, mU_no _ _ ha]; exact hfr a ha) (by first | (exfalso; omega) | skip; rw [eV_102, mU_row, evX_s (by omega)]; first | exact hR.push (by first | exact Int32.not_lt.mp (by assumption) | assumption) (by omega) | exact hR.nm (by intro h; first | exact absurd h.1 (Int32.not_le.mpr (by assumption)) | exact absurd h.2 (by omega)) (by assumption) (by omega) eix hix | exact hR.nt0 (by intro h; first | exact absurd h.1 (Int32.not_le.mpr (by assumption)) | exact absurd h.2 (by omega)) (by intro h; first | exact absurd h.1 (by assumption) | exact absurd h.2 (by omega)) (by assumption) (by omega) (by assumption) | exact hR.nt1 (by intro h; first | exact absurd h.1 (Int32.not_le.mpr (by assumption)) | exact absurd h.2 (by omega)) (by intro h; first | exact absurd h.1 (by assumption) | exact absurd h.2 (by omega)) (by assumption) (by omega) (by assumption) | exact hR.ng (by intro h; first | exact absurd h.1 (Int32.not_le.mpr (by assumption)) | exact absurd h.2 (by omega)) (by intro h; first | exact absurd h.1 (by assumption) | exact absurd h.2 (by omega)) (by assumption) (by omega) | exact hR.jn (by intro h; first | exact absurd h.1 (Int32.not_le.mpr (by assumption)) | exact absurd h.2 (by omega)) (by intro h; first | exact absurd h.1 (by assumption) | exact absurd h.2 (by omega)) (by intro h; first | exact absurd h.1 (by assumption) | exact absurd h.2 (by omega)) (by intro h; first | exact absurd h.1 (by assumption) | exact absurd h.2 (by omega)) (by omega)) (by omega) hW (lv_sub hl [4, 5, 6, 7, 8, 1, 0] rfl)
                                · skip
                                  have c_100 : ¬ n ≤ 0 := mt (nI_leI (by omega) (by omega)).mpr c_100
                                  refine lv_aload_n hx hb dX7_says_211 rfl (lv_at hl 4 rfl) ?_
                                  refine m_getr S hW gt 4 rfl (j := (t + 2)) rfl kX7 (iW7 _) (by decide) (List.mem_cons_of_mem _ (wa_9 _ (List.mem_of_getElem? (i := 9) (by decide +kernel)))) dX7_says_212 ?_
                                  refine lv_iload hx hb dX7_says_215 (lv_at hl 7 rfl) ?_
                                  refine lv_iconst (v := nI 1) hx hb dX7_says_217 (by decide) ?_
                                  refine lv_isub hx hb dX7_says_218 ?_
                                  refine m_top (y := nI (n - 1)) (pk_sub (by omega)) ?_
                                  refine lv_aload_n hx hb dX7_says_219 rfl (lv_at hl 4 rfl) ?_
                                  refine m_getr S hW gt 4 rfl (j := (t + 2)) rfl kX7 (iW7 _) (by decide) (List.mem_cons_of_mem _ (wa_9 _ (List.mem_of_getElem? (i := 9) (by decide +kernel)))) dX7_says_220 ?_
                                  refine lv_iload hx hb dX7_says_223 (lv_at hl 7 rfl) ?_
                                  refine lv_iconst (v := nI 1) hx hb dX7_says_225 (by decide) ?_
                                  refine lv_isub hx hb dX7_says_226 ?_
                                  refine m_top (y := nI (n - 1)) (pk_sub (by omega)) ?_
                                  refine m_iald S hW gt2 (n - 1) rfl (by omega) (by decide) dX7_says_227 ?_
                                  refine m_top (y := (evX (V no) (V (t + 1)) ta (k - ta)).2 (n - 1)) (hR.2 _ (by omega)) ?_
                                  refine lv_ineg hx hb dX7_says_228 ?_
                                  refine m_iast S hW gt2 (n - 1) rfl (by omega) (by decide) dX7_says_229 (fun H locs hW => ?_)
                                  obtain ⟨V_103, eV_103⟩ : ∃ z : mV, z = mU V1 (t + 2) (n - 1) ((-((evX (V no) (V (t + 1)) ta (k - ta)).2 (n - 1)))) := ⟨_, rfl⟩
                                  rw [← eV_103] at hW
                                  refine lv_goto (tgt := 272) hx hb dX7_says_230 (by decide) ?_
                                  refine lv_iinc (v := nI (k + 1)) (lv' := [(6, .int (nI (k + 1))), (8, .int ((-(V (t + 1) k)) - (nI 2))), (7, .int (V (t + 1) k)), (4, .int (nI tb)), (3, .int (nI ta)), (0, .ref (ad t)), (1, .int (nI 1)), (2, .ref (ad no)), (5, .int (nI n))]) hx hb dX7_says_272 hl (k := 8) rfl (m_inc k 1) (by decide) rfl (fun ls hl => ?_)
                                  refine lv_goto (tgt := 61) hx hb dX7_says_275 (by decide) ?_
                                  exact ih_61  n (k + 1) V_103 _ _ _ (by omega) (by omega) (by intro a ha; rw [eV_103, mU_no _ _ ha]; exact hfr a ha) (by first | (exfalso; omega) | skip; rw [eV_103, mU_row, evX_s (by omega)]; first | exact hR.push (by first | exact Int32.not_lt.mp (by assumption) | assumption) (by omega) | exact hR.nm (by intro h; first | exact absurd h.1 (Int32.not_le.mpr (by assumption)) | exact absurd h.2 (by omega)) (by assumption) (by omega) eix hix | exact hR.nt0 (by intro h; first | exact absurd h.1 (Int32.not_le.mpr (by assumption)) | exact absurd h.2 (by omega)) (by intro h; first | exact absurd h.1 (by assumption) | exact absurd h.2 (by omega)) (by assumption) (by omega) (by assumption) | exact hR.nt1 (by intro h; first | exact absurd h.1 (Int32.not_le.mpr (by assumption)) | exact absurd h.2 (by omega)) (by intro h; first | exact absurd h.1 (by assumption) | exact absurd h.2 (by omega)) (by assumption) (by omega) (by assumption) | exact hR.ng (by intro h; first | exact absurd h.1 (Int32.not_le.mpr (by assumption)) | exact absurd h.2 (by omega)) (by intro h; first | exact absurd h.1 (by assumption) | exact absurd h.2 (by omega)) (by assumption) (by omega) | exact hR.jn (by intro h; first | exact absurd h.1 (Int32.not_le.mpr (by assumption)) | exact absurd h.2 (by omega)) (by intro h; first | exact absurd h.1 (by assumption) | exact absurd h.2 (by omega)) (by intro h; first | exact absurd h.1 (by assumption) | exact absurd h.2 (by omega)) (by intro h; first | exact absurd h.1 (by assumption) | exact absurd h.2 (by omega)) (by omega)) (by omega) hW (lv_sub hl [3, 4, 5, 6, 7, 8, 0] rfl)
                            · skip
                              have c_96 : ¬ n ≤ 0 := mt (nI_leI (by omega) (by omega)).mpr c_96
                              refine lv_aload_n hx hb dX7_says_170 rfl (lv_at hl 4 rfl) ?_
                              refine m_getr S hW gt 4 rfl (j := (t + 2)) rfl kX7 (iW7 _) (by decide) (List.mem_cons_of_mem _ (wa_9 _ (List.mem_of_getElem? (i := 9) (by decide +kernel)))) dX7_says_171 ?_
                              refine lv_iload hx hb dX7_says_174 (lv_at hl 7 rfl) ?_
                              refine lv_iconst (v := nI 1) hx hb dX7_says_176 (by decide) ?_
                              refine lv_isub hx hb dX7_says_177 ?_
                              refine m_top (y := nI (n - 1)) (pk_sub (by omega)) ?_
                              refine lv_aload_n hx hb dX7_says_178 rfl (lv_at hl 4 rfl) ?_
                              refine m_getr S hW gt 4 rfl (j := (t + 2)) rfl kX7 (iW7 _) (by decide) (List.mem_cons_of_mem _ (wa_9 _ (List.mem_of_getElem? (i := 9) (by decide +kernel)))) dX7_says_179 ?_
                              refine lv_iload hx hb dX7_says_182 (lv_at hl 7 rfl) ?_
                              refine lv_iconst (v := nI 1) hx hb dX7_says_184 (by decide) ?_
                              refine lv_isub hx hb dX7_says_185 ?_
                              refine m_top (y := nI (n - 1)) (pk_sub (by omega)) ?_
                              refine m_iald S hW gt2 (n - 1) rfl (by omega) (by decide) dX7_says_186 ?_
                              refine m_top (y := (evX (V no) (V (t + 1)) ta (k - ta)).2 (n - 1)) (hR.2 _ (by omega)) ?_
                              refine m_if_ne (tgt := 194) hx hb dX7_says_187 (by decide) (fun c_104 => ?_) (fun c_104 => ?_)
                              · skip
                                refine lv_iconst (v := nI 0) hx hb dX7_says_194 (by decide) ?_
                                refine m_iast S hW gt2 (n - 1) rfl (by omega) (by decide) dX7_says_195 (fun H locs hW => ?_)
                                obtain ⟨V_105, eV_105⟩ : ∃ z : mV, z = mU V1 (t + 2) (n - 1) (nI 0) := ⟨_, rfl⟩
                                rw [← eV_105] at hW
                                refine lv_goto (tgt := 272) hx hb dX7_says_196 (by decide) ?_
                                refine lv_iinc (v := nI (k + 1)) (lv' := [(6, .int (nI (k + 1))), (8, .int ((-(V (t + 1) k)) - (nI 2))), (7, .int (V (t + 1) k)), (4, .int (nI tb)), (3, .int (nI ta)), (0, .ref (ad t)), (1, .int (nI 1)), (2, .ref (ad no)), (5, .int (nI n))]) hx hb dX7_says_272 hl (k := 8) rfl (m_inc k 1) (by decide) rfl (fun ls hl => ?_)
                                refine lv_goto (tgt := 61) hx hb dX7_says_275 (by decide) ?_
                                exact ih_61  n (k + 1) V_105 _ _ _ (by omega) (by omega) (by intro a ha; rw [eV_105, mU_no _ _ ha]; exact hfr a ha) (by first | (exfalso; omega) | skip; rw [eV_105, mU_row, evX_s (by omega)]; first | exact hR.push (by first | exact Int32.not_lt.mp (by assumption) | assumption) (by omega) | exact hR.nm (by intro h; first | exact absurd h.1 (Int32.not_le.mpr (by assumption)) | exact absurd h.2 (by omega)) (by assumption) (by omega) eix hix | exact hR.nt0 (by intro h; first | exact absurd h.1 (Int32.not_le.mpr (by assumption)) | exact absurd h.2 (by omega)) (by intro h; first | exact absurd h.1 (by assumption) | exact absurd h.2 (by omega)) (by assumption) (by omega) (by assumption) | exact hR.nt1 (by intro h; first | exact absurd h.1 (Int32.not_le.mpr (by assumption)) | exact absurd h.2 (by omega)) (by intro h; first | exact absurd h.1 (by assumption) | exact absurd h.2 (by omega)) (by assumption) (by omega) (by assumption) | exact hR.ng (by intro h; first | exact absurd h.1 (Int32.not_le.mpr (by assumption)) | exact absurd h.2 (by omega)) (by intro h; first | exact absurd h.1 (by assumption) | exact absurd h.2 (by omega)) (by assumption) (by omega) | exact hR.jn (by intro h; first | exact absurd h.1 (Int32.not_le.mpr (by assumption)) | exact absurd h.2 (by omega)) (by intro h; first | exact absurd h.1 (by assumption) | exact absurd h.2 (by omega)) (by intro h; first | exact absurd h.1 (by assumption) | exact absurd h.2 (by omega)) (by intro h; first | exact absurd h.1 (by assumption) | exact absurd h.2 (by omega)) (by omega)) (by omega) hW (lv_sub hl [3, 4, 5, 6, 7, 8, 0] rfl)
                              · skip
                                refine lv_iconst (v := nI 1) hx hb dX7_says_190 (by decide) ?_
                                refine lv_goto (tgt := 195) hx hb dX7_says_191 (by decide) ?_
                                refine m_iast S hW gt2 (n - 1) rfl (by omega) (by decide) dX7_says_195 (fun H locs hW => ?_)
                                obtain ⟨V_106, eV_106⟩ : ∃ z : mV, z = mU V1 (t + 2) (n - 1) (nI 1) := ⟨_, rfl⟩
                                rw [← eV_106] at hW
                                refine lv_goto (tgt := 272) hx hb dX7_says_196 (by decide) ?_
                                refine lv_iinc (v := nI (k + 1)) (lv' := [(6, .int (nI (k + 1))), (8, .int ((-(V (t + 1) k)) - (nI 2))), (7, .int (V (t + 1) k)), (4, .int (nI tb)), (3, .int (nI ta)), (0, .ref (ad t)), (1, .int (nI 1)), (2, .ref (ad no)), (5, .int (nI n))]) hx hb dX7_says_272 hl (k := 8) rfl (m_inc k 1) (by decide) rfl (fun ls hl => ?_)
                                refine lv_goto (tgt := 61) hx hb dX7_says_275 (by decide) ?_
                                exact ih_61  n (k + 1) V_106 _ _ _ (by omega) (by omega) (by intro a ha; rw [eV_106, mU_no _ _ ha]; exact hfr a ha) (by first | (exfalso; omega) | skip; rw [eV_106, mU_row, evX_s (by omega)]; first | exact hR.push (by first | exact Int32.not_lt.mp (by assumption) | assumption) (by omega) | exact hR.nm (by intro h; first | exact absurd h.1 (Int32.not_le.mpr (by assumption)) | exact absurd h.2 (by omega)) (by assumption) (by omega) eix hix | exact hR.nt0 (by intro h; first | exact absurd h.1 (Int32.not_le.mpr (by assumption)) | exact absurd h.2 (by omega)) (by intro h; first | exact absurd h.1 (by assumption) | exact absurd h.2 (by omega)) (by assumption) (by omega) (by assumption) | exact hR.nt1 (by intro h; first | exact absurd h.1 (Int32.not_le.mpr (by assumption)) | exact absurd h.2 (by omega)) (by intro h; first | exact absurd h.1 (by assumption) | exact absurd h.2 (by omega)) (by assumption) (by omega) (by assumption) | exact hR.ng (by intro h; first | exact absurd h.1 (Int32.not_le.mpr (by assumption)) | exact absurd h.2 (by omega)) (by intro h; first | exact absurd h.1 (by assumption) | exact absurd h.2 (by omega)) (by assumption) (by omega) | exact hR.jn (by intro h; first | exact absurd h.1 (Int32.not_le.mpr (by assumption)) | exact absurd h.2 (by omega)) (by intro h; first | exact absurd h.1 (by assumption) | exact absurd h.2 (by omega)) (by intro h; first | exact absurd h.1 (by assumption) | exact absurd h.2 (by omega)) (by intro h; first | exact absurd h.1 (by assumption) | exact absurd h.2 (by omega)) (by omega)) (by omega) hW (lv_sub hl [3, 4, 5, 6, 7, 8, 0] rfl)
                        · exact absurd c_87 (by decide)
                    · skip
                      have c_60 : ¬ 32 ≤ n := mt (nI_leI (by omega) (by omega)).mpr c_60
                      refine lv_aload_n hx hb dX7_says_106 rfl (lv_at hl 4 rfl) ?_
                      refine m_getr S hW gt 4 rfl (j := (t + 2)) rfl kX7 (iW7 _) (by decide) (List.mem_cons_of_mem _ (wa_9 _ (List.mem_of_getElem? (i := 9) (by decide +kernel)))) dX7_says_107 ?_
                      refine lv_iload hx hb dX7_says_110 (lv_at hl 7 rfl) ?_
                      refine lv_iinc (v := nI (n + 1)) (lv' := [(5, .int (nI (n + 1))), (8, .int ((-(V (t + 1) k)) - (nI 2))), (7, .int (V (t + 1) k)), (4, .int (nI tb)), (3, .int (nI ta)), (0, .ref (ad t)), (1, .int (nI 1)), (2, .ref (ad no)), (6, .int (nI k))]) hx hb dX7_says_112 hl (k := 7) rfl (m_inc n 1) (by decide) rfl (fun ls hl => ?_)
                      refine lv_iload hx hb dX7_says_115 (lv_at hl 2 rfl) ?_
                      refine m_iast S hW gt2 n rfl (by omega) (by decide) dX7_says_117 (fun H locs hW => ?_)
                      obtain ⟨V_107, eV_107⟩ : ∃ z : mV, z = mU V1 (t + 2) n (V (t + 1) k) := ⟨_, rfl⟩
                      rw [← eV_107] at hW
                      refine lv_goto (tgt := 272) hx hb dX7_says_118 (by decide) ?_
                      refine lv_iinc (v := nI (k + 1)) (lv' := [(6, .int (nI (k + 1))), (5, .int (nI (n + 1))), (8, .int ((-(V (t + 1) k)) - (nI 2))), (7, .int (V (t + 1) k)), (4, .int (nI tb)), (3, .int (nI ta)), (0, .ref (ad t)), (1, .int (nI 1)), (2, .ref (ad no))]) hx hb dX7_says_272 hl (k := 8) rfl (m_inc k 1) (by decide) rfl (fun ls hl => ?_)
                      refine lv_goto (tgt := 61) hx hb dX7_says_275 (by decide) ?_
                      exact ih_61  (n + 1) (k + 1) V_107 _ _ _ (by omega) (by omega) (by intro a ha; rw [eV_107, mU_no _ _ ha]; exact hfr a ha) (by first | (exfalso; omega) | skip; rw [eV_107, mU_row, evX_s (by omega)]; first | exact hR.push (by first | exact Int32.not_lt.mp (by assumption) | assumption) (by omega) | exact hR.nm (by intro h; first | exact absurd h.1 (Int32.not_le.mpr (by assumption)) | exact absurd h.2 (by omega)) (by assumption) (by omega) eix hix | exact hR.nt0 (by intro h; first | exact absurd h.1 (Int32.not_le.mpr (by assumption)) | exact absurd h.2 (by omega)) (by intro h; first | exact absurd h.1 (by assumption) | exact absurd h.2 (by omega)) (by assumption) (by omega) (by assumption) | exact hR.nt1 (by intro h; first | exact absurd h.1 (Int32.not_le.mpr (by assumption)) | exact absurd h.2 (by omega)) (by intro h; first | exact absurd h.1 (by assumption) | exact absurd h.2 (by omega)) (by assumption) (by omega) (by assumption) | exact hR.ng (by intro h; first | exact absurd h.1 (Int32.not_le.mpr (by assumption)) | exact absurd h.2 (by omega)) (by intro h; first | exact absurd h.1 (by assumption) | exact absurd h.2 (by omega)) (by assumption) (by omega) | exact hR.jn (by intro h; first | exact absurd h.1 (Int32.not_le.mpr (by assumption)) | exact absurd h.2 (by omega)) (by intro h; first | exact absurd h.1 (by assumption) | exact absurd h.2 (by omega)) (by intro h; first | exact absurd h.1 (by assumption) | exact absurd h.2 (by omega)) (by intro h; first | exact absurd h.1 (by assumption) | exact absurd h.2 (by omega)) (by omega)) (by omega) hW (lv_sub hl [4, 5, 6, 7, 8, 1, 0] rfl)
          exact loop_61 (tb - ta + 1) 0 ta V0 _ _ _ (by omega) (by omega) (by exact hfr) (by rw [Nat.sub_self]; exact ⟨rfl, fun j hj => absurd hj (by omega)⟩) (by omega) hW (lv_sub hl [2, 3, 4, 5, 6, 1, 0] rfl)
      · exact absurd c_3 (by decide)
  · exact absurd c_1 (by decide)
set_option maxHeartbeats 4000000 in
set_option maxRecDepth 100000 in
theorem c_X7_says_2 (l : Launch) (G : mG) (ad : Nat → Nat) (sh : Nat → Option mSh) (V : mV) (t tl ta tb no : Nat) (ht : sh t = some (sText t)) (ht1 : sh (t + 1) = some (mI tl)) (ht2 : sh (t + 2) = some (mS 32)) (hta : V t 2 = nI ta) (htb : V t 3 = nI tb) (htl : ta ≤ tb ∧ tb ≤ tl ∧ tl ≤ 160) (hno : sh no = some (mI 6)) (hno2 : no ≠ t + 2) : mM l yX7_says wsX7_says ({ frames := 1, cells := 0, slots := 0, locals := 61 } : Room) G ad sh V [.ref (ad t), .int (nI 2), .ref (ad no)] 0 0 (mPe ad sh V (fAsk (V (t + 1)) ta tb tl 2 (V no))) := by
  refine mM.of (cc := cX7_says) (maxL := 9) (ret := (some .int)) (by decide) rfl (Nat.le_of_ble_eq_true rfl) ?_
  intro p e s m below meth c S hr hlk hnm hW ls hl
  obtain ⟨hx, hb, hml, hown, hts⟩ := id S
  have hl : lv_has ls 9 [(0, .ref (ad t)), (1, .int (nI 2)), (2, .ref (ad no))] := hl
  have hS0 : True := trivial
  obtain ⟨u, hW⟩ := hW.learn ht2
  have gt : va_up sh (t + 2) (some (mI 32)) t = some (sText t) := by simp [va_up, ht]
  have gt1 : va_up sh (t + 2) (some (mI 32)) (t + 1) = some (mI tl) := by simp [va_up, ht1]
  have gt2 : va_up sh (t + 2) (some (mI 32)) (t + 2) = some (mI 32) := by simp [va_up]
  have gn : va_up sh (t + 2) (some (mI 32)) no = some (mI 6) := by simp [va_up, hno2, hno]
  generalize hsh : va_up sh (t + 2) (some (mI 32)) = sh1 at hW gt gt1 gt2 gn
  generalize hV0 : va_up V (t + 2) u = V0 at hW
  have hfr : ∀ a, a ≠ t + 2 → V0 a = V a := fun a ha => by rw [← hV0]; simp [va_up, ha]
  refine lv_iload_n hx hb dX7_says_0 rfl (lv_at hl 1 rfl) ?_
  refine m_if_ne (tgt := 8) hx hb dX7_says_1 (by decide) (fun c_1 => ?_) (fun c_1 => ?_)
  · skip
    refine lv_iload_n hx hb dX7_says_8 rfl (lv_at hl 1 rfl) ?_
    refine lv_iconst (v := nI 1) hx hb dX7_says_9 (by decide) ?_
    refine lv_icmp_ne (tgt := 20) hx hb dX7_says_10 (by decide) (fun c_2 => ?_) (fun c_2 => ?_)
    · skip
      refine lv_aload_n hx hb dX7_says_20 rfl (lv_at hl 0 rfl) ?_
      refine m_geti S hW gt 3 rfl kX7 (iW7 _) (by decide) (List.mem_cons_of_mem _ (wa_9 _ (List.mem_of_getElem? (i := 13) (by decide +kernel)))) dX7_says_21 ?_
      refine m_top (y := nI tb) (by rw [hfr t (by omega)]; exact htb) ?_
      refine lv_istore_n (lv' := [(3, .int (nI tb)), (0, .ref (ad t)), (1, .int (nI 2)), (2, .ref (ad no))]) hx hb dX7_says_24 rfl hl (by decide) rfl (fun ls hl => ?_)
      refine lv_iload_n hx hb dX7_says_25 rfl (lv_at hl 2 rfl) ?_
      refine m_if_ne (tgt := 36) hx hb dX7_says_26 (by decide) (fun c_3 => ?_) (fun c_3 => ?_)
      · skip
        refine lv_iload_n hx hb dX7_says_36 rfl (lv_at hl 2 rfl) ?_
        refine lv_iconst (v := nI 1) hx hb dX7_says_37 (by decide) ?_
        refine lv_icmp_ne (tgt := 48) hx hb dX7_says_38 (by decide) (fun c_4 => ?_) (fun c_4 => ?_)
        · skip
          refine lv_aload_n hx hb dX7_says_48 rfl (lv_at hl 1 rfl) ?_
          refine m_getr S hW gt 1 rfl (j := (t + 1)) rfl kX7 (iW7 _) (by decide) (List.mem_cons_of_mem _ (wa_9 _ (List.mem_of_getElem? (i := 11) (by decide +kernel)))) dX7_says_49 ?_
          refine m_alen S hW gt1 dX7_says_52 ?_
          refine lv_istore (lv' := [(4, .int (nI tl)), (3, .int (nI tb)), (0, .ref (ad t)), (1, .int (nI 2)), (2, .ref (ad no))]) hx hb dX7_says_53 hl (by decide) rfl (fun ls hl => ?_)
          refine lv_iconst (v := nI 0) hx hb dX7_says_55 (by decide) ?_
          refine lv_istore (lv' := [(5, .int (nI 0)), (4, .int (nI tl)), (3, .int (nI tb)), (0, .ref (ad t)), (1, .int (nI 2)), (2, .ref (ad no))]) hx hb dX7_says_56 hl (by decide) rfl (fun ls hl => ?_)
          refine lv_iload_n hx hb dX7_says_58 rfl (lv_at hl 2 rfl) ?_
          refine lv_istore (lv' := [(6, .int (nI tb)), (5, .int (nI 0)), (4, .int (nI tl)), (3, .int (nI tb)), (0, .ref (ad t)), (1, .int (nI 2)), (2, .ref (ad no))]) hx hb dX7_says_59 hl (by decide) rfl (fun ls hl => ?_)
          have loop_61 : ∀ (n_61 : Nat) (n k : Nat) (V1 : mV) (H : Heap) (locs : List Loc) (ls : Array Slot), (n ≤ 32) → (tb ≤ k ∧ k ≤ tl) → (∀ a, a ≠ t + 2 → V1 a = V a) → (RelS n (V1 (t + 2)) (evX (V no) (V (t + 1)) tb (k - tb))) → (tl - k) < n_61 → mC (mA ad sh s.heap.size) s.heap s G ad sh1 V1 H locs → lv_has ls 9 [(4, .int (nI tl)), (3, .int (nI tb)), (0, .ref (ad t)), (1, .int (nI 2)), (2, .ref (ad no)), (5, .int (nI n)), (6, .int (nI k))] → W p l e ({ frames := 1, cells := 0, slots := 0, locals := 61 } : Room) s m ([.ref (ad t), .int (nI 2), .ref (ad no)] : List Value).toArray below meth c H locs 0 0 (MQ below (mPost G ad sh s.heap.size (mPe ad sh V (fAsk (V (t + 1)) ta tb tl 2 (V no)))) ([.ref (ad t), .int (nI 2), .ref (ad no)] : List Value).toArray s 0 0 (mA ad sh s.heap.size)) (F0 m 61 ls []) := by
            intro n_61
            induction n_61 with
            | zero => intro n k V1 H locs ls hn hk hfr hR hM_ hW hl; omega
            | succ n_61 ih_61 =>
              intro n k V1 H locs ls hn hk hfr hR hM_ hW hl
              refine lv_iload hx hb dX7_says_61 (lv_at hl 6 rfl) ?_
              refine lv_iload hx hb dX7_says_63 (lv_at hl 0 rfl) ?_
              refine lv_icmp_ge (tgt := 278) hx hb dX7_says_65 (by decide) (fun c_5 => ?_) (fun c_5 => ?_)
              · skip
                have c_5 : tl ≤ k := (nI_leI (by omega) (by omega)).mp c_5
                refine lv_iload hx hb dX7_says_278 (lv_at hl 5 rfl) ?_
                refine m_if_le (tgt := 295) hx hb dX7_says_280 (by decide) (fun c_6 => ?_) (fun c_6 => ?_)
                · skip
                  have c_6 : n ≤ 0 := (nI_leI (by omega) (by omega)).mp c_6
                  refine lv_iconst (v := nI 0) hx hb dX7_says_295 (by decide) ?_
                  refine lv_istore (lv' := [(6, .int (nI 0)), (4, .int (nI tl)), (3, .int (nI tb)), (0, .ref (ad t)), (1, .int (nI 2)), (2, .ref (ad no)), (5, .int (nI n))]) hx hb dX7_says_296 hl (by decide) rfl (fun ls hl => ?_)
                  refine lv_iconst (v := nI 0) hx hb dX7_says_298 (by decide) ?_
                  refine lv_iload hx hb dX7_says_299 (lv_at hl 0 rfl) ?_
                  refine lv_iload_n hx hb dX7_says_301 rfl (lv_at hl 4 rfl) ?_
                  refine lv_iconst (v := nI 1) hx hb dX7_says_302 (by decide) ?_
                  refine lv_icmp_ne (tgt := 311) hx hb dX7_says_303 (by decide) (fun c_7 => ?_) (fun c_7 => ?_)
                  · skip
                    refine lv_sipush (v := nI 999) hx hb dX7_says_311 (by decide) ?_
                    refine va_mmin hx hb (hml.trans hl.1.symm) hown (hts (.methodLink RX7 38 Lib.Math.min.name) (List.mem_cons_of_mem _ (wa_18 _ (List.mem_of_getElem? (i := 10) (by decide +kernel))))) (hts (.static Lib.Math.min.name) (List.mem_cons_of_mem _ (wa_18 _ (List.mem_of_getElem? (i := 11) (by decide +kernel))))) (hts (.initialized "java/lang/Math") (List.mem_cons_of_mem _ (wa_18 _ (List.mem_of_getElem? (i := 12) (by decide +kernel))))) (hts (.code Lib.Math.min.name Lib.Math.min.code 2 (some .int)) (List.mem_cons_of_mem _ (wa_18 _ (List.mem_of_getElem? (i := 13) (by decide +kernel))))) (Nat.le_of_ble_eq_true rfl) (Nat.le_of_ble_eq_true rfl) (Nat.le_of_ble_eq_true rfl) (Nat.le_of_ble_eq_true rfl) dX7_says_314 ?_
                    refine va_mmax hx hb (hml.trans hl.1.symm) hown (hts (.methodLink RX7 44 Lib.Math.max.name) (List.mem_cons_of_mem _ (wa_18 _ (List.mem_of_getElem? (i := 14) (by decide +kernel))))) (hts (.static Lib.Math.max.name) (List.mem_cons_of_mem _ (wa_18 _ (List.mem_of_getElem? (i := 15) (by decide +kernel))))) (hts (.initialized "java/lang/Math") (List.mem_cons_of_mem _ (wa_18 _ (List.mem_of_getElem? (i := 12) (by decide +kernel))))) (hts (.code Lib.Math.max.name Lib.Math.max.code 2 (some .int)) (List.mem_cons_of_mem _ (wa_18 _ (List.mem_of_getElem? (i := 16) (by decide +kernel))))) (Nat.le_of_ble_eq_true rfl) (Nat.le_of_ble_eq_true rfl) (Nat.le_of_ble_eq_true rfl) (Nat.le_of_ble_eq_true rfl) dX7_says_317 ?_
                    have hW := hW.forget (sh' := sh) (V' := V) gt2 ht2 (fun a ha => by rw [← hsh]; simp [va_up, ha]) (fun a ha => (hfr a ha).symm)
                    exact m_iret S hr hlk hW dX7_says_320 ⟨rfl, (by first | (exfalso; omega) | (rw [show k = tl by omega] at hR ⊢; rw [fAsk_2, fClamp, fTop, ← hR.1, if_pos (show 0 < n by omega)]; done) | (rw [show k = tl by omega] at hR; rw [fAsk_2, fClamp, fTop, ← hR.1, if_neg (show ¬ 0 < n by omega)]; done))⟩
                  · exact absurd c_7 (by decide)
                · skip
                  have c_6 : ¬ n ≤ 0 := mt (nI_leI (by omega) (by omega)).mpr c_6
                  refine lv_aload_n hx hb dX7_says_283 rfl (lv_at hl 2 rfl) ?_
                  refine m_getr S hW gt 4 rfl (j := (t + 2)) rfl kX7 (iW7 _) (by decide) (List.mem_cons_of_mem _ (wa_9 _ (List.mem_of_getElem? (i := 9) (by decide +kernel)))) dX7_says_284 ?_
                  refine lv_iload hx hb dX7_says_287 (lv_at hl 5 rfl) ?_
                  refine lv_iconst (v := nI 1) hx hb dX7_says_289 (by decide) ?_
                  refine lv_isub hx hb dX7_says_290 ?_
                  refine m_top (y := nI (n - 1)) (pk_sub (by omega)) ?_
                  refine m_iald S hW gt2 (n - 1) rfl (by omega) (by decide) dX7_says_291 ?_
                  refine m_top (y := (evX (V no) (V (t + 1)) tb (k - tb)).2 (n - 1)) (hR.2 _ (by omega)) ?_
                  refine lv_goto (tgt := 296) hx hb dX7_says_292 (by decide) ?_
                  refine lv_istore (lv' := [(6, .int ((evX (V no) (V (t + 1)) tb (k - tb)).2 (n - 1))), (4, .int (nI tl)), (3, .int (nI tb)), (0, .ref (ad t)), (1, .int (nI 2)), (2, .ref (ad no)), (5, .int (nI n))]) hx hb dX7_says_296 hl (by decide) rfl (fun ls hl => ?_)
                  refine lv_iconst (v := nI 0) hx hb dX7_says_298 (by decide) ?_
                  refine lv_iload hx hb dX7_says_299 (lv_at hl 0 rfl) ?_
                  refine lv_iload_n hx hb dX7_says_301 rfl (lv_at hl 4 rfl) ?_
                  refine lv_iconst (v := nI 1) hx hb dX7_says_302 (by decide) ?_
                  refine lv_icmp_ne (tgt := 311) hx hb dX7_says_303 (by decide) (fun c_8 => ?_) (fun c_8 => ?_)
                  · skip
                    refine lv_sipush (v := nI 999) hx hb dX7_says_311 (by decide) ?_
                    refine va_mmin hx hb (hml.trans hl.1.symm) hown (hts (.methodLink RX7 38 Lib.Math.min.name) (List.mem_cons_of_mem _ (wa_18 _ (List.mem_of_getElem? (i := 10) (by decide +kernel))))) (hts (.static Lib.Math.min.name) (List.mem_cons_of_mem _ (wa_18 _ (List.mem_of_getElem? (i := 11) (by decide +kernel))))) (hts (.initialized "java/lang/Math") (List.mem_cons_of_mem _ (wa_18 _ (List.mem_of_getElem? (i := 12) (by decide +kernel))))) (hts (.code Lib.Math.min.name Lib.Math.min.code 2 (some .int)) (List.mem_cons_of_mem _ (wa_18 _ (List.mem_of_getElem? (i := 13) (by decide +kernel))))) (Nat.le_of_ble_eq_true rfl) (Nat.le_of_ble_eq_true rfl) (Nat.le_of_ble_eq_true rfl) (Nat.le_of_ble_eq_true rfl) dX7_says_314 ?_
                    refine va_mmax hx hb (hml.trans hl.1.symm) hown (hts (.methodLink RX7 44 Lib.Math.max.name) (List.mem_cons_of_mem _ (wa_18 _ (List.mem_of_getElem? (i := 14) (by decide +kernel))))) (hts (.static Lib.Math.max.name) (List.mem_cons_of_mem _ (wa_18 _ (List.mem_of_getElem? (i := 15) (by decide +kernel))))) (hts (.initialized "java/lang/Math") (List.mem_cons_of_mem _ (wa_18 _ (List.mem_of_getElem? (i := 12) (by decide +kernel))))) (hts (.code Lib.Math.max.name Lib.Math.max.code 2 (some .int)) (List.mem_cons_of_mem _ (wa_18 _ (List.mem_of_getElem? (i := 16) (by decide +kernel))))) (Nat.le_of_ble_eq_true rfl) (Nat.le_of_ble_eq_true rfl) (Nat.le_of_ble_eq_true rfl) (Nat.le_of_ble_eq_true rfl) dX7_says_317 ?_
                    have hW := hW.forget (sh' := sh) (V' := V) gt2 ht2 (fun a ha => by rw [← hsh]; simp [va_up, ha]) (fun a ha => (hfr a ha).symm)
                    exact m_iret S hr hlk hW dX7_says_320 ⟨rfl, (by first | (exfalso; omega) | (rw [show k = tl by omega] at hR ⊢; rw [fAsk_2, fClamp, fTop, ← hR.1, if_pos (show 0 < n by omega)]; done) | (rw [show k = tl by omega] at hR; rw [fAsk_2, fClamp, fTop, ← hR.1, if_neg (show ¬ 0 < n by omega)]; done))⟩
                  · exact absurd c_8 (by decide)
              · skip
                have c_5 : ¬ tl ≤ k := mt (nI_leI (by omega) (by omega)).mpr c_5
                refine lv_iload hx hb dX7_says_68 (lv_at hl 6 rfl) ?_
                refine lv_aload_n hx hb dX7_says_70 rfl (lv_at hl 2 rfl) ?_
                refine m_getr S hW gt 1 rfl (j := (t + 1)) rfl kX7 (iW7 _) (by decide) (List.mem_cons_of_mem _ (wa_9 _ (List.mem_of_getElem? (i := 11) (by decide +kernel)))) dX7_says_71 ?_
                refine m_alen S hW gt1 dX7_says_74 ?_
                refine lv_icmp_ge (tgt := 278) hx hb dX7_says_75 (by decide) (fun c_9 => ?_) (fun c_9 => ?_)
                · skip
                  have c_9 : tl ≤ k := (nI_leI (by omega) (by omega)).mp c_9
                  refine lv_iload hx hb dX7_says_278 (lv_at hl 5 rfl) ?_
                  refine m_if_le (tgt := 295) hx hb dX7_says_280 (by decide) (fun c_10 => ?_) (fun c_10 => ?_)
                  · skip
                    have c_10 : n ≤ 0 := (nI_leI (by omega) (by omega)).mp c_10
                    refine lv_iconst (v := nI 0) hx hb dX7_says_295 (by decide) ?_
                    refine lv_istore (lv' := [(6, .int (nI 0)), (4, .int (nI tl)), (3, .int (nI tb)), (0, .ref (ad t)), (1, .int (nI 2)), (2, .ref (ad no)), (5, .int (nI n))]) hx hb dX7_says_296 hl (by decide) rfl (fun ls hl => ?_)
                    refine lv_iconst (v := nI 0) hx hb dX7_says_298 (by decide) ?_
                    refine lv_iload hx hb dX7_says_299 (lv_at hl 0 rfl) ?_
                    refine lv_iload_n hx hb dX7_says_301 rfl (lv_at hl 4 rfl) ?_
                    refine lv_iconst (v := nI 1) hx hb dX7_says_302 (by decide) ?_
                    refine lv_icmp_ne (tgt := 311) hx hb dX7_says_303 (by decide) (fun c_11 => ?_) (fun c_11 => ?_)
                    · skip
                      refine lv_sipush (v := nI 999) hx hb dX7_says_311 (by decide) ?_
                      refine va_mmin hx hb (hml.trans hl.1.symm) hown (hts (.methodLink RX7 38 Lib.Math.min.name) (List.mem_cons_of_mem _ (wa_18 _ (List.mem_of_getElem? (i := 10) (by decide +kernel))))) (hts (.static Lib.Math.min.name) (List.mem_cons_of_mem _ (wa_18 _ (List.mem_of_getElem? (i := 11) (by decide +kernel))))) (hts (.initialized "java/lang/Math") (List.mem_cons_of_mem _ (wa_18 _ (List.mem_of_getElem? (i := 12) (by decide +kernel))))) (hts (.code Lib.Math.min.name Lib.Math.min.code 2 (some .int)) (List.mem_cons_of_mem _ (wa_18 _ (List.mem_of_getElem? (i := 13) (by decide +kernel))))) (Nat.le_of_ble_eq_true rfl) (Nat.le_of_ble_eq_true rfl) (Nat.le_of_ble_eq_true rfl) (Nat.le_of_ble_eq_true rfl) dX7_says_314 ?_
                      refine va_mmax hx hb (hml.trans hl.1.symm) hown (hts (.methodLink RX7 44 Lib.Math.max.name) (List.mem_cons_of_mem _ (wa_18 _ (List.mem_of_getElem? (i := 14) (by decide +kernel))))) (hts (.static Lib.Math.max.name) (List.mem_cons_of_mem _ (wa_18 _ (List.mem_of_getElem? (i := 15) (by decide +kernel))))) (hts (.initialized "java/lang/Math") (List.mem_cons_of_mem _ (wa_18 _ (List.mem_of_getElem? (i := 12) (by decide +kernel))))) (hts (.code Lib.Math.max.name Lib.Math.max.code 2 (some .int)) (List.mem_cons_of_mem _ (wa_18 _ (List.mem_of_getElem? (i := 16) (by decide +kernel))))) (Nat.le_of_ble_eq_true rfl) (Nat.le_of_ble_eq_true rfl) (Nat.le_of_ble_eq_true rfl) (Nat.le_of_ble_eq_true rfl) dX7_says_317 ?_
                      have hW := hW.forget (sh' := sh) (V' := V) gt2 ht2 (fun a ha => by rw [← hsh]; simp [va_up, ha]) (fun a ha => (hfr a ha).symm)
                      exact m_iret S hr hlk hW dX7_says_320 ⟨rfl, (by first | (exfalso; omega) | (rw [show k = tl by omega] at hR ⊢; rw [fAsk_2, fClamp, fTop, ← hR.1, if_pos (show 0 < n by omega)]; done) | (rw [show k = tl by omega] at hR; rw [fAsk_2, fClamp, fTop, ← hR.1, if_neg (show ¬ 0 < n by omega)]; done))⟩
                    · exact absurd c_11 (by decide)
                  · skip
                    have c_10 : ¬ n ≤ 0 := mt (nI_leI (by omega) (by omega)).mpr c_10
                    refine lv_aload_n hx hb dX7_says_283 rfl (lv_at hl 2 rfl) ?_
                    refine m_getr S hW gt 4 rfl (j := (t + 2)) rfl kX7 (iW7 _) (by decide) (List.mem_cons_of_mem _ (wa_9 _ (List.mem_of_getElem? (i := 9) (by decide +kernel)))) dX7_says_284 ?_
                    refine lv_iload hx hb dX7_says_287 (lv_at hl 5 rfl) ?_
                    refine lv_iconst (v := nI 1) hx hb dX7_says_289 (by decide) ?_
                    refine lv_isub hx hb dX7_says_290 ?_
                    refine m_top (y := nI (n - 1)) (pk_sub (by omega)) ?_
                    refine m_iald S hW gt2 (n - 1) rfl (by omega) (by decide) dX7_says_291 ?_
                    refine m_top (y := (evX (V no) (V (t + 1)) tb (k - tb)).2 (n - 1)) (hR.2 _ (by omega)) ?_
                    refine lv_goto (tgt := 296) hx hb dX7_says_292 (by decide) ?_
                    refine lv_istore (lv' := [(6, .int ((evX (V no) (V (t + 1)) tb (k - tb)).2 (n - 1))), (4, .int (nI tl)), (3, .int (nI tb)), (0, .ref (ad t)), (1, .int (nI 2)), (2, .ref (ad no)), (5, .int (nI n))]) hx hb dX7_says_296 hl (by decide) rfl (fun ls hl => ?_)
                    refine lv_iconst (v := nI 0) hx hb dX7_says_298 (by decide) ?_
                    refine lv_iload hx hb dX7_says_299 (lv_at hl 0 rfl) ?_
                    refine lv_iload_n hx hb dX7_says_301 rfl (lv_at hl 4 rfl) ?_
                    refine lv_iconst (v := nI 1) hx hb dX7_says_302 (by decide) ?_
                    refine lv_icmp_ne (tgt := 311) hx hb dX7_says_303 (by decide) (fun c_12 => ?_) (fun c_12 => ?_)
                    · skip
                      refine lv_sipush (v := nI 999) hx hb dX7_says_311 (by decide) ?_
                      refine va_mmin hx hb (hml.trans hl.1.symm) hown (hts (.methodLink RX7 38 Lib.Math.min.name) (List.mem_cons_of_mem _ (wa_18 _ (List.mem_of_getElem? (i := 10) (by decide +kernel))))) (hts (.static Lib.Math.min.name) (List.mem_cons_of_mem _ (wa_18 _ (List.mem_of_getElem? (i := 11) (by decide +kernel))))) (hts (.initialized "java/lang/Math") (List.mem_cons_of_mem _ (wa_18 _ (List.mem_of_getElem? (i := 12) (by decide +kernel))))) (hts (.code Lib.Math.min.name Lib.Math.min.code 2 (some .int)) (List.mem_cons_of_mem _ (wa_18 _ (List.mem_of_getElem? (i := 13) (by decide +kernel))))) (Nat.le_of_ble_eq_true rfl) (Nat.le_of_ble_eq_true rfl) (Nat.le_of_ble_eq_true rfl) (Nat.le_of_ble_eq_true rfl) dX7_says_314 ?_
                      refine va_mmax hx hb (hml.trans hl.1.symm) hown (hts (.methodLink RX7 44 Lib.Math.max.name) (List.mem_cons_of_mem _ (wa_18 _ (List.mem_of_getElem? (i := 14) (by decide +kernel))))) (hts (.static Lib.Math.max.name) (List.mem_cons_of_mem _ (wa_18 _ (List.mem_of_getElem? (i := 15) (by decide +kernel))))) (hts (.initialized "java/lang/Math") (List.mem_cons_of_mem _ (wa_18 _ (List.mem_of_getElem? (i := 12) (by decide +kernel))))) (hts (.code Lib.Math.max.name Lib.Math.max.code 2 (some .int)) (List.mem_cons_of_mem _ (wa_18 _ (List.mem_of_getElem? (i := 16) (by decide +kernel))))) (Nat.le_of_ble_eq_true rfl) (Nat.le_of_ble_eq_true rfl) (Nat.le_of_ble_eq_true rfl) (Nat.le_of_ble_eq_true rfl) dX7_says_317 ?_
                      have hW := hW.forget (sh' := sh) (V' := V) gt2 ht2 (fun a ha => by rw [← hsh]; simp [va_up, ha]) (fun a ha => (hfr a ha).symm)
                      exact m_iret S hr hlk hW dX7_says_320 ⟨rfl, (by first | (exfalso; omega) | (rw [show k = tl by omega] at hR ⊢; rw [fAsk_2, fClamp, fTop, ← hR.1, if_pos (show 0 < n by omega)]; done) | (rw [show k = tl by omega] at hR; rw [fAsk_2, fClamp, fTop, ← hR.1, if_neg (show ¬ 0 < n by omega)]; done))⟩
                    · exact absurd c_12 (by decide)
                · skip
                  have c_9 : ¬ tl ≤ k := mt (nI_leI (by omega) (by omega)).mpr c_9
                  refine lv_aload_n hx hb dX7_says_78 rfl (lv_at hl 2 rfl) ?_
                  refine m_getr S hW gt 1 rfl (j := (t + 1)) rfl kX7 (iW7 _) (by decide) (List.mem_cons_of_mem _ (wa_9 _ (List.mem_of_getElem? (i := 11) (by decide +kernel)))) dX7_says_79 ?_
                  refine lv_iload hx hb dX7_says_82 (lv_at hl 6 rfl) ?_
                  refine m_iald S hW gt1 k rfl (by omega) (by omega) dX7_says_84 ?_
                  refine m_top (y := V (t + 1) k) (by rw [hfr _ (by omega)]) ?_
                  refine lv_istore (lv' := [(7, .int (V (t + 1) k)), (4, .int (nI tl)), (3, .int (nI tb)), (0, .ref (ad t)), (1, .int (nI 2)), (2, .ref (ad no)), (5, .int (nI n)), (6, .int (nI k))]) hx hb dX7_says_85 hl (by decide) rfl (fun ls hl => ?_)
                  refine lv_iload hx hb dX7_says_87 (lv_at hl 0 rfl) ?_
                  refine lv_ineg hx hb dX7_says_89 ?_
                  refine lv_iconst (v := nI 2) hx hb dX7_says_90 (by decide) ?_
                  refine lv_isub hx hb dX7_says_91 ?_
                  refine lv_istore (lv' := [(8, .int ((-(V (t + 1) k)) - (nI 2))), (7, .int (V (t + 1) k)), (4, .int (nI tl)), (3, .int (nI tb)), (0, .ref (ad t)), (1, .int (nI 2)), (2, .ref (ad no)), (5, .int (nI n)), (6, .int (nI k))]) hx hb dX7_says_92 hl (by decide) rfl (fun ls hl => ?_)
                  refine lv_iload hx hb dX7_says_94 (lv_at hl 1 rfl) ?_
                  refine m_if_lt (tgt := 121) hx hb dX7_says_96 (by decide) (fun c_13 => ?_) (fun c_13 => ?_)
                  · skip
                    refine lv_iload hx hb dX7_says_121 (lv_at hl 0 rfl) ?_
                    refine lv_iconst (v := nI 0) hx hb dX7_says_123 (by decide) ?_
                    refine lv_aload_n hx hb dX7_says_124 rfl (lv_at hl 6 rfl) ?_
                    refine m_alen S hW gn dX7_says_125 ?_
                    refine lv_iconst (v := nI 1) hx hb dX7_says_126 (by decide) ?_
                    refine lv_isub hx hb dX7_says_127 ?_
                    refine m_cip (m_rSN S hW (c_X10_within_c l G ad sh1 V1 ((-(V (t + 1) k)) - (nI 2)) ((nI 6) - (nI 1)) 6 (by exact pk_sub_toInt (by omega) (by decide))) ⟨va_cnB 3 hts (gCall [] (List.forall_mem_cons.mpr ⟨(wa_8 _ (List.mem_of_getElem? (i := 17) (by decide +kernel))), (fun _ h => absurd h List.not_mem_nil)⟩)) rfl rfl rfl (hW.2.2.2.2.2.1 _ (List.mem_of_getElem? (i := 9) rfl)) (hts (.initialized RX10) (List.mem_cons_of_mem _ (wa_1 _ (List.mem_of_getElem? (i := 2) (by decide +kernel))))) (by decide +kernel) ⟨Nat.le_of_ble_eq_true rfl, Nat.le_of_ble_eq_true rfl⟩, hts (.static yX10_within) (List.mem_cons_of_mem _ (wa_8 _ (List.mem_of_getElem? (i := 16) (by decide +kernel)))), trivial⟩ rfl hl.1 rfl (Nat.le_of_ble_eq_true rfl) dX7_says_128 ⟨Nat.le_of_ble_eq_true rfl, Nat.le_of_ble_eq_true rfl⟩) hW (fun r_15 H locs hp_14 hW => ?_)
                    rcases hp_14 with ⟨rfl, w_16⟩ | ⟨rfl, w_17⟩
                    · skip
                      refine m_if_eq (tgt := 158) hx hb dX7_says_131 (by decide) (fun c_18 => ?_) (fun c_18 => ?_)
                      · exact absurd c_18 (by decide)
                      · skip
                        refine lv_iload hx hb dX7_says_134 (lv_at hl 7 rfl) ?_
                        refine lv_bipush (v := nI 32) hx hb dX7_says_136 (by decide) ?_
                        refine lv_icmp_ge (tgt := 158) hx hb dX7_says_138 (by decide) (fun c_19 => ?_) (fun c_19 => ?_)
                        · skip
                          have c_19 : 32 ≤ n := (nI_leI (by omega) (by omega)).mp c_19
                          refine lv_iload hx hb dX7_says_158 (lv_at hl 1 rfl) ?_
                          refine lv_bipush (v := -13) hx hb dX7_says_160 (by decide) ?_
                          refine lv_icmp_ne (tgt := 199) hx hb dX7_says_162 (by decide) (fun c_20 => ?_) (fun c_20 => ?_)
                          · skip
                            refine lv_iload hx hb dX7_says_199 (lv_at hl 1 rfl) ?_
                            refine lv_bipush (v := -14) hx hb dX7_says_201 (by decide) ?_
                            refine lv_icmp_ne (tgt := 233) hx hb dX7_says_203 (by decide) (fun c_21 => ?_) (fun c_21 => ?_)
                            · skip
                              refine lv_iload hx hb dX7_says_233 (lv_at hl 7 rfl) ?_
                              refine lv_iconst (v := nI 1) hx hb dX7_says_235 (by decide) ?_
                              refine lv_icmp_le (tgt := 272) hx hb dX7_says_236 (by decide) (fun c_22 => ?_) (fun c_22 => ?_)
                              · skip
                                have c_22 : n ≤ 1 := (nI_leI (by omega) (by omega)).mp c_22
                                refine lv_iinc (v := nI (k + 1)) (lv' := [(6, .int (nI (k + 1))), (8, .int ((-(V (t + 1) k)) - (nI 2))), (7, .int (V (t + 1) k)), (4, .int (nI tl)), (3, .int (nI tb)), (0, .ref (ad t)), (1, .int (nI 2)), (2, .ref (ad no)), (5, .int (nI n))]) hx hb dX7_says_272 hl (k := 8) rfl (m_inc k 1) (by decide) rfl (fun ls hl => ?_)
                                refine lv_goto (tgt := 61) hx hb dX7_says_275 (by decide) ?_
                                exact ih_61  n (k + 1) V1 _ _ _ (by omega) (by omega) (by exact hfr) (by rw [evX_s (by omega)]; exact hR.no (by intro h; first | exact absurd h.1 (Int32.not_le.mpr (by assumption)) | exact absurd h.2 (by omega)) (by intro h; first | exact absurd h.1 (by assumption) | exact absurd h.2 (by omega)) (by intro h; first | exact absurd h.1 (by assumption) | exact absurd h.2 (by omega)) (by intro h; first | exact absurd h.1 (by assumption) | exact absurd h.2 (by omega)) (by omega)) (by omega) hW (lv_sub hl [3, 4, 5, 6, 7, 8, 0] rfl)
                              · skip
                                have c_22 : ¬ n ≤ 1 := mt (nI_leI (by omega) (by omega)).mpr c_22
                                refine lv_iinc (v := nI (n - 1)) (lv' := [(5, .int (nI (n - 1))), (8, .int ((-(V (t + 1) k)) - (nI 2))), (7, .int (V (t + 1) k)), (4, .int (nI tl)), (3, .int (nI tb)), (0, .ref (ad t)), (1, .int (nI 2)), (2, .ref (ad no)), (6, .int (nI k))]) hx hb dX7_says_239 hl (k := 7) rfl (m_dec n 1 (by omega)) (by decide) rfl (fun ls hl => ?_)
                                refine lv_aload_n hx hb dX7_says_242 rfl (lv_at hl 5 rfl) ?_
                                refine m_getr S hW gt 4 rfl (j := (t + 2)) rfl kX7 (iW7 _) (by decide) (List.mem_cons_of_mem _ (wa_9 _ (List.mem_of_getElem? (i := 9) (by decide +kernel)))) dX7_says_243 ?_
                                refine lv_iload hx hb dX7_says_246 (lv_at hl 0 rfl) ?_
                                refine lv_iconst (v := nI 1) hx hb dX7_says_248 (by decide) ?_
                                refine lv_isub hx hb dX7_says_249 ?_
                                refine m_top (y := nI ((n - 1) - 1)) (pk_sub (by omega)) ?_
                                refine lv_iload hx hb dX7_says_250 (lv_at hl 2 rfl) ?_
                                refine lv_aload_n hx hb dX7_says_252 rfl (lv_at hl 5 rfl) ?_
                                refine m_getr S hW gt 4 rfl (j := (t + 2)) rfl kX7 (iW7 _) (by decide) (List.mem_cons_of_mem _ (wa_9 _ (List.mem_of_getElem? (i := 9) (by decide +kernel)))) dX7_says_253 ?_
                                refine lv_iload hx hb dX7_says_256 (lv_at hl 0 rfl) ?_
                                refine lv_iconst (v := nI 1) hx hb dX7_says_258 (by decide) ?_
                                refine lv_isub hx hb dX7_says_259 ?_
                                refine m_top (y := nI ((n - 1) - 1)) (pk_sub (by omega)) ?_
                                refine m_iald S hW gt2 ((n - 1) - 1) rfl (by omega) (by decide) dX7_says_260 ?_
                                refine m_top (y := (evX (V no) (V (t + 1)) tb (k - tb)).2 (n - 1 - 1)) (hR.2 _ (by omega)) ?_
                                refine lv_aload_n hx hb dX7_says_261 rfl (lv_at hl 5 rfl) ?_
                                refine m_getr S hW gt 4 rfl (j := (t + 2)) rfl kX7 (iW7 _) (by decide) (List.mem_cons_of_mem _ (wa_9 _ (List.mem_of_getElem? (i := 9) (by decide +kernel)))) dX7_says_262 ?_
                                refine lv_iload hx hb dX7_says_265 (lv_at hl 0 rfl) ?_
                                refine m_iald S hW gt2 (n - 1) rfl (by omega) (by decide) dX7_says_267 ?_
                                refine m_top (y := (evX (V no) (V (t + 1)) tb (k - tb)).2 (n - 1)) (hR.2 _ (by omega)) ?_
                                refine m_cie (m_rS S hW (c_X7_join l G ad sh1 V1 (V (t + 1) k) ((evX (V no) (V (t + 1)) tb (k - tb)).2 (n - 1 - 1)) ((evX (V no) (V (t + 1)) tb (k - tb)).2 (n - 1))) (va_cwS 3 hts (gCall [.methodLink RX7 34 yX7_join, .static yX7_join, .initialized RX7] (List.forall_mem_cons.mpr ⟨(wa_18 _ (List.mem_of_getElem? (i := 19) (by decide +kernel))), (List.forall_mem_cons.mpr ⟨(wa_18 _ (List.mem_of_getElem? (i := 17) (by decide +kernel))), (List.forall_mem_cons.mpr ⟨(wa_18 _ (List.mem_of_getElem? (i := 18) (by decide +kernel))), (List.forall_mem_cons.mpr ⟨(wa_9 _ (List.mem_of_getElem? (i := 4) (by decide +kernel))), (fun _ h => absurd h List.not_mem_nil)⟩)⟩)⟩)⟩)) rfl rfl rfl (by decide +kernel) ⟨Nat.le_of_ble_eq_true rfl, Nat.le_of_ble_eq_true rfl⟩) rfl hl.1 rfl (Nat.le_of_ble_eq_true rfl) dX7_says_268 ⟨Nat.le_of_ble_eq_true rfl, Nat.le_of_ble_eq_true rfl⟩) hW (fun H locs hW => ?_)
                                refine m_iast S hW gt2 ((n - 1) - 1) rfl (by omega) (by decide) dX7_says_271 (fun H locs hW => ?_)
                                obtain ⟨V_23, eV_23⟩ : ∃ z : mV, z = mU V1 (t + 2) ((n - 1) - 1) (fJoin (V (t + 1) k) ((evX (V no) (V (t + 1)) tb (k - tb)).2 (n - 1 - 1)) ((evX (V no) (V (t + 1)) tb (k - tb)).2 (n - 1))) := ⟨_, rfl⟩
                                rw [← eV_23] at hW
                                refine lv_iinc (v := nI (k + 1)) (lv' := [(6, .int (nI (k + 1))), (5, .int (nI (n - 1))), (8, .int ((-(V (t + 1) k)) - (nI 2))), (7, .int (V (t + 1) k)), (4, .int (nI tl)), (3, .int (nI tb)), (0, .ref (ad t)), (1, .int (nI 2)), (2, .ref (ad no))]) hx hb dX7_says_272 hl (k := 8) rfl (m_inc k 1) (by decide) rfl (fun ls hl => ?_)
                                refine lv_goto (tgt := 61) hx hb dX7_says_275 (by decide) ?_
                                exact ih_61  (n - 1) (k + 1) V_23 _ _ _ (by omega) (by omega) (by intro a ha; rw [eV_23, mU_no _ _ ha]; exact hfr a ha) (by first | (exfalso; omega) | skip; rw [eV_23, mU_row, evX_s (by omega)]; first | exact hR.push (by first | exact Int32.not_lt.mp (by assumption) | assumption) (by omega) | exact hR.nm (by intro h; first | exact absurd h.1 (Int32.not_le.mpr (by assumption)) | exact absurd h.2 (by omega)) (by assumption) (by omega) eix hix | exact hR.nt0 (by intro h; first | exact absurd h.1 (Int32.not_le.mpr (by assumption)) | exact absurd h.2 (by omega)) (by intro h; first | exact absurd h.1 (by assumption) | exact absurd h.2 (by omega)) (by assumption) (by omega) (by assumption) | exact hR.nt1 (by intro h; first | exact absurd h.1 (Int32.not_le.mpr (by assumption)) | exact absurd h.2 (by omega)) (by intro h; first | exact absurd h.1 (by assumption) | exact absurd h.2 (by omega)) (by assumption) (by omega) (by assumption) | exact hR.ng (by intro h; first | exact absurd h.1 (Int32.not_le.mpr (by assumption)) | exact absurd h.2 (by omega)) (by intro h; first | exact absurd h.1 (by assumption) | exact absurd h.2 (by omega)) (by assumption) (by omega) | exact hR.jn (by intro h; first | exact absurd h.1 (Int32.not_le.mpr (by assumption)) | exact absurd h.2 (by omega)) (by intro h; first | exact absurd h.1 (by assumption) | exact absurd h.2 (by omega)) (by intro h; first | exact absurd h.1 (by assumption) | exact absurd h.2 (by omega)) (by intro h; first | exact absurd h.1 (by assumption) | exact absurd h.2 (by omega)) (by omega)) (by omega) hW (lv_sub hl [4, 5, 6, 7, 8, 1, 0] rfl)
                            · skip
                              refine lv_iload hx hb dX7_says_206 (lv_at hl 7 rfl) ?_
                              refine m_if_le (tgt := 233) hx hb dX7_says_208 (by decide) (fun c_24 => ?_) (fun c_24 => ?_)
                              · skip
                                have c_24 : n ≤ 0 := (nI_leI (by omega) (by omega)).mp c_24
                                refine lv_iload hx hb dX7_says_233 (lv_at hl 7 rfl) ?_
                                refine lv_iconst (v := nI 1) hx hb dX7_says_235 (by decide) ?_
                                refine lv_icmp_le (tgt := 272) hx hb dX7_says_236 (by decide) (fun c_25 => ?_) (fun c_25 => ?_)
                                · skip
                                  have c_25 : n ≤ 1 := (nI_leI (by omega) (by omega)).mp c_25
                                  refine lv_iinc (v := nI (k + 1)) (lv' := [(6, .int (nI (k + 1))), (8, .int ((-(V (t + 1) k)) - (nI 2))), (7, .int (V (t + 1) k)), (4, .int (nI tl)), (3, .int (nI tb)), (0, .ref (ad t)), (1, .int (nI 2)), (2, .ref (ad no)), (5, .int (nI n))]) hx hb dX7_says_272 hl (k := 8) rfl (m_inc k 1) (by decide) rfl (fun ls hl => ?_)
                                  refine lv_goto (tgt := 61) hx hb dX7_says_275 (by decide) ?_
                                  exact ih_61  n (k + 1) V1 _ _ _ (by omega) (by omega) (by exact hfr) (by rw [evX_s (by omega)]; exact hR.no (by intro h; first | exact absurd h.1 (Int32.not_le.mpr (by assumption)) | exact absurd h.2 (by omega)) (by intro h; first | exact absurd h.1 (by assumption) | exact absurd h.2 (by omega)) (by intro h; first | exact absurd h.1 (by assumption) | exact absurd h.2 (by omega)) (by intro h; first | exact absurd h.1 (by assumption) | exact absurd h.2 (by omega)) (by omega)) (by omega) hW (lv_sub hl [3, 4, 5, 6, 7, 8, 0] rfl)
                                · skip
                                  have c_25 : ¬ n ≤ 1 := mt (nI_leI (by omega) (by omega)).mpr c_25
                                  refine lv_iinc (v := nI (n - 1)) (lv' := [(5, .int (nI (n - 1))), (8, .int ((-(V (t + 1) k)) - (nI 2))), (7, .int (V (t + 1) k)), (4, .int (nI tl)), (3, .int (nI tb)), (0, .ref (ad t)), (1, .int (nI 2)), (2, .ref (ad no)), (6, .int (nI k))]) hx hb dX7_says_239 hl (k := 7) rfl (m_dec n 1 (by omega)) (by decide) rfl (fun ls hl => ?_)
                                  refine lv_aload_n hx hb dX7_says_242 rfl (lv_at hl 5 rfl) ?_
                                  refine m_getr S hW gt 4 rfl (j := (t + 2)) rfl kX7 (iW7 _) (by decide) (List.mem_cons_of_mem _ (wa_9 _ (List.mem_of_getElem? (i := 9) (by decide +kernel)))) dX7_says_243 ?_
                                  refine lv_iload hx hb dX7_says_246 (lv_at hl 0 rfl) ?_
                                  refine lv_iconst (v := nI 1) hx hb dX7_says_248 (by decide) ?_
                                  refine lv_isub hx hb dX7_says_249 ?_
                                  refine m_top (y := nI ((n - 1) - 1)) (pk_sub (by omega)) ?_
                                  refine lv_iload hx hb dX7_says_250 (lv_at hl 2 rfl) ?_
                                  refine lv_aload_n hx hb dX7_says_252 rfl (lv_at hl 5 rfl) ?_
                                  refine m_getr S hW gt 4 rfl (j := (t + 2)) rfl kX7 (iW7 _) (by decide) (List.mem_cons_of_mem _ (wa_9 _ (List.mem_of_getElem? (i := 9) (by decide +kernel)))) dX7_says_253 ?_
                                  refine lv_iload hx hb dX7_says_256 (lv_at hl 0 rfl) ?_
                                  refine lv_iconst (v := nI 1) hx hb dX7_says_258 (by decide) ?_
                                  refine lv_isub hx hb dX7_says_259 ?_
                                  refine m_top (y := nI ((n - 1) - 1)) (pk_sub (by omega)) ?_
                                  refine m_iald S hW gt2 ((n - 1) - 1) rfl (by omega) (by decide) dX7_says_260 ?_
                                  refine m_top (y := (evX (V no) (V (t + 1)) tb (k - tb)).2 (n - 1 - 1)) (hR.2 _ (by omega)) ?_
                                  refine lv_aload_n hx hb dX7_says_261 rfl (lv_at hl 5 rfl) ?_
                                  refine m_getr S hW gt 4 rfl (j := (t + 2)) rfl kX7 (iW7 _) (by decide) (List.mem_cons_of_mem _ (wa_9 _ (List.mem_of_getElem? (i := 9) (by decide +kernel)))) dX7_says_262 ?_
                                  refine lv_iload hx hb dX7_says_265 (lv_at hl 0 rfl) ?_
                                  refine m_iald S hW gt2 (n - 1) rfl (by omega) (by decide) dX7_says_267 ?_
                                  refine m_top (y := (evX (V no) (V (t + 1)) tb (k - tb)).2 (n - 1)) (hR.2 _ (by omega)) ?_
                                  refine m_cie (m_rS S hW (c_X7_join l G ad sh1 V1 (V (t + 1) k) ((evX (V no) (V (t + 1)) tb (k - tb)).2 (n - 1 - 1)) ((evX (V no) (V (t + 1)) tb (k - tb)).2 (n - 1))) (va_cwS 3 hts (gCall [.methodLink RX7 34 yX7_join, .static yX7_join, .initialized RX7] (List.forall_mem_cons.mpr ⟨(wa_18 _ (List.mem_of_getElem? (i := 19) (by decide +kernel))), (List.forall_mem_cons.mpr ⟨(wa_18 _ (List.mem_of_getElem? (i := 17) (by decide +kernel))), (List.forall_mem_cons.mpr ⟨(wa_18 _ (List.mem_of_getElem? (i := 18) (by decide +kernel))), (List.forall_mem_cons.mpr ⟨(wa_9 _ (List.mem_of_getElem? (i := 4) (by decide +kernel))), (fun _ h => absurd h List.not_mem_nil)⟩)⟩)⟩)⟩)) rfl rfl rfl (by decide +kernel) ⟨Nat.le_of_ble_eq_true rfl, Nat.le_of_ble_eq_true rfl⟩) rfl hl.1 rfl (Nat.le_of_ble_eq_true rfl) dX7_says_268 ⟨Nat.le_of_ble_eq_true rfl, Nat.le_of_ble_eq_true rfl⟩) hW (fun H locs hW => ?_)
                                  refine m_iast S hW gt2 ((n - 1) - 1) rfl (by omega) (by decide) dX7_says_271 (fun H locs hW => ?_)
                                  obtain ⟨V_26, eV_26⟩ : ∃ z : mV, z = mU V1 (t + 2) ((n - 1) - 1) (fJoin (V (t + 1) k) ((evX (V no) (V (t + 1)) tb (k - tb)).2 (n - 1 - 1)) ((evX (V no) (V (t + 1)) tb (k - tb)).2 (n - 1))) := ⟨_, rfl⟩
                                  rw [← eV_26] at hW
                                  refine lv_iinc (v := nI (k + 1)) (lv' := [(6, .int (nI (k + 1))), (5, .int (nI (n - 1))), (8, .int ((-(V (t + 1) k)) - (nI 2))), (7, .int (V (t + 1) k)), (4, .int (nI tl)), (3, .int (nI tb)), (0, .ref (ad t)), (1, .int (nI 2)), (2, .ref (ad no))]) hx hb dX7_says_272 hl (k := 8) rfl (m_inc k 1) (by decide) rfl (fun ls hl => ?_)
                                  refine lv_goto (tgt := 61) hx hb dX7_says_275 (by decide) ?_
                                  exact ih_61  (n - 1) (k + 1) V_26 _ _ _ (by omega) (by omega) (by intro a ha; rw [eV_26, mU_no _ _ ha]; exact hfr a ha) (by first | (exfalso; omega) | skip; rw [eV_26, mU_row, evX_s (by omega)]; first | exact hR.push (by first | exact Int32.not_lt.mp (by assumption) | assumption) (by omega) | exact hR.nm (by intro h; first | exact absurd h.1 (Int32.not_le.mpr (by assumption)) | exact absurd h.2 (by omega)) (by assumption) (by omega) eix hix | exact hR.nt0 (by intro h; first | exact absurd h.1 (Int32.not_le.mpr (by assumption)) | exact absurd h.2 (by omega)) (by intro h; first | exact absurd h.1 (by assumption) | exact absurd h.2 (by omega)) (by assumption) (by omega) (by assumption) | exact hR.nt1 (by intro h; first | exact absurd h.1 (Int32.not_le.mpr (by assumption)) | exact absurd h.2 (by omega)) (by intro h; first | exact absurd h.1 (by assumption) | exact absurd h.2 (by omega)) (by assumption) (by omega) (by assumption) | exact hR.ng (by intro h; first | exact absurd h.1 (Int32.not_le.mpr (by assumption)) | exact absurd h.2 (by omega)) (by intro h; first | exact absurd h.1 (by assumption) | exact absurd h.2 (by omega)) (by assumption) (by omega) | exact hR.jn (by intro h; first | exact absurd h.1 (Int32.not_le.mpr (by assumption)) | exact absurd h.2 (by omega)) (by intro h; first | exact absurd h.1 (by assumption) | exact absurd h.2 (by omega)) (by intro h; first | exact absurd h.1 (by assumption) | exact absurd h.2 (by omega)) (by intro h; first | exact absurd h.1 (by assumption) | exact absurd h.2 (by omega)) (by omega)) (by omega) hW (lv_sub hl [4, 5, 6, 7, 8, 1, 0] rfl)
                              · skip
                                have c_24 : ¬ n ≤ 0 := mt (nI_leI (by omega) (by omega)).mpr c_24
                                refine lv_aload_n hx hb dX7_says_211 rfl (lv_at hl 4 rfl) ?_
                                refine m_getr S hW gt 4 rfl (j := (t + 2)) rfl kX7 (iW7 _) (by decide) (List.mem_cons_of_mem _ (wa_9 _ (List.mem_of_getElem? (i := 9) (by decide +kernel)))) dX7_says_212 ?_
                                refine lv_iload hx hb dX7_says_215 (lv_at hl 7 rfl) ?_
                                refine lv_iconst (v := nI 1) hx hb dX7_says_217 (by decide) ?_
                                refine lv_isub hx hb dX7_says_218 ?_
                                refine m_top (y := nI (n - 1)) (pk_sub (by omega)) ?_
                                refine lv_aload_n hx hb dX7_says_219 rfl (lv_at hl 4 rfl) ?_
                                refine m_getr S hW gt 4 rfl (j := (t + 2)) rfl kX7 (iW7 _) (by decide) (List.mem_cons_of_mem _ (wa_9 _ (List.mem_of_getElem? (i := 9) (by decide +kernel)))) dX7_says_220 ?_
                                refine lv_iload hx hb dX7_says_223 (lv_at hl 7 rfl) ?_
                                refine lv_iconst (v := nI 1) hx hb dX7_says_225 (by decide) ?_
                                refine lv_isub hx hb dX7_says_226 ?_
                                refine m_top (y := nI (n - 1)) (pk_sub (by omega)) ?_
                                refine m_iald S hW gt2 (n - 1) rfl (by omega) (by decide) dX7_says_227 ?_
                                refine m_top (y := (evX (V no) (V (t + 1)) tb (k - tb)).2 (n - 1)) (hR.2 _ (by omega)) ?_
                                refine lv_ineg hx hb dX7_says_228 ?_
                                refine m_iast S hW gt2 (n - 1) rfl (by omega) (by decide) dX7_says_229 (fun H locs hW => ?_)
                                obtain ⟨V_27, eV_27⟩ : ∃ z : mV, z = mU V1 (t + 2) (n - 1) ((-((evX (V no) (V (t + 1)) tb (k - tb)).2 (n - 1)))) := ⟨_, rfl⟩
                                rw [← eV_27] at hW
                                refine lv_goto (tgt := 272) hx hb dX7_says_230 (by decide) ?_
                                refine lv_iinc (v := nI (k + 1)) (lv' := [(6, .int (nI (k + 1))), (8, .int ((-(V (t + 1) k)) - (nI 2))), (7, .int (V (t + 1) k)), (4, .int (nI tl)), (3, .int (nI tb)), (0, .ref (ad t)), (1, .int (nI 2)), (2, .ref (ad no)), (5, .int (nI n))]) hx hb dX7_says_272 hl (k := 8) rfl (m_inc k 1) (by decide) rfl (fun ls hl => ?_)
                                refine lv_goto (tgt := 61) hx hb dX7_says_275 (by decide) ?_
                                exact ih_61  n (k + 1) V_27 _ _ _ (by omega) (by omega) (by intro a ha; rw [eV_27, mU_no _ _ ha]; exact hfr a ha) (by first | (exfalso; omega) | skip; rw [eV_27, mU_row, evX_s (by omega)]; first | exact hR.push (by first | exact Int32.not_lt.mp (by assumption) | assumption) (by omega) | exact hR.nm (by intro h; first | exact absurd h.1 (Int32.not_le.mpr (by assumption)) | exact absurd h.2 (by omega)) (by assumption) (by omega) eix hix | exact hR.nt0 (by intro h; first | exact absurd h.1 (Int32.not_le.mpr (by assumption)) | exact absurd h.2 (by omega)) (by intro h; first | exact absurd h.1 (by assumption) | exact absurd h.2 (by omega)) (by assumption) (by omega) (by assumption) | exact hR.nt1 (by intro h; first | exact absurd h.1 (Int32.not_le.mpr (by assumption)) | exact absurd h.2 (by omega)) (by intro h; first | exact absurd h.1 (by assumption) | exact absurd h.2 (by omega)) (by assumption) (by omega) (by assumption) | exact hR.ng (by intro h; first | exact absurd h.1 (Int32.not_le.mpr (by assumption)) | exact absurd h.2 (by omega)) (by intro h; first | exact absurd h.1 (by assumption) | exact absurd h.2 (by omega)) (by assumption) (by omega) | exact hR.jn (by intro h; first | exact absurd h.1 (Int32.not_le.mpr (by assumption)) | exact absurd h.2 (by omega)) (by intro h; first | exact absurd h.1 (by assumption) | exact absurd h.2 (by omega)) (by intro h; first | exact absurd h.1 (by assumption) | exact absurd h.2 (by omega)) (by intro h; first | exact absurd h.1 (by assumption) | exact absurd h.2 (by omega)) (by omega)) (by omega) hW (lv_sub hl [3, 4, 5, 6, 7, 8, 0] rfl)
                          · skip
                            refine lv_iload hx hb dX7_says_165 (lv_at hl 7 rfl) ?_
                            refine m_if_le (tgt := 199) hx hb dX7_says_167 (by decide) (fun c_28 => ?_) (fun c_28 => ?_)
                            · skip
                              have c_28 : n ≤ 0 := (nI_leI (by omega) (by omega)).mp c_28
                              refine lv_iload hx hb dX7_says_199 (lv_at hl 1 rfl) ?_
                              refine lv_bipush (v := -14) hx hb dX7_says_201 (by decide) ?_
                              refine lv_icmp_ne (tgt := 233) hx hb dX7_says_203 (by decide) (fun c_29 => ?_) (fun c_29 => ?_)
                              · skip
                                refine lv_iload hx hb dX7_says_233 (lv_at hl 7 rfl) ?_
                                refine lv_iconst (v := nI 1) hx hb dX7_says_235 (by decide) ?_
                                refine lv_icmp_le (tgt := 272) hx hb dX7_says_236 (by decide) (fun c_30 => ?_) (fun c_30 => ?_)
                                · skip
                                  have c_30 : n ≤ 1 := (nI_leI (by omega) (by omega)).mp c_30
                                  refine lv_iinc (v := nI (k + 1)) (lv' := [(6, .int (nI (k + 1))), (8, .int ((-(V (t + 1) k)) - (nI 2))), (7, .int (V (t + 1) k)), (4, .int (nI tl)), (3, .int (nI tb)), (0, .ref (ad t)), (1, .int (nI 2)), (2, .ref (ad no)), (5, .int (nI n))]) hx hb dX7_says_272 hl (k := 8) rfl (m_inc k 1) (by decide) rfl (fun ls hl => ?_)
                                  refine lv_goto (tgt := 61) hx hb dX7_says_275 (by decide) ?_
                                  exact ih_61  n (k + 1) V1 _ _ _ (by omega) (by omega) (by exact hfr) (by rw [evX_s (by omega)]; exact hR.no (by intro h; first | exact absurd h.1 (Int32.not_le.mpr (by assumption)) | exact absurd h.2 (by omega)) (by intro h; first | exact absurd h.1 (by assumption) | exact absurd h.2 (by omega)) (by intro h; first | exact absurd h.1 (by assumption) | exact absurd h.2 (by omega)) (by intro h; first | exact absurd h.1 (by assumption) | exact absurd h.2 (by omega)) (by omega)) (by omega) hW (lv_sub hl [3, 4, 5, 6, 7, 8, 0] rfl)
                                · skip
                                  have c_30 : ¬ n ≤ 1 := mt (nI_leI (by omega) (by omega)).mpr c_30
                                  refine lv_iinc (v := nI (n - 1)) (lv' := [(5, .int (nI (n - 1))), (8, .int ((-(V (t + 1) k)) - (nI 2))), (7, .int (V (t + 1) k)), (4, .int (nI tl)), (3, .int (nI tb)), (0, .ref (ad t)), (1, .int (nI 2)), (2, .ref (ad no)), (6, .int (nI k))]) hx hb dX7_says_239 hl (k := 7) rfl (m_dec n 1 (by omega)) (by decide) rfl (fun ls hl => ?_)
                                  refine lv_aload_n hx hb dX7_says_242 rfl (lv_at hl 5 rfl) ?_
                                  refine m_getr S hW gt 4 rfl (j := (t + 2)) rfl kX7 (iW7 _) (by decide) (List.mem_cons_of_mem _ (wa_9 _ (List.mem_of_getElem? (i := 9) (by decide +kernel)))) dX7_says_243 ?_
                                  refine lv_iload hx hb dX7_says_246 (lv_at hl 0 rfl) ?_
                                  refine lv_iconst (v := nI 1) hx hb dX7_says_248 (by decide) ?_
                                  refine lv_isub hx hb dX7_says_249 ?_
                                  refine m_top (y := nI ((n - 1) - 1)) (pk_sub (by omega)) ?_
                                  refine lv_iload hx hb dX7_says_250 (lv_at hl 2 rfl) ?_
                                  refine lv_aload_n hx hb dX7_says_252 rfl (lv_at hl 5 rfl) ?_
                                  refine m_getr S hW gt 4 rfl (j := (t + 2)) rfl kX7 (iW7 _) (by decide) (List.mem_cons_of_mem _ (wa_9 _ (List.mem_of_getElem? (i := 9) (by decide +kernel)))) dX7_says_253 ?_
                                  refine lv_iload hx hb dX7_says_256 (lv_at hl 0 rfl) ?_
                                  refine lv_iconst (v := nI 1) hx hb dX7_says_258 (by decide) ?_
                                  refine lv_isub hx hb dX7_says_259 ?_
                                  refine m_top (y := nI ((n - 1) - 1)) (pk_sub (by omega)) ?_
                                  refine m_iald S hW gt2 ((n - 1) - 1) rfl (by omega) (by decide) dX7_says_260 ?_
                                  refine m_top (y := (evX (V no) (V (t + 1)) tb (k - tb)).2 (n - 1 - 1)) (hR.2 _ (by omega)) ?_
                                  refine lv_aload_n hx hb dX7_says_261 rfl (lv_at hl 5 rfl) ?_
                                  refine m_getr S hW gt 4 rfl (j := (t + 2)) rfl kX7 (iW7 _) (by decide) (List.mem_cons_of_mem _ (wa_9 _ (List.mem_of_getElem? (i := 9) (by decide +kernel)))) dX7_says_262 ?_
                                  refine lv_iload hx hb dX7_says_265 (lv_at hl 0 rfl) ?_
                                  refine m_iald S hW gt2 (n - 1) rfl (by omega) (by decide) dX7_says_267 ?_
                                  refine m_top (y := (evX (V no) (V (t + 1)) tb (k - tb)).2 (n - 1)) (hR.2 _ (by omega)) ?_
                                  refine m_cie (m_rS S hW (c_X7_join l G ad sh1 V1 (V (t + 1) k) ((evX (V no) (V (t + 1)) tb (k - tb)).2 (n - 1 - 1)) ((evX (V no) (V (t + 1)) tb (k - tb)).2 (n - 1))) (va_cwS 3 hts (gCall [.methodLink RX7 34 yX7_join, .static yX7_join, .initialized RX7] (List.forall_mem_cons.mpr ⟨(wa_18 _ (List.mem_of_getElem? (i := 19) (by decide +kernel))), (List.forall_mem_cons.mpr ⟨(wa_18 _ (List.mem_of_getElem? (i := 17) (by decide +kernel))), (List.forall_mem_cons.mpr ⟨(wa_18 _ (List.mem_of_getElem? (i := 18) (by decide +kernel))), (List.forall_mem_cons.mpr ⟨(wa_9 _ (List.mem_of_getElem? (i := 4) (by decide +kernel))), (fun _ h => absurd h List.not_mem_nil)⟩)⟩)⟩)⟩)) rfl rfl rfl (by decide +kernel) ⟨Nat.le_of_ble_eq_true rfl, Nat.le_of_ble_eq_true rfl⟩) rfl hl.1 rfl (Nat.le_of_ble_eq_true rfl) dX7_says_268 ⟨Nat.le_of_ble_eq_true rfl, Nat.le_of_ble_eq_true rfl⟩) hW (fun H locs hW => ?_)
                                  refine m_iast S hW gt2 ((n - 1) - 1) rfl (by omega) (by decide) dX7_says_271 (fun H locs hW => ?_)
                                  obtain ⟨V_31, eV_31⟩ : ∃ z : mV, z = mU V1 (t + 2) ((n - 1) - 1) (fJoin (V (t + 1) k) ((evX (V no) (V (t + 1)) tb (k - tb)).2 (n - 1 - 1)) ((evX (V no) (V (t + 1)) tb (k - tb)).2 (n - 1))) := ⟨_, rfl⟩
                                  rw [← eV_31] at hW
                                  refine lv_iinc (v := nI (k + 1)) (lv' := [(6, .int (nI (k + 1))), (5, .int (nI (n - 1))), (8, .int ((-(V (t + 1) k)) - (nI 2))), (7, .int (V (t + 1) k)), (4, .int (nI tl)), (3, .int (nI tb)), (0, .ref (ad t)), (1, .int (nI 2)), (2, .ref (ad no))]) hx hb dX7_says_272 hl (k := 8) rfl (m_inc k 1) (by decide) rfl (fun ls hl => ?_)
                                  refine lv_goto (tgt := 61) hx hb dX7_says_275 (by decide) ?_
                                  exact ih_61  (n - 1) (k + 1) V_31 _ _ _ (by omega) (by omega) (by intro a ha; rw [eV_31, mU_no _ _ ha]; exact hfr a ha) (by first | (exfalso; omega) | skip; rw [eV_31, mU_row, evX_s (by omega)]; first | exact hR.push (by first | exact Int32.not_lt.mp (by assumption) | assumption) (by omega) | exact hR.nm (by intro h; first | exact absurd h.1 (Int32.not_le.mpr (by assumption)) | exact absurd h.2 (by omega)) (by assumption) (by omega) eix hix | exact hR.nt0 (by intro h; first | exact absurd h.1 (Int32.not_le.mpr (by assumption)) | exact absurd h.2 (by omega)) (by intro h; first | exact absurd h.1 (by assumption) | exact absurd h.2 (by omega)) (by assumption) (by omega) (by assumption) | exact hR.nt1 (by intro h; first | exact absurd h.1 (Int32.not_le.mpr (by assumption)) | exact absurd h.2 (by omega)) (by intro h; first | exact absurd h.1 (by assumption) | exact absurd h.2 (by omega)) (by assumption) (by omega) (by assumption) | exact hR.ng (by intro h; first | exact absurd h.1 (Int32.not_le.mpr (by assumption)) | exact absurd h.2 (by omega)) (by intro h; first | exact absurd h.1 (by assumption) | exact absurd h.2 (by omega)) (by assumption) (by omega) | exact hR.jn (by intro h; first | exact absurd h.1 (Int32.not_le.mpr (by assumption)) | exact absurd h.2 (by omega)) (by intro h; first | exact absurd h.1 (by assumption) | exact absurd h.2 (by omega)) (by intro h; first | exact absurd h.1 (by assumption) | exact absurd h.2 (by omega)) (by intro h; first | exact absurd h.1 (by assumption) | exact absurd h.2 (by omega)) (by omega)) (by omega) hW (lv_sub hl [4, 5, 6, 7, 8, 1, 0] rfl)
                              · skip
                                refine lv_iload hx hb dX7_says_206 (lv_at hl 7 rfl) ?_
                                refine m_if_le (tgt := 233) hx hb dX7_says_208 (by decide) (fun c_32 => ?_) (fun c_32 => ?_)
                                · skip
                                  have c_32 : n ≤ 0 := (nI_leI (by omega) (by omega)).mp c_32
                                  refine lv_iload hx hb dX7_says_233 (lv_at hl 7 rfl) ?_
                                  refine lv_iconst (v := nI 1) hx hb dX7_says_235 (by decide) ?_
                                  refine lv_icmp_le (tgt := 272) hx hb dX7_says_236 (by decide) (fun c_33 => ?_) (fun c_33 => ?_)
                                  · skip
                                    have c_33 : n ≤ 1 := (nI_leI (by omega) (by omega)).mp c_33
                                    refine lv_iinc (v := nI (k + 1)) (lv' := [(6, .int (nI (k + 1))), (8, .int ((-(V (t + 1) k)) - (nI 2))), (7, .int (V (t + 1) k)), (4, .int (nI tl)), (3, .int (nI tb)), (0, .ref (ad t)), (1, .int (nI 2)), (2, .ref (ad no)), (5, .int (nI n))]) hx hb dX7_says_272 hl (k := 8) rfl (m_inc k 1) (by decide) rfl (fun ls hl => ?_)
                                    refine lv_goto (tgt := 61) hx hb dX7_says_275 (by decide) ?_
                                    exact ih_61  n (k + 1) V1 _ _ _ (by omega) (by omega) (by exact hfr) (by rw [evX_s (by omega)]; exact hR.no (by intro h; first | exact absurd h.1 (Int32.not_le.mpr (by assumption)) | exact absurd h.2 (by omega)) (by intro h; first | exact absurd h.1 (by assumption) | exact absurd h.2 (by omega)) (by intro h; first | exact absurd h.1 (by assumption) | exact absurd h.2 (by omega)) (by intro h; first | exact absurd h.1 (by assumption) | exact absurd h.2 (by omega)) (by omega)) (by omega) hW (lv_sub hl [3, 4, 5, 6, 7, 8, 0] rfl)
                                  · skip
                                    have c_33 : ¬ n ≤ 1 := mt (nI_leI (by omega) (by omega)).mpr c_33
                                    refine lv_iinc (v := nI (n - 1)) (lv' := [(5, .int (nI (n - 1))), (8, .int ((-(V (t + 1) k)) - (nI 2))), (7, .int (V (t + 1) k)), (4, .int (nI tl)), (3, .int (nI tb)), (0, .ref (ad t)), (1, .int (nI 2)), (2, .ref (ad no)), (6, .int (nI k))]) hx hb dX7_says_239 hl (k := 7) rfl (m_dec n 1 (by omega)) (by decide) rfl (fun ls hl => ?_)
                                    refine lv_aload_n hx hb dX7_says_242 rfl (lv_at hl 5 rfl) ?_
                                    refine m_getr S hW gt 4 rfl (j := (t + 2)) rfl kX7 (iW7 _) (by decide) (List.mem_cons_of_mem _ (wa_9 _ (List.mem_of_getElem? (i := 9) (by decide +kernel)))) dX7_says_243 ?_
                                    refine lv_iload hx hb dX7_says_246 (lv_at hl 0 rfl) ?_
                                    refine lv_iconst (v := nI 1) hx hb dX7_says_248 (by decide) ?_
                                    refine lv_isub hx hb dX7_says_249 ?_
                                    refine m_top (y := nI ((n - 1) - 1)) (pk_sub (by omega)) ?_
                                    refine lv_iload hx hb dX7_says_250 (lv_at hl 2 rfl) ?_
                                    refine lv_aload_n hx hb dX7_says_252 rfl (lv_at hl 5 rfl) ?_
                                    refine m_getr S hW gt 4 rfl (j := (t + 2)) rfl kX7 (iW7 _) (by decide) (List.mem_cons_of_mem _ (wa_9 _ (List.mem_of_getElem? (i := 9) (by decide +kernel)))) dX7_says_253 ?_
                                    refine lv_iload hx hb dX7_says_256 (lv_at hl 0 rfl) ?_
                                    refine lv_iconst (v := nI 1) hx hb dX7_says_258 (by decide) ?_
                                    refine lv_isub hx hb dX7_says_259 ?_
                                    refine m_top (y := nI ((n - 1) - 1)) (pk_sub (by omega)) ?_
                                    refine m_iald S hW gt2 ((n - 1) - 1) rfl (by omega) (by decide) dX7_says_260 ?_
                                    refine m_top (y := (evX (V no) (V (t + 1)) tb (k - tb)).2 (n - 1 - 1)) (hR.2 _ (by omega)) ?_
                                    refine lv_aload_n hx hb dX7_says_261 rfl (lv_at hl 5 rfl) ?_
                                    refine m_getr S hW gt 4 rfl (j := (t + 2)) rfl kX7 (iW7 _) (by decide) (List.mem_cons_of_mem _ (wa_9 _ (List.mem_of_getElem? (i := 9) (by decide +kernel)))) dX7_says_262 ?_
                                    refine lv_iload hx hb dX7_says_265 (lv_at hl 0 rfl) ?_
                                    refine m_iald S hW gt2 (n - 1) rfl (by omega) (by decide) dX7_says_267 ?_
                                    refine m_top (y := (evX (V no) (V (t + 1)) tb (k - tb)).2 (n - 1)) (hR.2 _ (by omega)) ?_
                                    refine m_cie (m_rS S hW (c_X7_join l G ad sh1 V1 (V (t + 1) k) ((evX (V no) (V (t + 1)) tb (k - tb)).2 (n - 1 - 1)) ((evX (V no) (V (t + 1)) tb (k - tb)).2 (n - 1))) (va_cwS 3 hts (gCall [.methodLink RX7 34 yX7_join, .static yX7_join, .initialized RX7] (List.forall_mem_cons.mpr ⟨(wa_18 _ (List.mem_of_getElem? (i := 19) (by decide +kernel))), (List.forall_mem_cons.mpr ⟨(wa_18 _ (List.mem_of_getElem? (i := 17) (by decide +kernel))), (List.forall_mem_cons.mpr ⟨(wa_18 _ (List.mem_of_getElem? (i := 18) (by decide +kernel))), (List.forall_mem_cons.mpr ⟨(wa_9 _ (List.mem_of_getElem? (i := 4) (by decide +kernel))), (fun _ h => absurd h List.not_mem_nil)⟩)⟩)⟩)⟩)) rfl rfl rfl (by decide +kernel) ⟨Nat.le_of_ble_eq_true rfl, Nat.le_of_ble_eq_true rfl⟩) rfl hl.1 rfl (Nat.le_of_ble_eq_true rfl) dX7_says_268 ⟨Nat.le_of_ble_eq_true rfl, Nat.le_of_ble_eq_true rfl⟩) hW (fun H locs hW => ?_)
                                    refine m_iast S hW gt2 ((n - 1) - 1) rfl (by omega) (by decide) dX7_says_271 (fun H locs hW => ?_)
                                    obtain ⟨V_34, eV_34⟩ : ∃ z : mV, z = mU V1 (t + 2) ((n - 1) - 1) (fJoin (V (t + 1) k) ((evX (V no) (V (t + 1)) tb (k - tb)).2 (n - 1 - 1)) ((evX (V no) (V (t + 1)) tb (k - tb)).2 (n - 1))) := ⟨_, rfl⟩
                                    rw [← eV_34] at hW
                                    refine lv_iinc (v := nI (k + 1)) (lv' := [(6, .int (nI (k + 1))), (5, .int (nI (n - 1))), (8, .int ((-(V (t + 1) k)) - (nI 2))), (7, .int (V (t + 1) k)), (4, .int (nI tl)), (3, .int (nI tb)), (0, .ref (ad t)), (1, .int (nI 2)), (2, .ref (ad no))]) hx hb dX7_says_272 hl (k := 8) rfl (m_inc k 1) (by decide) rfl (fun ls hl => ?_)
                                    refine lv_goto (tgt := 61) hx hb dX7_says_275 (by decide) ?_
                                    exact ih_61  (n - 1) (k + 1) V_34 _ _ _ (by omega) (by omega) (by intro a ha; rw [eV_34, mU_no _ _ ha]; exact hfr a ha) (by first | (exfalso; omega) | skip; rw [eV_34, mU_row, evX_s (by omega)]; first | exact hR.push (by first | exact Int32.not_lt.mp (by assumption) | assumption) (by omega) | exact hR.nm (by intro h; first | exact absurd h.1 (Int32.not_le.mpr (by assumption)) | exact absurd h.2 (by omega)) (by assumption) (by omega) eix hix | exact hR.nt0 (by intro h; first | exact absurd h.1 (Int32.not_le.mpr (by assumption)) | exact absurd h.2 (by omega)) (by intro h; first | exact absurd h.1 (by assumption) | exact absurd h.2 (by omega)) (by assumption) (by omega) (by assumption) | exact hR.nt1 (by intro h; first | exact absurd h.1 (Int32.not_le.mpr (by assumption)) | exact absurd h.2 (by omega)) (by intro h; first | exact absurd h.1 (by assumption) | exact absurd h.2 (by omega)) (by assumption) (by omega) (by assumption) | exact hR.ng (by intro h; first | exact absurd h.1 (Int32.not_le.mpr (by assumption)) | exact absurd h.2 (by omega)) (by intro h; first | exact absurd h.1 (by assumption) | exact absurd h.2 (by omega)) (by assumption) (by omega) | exact hR.jn (by intro h; first | exact absurd h.1 (Int32.not_le.mpr (by assumption)) | exact absurd h.2 (by omega)) (by intro h; first | exact absurd h.1 (by assumption) | exact absurd h.2 (by omega)) (by intro h; first | exact absurd h.1 (by assumption) | exact absurd h.2 (by omega)) (by intro h; first | exact absurd h.1 (by assumption) | exact absurd h.2 (by omega)) (by omega)) (by omega) hW (lv_sub hl [4, 5, 6, 7, 8, 1, 0] rfl)
                                · skip
                                  have c_32 : ¬ n ≤ 0 := mt (nI_leI (by omega) (by omega)).mpr c_32
                                  refine lv_aload_n hx hb dX7_says_211 rfl (lv_at hl 4 rfl) ?_
                                  refine m_getr S hW gt 4 rfl (j := (t + 2)) rfl kX7 (iW7 _) (by decide) (List.mem_cons_of_mem _ (wa_9 _ (List.mem_of_getElem? (i := 9) (by decide +kernel)))) dX7_says_212 ?_
                                  refine lv_iload hx hb dX7_says_215 (lv_at hl 7 rfl) ?_
                                  refine lv_iconst (v := nI 1) hx hb dX7_says_217 (by decide) ?_
                                  refine lv_isub hx hb dX7_says_218 ?_
                                  refine m_top (y := nI (n - 1)) (pk_sub (by omega)) ?_
                                  refine lv_aload_n hx hb dX7_says_219 rfl (lv_at hl 4 rfl) ?_
                                  refine m_getr S hW gt 4 rfl (j := (t + 2)) rfl kX7 (iW7 _) (by decide) (List.mem_cons_of_mem _ (wa_9 _ (List.mem_of_getElem? (i := 9) (by decide +kernel)))) dX7_says_220 ?_
                                  refine lv_iload hx hb dX7_says_223 (lv_at hl 7 rfl) ?_
                                  refine lv_iconst (v := nI 1) hx hb dX7_says_225 (by decide) ?_
                                  refine lv_isub hx hb dX7_says_226 ?_
                                  refine m_top (y := nI (n - 1)) (pk_sub (by omega)) ?_
                                  refine m_iald S hW gt2 (n - 1) rfl (by omega) (by decide) dX7_says_227 ?_
                                  refine m_top (y := (evX (V no) (V (t + 1)) tb (k - tb)).2 (n - 1)) (hR.2 _ (by omega)) ?_
                                  refine lv_ineg hx hb dX7_says_228 ?_
                                  refine m_iast S hW gt2 (n - 1) rfl (by omega) (by decide) dX7_says_229 (fun H locs hW => ?_)
                                  obtain ⟨V_35, eV_35⟩ : ∃ z : mV, z = mU V1 (t + 2) (n - 1) ((-((evX (V no) (V (t + 1)) tb (k - tb)).2 (n - 1)))) := ⟨_, rfl⟩
                                  rw [← eV_35] at hW
                                  refine lv_goto (tgt := 272) hx hb dX7_says_230 (by decide) ?_
                                  refine lv_iinc (v := nI (k + 1)) (lv' := [(6, .int (nI (k + 1))), (8, .int ((-(V (t + 1) k)) - (nI 2))), (7, .int (V (t + 1) k)), (4, .int (nI tl)), (3, .int (nI tb)), (0, .ref (ad t)), (1, .int (nI 2)), (2, .ref (ad no)), (5, .int (nI n))]) hx hb dX7_says_272 hl (k := 8) rfl (m_inc k 1) (by decide) rfl (fun ls hl => ?_)
                                  refine lv_goto (tgt := 61) hx hb dX7_says_275 (by decide) ?_
                                  exact ih_61  n (k + 1) V_35 _ _ _ (by omega) (by omega) (by intro a ha; rw [eV_35, mU_no _ _ ha]; exact hfr a ha) (by first | (exfalso; omega) | skip; rw [eV_35, mU_row, evX_s (by omega)]; first | exact hR.push (by first | exact Int32.not_lt.mp (by assumption) | assumption) (by omega) | exact hR.nm (by intro h; first | exact absurd h.1 (Int32.not_le.mpr (by assumption)) | exact absurd h.2 (by omega)) (by assumption) (by omega) eix hix | exact hR.nt0 (by intro h; first | exact absurd h.1 (Int32.not_le.mpr (by assumption)) | exact absurd h.2 (by omega)) (by intro h; first | exact absurd h.1 (by assumption) | exact absurd h.2 (by omega)) (by assumption) (by omega) (by assumption) | exact hR.nt1 (by intro h; first | exact absurd h.1 (Int32.not_le.mpr (by assumption)) | exact absurd h.2 (by omega)) (by intro h; first | exact absurd h.1 (by assumption) | exact absurd h.2 (by omega)) (by assumption) (by omega) (by assumption) | exact hR.ng (by intro h; first | exact absurd h.1 (Int32.not_le.mpr (by assumption)) | exact absurd h.2 (by omega)) (by intro h; first | exact absurd h.1 (by assumption) | exact absurd h.2 (by omega)) (by assumption) (by omega) | exact hR.jn (by intro h; first | exact absurd h.1 (Int32.not_le.mpr (by assumption)) | exact absurd h.2 (by omega)) (by intro h; first | exact absurd h.1 (by assumption) | exact absurd h.2 (by omega)) (by intro h; first | exact absurd h.1 (by assumption) | exact absurd h.2 (by omega)) (by intro h; first | exact absurd h.1 (by assumption) | exact absurd h.2 (by omega)) (by omega)) (by omega) hW (lv_sub hl [3, 4, 5, 6, 7, 8, 0] rfl)
                            · skip
                              have c_28 : ¬ n ≤ 0 := mt (nI_leI (by omega) (by omega)).mpr c_28
                              refine lv_aload_n hx hb dX7_says_170 rfl (lv_at hl 4 rfl) ?_
                              refine m_getr S hW gt 4 rfl (j := (t + 2)) rfl kX7 (iW7 _) (by decide) (List.mem_cons_of_mem _ (wa_9 _ (List.mem_of_getElem? (i := 9) (by decide +kernel)))) dX7_says_171 ?_
                              refine lv_iload hx hb dX7_says_174 (lv_at hl 7 rfl) ?_
                              refine lv_iconst (v := nI 1) hx hb dX7_says_176 (by decide) ?_
                              refine lv_isub hx hb dX7_says_177 ?_
                              refine m_top (y := nI (n - 1)) (pk_sub (by omega)) ?_
                              refine lv_aload_n hx hb dX7_says_178 rfl (lv_at hl 4 rfl) ?_
                              refine m_getr S hW gt 4 rfl (j := (t + 2)) rfl kX7 (iW7 _) (by decide) (List.mem_cons_of_mem _ (wa_9 _ (List.mem_of_getElem? (i := 9) (by decide +kernel)))) dX7_says_179 ?_
                              refine lv_iload hx hb dX7_says_182 (lv_at hl 7 rfl) ?_
                              refine lv_iconst (v := nI 1) hx hb dX7_says_184 (by decide) ?_
                              refine lv_isub hx hb dX7_says_185 ?_
                              refine m_top (y := nI (n - 1)) (pk_sub (by omega)) ?_
                              refine m_iald S hW gt2 (n - 1) rfl (by omega) (by decide) dX7_says_186 ?_
                              refine m_top (y := (evX (V no) (V (t + 1)) tb (k - tb)).2 (n - 1)) (hR.2 _ (by omega)) ?_
                              refine m_if_ne (tgt := 194) hx hb dX7_says_187 (by decide) (fun c_36 => ?_) (fun c_36 => ?_)
                              · skip
                                refine lv_iconst (v := nI 0) hx hb dX7_says_194 (by decide) ?_
                                refine m_iast S hW gt2 (n - 1) rfl (by omega) (by decide) dX7_says_195 (fun H locs hW => ?_)
                                obtain ⟨V_37, eV_37⟩ : ∃ z : mV, z = mU V1 (t + 2) (n - 1) (nI 0) := ⟨_, rfl⟩
                                rw [← eV_37] at hW
                                refine lv_goto (tgt := 272) hx hb dX7_says_196 (by decide) ?_
                                refine lv_iinc (v := nI (k + 1)) (lv' := [(6, .int (nI (k + 1))), (8, .int ((-(V (t + 1) k)) - (nI 2))), (7, .int (V (t + 1) k)), (4, .int (nI tl)), (3, .int (nI tb)), (0, .ref (ad t)), (1, .int (nI 2)), (2, .ref (ad no)), (5, .int (nI n))]) hx hb dX7_says_272 hl (k := 8) rfl (m_inc k 1) (by decide) rfl (fun ls hl => ?_)
                                refine lv_goto (tgt := 61) hx hb dX7_says_275 (by decide) ?_
                                exact ih_61  n (k + 1) V_37 _ _ _ (by omega) (by omega) (by intro a ha; rw [eV_37, mU_no _ _ ha]; exact hfr a ha) (by first | (exfalso; omega) | skip; rw [eV_37, mU_row, evX_s (by omega)]; first | exact hR.push (by first | exact Int32.not_lt.mp (by assumption) | assumption) (by omega) | exact hR.nm (by intro h; first | exact absurd h.1 (Int32.not_le.mpr (by assumption)) | exact absurd h.2 (by omega)) (by assumption) (by omega) eix hix | exact hR.nt0 (by intro h; first | exact absurd h.1 (Int32.not_le.mpr (by assumption)) | exact absurd h.2 (by omega)) (by intro h; first | exact absurd h.1 (by assumption) | exact absurd h.2 (by omega)) (by assumption) (by omega) (by assumption) | exact hR.nt1 (by intro h; first | exact absurd h.1 (Int32.not_le.mpr (by assumption)) | exact absurd h.2 (by omega)) (by intro h; first | exact absurd h.1 (by assumption) | exact absurd h.2 (by omega)) (by assumption) (by omega) (by assumption) | exact hR.ng (by intro h; first | exact absurd h.1 (Int32.not_le.mpr (by assumption)) | exact absurd h.2 (by omega)) (by intro h; first | exact absurd h.1 (by assumption) | exact absurd h.2 (by omega)) (by assumption) (by omega) | exact hR.jn (by intro h; first | exact absurd h.1 (Int32.not_le.mpr (by assumption)) | exact absurd h.2 (by omega)) (by intro h; first | exact absurd h.1 (by assumption) | exact absurd h.2 (by omega)) (by intro h; first | exact absurd h.1 (by assumption) | exact absurd h.2 (by omega)) (by intro h; first | exact absurd h.1 (by assumption) | exact absurd h.2 (by omega)) (by omega)) (by omega) hW (lv_sub hl [3, 4, 5, 6, 7, 8, 0] rfl)
                              · skip
                                refine lv_iconst (v := nI 1) hx hb dX7_says_190 (by decide) ?_
                                refine lv_goto (tgt := 195) hx hb dX7_says_191 (by decide) ?_
                                refine m_iast S hW gt2 (n - 1) rfl (by omega) (by decide) dX7_says_195 (fun H locs hW => ?_)
                                obtain ⟨V_38, eV_38⟩ : ∃ z : mV, z = mU V1 (t + 2) (n - 1) (nI 1) := ⟨_, rfl⟩
                                rw [← eV_38] at hW
                                refine lv_goto (tgt := 272) hx hb dX7_says_196 (by decide) ?_
                                refine lv_iinc (v := nI (k + 1)) (lv' := [(6, .int (nI (k + 1))), (8, .int ((-(V (t + 1) k)) - (nI 2))), (7, .int (V (t + 1) k)), (4, .int (nI tl)), (3, .int (nI tb)), (0, .ref (ad t)), (1, .int (nI 2)), (2, .ref (ad no)), (5, .int (nI n))]) hx hb dX7_says_272 hl (k := 8) rfl (m_inc k 1) (by decide) rfl (fun ls hl => ?_)
                                refine lv_goto (tgt := 61) hx hb dX7_says_275 (by decide) ?_
                                exact ih_61  n (k + 1) V_38 _ _ _ (by omega) (by omega) (by intro a ha; rw [eV_38, mU_no _ _ ha]; exact hfr a ha) (by first | (exfalso; omega) | skip; rw [eV_38, mU_row, evX_s (by omega)]; first | exact hR.push (by first | exact Int32.not_lt.mp (by assumption) | assumption) (by omega) | exact hR.nm (by intro h; first | exact absurd h.1 (Int32.not_le.mpr (by assumption)) | exact absurd h.2 (by omega)) (by assumption) (by omega) eix hix | exact hR.nt0 (by intro h; first | exact absurd h.1 (Int32.not_le.mpr (by assumption)) | exact absurd h.2 (by omega)) (by intro h; first | exact absurd h.1 (by assumption) | exact absurd h.2 (by omega)) (by assumption) (by omega) (by assumption) | exact hR.nt1 (by intro h; first | exact absurd h.1 (Int32.not_le.mpr (by assumption)) | exact absurd h.2 (by omega)) (by intro h; first | exact absurd h.1 (by assumption) | exact absurd h.2 (by omega)) (by assumption) (by omega) (by assumption) | exact hR.ng (by intro h; first | exact absurd h.1 (Int32.not_le.mpr (by assumption)) | exact absurd h.2 (by omega)) (by intro h; first | exact absurd h.1 (by assumption) | exact absurd h.2 (by omega)) (by assumption) (by omega) | exact hR.jn (by intro h; first | exact absurd h.1 (Int32.not_le.mpr (by assumption)) | exact absurd h.2 (by omega)) (by intro h; first | exact absurd h.1 (by assumption) | exact absurd h.2 (by omega)) (by intro h; first | exact absurd h.1 (by assumption) | exact absurd h.2 (by omega)) (by intro h; first | exact absurd h.1 (by assumption) | exact absurd h.2 (by omega)) (by omega)) (by omega) hW (lv_sub hl [3, 4, 5, 6, 7, 8, 0] rfl)
                        · skip
                          have c_19 : ¬ 32 ≤ n := mt (nI_leI (by omega) (by omega)).mpr c_19
                          refine lv_aload_n hx hb dX7_says_141 rfl (lv_at hl 4 rfl) ?_
                          refine m_getr S hW gt 4 rfl (j := (t + 2)) rfl kX7 (iW7 _) (by decide) (List.mem_cons_of_mem _ (wa_9 _ (List.mem_of_getElem? (i := 9) (by decide +kernel)))) dX7_says_142 ?_
                          refine lv_iload hx hb dX7_says_145 (lv_at hl 7 rfl) ?_
                          refine lv_iinc (v := nI (n + 1)) (lv' := [(5, .int (nI (n + 1))), (8, .int ((-(V (t + 1) k)) - (nI 2))), (7, .int (V (t + 1) k)), (4, .int (nI tl)), (3, .int (nI tb)), (0, .ref (ad t)), (1, .int (nI 2)), (2, .ref (ad no)), (6, .int (nI k))]) hx hb dX7_says_147 hl (k := 7) rfl (m_inc n 1) (by decide) rfl (fun ls hl => ?_)
                          refine lv_aload_n hx hb dX7_says_150 rfl (lv_at hl 7 rfl) ?_
                          refine lv_iload hx hb dX7_says_151 (lv_at hl 1 rfl) ?_
                          obtain ⟨ix, eix, -, hix⟩ := w_16.ex
                          refine m_iald S hW gn ix eix hix (by decide) dX7_says_153 ?_
                          refine m_top (y := V no ix) (by rw [hfr _ hno2]) ?_
                          refine m_iast S hW gt2 n rfl (by omega) (by decide) dX7_says_154 (fun H locs hW => ?_)
                          obtain ⟨V_39, eV_39⟩ : ∃ z : mV, z = mU V1 (t + 2) n (V no ix) := ⟨_, rfl⟩
                          rw [← eV_39] at hW
                          refine lv_goto (tgt := 272) hx hb dX7_says_155 (by decide) ?_
                          refine lv_iinc (v := nI (k + 1)) (lv' := [(6, .int (nI (k + 1))), (5, .int (nI (n + 1))), (8, .int ((-(V (t + 1) k)) - (nI 2))), (7, .int (V (t + 1) k)), (4, .int (nI tl)), (3, .int (nI tb)), (0, .ref (ad t)), (1, .int (nI 2)), (2, .ref (ad no))]) hx hb dX7_says_272 hl (k := 8) rfl (m_inc k 1) (by decide) rfl (fun ls hl => ?_)
                          refine lv_goto (tgt := 61) hx hb dX7_says_275 (by decide) ?_
                          exact ih_61  (n + 1) (k + 1) V_39 _ _ _ (by omega) (by omega) (by intro a ha; rw [eV_39, mU_no _ _ ha]; exact hfr a ha) (by first | (exfalso; omega) | skip; rw [eV_39, mU_row, evX_s (by omega)]; first | exact hR.push (by first | exact Int32.not_lt.mp (by assumption) | assumption) (by omega) | exact hR.nm (by intro h; first | exact absurd h.1 (Int32.not_le.mpr (by assumption)) | exact absurd h.2 (by omega)) (by assumption) (by omega) eix hix | exact hR.nt0 (by intro h; first | exact absurd h.1 (Int32.not_le.mpr (by assumption)) | exact absurd h.2 (by omega)) (by intro h; first | exact absurd h.1 (by assumption) | exact absurd h.2 (by omega)) (by assumption) (by omega) (by assumption) | exact hR.nt1 (by intro h; first | exact absurd h.1 (Int32.not_le.mpr (by assumption)) | exact absurd h.2 (by omega)) (by intro h; first | exact absurd h.1 (by assumption) | exact absurd h.2 (by omega)) (by assumption) (by omega) (by assumption) | exact hR.ng (by intro h; first | exact absurd h.1 (Int32.not_le.mpr (by assumption)) | exact absurd h.2 (by omega)) (by intro h; first | exact absurd h.1 (by assumption) | exact absurd h.2 (by omega)) (by assumption) (by omega) | exact hR.jn (by intro h; first | exact absurd h.1 (Int32.not_le.mpr (by assumption)) | exact absurd h.2 (by omega)) (by intro h; first | exact absurd h.1 (by assumption) | exact absurd h.2 (by omega)) (by intro h; first | exact absurd h.1 (by assumption) | exact absurd h.2 (by omega)) (by intro h; first | exact absurd h.1 (by assumption) | exact absurd h.2 (by omega)) (by omega)) (by omega) hW (lv_sub hl [4, 5, 6, 7, 8, 1, 0] rfl)
                    · skip
                      refine m_if_eq (tgt := 158) hx hb dX7_says_131 (by decide) (fun c_40 => ?_) (fun c_40 => ?_)
                      · skip
                        refine lv_iload hx hb dX7_says_158 (lv_at hl 1 rfl) ?_
                        refine lv_bipush (v := -13) hx hb dX7_says_160 (by decide) ?_
                        refine lv_icmp_ne (tgt := 199) hx hb dX7_says_162 (by decide) (fun c_41 => ?_) (fun c_41 => ?_)
                        · skip
                          refine lv_iload hx hb dX7_says_199 (lv_at hl 1 rfl) ?_
                          refine lv_bipush (v := -14) hx hb dX7_says_201 (by decide) ?_
                          refine lv_icmp_ne (tgt := 233) hx hb dX7_says_203 (by decide) (fun c_42 => ?_) (fun c_42 => ?_)
                          · skip
                            refine lv_iload hx hb dX7_says_233 (lv_at hl 7 rfl) ?_
                            refine lv_iconst (v := nI 1) hx hb dX7_says_235 (by decide) ?_
                            refine lv_icmp_le (tgt := 272) hx hb dX7_says_236 (by decide) (fun c_43 => ?_) (fun c_43 => ?_)
                            · skip
                              have c_43 : n ≤ 1 := (nI_leI (by omega) (by omega)).mp c_43
                              refine lv_iinc (v := nI (k + 1)) (lv' := [(6, .int (nI (k + 1))), (8, .int ((-(V (t + 1) k)) - (nI 2))), (7, .int (V (t + 1) k)), (4, .int (nI tl)), (3, .int (nI tb)), (0, .ref (ad t)), (1, .int (nI 2)), (2, .ref (ad no)), (5, .int (nI n))]) hx hb dX7_says_272 hl (k := 8) rfl (m_inc k 1) (by decide) rfl (fun ls hl => ?_)
                              refine lv_goto (tgt := 61) hx hb dX7_says_275 (by decide) ?_
                              exact ih_61  n (k + 1) V1 _ _ _ (by omega) (by omega) (by exact hfr) (by rw [evX_s (by omega)]; exact hR.no (by intro h; first | exact absurd h.1 (Int32.not_le.mpr (by assumption)) | exact absurd h.2 (by omega)) (by intro h; first | exact absurd h.1 (by assumption) | exact absurd h.2 (by omega)) (by intro h; first | exact absurd h.1 (by assumption) | exact absurd h.2 (by omega)) (by intro h; first | exact absurd h.1 (by assumption) | exact absurd h.2 (by omega)) (by omega)) (by omega) hW (lv_sub hl [3, 4, 5, 6, 7, 8, 0] rfl)
                            · skip
                              have c_43 : ¬ n ≤ 1 := mt (nI_leI (by omega) (by omega)).mpr c_43
                              refine lv_iinc (v := nI (n - 1)) (lv' := [(5, .int (nI (n - 1))), (8, .int ((-(V (t + 1) k)) - (nI 2))), (7, .int (V (t + 1) k)), (4, .int (nI tl)), (3, .int (nI tb)), (0, .ref (ad t)), (1, .int (nI 2)), (2, .ref (ad no)), (6, .int (nI k))]) hx hb dX7_says_239 hl (k := 7) rfl (m_dec n 1 (by omega)) (by decide) rfl (fun ls hl => ?_)
                              refine lv_aload_n hx hb dX7_says_242 rfl (lv_at hl 5 rfl) ?_
                              refine m_getr S hW gt 4 rfl (j := (t + 2)) rfl kX7 (iW7 _) (by decide) (List.mem_cons_of_mem _ (wa_9 _ (List.mem_of_getElem? (i := 9) (by decide +kernel)))) dX7_says_243 ?_
                              refine lv_iload hx hb dX7_says_246 (lv_at hl 0 rfl) ?_
                              refine lv_iconst (v := nI 1) hx hb dX7_says_248 (by decide) ?_
                              refine lv_isub hx hb dX7_says_249 ?_
                              refine m_top (y := nI ((n - 1) - 1)) (pk_sub (by omega)) ?_
                              refine lv_iload hx hb dX7_says_250 (lv_at hl 2 rfl) ?_
                              refine lv_aload_n hx hb dX7_says_252 rfl (lv_at hl 5 rfl) ?_
                              refine m_getr S hW gt 4 rfl (j := (t + 2)) rfl kX7 (iW7 _) (by decide) (List.mem_cons_of_mem _ (wa_9 _ (List.mem_of_getElem? (i := 9) (by decide +kernel)))) dX7_says_253 ?_
                              refine lv_iload hx hb dX7_says_256 (lv_at hl 0 rfl) ?_
                              refine lv_iconst (v := nI 1) hx hb dX7_says_258 (by decide) ?_
                              refine lv_isub hx hb dX7_says_259 ?_
                              refine m_top (y := nI ((n - 1) - 1)) (pk_sub (by omega)) ?_
                              refine m_iald S hW gt2 ((n - 1) - 1) rfl (by omega) (by decide) dX7_says_260 ?_
                              refine m_top (y := (evX (V no) (V (t + 1)) tb (k - tb)).2 (n - 1 - 1)) (hR.2 _ (by omega)) ?_
                              refine lv_aload_n hx hb dX7_says_261 rfl (lv_at hl 5 rfl) ?_
                              refine m_getr S hW gt 4 rfl (j := (t + 2)) rfl kX7 (iW7 _) (by decide) (List.mem_cons_of_mem _ (wa_9 _ (List.mem_of_getElem? (i := 9) (by decide +kernel)))) dX7_says_262 ?_
                              refine lv_iload hx hb dX7_says_265 (lv_at hl 0 rfl) ?_
                              refine m_iald S hW gt2 (n - 1) rfl (by omega) (by decide) dX7_says_267 ?_
                              refine m_top (y := (evX (V no) (V (t + 1)) tb (k - tb)).2 (n - 1)) (hR.2 _ (by omega)) ?_
                              refine m_cie (m_rS S hW (c_X7_join l G ad sh1 V1 (V (t + 1) k) ((evX (V no) (V (t + 1)) tb (k - tb)).2 (n - 1 - 1)) ((evX (V no) (V (t + 1)) tb (k - tb)).2 (n - 1))) (va_cwS 3 hts (gCall [.methodLink RX7 34 yX7_join, .static yX7_join, .initialized RX7] (List.forall_mem_cons.mpr ⟨(wa_18 _ (List.mem_of_getElem? (i := 19) (by decide +kernel))), (List.forall_mem_cons.mpr ⟨(wa_18 _ (List.mem_of_getElem? (i := 17) (by decide +kernel))), (List.forall_mem_cons.mpr ⟨(wa_18 _ (List.mem_of_getElem? (i := 18) (by decide +kernel))), (List.forall_mem_cons.mpr ⟨(wa_9 _ (List.mem_of_getElem? (i := 4) (by decide +kernel))), (fun _ h => absurd h List.not_mem_nil)⟩)⟩)⟩)⟩)) rfl rfl rfl (by decide +kernel) ⟨Nat.le_of_ble_eq_true rfl, Nat.le_of_ble_eq_true rfl⟩) rfl hl.1 rfl (Nat.le_of_ble_eq_true rfl) dX7_says_268 ⟨Nat.le_of_ble_eq_true rfl, Nat.le_of_ble_eq_true rfl⟩) hW (fun H locs hW => ?_)
                              refine m_iast S hW gt2 ((n - 1) - 1) rfl (by omega) (by decide) dX7_says_271 (fun H locs hW => ?_)
                              obtain ⟨V_44, eV_44⟩ : ∃ z : mV, z = mU V1 (t + 2) ((n - 1) - 1) (fJoin (V (t + 1) k) ((evX (V no) (V (t + 1)) tb (k - tb)).2 (n - 1 - 1)) ((evX (V no) (V (t + 1)) tb (k - tb)).2 (n - 1))) := ⟨_, rfl⟩
                              rw [← eV_44] at hW
                              refine lv_iinc (v := nI (k + 1)) (lv' := [(6, .int (nI (k + 1))), (5, .int (nI (n - 1))), (8, .int ((-(V (t + 1) k)) - (nI 2))), (7, .int (V (t + 1) k)), (4, .int (nI tl)), (3, .int (nI tb)), (0, .ref (ad t)), (1, .int (nI 2)), (2, .ref (ad no))]) hx hb dX7_says_272 hl (k := 8) rfl (m_inc k 1) (by decide) rfl (fun ls hl => ?_)
                              refine lv_goto (tgt := 61) hx hb dX7_says_275 (by decide) ?_
                              exact ih_61  (n - 1) (k + 1) V_44 _ _ _ (by omega) (by omega) (by intro a ha; rw [eV_44, mU_no _ _ ha]; exact hfr a ha) (by first | (exfalso; omega) | skip; rw [eV_44, mU_row, evX_s (by omega)]; first | exact hR.push (by first | exact Int32.not_lt.mp (by assumption) | assumption) (by omega) | exact hR.nm (by intro h; first | exact absurd h.1 (Int32.not_le.mpr (by assumption)) | exact absurd h.2 (by omega)) (by assumption) (by omega) eix hix | exact hR.nt0 (by intro h; first | exact absurd h.1 (Int32.not_le.mpr (by assumption)) | exact absurd h.2 (by omega)) (by intro h; first | exact absurd h.1 (by assumption) | exact absurd h.2 (by omega)) (by assumption) (by omega) (by assumption) | exact hR.nt1 (by intro h; first | exact absurd h.1 (Int32.not_le.mpr (by assumption)) | exact absurd h.2 (by omega)) (by intro h; first | exact absurd h.1 (by assumption) | exact absurd h.2 (by omega)) (by assumption) (by omega) (by assumption) | exact hR.ng (by intro h; first | exact absurd h.1 (Int32.not_le.mpr (by assumption)) | exact absurd h.2 (by omega)) (by intro h; first | exact absurd h.1 (by assumption) | exact absurd h.2 (by omega)) (by assumption) (by omega) | exact hR.jn (by intro h; first | exact absurd h.1 (Int32.not_le.mpr (by assumption)) | exact absurd h.2 (by omega)) (by intro h; first | exact absurd h.1 (by assumption) | exact absurd h.2 (by omega)) (by intro h; first | exact absurd h.1 (by assumption) | exact absurd h.2 (by omega)) (by intro h; first | exact absurd h.1 (by assumption) | exact absurd h.2 (by omega)) (by omega)) (by omega) hW (lv_sub hl [4, 5, 6, 7, 8, 1, 0] rfl)
                          · skip
                            refine lv_iload hx hb dX7_says_206 (lv_at hl 7 rfl) ?_
                            refine m_if_le (tgt := 233) hx hb dX7_says_208 (by decide) (fun c_45 => ?_) (fun c_45 => ?_)
                            · skip
                              have c_45 : n ≤ 0 := (nI_leI (by omega) (by omega)).mp c_45
                              refine lv_iload hx hb dX7_says_233 (lv_at hl 7 rfl) ?_
                              refine lv_iconst (v := nI 1) hx hb dX7_says_235 (by decide) ?_
                              refine lv_icmp_le (tgt := 272) hx hb dX7_says_236 (by decide) (fun c_46 => ?_) (fun c_46 => ?_)
                              · skip
                                have c_46 : n ≤ 1 := (nI_leI (by omega) (by omega)).mp c_46
                                refine lv_iinc (v := nI (k + 1)) (lv' := [(6, .int (nI (k + 1))), (8, .int ((-(V (t + 1) k)) - (nI 2))), (7, .int (V (t + 1) k)), (4, .int (nI tl)), (3, .int (nI tb)), (0, .ref (ad t)), (1, .int (nI 2)), (2, .ref (ad no)), (5, .int (nI n))]) hx hb dX7_says_272 hl (k := 8) rfl (m_inc k 1) (by decide) rfl (fun ls hl => ?_)
                                refine lv_goto (tgt := 61) hx hb dX7_says_275 (by decide) ?_
                                exact ih_61  n (k + 1) V1 _ _ _ (by omega) (by omega) (by exact hfr) (by rw [evX_s (by omega)]; exact hR.no (by intro h; first | exact absurd h.1 (Int32.not_le.mpr (by assumption)) | exact absurd h.2 (by omega)) (by intro h; first | exact absurd h.1 (by assumption) | exact absurd h.2 (by omega)) (by intro h; first | exact absurd h.1 (by assumption) | exact absurd h.2 (by omega)) (by intro h; first | exact absurd h.1 (by assumption) | exact absurd h.2 (by omega)) (by omega)) (by omega) hW (lv_sub hl [3, 4, 5, 6, 7, 8, 0] rfl)
                              · skip
                                have c_46 : ¬ n ≤ 1 := mt (nI_leI (by omega) (by omega)).mpr c_46
                                refine lv_iinc (v := nI (n - 1)) (lv' := [(5, .int (nI (n - 1))), (8, .int ((-(V (t + 1) k)) - (nI 2))), (7, .int (V (t + 1) k)), (4, .int (nI tl)), (3, .int (nI tb)), (0, .ref (ad t)), (1, .int (nI 2)), (2, .ref (ad no)), (6, .int (nI k))]) hx hb dX7_says_239 hl (k := 7) rfl (m_dec n 1 (by omega)) (by decide) rfl (fun ls hl => ?_)
                                refine lv_aload_n hx hb dX7_says_242 rfl (lv_at hl 5 rfl) ?_
                                refine m_getr S hW gt 4 rfl (j := (t + 2)) rfl kX7 (iW7 _) (by decide) (List.mem_cons_of_mem _ (wa_9 _ (List.mem_of_getElem? (i := 9) (by decide +kernel)))) dX7_says_243 ?_
                                refine lv_iload hx hb dX7_says_246 (lv_at hl 0 rfl) ?_
                                refine lv_iconst (v := nI 1) hx hb dX7_says_248 (by decide) ?_
                                refine lv_isub hx hb dX7_says_249 ?_
                                refine m_top (y := nI ((n - 1) - 1)) (pk_sub (by omega)) ?_
                                refine lv_iload hx hb dX7_says_250 (lv_at hl 2 rfl) ?_
                                refine lv_aload_n hx hb dX7_says_252 rfl (lv_at hl 5 rfl) ?_
                                refine m_getr S hW gt 4 rfl (j := (t + 2)) rfl kX7 (iW7 _) (by decide) (List.mem_cons_of_mem _ (wa_9 _ (List.mem_of_getElem? (i := 9) (by decide +kernel)))) dX7_says_253 ?_
                                refine lv_iload hx hb dX7_says_256 (lv_at hl 0 rfl) ?_
                                refine lv_iconst (v := nI 1) hx hb dX7_says_258 (by decide) ?_
                                refine lv_isub hx hb dX7_says_259 ?_
                                refine m_top (y := nI ((n - 1) - 1)) (pk_sub (by omega)) ?_
                                refine m_iald S hW gt2 ((n - 1) - 1) rfl (by omega) (by decide) dX7_says_260 ?_
                                refine m_top (y := (evX (V no) (V (t + 1)) tb (k - tb)).2 (n - 1 - 1)) (hR.2 _ (by omega)) ?_
                                refine lv_aload_n hx hb dX7_says_261 rfl (lv_at hl 5 rfl) ?_
                                refine m_getr S hW gt 4 rfl (j := (t + 2)) rfl kX7 (iW7 _) (by decide) (List.mem_cons_of_mem _ (wa_9 _ (List.mem_of_getElem? (i := 9) (by decide +kernel)))) dX7_says_262 ?_
                                refine lv_iload hx hb dX7_says_265 (lv_at hl 0 rfl) ?_
                                refine m_iald S hW gt2 (n - 1) rfl (by omega) (by decide) dX7_says_267 ?_
                                refine m_top (y := (evX (V no) (V (t + 1)) tb (k - tb)).2 (n - 1)) (hR.2 _ (by omega)) ?_
                                refine m_cie (m_rS S hW (c_X7_join l G ad sh1 V1 (V (t + 1) k) ((evX (V no) (V (t + 1)) tb (k - tb)).2 (n - 1 - 1)) ((evX (V no) (V (t + 1)) tb (k - tb)).2 (n - 1))) (va_cwS 3 hts (gCall [.methodLink RX7 34 yX7_join, .static yX7_join, .initialized RX7] (List.forall_mem_cons.mpr ⟨(wa_18 _ (List.mem_of_getElem? (i := 19) (by decide +kernel))), (List.forall_mem_cons.mpr ⟨(wa_18 _ (List.mem_of_getElem? (i := 17) (by decide +kernel))), (List.forall_mem_cons.mpr ⟨(wa_18 _ (List.mem_of_getElem? (i := 18) (by decide +kernel))), (List.forall_mem_cons.mpr ⟨(wa_9 _ (List.mem_of_getElem? (i := 4) (by decide +kernel))), (fun _ h => absurd h List.not_mem_nil)⟩)⟩)⟩)⟩)) rfl rfl rfl (by decide +kernel) ⟨Nat.le_of_ble_eq_true rfl, Nat.le_of_ble_eq_true rfl⟩) rfl hl.1 rfl (Nat.le_of_ble_eq_true rfl) dX7_says_268 ⟨Nat.le_of_ble_eq_true rfl, Nat.le_of_ble_eq_true rfl⟩) hW (fun H locs hW => ?_)
                                refine m_iast S hW gt2 ((n - 1) - 1) rfl (by omega) (by decide) dX7_says_271 (fun H locs hW => ?_)
                                obtain ⟨V_47, eV_47⟩ : ∃ z : mV, z = mU V1 (t + 2) ((n - 1) - 1) (fJoin (V (t + 1) k) ((evX (V no) (V (t + 1)) tb (k - tb)).2 (n - 1 - 1)) ((evX (V no) (V (t + 1)) tb (k - tb)).2 (n - 1))) := ⟨_, rfl⟩
                                rw [← eV_47] at hW
                                refine lv_iinc (v := nI (k + 1)) (lv' := [(6, .int (nI (k + 1))), (5, .int (nI (n - 1))), (8, .int ((-(V (t + 1) k)) - (nI 2))), (7, .int (V (t + 1) k)), (4, .int (nI tl)), (3, .int (nI tb)), (0, .ref (ad t)), (1, .int (nI 2)), (2, .ref (ad no))]) hx hb dX7_says_272 hl (k := 8) rfl (m_inc k 1) (by decide) rfl (fun ls hl => ?_)
                                refine lv_goto (tgt := 61) hx hb dX7_says_275 (by decide) ?_
                                exact ih_61  (n - 1) (k + 1) V_47 _ _ _ (by omega) (by omega) (by intro a ha; rw [eV_47, mU_no _ _ ha]; exact hfr a ha) (by first | (exfalso; omega) | skip; rw [eV_47, mU_row, evX_s (by omega)]; first | exact hR.push (by first | exact Int32.not_lt.mp (by assumption) | assumption) (by omega) | exact hR.nm (by intro h; first | exact absurd h.1 (Int32.not_le.mpr (by assumption)) | exact absurd h.2 (by omega)) (by assumption) (by omega) eix hix | exact hR.nt0 (by intro h; first | exact absurd h.1 (Int32.not_le.mpr (by assumption)) | exact absurd h.2 (by omega)) (by intro h; first | exact absurd h.1 (by assumption) | exact absurd h.2 (by omega)) (by assumption) (by omega) (by assumption) | exact hR.nt1 (by intro h; first | exact absurd h.1 (Int32.not_le.mpr (by assumption)) | exact absurd h.2 (by omega)) (by intro h; first | exact absurd h.1 (by assumption) | exact absurd h.2 (by omega)) (by assumption) (by omega) (by assumption) | exact hR.ng (by intro h; first | exact absurd h.1 (Int32.not_le.mpr (by assumption)) | exact absurd h.2 (by omega)) (by intro h; first | exact absurd h.1 (by assumption) | exact absurd h.2 (by omega)) (by assumption) (by omega) | exact hR.jn (by intro h; first | exact absurd h.1 (Int32.not_le.mpr (by assumption)) | exact absurd h.2 (by omega)) (by intro h; first | exact absurd h.1 (by assumption) | exact absurd h.2 (by omega)) (by intro h; first | exact absurd h.1 (by assumption) | exact absurd h.2 (by omega)) (by intro h; first | exact absurd h.1 (by assumption) | exact absurd h.2 (by omega)) (by omega)) (by omega) hW (lv_sub hl [4, 5, 6, 7, 8, 1, 0] rfl)
                            · skip
                              have c_45 : ¬ n ≤ 0 := mt (nI_leI (by omega) (by omega)).mpr c_45
                              refine lv_aload_n hx hb dX7_says_211 rfl (lv_at hl 4 rfl) ?_
                              refine m_getr S hW gt 4 rfl (j := (t + 2)) rfl kX7 (iW7 _) (by decide) (List.mem_cons_of_mem _ (wa_9 _ (List.mem_of_getElem? (i := 9) (by decide +kernel)))) dX7_says_212 ?_
                              refine lv_iload hx hb dX7_says_215 (lv_at hl 7 rfl) ?_
                              refine lv_iconst (v := nI 1) hx hb dX7_says_217 (by decide) ?_
                              refine lv_isub hx hb dX7_says_218 ?_
                              refine m_top (y := nI (n - 1)) (pk_sub (by omega)) ?_
                              refine lv_aload_n hx hb dX7_says_219 rfl (lv_at hl 4 rfl) ?_
                              refine m_getr S hW gt 4 rfl (j := (t + 2)) rfl kX7 (iW7 _) (by decide) (List.mem_cons_of_mem _ (wa_9 _ (List.mem_of_getElem? (i := 9) (by decide +kernel)))) dX7_says_220 ?_
                              refine lv_iload hx hb dX7_says_223 (lv_at hl 7 rfl) ?_
                              refine lv_iconst (v := nI 1) hx hb dX7_says_225 (by decide) ?_
                              refine lv_isub hx hb dX7_says_226 ?_
                              refine m_top (y := nI (n - 1)) (pk_sub (by omega)) ?_
                              refine m_iald S hW gt2 (n - 1) rfl (by omega) (by decide) dX7_says_227 ?_
                              refine m_top (y := (evX (V no) (V (t + 1)) tb (k - tb)).2 (n - 1)) (hR.2 _ (by omega)) ?_
                              refine lv_ineg hx hb dX7_says_228 ?_
                              refine m_iast S hW gt2 (n - 1) rfl (by omega) (by decide) dX7_says_229 (fun H locs hW => ?_)
                              obtain ⟨V_48, eV_48⟩ : ∃ z : mV, z = mU V1 (t + 2) (n - 1) ((-((evX (V no) (V (t + 1)) tb (k - tb)).2 (n - 1)))) := ⟨_, rfl⟩
                              rw [← eV_48] at hW
                              refine lv_goto (tgt := 272) hx hb dX7_says_230 (by decide) ?_
                              refine lv_iinc (v := nI (k + 1)) (lv' := [(6, .int (nI (k + 1))), (8, .int ((-(V (t + 1) k)) - (nI 2))), (7, .int (V (t + 1) k)), (4, .int (nI tl)), (3, .int (nI tb)), (0, .ref (ad t)), (1, .int (nI 2)), (2, .ref (ad no)), (5, .int (nI n))]) hx hb dX7_says_272 hl (k := 8) rfl (m_inc k 1) (by decide) rfl (fun ls hl => ?_)
                              refine lv_goto (tgt := 61) hx hb dX7_says_275 (by decide) ?_
                              exact ih_61  n (k + 1) V_48 _ _ _ (by omega) (by omega) (by intro a ha; rw [eV_48, mU_no _ _ ha]; exact hfr a ha) (by first | (exfalso; omega) | skip; rw [eV_48, mU_row, evX_s (by omega)]; first | exact hR.push (by first | exact Int32.not_lt.mp (by assumption) | assumption) (by omega) | exact hR.nm (by intro h; first | exact absurd h.1 (Int32.not_le.mpr (by assumption)) | exact absurd h.2 (by omega)) (by assumption) (by omega) eix hix | exact hR.nt0 (by intro h; first | exact absurd h.1 (Int32.not_le.mpr (by assumption)) | exact absurd h.2 (by omega)) (by intro h; first | exact absurd h.1 (by assumption) | exact absurd h.2 (by omega)) (by assumption) (by omega) (by assumption) | exact hR.nt1 (by intro h; first | exact absurd h.1 (Int32.not_le.mpr (by assumption)) | exact absurd h.2 (by omega)) (by intro h; first | exact absurd h.1 (by assumption) | exact absurd h.2 (by omega)) (by assumption) (by omega) (by assumption) | exact hR.ng (by intro h; first | exact absurd h.1 (Int32.not_le.mpr (by assumption)) | exact absurd h.2 (by omega)) (by intro h; first | exact absurd h.1 (by assumption) | exact absurd h.2 (by omega)) (by assumption) (by omega) | exact hR.jn (by intro h; first | exact absurd h.1 (Int32.not_le.mpr (by assumption)) | exact absurd h.2 (by omega)) (by intro h; first | exact absurd h.1 (by assumption) | exact absurd h.2 (by omega)) (by intro h; first | exact absurd h.1 (by assumption) | exact absurd h.2 (by omega)) (by intro h; first | exact absurd h.1 (by assumption) | exact absurd h.2 (by omega)) (by omega)) (by omega) hW (lv_sub hl [3, 4, 5, 6, 7, 8, 0] rfl)
                        · skip
                          refine lv_iload hx hb dX7_says_165 (lv_at hl 7 rfl) ?_
                          refine m_if_le (tgt := 199) hx hb dX7_says_167 (by decide) (fun c_49 => ?_) (fun c_49 => ?_)
                          · skip
                            have c_49 : n ≤ 0 := (nI_leI (by omega) (by omega)).mp c_49
                            refine lv_iload hx hb dX7_says_199 (lv_at hl 1 rfl) ?_
                            refine lv_bipush (v := -14) hx hb dX7_says_201 (by decide) ?_
                            refine lv_icmp_ne (tgt := 233) hx hb dX7_says_203 (by decide) (fun c_50 => ?_) (fun c_50 => ?_)
                            · skip
                              refine lv_iload hx hb dX7_says_233 (lv_at hl 7 rfl) ?_
                              refine lv_iconst (v := nI 1) hx hb dX7_says_235 (by decide) ?_
                              refine lv_icmp_le (tgt := 272) hx hb dX7_says_236 (by decide) (fun c_51 => ?_) (fun c_51 => ?_)
                              · skip
                                have c_51 : n ≤ 1 := (nI_leI (by omega) (by omega)).mp c_51
                                refine lv_iinc (v := nI (k + 1)) (lv' := [(6, .int (nI (k + 1))), (8, .int ((-(V (t + 1) k)) - (nI 2))), (7, .int (V (t + 1) k)), (4, .int (nI tl)), (3, .int (nI tb)), (0, .ref (ad t)), (1, .int (nI 2)), (2, .ref (ad no)), (5, .int (nI n))]) hx hb dX7_says_272 hl (k := 8) rfl (m_inc k 1) (by decide) rfl (fun ls hl => ?_)
                                refine lv_goto (tgt := 61) hx hb dX7_says_275 (by decide) ?_
                                exact ih_61  n (k + 1) V1 _ _ _ (by omega) (by omega) (by exact hfr) (by rw [evX_s (by omega)]; exact hR.no (by intro h; first | exact absurd h.1 (Int32.not_le.mpr (by assumption)) | exact absurd h.2 (by omega)) (by intro h; first | exact absurd h.1 (by assumption) | exact absurd h.2 (by omega)) (by intro h; first | exact absurd h.1 (by assumption) | exact absurd h.2 (by omega)) (by intro h; first | exact absurd h.1 (by assumption) | exact absurd h.2 (by omega)) (by omega)) (by omega) hW (lv_sub hl [3, 4, 5, 6, 7, 8, 0] rfl)
                              · skip
                                have c_51 : ¬ n ≤ 1 := mt (nI_leI (by omega) (by omega)).mpr c_51
                                refine lv_iinc (v := nI (n - 1)) (lv' := [(5, .int (nI (n - 1))), (8, .int ((-(V (t + 1) k)) - (nI 2))), (7, .int (V (t + 1) k)), (4, .int (nI tl)), (3, .int (nI tb)), (0, .ref (ad t)), (1, .int (nI 2)), (2, .ref (ad no)), (6, .int (nI k))]) hx hb dX7_says_239 hl (k := 7) rfl (m_dec n 1 (by omega)) (by decide) rfl (fun ls hl => ?_)
                                refine lv_aload_n hx hb dX7_says_242 rfl (lv_at hl 5 rfl) ?_
                                refine m_getr S hW gt 4 rfl (j := (t + 2)) rfl kX7 (iW7 _) (by decide) (List.mem_cons_of_mem _ (wa_9 _ (List.mem_of_getElem? (i := 9) (by decide +kernel)))) dX7_says_243 ?_
                                refine lv_iload hx hb dX7_says_246 (lv_at hl 0 rfl) ?_
                                refine lv_iconst (v := nI 1) hx hb dX7_says_248 (by decide) ?_
                                refine lv_isub hx hb dX7_says_249 ?_
                                refine m_top (y := nI ((n - 1) - 1)) (pk_sub (by omega)) ?_
                                refine lv_iload hx hb dX7_says_250 (lv_at hl 2 rfl) ?_
                                refine lv_aload_n hx hb dX7_says_252 rfl (lv_at hl 5 rfl) ?_
                                refine m_getr S hW gt 4 rfl (j := (t + 2)) rfl kX7 (iW7 _) (by decide) (List.mem_cons_of_mem _ (wa_9 _ (List.mem_of_getElem? (i := 9) (by decide +kernel)))) dX7_says_253 ?_
                                refine lv_iload hx hb dX7_says_256 (lv_at hl 0 rfl) ?_
                                refine lv_iconst (v := nI 1) hx hb dX7_says_258 (by decide) ?_
                                refine lv_isub hx hb dX7_says_259 ?_
                                refine m_top (y := nI ((n - 1) - 1)) (pk_sub (by omega)) ?_
                                refine m_iald S hW gt2 ((n - 1) - 1) rfl (by omega) (by decide) dX7_says_260 ?_
                                refine m_top (y := (evX (V no) (V (t + 1)) tb (k - tb)).2 (n - 1 - 1)) (hR.2 _ (by omega)) ?_
                                refine lv_aload_n hx hb dX7_says_261 rfl (lv_at hl 5 rfl) ?_
                                refine m_getr S hW gt 4 rfl (j := (t + 2)) rfl kX7 (iW7 _) (by decide) (List.mem_cons_of_mem _ (wa_9 _ (List.mem_of_getElem? (i := 9) (by decide +kernel)))) dX7_says_262 ?_
                                refine lv_iload hx hb dX7_says_265 (lv_at hl 0 rfl) ?_
                                refine m_iald S hW gt2 (n - 1) rfl (by omega) (by decide) dX7_says_267 ?_
                                refine m_top (y := (evX (V no) (V (t + 1)) tb (k - tb)).2 (n - 1)) (hR.2 _ (by omega)) ?_
                                refine m_cie (m_rS S hW (c_X7_join l G ad sh1 V1 (V (t + 1) k) ((evX (V no) (V (t + 1)) tb (k - tb)).2 (n - 1 - 1)) ((evX (V no) (V (t + 1)) tb (k - tb)).2 (n - 1))) (va_cwS 3 hts (gCall [.methodLink RX7 34 yX7_join, .static yX7_join, .initialized RX7] (List.forall_mem_cons.mpr ⟨(wa_18 _ (List.mem_of_getElem? (i := 19) (by decide +kernel))), (List.forall_mem_cons.mpr ⟨(wa_18 _ (List.mem_of_getElem? (i := 17) (by decide +kernel))), (List.forall_mem_cons.mpr ⟨(wa_18 _ (List.mem_of_getElem? (i := 18) (by decide +kernel))), (List.forall_mem_cons.mpr ⟨(wa_9 _ (List.mem_of_getElem? (i := 4) (by decide +kernel))), (fun _ h => absurd h List.not_mem_nil)⟩)⟩)⟩)⟩)) rfl rfl rfl (by decide +kernel) ⟨Nat.le_of_ble_eq_true rfl, Nat.le_of_ble_eq_true rfl⟩) rfl hl.1 rfl (Nat.le_of_ble_eq_true rfl) dX7_says_268 ⟨Nat.le_of_ble_eq_true rfl, Nat.le_of_ble_eq_true rfl⟩) hW (fun H locs hW => ?_)
                                refine m_iast S hW gt2 ((n - 1) - 1) rfl (by omega) (by decide) dX7_says_271 (fun H locs hW => ?_)
                                obtain ⟨V_52, eV_52⟩ : ∃ z : mV, z = mU V1 (t + 2) ((n - 1) - 1) (fJoin (V (t + 1) k) ((evX (V no) (V (t + 1)) tb (k - tb)).2 (n - 1 - 1)) ((evX (V no) (V (t + 1)) tb (k - tb)).2 (n - 1))) := ⟨_, rfl⟩
                                rw [← eV_52] at hW
                                refine lv_iinc (v := nI (k + 1)) (lv' := [(6, .int (nI (k + 1))), (5, .int (nI (n - 1))), (8, .int ((-(V (t + 1) k)) - (nI 2))), (7, .int (V (t + 1) k)), (4, .int (nI tl)), (3, .int (nI tb)), (0, .ref (ad t)), (1, .int (nI 2)), (2, .ref (ad no))]) hx hb dX7_says_272 hl (k := 8) rfl (m_inc k 1) (by decide) rfl (fun ls hl => ?_)
                                refine lv_goto (tgt := 61) hx hb dX7_says_275 (by decide) ?_
                                exact ih_61  (n - 1) (k + 1) V_52 _ _ _ (by omega) (by omega) (by intro a ha; rw [eV_52, mU_no _ _ ha]; exact hfr a ha) (by first | (exfalso; omega) | skip; rw [eV_52, mU_row, evX_s (by omega)]; first | exact hR.push (by first | exact Int32.not_lt.mp (by assumption) | assumption) (by omega) | exact hR.nm (by intro h; first | exact absurd h.1 (Int32.not_le.mpr (by assumption)) | exact absurd h.2 (by omega)) (by assumption) (by omega) eix hix | exact hR.nt0 (by intro h; first | exact absurd h.1 (Int32.not_le.mpr (by assumption)) | exact absurd h.2 (by omega)) (by intro h; first | exact absurd h.1 (by assumption) | exact absurd h.2 (by omega)) (by assumption) (by omega) (by assumption) | exact hR.nt1 (by intro h; first | exact absurd h.1 (Int32.not_le.mpr (by assumption)) | exact absurd h.2 (by omega)) (by intro h; first | exact absurd h.1 (by assumption) | exact absurd h.2 (by omega)) (by assumption) (by omega) (by assumption) | exact hR.ng (by intro h; first | exact absurd h.1 (Int32.not_le.mpr (by assumption)) | exact absurd h.2 (by omega)) (by intro h; first | exact absurd h.1 (by assumption) | exact absurd h.2 (by omega)) (by assumption) (by omega) | exact hR.jn (by intro h; first | exact absurd h.1 (Int32.not_le.mpr (by assumption)) | exact absurd h.2 (by omega)) (by intro h; first | exact absurd h.1 (by assumption) | exact absurd h.2 (by omega)) (by intro h; first | exact absurd h.1 (by assumption) | exact absurd h.2 (by omega)) (by intro h; first | exact absurd h.1 (by assumption) | exact absurd h.2 (by omega)) (by omega)) (by omega) hW (lv_sub hl [4, 5, 6, 7, 8, 1, 0] rfl)
                            · skip
                              refine lv_iload hx hb dX7_says_206 (lv_at hl 7 rfl) ?_
                              refine m_if_le (tgt := 233) hx hb dX7_says_208 (by decide) (fun c_53 => ?_) (fun c_53 => ?_)
                              · skip
                                have c_53 : n ≤ 0 := (nI_leI (by omega) (by omega)).mp c_53
                                refine lv_iload hx hb dX7_says_233 (lv_at hl 7 rfl) ?_
                                refine lv_iconst (v := nI 1) hx hb dX7_says_235 (by decide) ?_
                                refine lv_icmp_le (tgt := 272) hx hb dX7_says_236 (by decide) (fun c_54 => ?_) (fun c_54 => ?_)
                                · skip
                                  have c_54 : n ≤ 1 := (nI_leI (by omega) (by omega)).mp c_54
                                  refine lv_iinc (v := nI (k + 1)) (lv' := [(6, .int (nI (k + 1))), (8, .int ((-(V (t + 1) k)) - (nI 2))), (7, .int (V (t + 1) k)), (4, .int (nI tl)), (3, .int (nI tb)), (0, .ref (ad t)), (1, .int (nI 2)), (2, .ref (ad no)), (5, .int (nI n))]) hx hb dX7_says_272 hl (k := 8) rfl (m_inc k 1) (by decide) rfl (fun ls hl => ?_)
                                  refine lv_goto (tgt := 61) hx hb dX7_says_275 (by decide) ?_
                                  exact ih_61  n (k + 1) V1 _ _ _ (by omega) (by omega) (by exact hfr) (by rw [evX_s (by omega)]; exact hR.no (by intro h; first | exact absurd h.1 (Int32.not_le.mpr (by assumption)) | exact absurd h.2 (by omega)) (by intro h; first | exact absurd h.1 (by assumption) | exact absurd h.2 (by omega)) (by intro h; first | exact absurd h.1 (by assumption) | exact absurd h.2 (by omega)) (by intro h; first | exact absurd h.1 (by assumption) | exact absurd h.2 (by omega)) (by omega)) (by omega) hW (lv_sub hl [3, 4, 5, 6, 7, 8, 0] rfl)
                                · skip
                                  have c_54 : ¬ n ≤ 1 := mt (nI_leI (by omega) (by omega)).mpr c_54
                                  refine lv_iinc (v := nI (n - 1)) (lv' := [(5, .int (nI (n - 1))), (8, .int ((-(V (t + 1) k)) - (nI 2))), (7, .int (V (t + 1) k)), (4, .int (nI tl)), (3, .int (nI tb)), (0, .ref (ad t)), (1, .int (nI 2)), (2, .ref (ad no)), (6, .int (nI k))]) hx hb dX7_says_239 hl (k := 7) rfl (m_dec n 1 (by omega)) (by decide) rfl (fun ls hl => ?_)
                                  refine lv_aload_n hx hb dX7_says_242 rfl (lv_at hl 5 rfl) ?_
                                  refine m_getr S hW gt 4 rfl (j := (t + 2)) rfl kX7 (iW7 _) (by decide) (List.mem_cons_of_mem _ (wa_9 _ (List.mem_of_getElem? (i := 9) (by decide +kernel)))) dX7_says_243 ?_
                                  refine lv_iload hx hb dX7_says_246 (lv_at hl 0 rfl) ?_
                                  refine lv_iconst (v := nI 1) hx hb dX7_says_248 (by decide) ?_
                                  refine lv_isub hx hb dX7_says_249 ?_
                                  refine m_top (y := nI ((n - 1) - 1)) (pk_sub (by omega)) ?_
                                  refine lv_iload hx hb dX7_says_250 (lv_at hl 2 rfl) ?_
                                  refine lv_aload_n hx hb dX7_says_252 rfl (lv_at hl 5 rfl) ?_
                                  refine m_getr S hW gt 4 rfl (j := (t + 2)) rfl kX7 (iW7 _) (by decide) (List.mem_cons_of_mem _ (wa_9 _ (List.mem_of_getElem? (i := 9) (by decide +kernel)))) dX7_says_253 ?_
                                  refine lv_iload hx hb dX7_says_256 (lv_at hl 0 rfl) ?_
                                  refine lv_iconst (v := nI 1) hx hb dX7_says_258 (by decide) ?_
                                  refine lv_isub hx hb dX7_says_259 ?_
                                  refine m_top (y := nI ((n - 1) - 1)) (pk_sub (by omega)) ?_
                                  refine m_iald S hW gt2 ((n - 1) - 1) rfl (by omega) (by decide) dX7_says_260 ?_
                                  refine m_top (y := (evX (V no) (V (t + 1)) tb (k - tb)).2 (n - 1 - 1)) (hR.2 _ (by omega)) ?_
                                  refine lv_aload_n hx hb dX7_says_261 rfl (lv_at hl 5 rfl) ?_
                                  refine m_getr S hW gt 4 rfl (j := (t + 2)) rfl kX7 (iW7 _) (by decide) (List.mem_cons_of_mem _ (wa_9 _ (List.mem_of_getElem? (i := 9) (by decide +kernel)))) dX7_says_262 ?_
                                  refine lv_iload hx hb dX7_says_265 (lv_at hl 0 rfl) ?_
                                  refine m_iald S hW gt2 (n - 1) rfl (by omega) (by decide) dX7_says_267 ?_
                                  refine m_top (y := (evX (V no) (V (t + 1)) tb (k - tb)).2 (n - 1)) (hR.2 _ (by omega)) ?_
                                  refine m_cie (m_rS S hW (c_X7_join l G ad sh1 V1 (V (t + 1) k) ((evX (V no) (V (t + 1)) tb (k - tb)).2 (n - 1 - 1)) ((evX (V no) (V (t + 1)) tb (k - tb)).2 (n - 1))) (va_cwS 3 hts (gCall [.methodLink RX7 34 yX7_join, .static yX7_join, .initialized RX7] (List.forall_mem_cons.mpr ⟨(wa_18 _ (List.mem_of_getElem? (i := 19) (by decide +kernel))), (List.forall_mem_cons.mpr ⟨(wa_18 _ (List.mem_of_getElem? (i := 17) (by decide +kernel))), (List.forall_mem_cons.mpr ⟨(wa_18 _ (List.mem_of_getElem? (i := 18) (by decide +kernel))), (List.forall_mem_cons.mpr ⟨(wa_9 _ (List.mem_of_getElem? (i := 4) (by decide +kernel))), (fun _ h => absurd h List.not_mem_nil)⟩)⟩)⟩)⟩)) rfl rfl rfl (by decide +kernel) ⟨Nat.le_of_ble_eq_true rfl, Nat.le_of_ble_eq_true rfl⟩) rfl hl.1 rfl (Nat.le_of_ble_eq_true rfl) dX7_says_268 ⟨Nat.le_of_ble_eq_true rfl, Nat.le_of_ble_eq_true rfl⟩) hW (fun H locs hW => ?_)
                                  refine m_iast S hW gt2 ((n - 1) - 1) rfl (by omega) (by decide) dX7_says_271 (fun H locs hW => ?_)
                                  obtain ⟨V_55, eV_55⟩ : ∃ z : mV, z = mU V1 (t + 2) ((n - 1) - 1) (fJoin (V (t + 1) k) ((evX (V no) (V (t + 1)) tb (k - tb)).2 (n - 1 - 1)) ((evX (V no) (V (t + 1)) tb (k - tb)).2 (n - 1))) := ⟨_, rfl⟩
                                  rw [← eV_55] at hW
                                  refine lv_iinc (v := nI (k + 1)) (lv' := [(6, .int (nI (k + 1))), (5, .int (nI (n - 1))), (8, .int ((-(V (t + 1) k)) - (nI 2))), (7, .int (V (t + 1) k)), (4, .int (nI tl)), (3, .int (nI tb)), (0, .ref (ad t)), (1, .int (nI 2)), (2, .ref (ad no))]) hx hb dX7_says_272 hl (k := 8) rfl (m_inc k 1) (by decide) rfl (fun ls hl => ?_)
                                  refine lv_goto (tgt := 61) hx hb dX7_says_275 (by decide) ?_
                                  exact ih_61  (n - 1) (k + 1) V_55 _ _ _ (by omega) (by omega) (by intro a ha; rw [eV_55, mU_no _ _ ha]; exact hfr a ha) (by first | (exfalso; omega) | skip; rw [eV_55, mU_row, evX_s (by omega)]; first | exact hR.push (by first | exact Int32.not_lt.mp (by assumption) | assumption) (by omega) | exact hR.nm (by intro h; first | exact absurd h.1 (Int32.not_le.mpr (by assumption)) | exact absurd h.2 (by omega)) (by assumption) (by omega) eix hix | exact hR.nt0 (by intro h; first | exact absurd h.1 (Int32.not_le.mpr (by assumption)) | exact absurd h.2 (by omega)) (by intro h; first | exact absurd h.1 (by assumption) | exact absurd h.2 (by omega)) (by assumption) (by omega) (by assumption) | exact hR.nt1 (by intro h; first | exact absurd h.1 (Int32.not_le.mpr (by assumption)) | exact absurd h.2 (by omega)) (by intro h; first | exact absurd h.1 (by assumption) | exact absurd h.2 (by omega)) (by assumption) (by omega) (by assumption) | exact hR.ng (by intro h; first | exact absurd h.1 (Int32.not_le.mpr (by assumption)) | exact absurd h.2 (by omega)) (by intro h; first | exact absurd h.1 (by assumption) | exact absurd h.2 (by omega)) (by assumption) (by omega) | exact hR.jn (by intro h; first | exact absurd h.1 (Int32.not_le.mpr (by assumption)) | exact absurd h.2 (by omega)) (by intro h; first | exact absurd h.1 (by assumption) | exact absurd h.2 (by omega)) (by intro h; first | exact absurd h.1 (by assumption) | exact absurd h.2 (by omega)) (by intro h; first | exact absurd h.1 (by assumption) | exact absurd h.2 (by omega)) (by omega)) (by omega) hW (lv_sub hl [4, 5, 6, 7, 8, 1, 0] rfl)
                              · skip
                                have c_53 : ¬ n ≤ 0 := mt (nI_leI (by omega) (by omega)).mpr c_53
                                refine lv_aload_n hx hb dX7_says_211 rfl (lv_at hl 4 rfl) ?_
                                refine m_getr S hW gt 4 rfl (j := (t + 2)) rfl kX7 (iW7 _) (by decide) (List.mem_cons_of_mem _ (wa_9 _ (List.mem_of_getElem? (i := 9) (by decide +kernel)))) dX7_says_212 ?_
                                refine lv_iload hx hb dX7_says_215 (lv_at hl 7 rfl) ?_
                                refine lv_iconst (v := nI 1) hx hb dX7_says_217 (by decide) ?_
                                refine lv_isub hx hb dX7_says_218 ?_
                                refine m_top (y := nI (n - 1)) (pk_sub (by omega)) ?_
                                refine lv_aload_n hx hb dX7_says_219 rfl (lv_at hl 4 rfl) ?_
                                refine m_getr S hW gt 4 rfl (j := (t + 2)) rfl kX7 (iW7 _) (by decide) (List.mem_cons_of_mem _ (wa_9 _ (List.mem_of_getElem? (i := 9) (by decide +kernel)))) dX7_says_220 ?_
                                refine lv_iload hx hb dX7_says_223 (lv_at hl 7 rfl) ?_
                                refine lv_iconst (v := nI 1) hx hb dX7_says_225 (by decide) ?_
                                refine lv_isub hx hb dX7_says_226 ?_
                                refine m_top (y := nI (n - 1)) (pk_sub (by omega)) ?_
                                refine m_iald S hW gt2 (n - 1) rfl (by omega) (by decide) dX7_says_227 ?_
                                refine m_top (y := (evX (V no) (V (t + 1)) tb (k - tb)).2 (n - 1)) (hR.2 _ (by omega)) ?_
                                refine lv_ineg hx hb dX7_says_228 ?_
                                refine m_iast S hW gt2 (n - 1) rfl (by omega) (by decide) dX7_says_229 (fun H locs hW => ?_)
                                obtain ⟨V_56, eV_56⟩ : ∃ z : mV, z = mU V1 (t + 2) (n - 1) ((-((evX (V no) (V (t + 1)) tb (k - tb)).2 (n - 1)))) := ⟨_, rfl⟩
                                rw [← eV_56] at hW
                                refine lv_goto (tgt := 272) hx hb dX7_says_230 (by decide) ?_
                                refine lv_iinc (v := nI (k + 1)) (lv' := [(6, .int (nI (k + 1))), (8, .int ((-(V (t + 1) k)) - (nI 2))), (7, .int (V (t + 1) k)), (4, .int (nI tl)), (3, .int (nI tb)), (0, .ref (ad t)), (1, .int (nI 2)), (2, .ref (ad no)), (5, .int (nI n))]) hx hb dX7_says_272 hl (k := 8) rfl (m_inc k 1) (by decide) rfl (fun ls hl => ?_)
                                refine lv_goto (tgt := 61) hx hb dX7_says_275 (by decide) ?_
                                exact ih_61  n (k + 1) V_56 _ _ _ (by omega) (by omega) (by intro a ha; rw [eV_56, mU_no _ _ ha]; exact hfr a ha) (by first | (exfalso; omega) | skip; rw [eV_56, mU_row, evX_s (by omega)]; first | exact hR.push (by first | exact Int32.not_lt.mp (by assumption) | assumption) (by omega) | exact hR.nm (by intro h; first | exact absurd h.1 (Int32.not_le.mpr (by assumption)) | exact absurd h.2 (by omega)) (by assumption) (by omega) eix hix | exact hR.nt0 (by intro h; first | exact absurd h.1 (Int32.not_le.mpr (by assumption)) | exact absurd h.2 (by omega)) (by intro h; first | exact absurd h.1 (by assumption) | exact absurd h.2 (by omega)) (by assumption) (by omega) (by assumption) | exact hR.nt1 (by intro h; first | exact absurd h.1 (Int32.not_le.mpr (by assumption)) | exact absurd h.2 (by omega)) (by intro h; first | exact absurd h.1 (by assumption) | exact absurd h.2 (by omega)) (by assumption) (by omega) (by assumption) | exact hR.ng (by intro h; first | exact absurd h.1 (Int32.not_le.mpr (by assumption)) | exact absurd h.2 (by omega)) (by intro h; first | exact absurd h.1 (by assumption) | exact absurd h.2 (by omega)) (by assumption) (by omega) | exact hR.jn (by intro h; first | exact absurd h.1 (Int32.not_le.mpr (by assumption)) | exact absurd h.2 (by omega)) (by intro h; first | exact absurd h.1 (by assumption) | exact absurd h.2 (by omega)) (by intro h; first | exact absurd h.1 (by assumption) | exact absurd h.2 (by omega)) (by intro h; first | exact absurd h.1 (by assumption) | exact absurd h.2 (by omega)) (by omega)) (by omega) hW (lv_sub hl [3, 4, 5, 6, 7, 8, 0] rfl)
                          · skip
                            have c_49 : ¬ n ≤ 0 := mt (nI_leI (by omega) (by omega)).mpr c_49
                            refine lv_aload_n hx hb dX7_says_170 rfl (lv_at hl 4 rfl) ?_
                            refine m_getr S hW gt 4 rfl (j := (t + 2)) rfl kX7 (iW7 _) (by decide) (List.mem_cons_of_mem _ (wa_9 _ (List.mem_of_getElem? (i := 9) (by decide +kernel)))) dX7_says_171 ?_
                            refine lv_iload hx hb dX7_says_174 (lv_at hl 7 rfl) ?_
                            refine lv_iconst (v := nI 1) hx hb dX7_says_176 (by decide) ?_
                            refine lv_isub hx hb dX7_says_177 ?_
                            refine m_top (y := nI (n - 1)) (pk_sub (by omega)) ?_
                            refine lv_aload_n hx hb dX7_says_178 rfl (lv_at hl 4 rfl) ?_
                            refine m_getr S hW gt 4 rfl (j := (t + 2)) rfl kX7 (iW7 _) (by decide) (List.mem_cons_of_mem _ (wa_9 _ (List.mem_of_getElem? (i := 9) (by decide +kernel)))) dX7_says_179 ?_
                            refine lv_iload hx hb dX7_says_182 (lv_at hl 7 rfl) ?_
                            refine lv_iconst (v := nI 1) hx hb dX7_says_184 (by decide) ?_
                            refine lv_isub hx hb dX7_says_185 ?_
                            refine m_top (y := nI (n - 1)) (pk_sub (by omega)) ?_
                            refine m_iald S hW gt2 (n - 1) rfl (by omega) (by decide) dX7_says_186 ?_
                            refine m_top (y := (evX (V no) (V (t + 1)) tb (k - tb)).2 (n - 1)) (hR.2 _ (by omega)) ?_
                            refine m_if_ne (tgt := 194) hx hb dX7_says_187 (by decide) (fun c_57 => ?_) (fun c_57 => ?_)
                            · skip
                              refine lv_iconst (v := nI 0) hx hb dX7_says_194 (by decide) ?_
                              refine m_iast S hW gt2 (n - 1) rfl (by omega) (by decide) dX7_says_195 (fun H locs hW => ?_)
                              obtain ⟨V_58, eV_58⟩ : ∃ z : mV, z = mU V1 (t + 2) (n - 1) (nI 0) := ⟨_, rfl⟩
                              rw [← eV_58] at hW
                              refine lv_goto (tgt := 272) hx hb dX7_says_196 (by decide) ?_
                              refine lv_iinc (v := nI (k + 1)) (lv' := [(6, .int (nI (k + 1))), (8, .int ((-(V (t + 1) k)) - (nI 2))), (7, .int (V (t + 1) k)), (4, .int (nI tl)), (3, .int (nI tb)), (0, .ref (ad t)), (1, .int (nI 2)), (2, .ref (ad no)), (5, .int (nI n))]) hx hb dX7_says_272 hl (k := 8) rfl (m_inc k 1) (by decide) rfl (fun ls hl => ?_)
                              refine lv_goto (tgt := 61) hx hb dX7_says_275 (by decide) ?_
                              exact ih_61  n (k + 1) V_58 _ _ _ (by omega) (by omega) (by intro a ha; rw [eV_58, mU_no _ _ ha]; exact hfr a ha) (by first | (exfalso; omega) | skip; rw [eV_58, mU_row, evX_s (by omega)]; first | exact hR.push (by first | exact Int32.not_lt.mp (by assumption) | assumption) (by omega) | exact hR.nm (by intro h; first | exact absurd h.1 (Int32.not_le.mpr (by assumption)) | exact absurd h.2 (by omega)) (by assumption) (by omega) eix hix | exact hR.nt0 (by intro h; first | exact absurd h.1 (Int32.not_le.mpr (by assumption)) | exact absurd h.2 (by omega)) (by intro h; first | exact absurd h.1 (by assumption) | exact absurd h.2 (by omega)) (by assumption) (by omega) (by assumption) | exact hR.nt1 (by intro h; first | exact absurd h.1 (Int32.not_le.mpr (by assumption)) | exact absurd h.2 (by omega)) (by intro h; first | exact absurd h.1 (by assumption) | exact absurd h.2 (by omega)) (by assumption) (by omega) (by assumption) | exact hR.ng (by intro h; first | exact absurd h.1 (Int32.not_le.mpr (by assumption)) | exact absurd h.2 (by omega)) (by intro h; first | exact absurd h.1 (by assumption) | exact absurd h.2 (by omega)) (by assumption) (by omega) | exact hR.jn (by intro h; first | exact absurd h.1 (Int32.not_le.mpr (by assumption)) | exact absurd h.2 (by omega)) (by intro h; first | exact absurd h.1 (by assumption) | exact absurd h.2 (by omega)) (by intro h; first | exact absurd h.1 (by assumption) | exact absurd h.2 (by omega)) (by intro h; first | exact absurd h.1 (by assumption) | exact absurd h.2 (by omega)) (by omega)) (by omega) hW (lv_sub hl [3, 4, 5, 6, 7, 8, 0] rfl)
                            · skip
                              refine lv_iconst (v := nI 1) hx hb dX7_says_190 (by decide) ?_
                              refine lv_goto (tgt := 195) hx hb dX7_says_191 (by decide) ?_
                              refine m_iast S hW gt2 (n - 1) rfl (by omega) (by decide) dX7_says_195 (fun H locs hW => ?_)
                              obtain ⟨V_59, eV_59⟩ : ∃ z : mV, z = mU V1 (t + 2) (n - 1) (nI 1) := ⟨_, rfl⟩
                              rw [← eV_59] at hW
                              refine lv_goto (tgt := 272) hx hb dX7_says_196 (by decide) ?_
                              refine lv_iinc (v := nI (k + 1)) (lv' := [(6, .int (nI (k + 1))), (8, .int ((-(V (t + 1) k)) - (nI 2))), (7, .int (V (t + 1) k)), (4, .int (nI tl)), (3, .int (nI tb)), (0, .ref (ad t)), (1, .int (nI 2)), (2, .ref (ad no)), (5, .int (nI n))]) hx hb dX7_says_272 hl (k := 8) rfl (m_inc k 1) (by decide) rfl (fun ls hl => ?_)
                              refine lv_goto (tgt := 61) hx hb dX7_says_275 (by decide) ?_
                              exact ih_61  n (k + 1) V_59 _ _ _ (by omega) (by omega) (by intro a ha; rw [eV_59, mU_no _ _ ha]; exact hfr a ha) (by first | (exfalso; omega) | skip; rw [eV_59, mU_row, evX_s (by omega)]; first | exact hR.push (by first | exact Int32.not_lt.mp (by assumption) | assumption) (by omega) | exact hR.nm (by intro h; first | exact absurd h.1 (Int32.not_le.mpr (by assumption)) | exact absurd h.2 (by omega)) (by assumption) (by omega) eix hix | exact hR.nt0 (by intro h; first | exact absurd h.1 (Int32.not_le.mpr (by assumption)) | exact absurd h.2 (by omega)) (by intro h; first | exact absurd h.1 (by assumption) | exact absurd h.2 (by omega)) (by assumption) (by omega) (by assumption) | exact hR.nt1 (by intro h; first | exact absurd h.1 (Int32.not_le.mpr (by assumption)) | exact absurd h.2 (by omega)) (by intro h; first | exact absurd h.1 (by assumption) | exact absurd h.2 (by omega)) (by assumption) (by omega) (by assumption) | exact hR.ng (by intro h; first | exact absurd h.1 (Int32.not_le.mpr (by assumption)) | exact absurd h.2 (by omega)) (by intro h; first | exact absurd h.1 (by assumption) | exact absurd h.2 (by omega)) (by assumption) (by omega) | exact hR.jn (by intro h; first | exact absurd h.1 (Int32.not_le.mpr (by assumption)) | exact absurd h.2 (by omega)) (by intro h; first | exact absurd h.1 (by assumption) | exact absurd h.2 (by omega)) (by intro h; first | exact absurd h.1 (by assumption) | exact absurd h.2 (by omega)) (by intro h; first | exact absurd h.1 (by assumption) | exact absurd h.2 (by omega)) (by omega)) (by omega) hW (lv_sub hl [3, 4, 5, 6, 7, 8, 0] rfl)
                      · exact absurd c_40 (by decide)
                  · skip
                    refine lv_iload hx hb dX7_says_99 (lv_at hl 7 rfl) ?_
                    refine lv_bipush (v := nI 32) hx hb dX7_says_101 (by decide) ?_
                    refine lv_icmp_ge (tgt := 121) hx hb dX7_says_103 (by decide) (fun c_60 => ?_) (fun c_60 => ?_)
                    · skip
                      have c_60 : 32 ≤ n := (nI_leI (by omega) (by omega)).mp c_60
                      refine lv_iload hx hb dX7_says_121 (lv_at hl 0 rfl) ?_
                      refine lv_iconst (v := nI 0) hx hb dX7_says_123 (by decide) ?_
                      refine lv_aload_n hx hb dX7_says_124 rfl (lv_at hl 6 rfl) ?_
                      refine m_alen S hW gn dX7_says_125 ?_
                      refine lv_iconst (v := nI 1) hx hb dX7_says_126 (by decide) ?_
                      refine lv_isub hx hb dX7_says_127 ?_
                      refine m_cip (m_rSN S hW (c_X10_within_c l G ad sh1 V1 ((-(V (t + 1) k)) - (nI 2)) ((nI 6) - (nI 1)) 6 (by exact pk_sub_toInt (by omega) (by decide))) ⟨va_cnB 3 hts (gCall [] (List.forall_mem_cons.mpr ⟨(wa_8 _ (List.mem_of_getElem? (i := 17) (by decide +kernel))), (fun _ h => absurd h List.not_mem_nil)⟩)) rfl rfl rfl (hW.2.2.2.2.2.1 _ (List.mem_of_getElem? (i := 9) rfl)) (hts (.initialized RX10) (List.mem_cons_of_mem _ (wa_1 _ (List.mem_of_getElem? (i := 2) (by decide +kernel))))) (by decide +kernel) ⟨Nat.le_of_ble_eq_true rfl, Nat.le_of_ble_eq_true rfl⟩, hts (.static yX10_within) (List.mem_cons_of_mem _ (wa_8 _ (List.mem_of_getElem? (i := 16) (by decide +kernel)))), trivial⟩ rfl hl.1 rfl (Nat.le_of_ble_eq_true rfl) dX7_says_128 ⟨Nat.le_of_ble_eq_true rfl, Nat.le_of_ble_eq_true rfl⟩) hW (fun r_62 H locs hp_61 hW => ?_)
                      rcases hp_61 with ⟨rfl, w_63⟩ | ⟨rfl, w_64⟩
                      · skip
                        refine m_if_eq (tgt := 158) hx hb dX7_says_131 (by decide) (fun c_65 => ?_) (fun c_65 => ?_)
                        · exact absurd c_65 (by decide)
                        · skip
                          refine lv_iload hx hb dX7_says_134 (lv_at hl 7 rfl) ?_
                          refine lv_bipush (v := nI 32) hx hb dX7_says_136 (by decide) ?_
                          refine lv_icmp_ge (tgt := 158) hx hb dX7_says_138 (by decide) (fun c_66 => ?_) (fun c_66 => ?_)
                          · skip
                            have c_66 : 32 ≤ n := (nI_leI (by omega) (by omega)).mp c_66
                            refine lv_iload hx hb dX7_says_158 (lv_at hl 1 rfl) ?_
                            refine lv_bipush (v := -13) hx hb dX7_says_160 (by decide) ?_
                            refine lv_icmp_ne (tgt := 199) hx hb dX7_says_162 (by decide) (fun c_67 => ?_) (fun c_67 => ?_)
                            · skip
                              refine lv_iload hx hb dX7_says_199 (lv_at hl 1 rfl) ?_
                              refine lv_bipush (v := -14) hx hb dX7_says_201 (by decide) ?_
                              refine lv_icmp_ne (tgt := 233) hx hb dX7_says_203 (by decide) (fun c_68 => ?_) (fun c_68 => ?_)
                              · skip
                                refine lv_iload hx hb dX7_says_233 (lv_at hl 7 rfl) ?_
                                refine lv_iconst (v := nI 1) hx hb dX7_says_235 (by decide) ?_
                                refine lv_icmp_le (tgt := 272) hx hb dX7_says_236 (by decide) (fun c_69 => ?_) (fun c_69 => ?_)
                                · skip
                                  have c_69 : n ≤ 1 := (nI_leI (by omega) (by omega)).mp c_69
                                  refine lv_iinc (v := nI (k + 1)) (lv' := [(6, .int (nI (k + 1))), (8, .int ((-(V (t + 1) k)) - (nI 2))), (7, .int (V (t + 1) k)), (4, .int (nI tl)), (3, .int (nI tb)), (0, .ref (ad t)), (1, .int (nI 2)), (2, .ref (ad no)), (5, .int (nI n))]) hx hb dX7_says_272 hl (k := 8) rfl (m_inc k 1) (by decide) rfl (fun ls hl => ?_)
                                  refine lv_goto (tgt := 61) hx hb dX7_says_275 (by decide) ?_
                                  exact ih_61  n (k + 1) V1 _ _ _ (by omega) (by omega) (by exact hfr) (by rw [evX_s (by omega)]; exact hR.no (by intro h; first | exact absurd h.1 (Int32.not_le.mpr (by assumption)) | exact absurd h.2 (by omega)) (by intro h; first | exact absurd h.1 (by assumption) | exact absurd h.2 (by omega)) (by intro h; first | exact absurd h.1 (by assumption) | exact absurd h.2 (by omega)) (by intro h; first | exact absurd h.1 (by assumption) | exact absurd h.2 (by omega)) (by omega)) (by omega) hW (lv_sub hl [3, 4, 5, 6, 7, 8, 0] rfl)
                                · skip
                                  have c_69 : ¬ n ≤ 1 := mt (nI_leI (by omega) (by omega)).mpr c_69
                                  refine lv_iinc (v := nI (n - 1)) (lv' := [(5, .int (nI (n - 1))), (8, .int ((-(V (t + 1) k)) - (nI 2))), (7, .int (V (t + 1) k)), (4, .int (nI tl)), (3, .int (nI tb)), (0, .ref (ad t)), (1, .int (nI 2)), (2, .ref (ad no)), (6, .int (nI k))]) hx hb dX7_says_239 hl (k := 7) rfl (m_dec n 1 (by omega)) (by decide) rfl (fun ls hl => ?_)
                                  refine lv_aload_n hx hb dX7_says_242 rfl (lv_at hl 5 rfl) ?_
                                  refine m_getr S hW gt 4 rfl (j := (t + 2)) rfl kX7 (iW7 _) (by decide) (List.mem_cons_of_mem _ (wa_9 _ (List.mem_of_getElem? (i := 9) (by decide +kernel)))) dX7_says_243 ?_
                                  refine lv_iload hx hb dX7_says_246 (lv_at hl 0 rfl) ?_
                                  refine lv_iconst (v := nI 1) hx hb dX7_says_248 (by decide) ?_
                                  refine lv_isub hx hb dX7_says_249 ?_
                                  refine m_top (y := nI ((n - 1) - 1)) (pk_sub (by omega)) ?_
                                  refine lv_iload hx hb dX7_says_250 (lv_at hl 2 rfl) ?_
                                  refine lv_aload_n hx hb dX7_says_252 rfl (lv_at hl 5 rfl) ?_
                                  refine m_getr S hW gt 4 rfl (j := (t + 2)) rfl kX7 (iW7 _) (by decide) (List.mem_cons_of_mem _ (wa_9 _ (List.mem_of_getElem? (i := 9) (by decide +kernel)))) dX7_says_253 ?_
                                  refine lv_iload hx hb dX7_says_256 (lv_at hl 0 rfl) ?_
                                  refine lv_iconst (v := nI 1) hx hb dX7_says_258 (by decide) ?_
                                  refine lv_isub hx hb dX7_says_259 ?_
                                  refine m_top (y := nI ((n - 1) - 1)) (pk_sub (by omega)) ?_
                                  refine m_iald S hW gt2 ((n - 1) - 1) rfl (by omega) (by decide) dX7_says_260 ?_
                                  refine m_top (y := (evX (V no) (V (t + 1)) tb (k - tb)).2 (n - 1 - 1)) (hR.2 _ (by omega)) ?_
                                  refine lv_aload_n hx hb dX7_says_261 rfl (lv_at hl 5 rfl) ?_
                                  refine m_getr S hW gt 4 rfl (j := (t + 2)) rfl kX7 (iW7 _) (by decide) (List.mem_cons_of_mem _ (wa_9 _ (List.mem_of_getElem? (i := 9) (by decide +kernel)))) dX7_says_262 ?_
                                  refine lv_iload hx hb dX7_says_265 (lv_at hl 0 rfl) ?_
                                  refine m_iald S hW gt2 (n - 1) rfl (by omega) (by decide) dX7_says_267 ?_
                                  refine m_top (y := (evX (V no) (V (t + 1)) tb (k - tb)).2 (n - 1)) (hR.2 _ (by omega)) ?_
                                  refine m_cie (m_rS S hW (c_X7_join l G ad sh1 V1 (V (t + 1) k) ((evX (V no) (V (t + 1)) tb (k - tb)).2 (n - 1 - 1)) ((evX (V no) (V (t + 1)) tb (k - tb)).2 (n - 1))) (va_cwS 3 hts (gCall [.methodLink RX7 34 yX7_join, .static yX7_join, .initialized RX7] (List.forall_mem_cons.mpr ⟨(wa_18 _ (List.mem_of_getElem? (i := 19) (by decide +kernel))), (List.forall_mem_cons.mpr ⟨(wa_18 _ (List.mem_of_getElem? (i := 17) (by decide +kernel))), (List.forall_mem_cons.mpr ⟨(wa_18 _ (List.mem_of_getElem? (i := 18) (by decide +kernel))), (List.forall_mem_cons.mpr ⟨(wa_9 _ (List.mem_of_getElem? (i := 4) (by decide +kernel))), (fun _ h => absurd h List.not_mem_nil)⟩)⟩)⟩)⟩)) rfl rfl rfl (by decide +kernel) ⟨Nat.le_of_ble_eq_true rfl, Nat.le_of_ble_eq_true rfl⟩) rfl hl.1 rfl (Nat.le_of_ble_eq_true rfl) dX7_says_268 ⟨Nat.le_of_ble_eq_true rfl, Nat.le_of_ble_eq_true rfl⟩) hW (fun H locs hW => ?_)
                                  refine m_iast S hW gt2 ((n - 1) - 1) rfl (by omega) (by decide) dX7_says_271 (fun H locs hW => ?_)
                                  obtain ⟨V_70, eV_70⟩ : ∃ z : mV, z = mU V1 (t + 2) ((n - 1) - 1) (fJoin (V (t + 1) k) ((evX (V no) (V (t + 1)) tb (k - tb)).2 (n - 1 - 1)) ((evX (V no) (V (t + 1)) tb (k - tb)).2 (n - 1))) := ⟨_, rfl⟩
                                  rw [← eV_70] at hW
                                  refine lv_iinc (v := nI (k + 1)) (lv' := [(6, .int (nI (k + 1))), (5, .int (nI (n - 1))), (8, .int ((-(V (t + 1) k)) - (nI 2))), (7, .int (V (t + 1) k)), (4, .int (nI tl)), (3, .int (nI tb)), (0, .ref (ad t)), (1, .int (nI 2)), (2, .ref (ad no))]) hx hb dX7_says_272 hl (k := 8) rfl (m_inc k 1) (by decide) rfl (fun ls hl => ?_)
                                  refine lv_goto (tgt := 61) hx hb dX7_says_275 (by decide) ?_
                                  exact ih_61  (n - 1) (k + 1) V_70 _ _ _ (by omega) (by omega) (by intro a ha; rw [eV_70, mU_no _ _ ha]; exact hfr a ha) (by first | (exfalso; omega) | skip; rw [eV_70, mU_row, evX_s (by omega)]; first | exact hR.push (by first | exact Int32.not_lt.mp (by assumption) | assumption) (by omega) | exact hR.nm (by intro h; first | exact absurd h.1 (Int32.not_le.mpr (by assumption)) | exact absurd h.2 (by omega)) (by assumption) (by omega) eix hix | exact hR.nt0 (by intro h; first | exact absurd h.1 (Int32.not_le.mpr (by assumption)) | exact absurd h.2 (by omega)) (by intro h; first | exact absurd h.1 (by assumption) | exact absurd h.2 (by omega)) (by assumption) (by omega) (by assumption) | exact hR.nt1 (by intro h; first | exact absurd h.1 (Int32.not_le.mpr (by assumption)) | exact absurd h.2 (by omega)) (by intro h; first | exact absurd h.1 (by assumption) | exact absurd h.2 (by omega)) (by assumption) (by omega) (by assumption) | exact hR.ng (by intro h; first | exact absurd h.1 (Int32.not_le.mpr (by assumption)) | exact absurd h.2 (by omega)) (by intro h; first | exact absurd h.1 (by assumption) | exact absurd h.2 (by omega)) (by assumption) (by omega) | exact hR.jn (by intro h; first | exact absurd h.1 (Int32.not_le.mpr (by assumption)) | exact absurd h.2 (by omega)) (by intro h; first | exact absurd h.1 (by assumption) | exact absurd h.2 (by omega)) (by intro h; first | exact absurd h.1 (by assumption) | exact absurd h.2 (by omega)) (by intro h; first | exact absurd h.1 (by assumption) | exact absurd h.2 (by omega)) (by omega)) (by omega) hW (lv_sub hl [4, 5, 6, 7, 8, 1, 0] rfl)
                              · skip
                                refine lv_iload hx hb dX7_says_206 (lv_at hl 7 rfl) ?_
                                refine m_if_le (tgt := 233) hx hb dX7_says_208 (by decide) (fun c_71 => ?_) (fun c_71 => ?_)
                                · skip
                                  have c_71 : n ≤ 0 := (nI_leI (by omega) (by omega)).mp c_71
                                  refine lv_iload hx hb dX7_says_233 (lv_at hl 7 rfl) ?_
                                  refine lv_iconst (v := nI 1) hx hb dX7_says_235 (by decide) ?_
                                  refine lv_icmp_le (tgt := 272) hx hb dX7_says_236 (by decide) (fun c_72 => ?_) (fun c_72 => ?_)
                                  · skip
                                    have c_72 : n ≤ 1 := (nI_leI (by omega) (by omega)).mp c_72
                                    refine lv_iinc (v := nI (k + 1)) (lv' := [(6, .int (nI (k + 1))), (8, .int ((-(V (t + 1) k)) - (nI 2))), (7, .int (V (t + 1) k)), (4, .int (nI tl)), (3, .int (nI tb)), (0, .ref (ad t)), (1, .int (nI 2)), (2, .ref (ad no)), (5, .int (nI n))]) hx hb dX7_says_272 hl (k := 8) rfl (m_inc k 1) (by decide) rfl (fun ls hl => ?_)
                                    refine lv_goto (tgt := 61) hx hb dX7_says_275 (by decide) ?_
                                    exact ih_61  n (k + 1) V1 _ _ _ (by omega) (by omega) (by exact hfr) (by rw [evX_s (by omega)]; exact hR.no (by intro h; first | exact absurd h.1 (Int32.not_le.mpr (by assumption)) | exact absurd h.2 (by omega)) (by intro h; first | exact absurd h.1 (by assumption) | exact absurd h.2 (by omega)) (by intro h; first | exact absurd h.1 (by assumption) | exact absurd h.2 (by omega)) (by intro h; first | exact absurd h.1 (by assumption) | exact absurd h.2 (by omega)) (by omega)) (by omega) hW (lv_sub hl [3, 4, 5, 6, 7, 8, 0] rfl)
                                  · skip
                                    have c_72 : ¬ n ≤ 1 := mt (nI_leI (by omega) (by omega)).mpr c_72
                                    refine lv_iinc (v := nI (n - 1)) (lv' := [(5, .int (nI (n - 1))), (8, .int ((-(V (t + 1) k)) - (nI 2))), (7, .int (V (t + 1) k)), (4, .int (nI tl)), (3, .int (nI tb)), (0, .ref (ad t)), (1, .int (nI 2)), (2, .ref (ad no)), (6, .int (nI k))]) hx hb dX7_says_239 hl (k := 7) rfl (m_dec n 1 (by omega)) (by decide) rfl (fun ls hl => ?_)
                                    refine lv_aload_n hx hb dX7_says_242 rfl (lv_at hl 5 rfl) ?_
                                    refine m_getr S hW gt 4 rfl (j := (t + 2)) rfl kX7 (iW7 _) (by decide) (List.mem_cons_of_mem _ (wa_9 _ (List.mem_of_getElem? (i := 9) (by decide +kernel)))) dX7_says_243 ?_
                                    refine lv_iload hx hb dX7_says_246 (lv_at hl 0 rfl) ?_
                                    refine lv_iconst (v := nI 1) hx hb dX7_says_248 (by decide) ?_
                                    refine lv_isub hx hb dX7_says_249 ?_
                                    refine m_top (y := nI ((n - 1) - 1)) (pk_sub (by omega)) ?_
                                    refine lv_iload hx hb dX7_says_250 (lv_at hl 2 rfl) ?_
                                    refine lv_aload_n hx hb dX7_says_252 rfl (lv_at hl 5 rfl) ?_
                                    refine m_getr S hW gt 4 rfl (j := (t + 2)) rfl kX7 (iW7 _) (by decide) (List.mem_cons_of_mem _ (wa_9 _ (List.mem_of_getElem? (i := 9) (by decide +kernel)))) dX7_says_253 ?_
                                    refine lv_iload hx hb dX7_says_256 (lv_at hl 0 rfl) ?_
                                    refine lv_iconst (v := nI 1) hx hb dX7_says_258 (by decide) ?_
                                    refine lv_isub hx hb dX7_says_259 ?_
                                    refine m_top (y := nI ((n - 1) - 1)) (pk_sub (by omega)) ?_
                                    refine m_iald S hW gt2 ((n - 1) - 1) rfl (by omega) (by decide) dX7_says_260 ?_
                                    refine m_top (y := (evX (V no) (V (t + 1)) tb (k - tb)).2 (n - 1 - 1)) (hR.2 _ (by omega)) ?_
                                    refine lv_aload_n hx hb dX7_says_261 rfl (lv_at hl 5 rfl) ?_
                                    refine m_getr S hW gt 4 rfl (j := (t + 2)) rfl kX7 (iW7 _) (by decide) (List.mem_cons_of_mem _ (wa_9 _ (List.mem_of_getElem? (i := 9) (by decide +kernel)))) dX7_says_262 ?_
                                    refine lv_iload hx hb dX7_says_265 (lv_at hl 0 rfl) ?_
                                    refine m_iald S hW gt2 (n - 1) rfl (by omega) (by decide) dX7_says_267 ?_
                                    refine m_top (y := (evX (V no) (V (t + 1)) tb (k - tb)).2 (n - 1)) (hR.2 _ (by omega)) ?_
                                    refine m_cie (m_rS S hW (c_X7_join l G ad sh1 V1 (V (t + 1) k) ((evX (V no) (V (t + 1)) tb (k - tb)).2 (n - 1 - 1)) ((evX (V no) (V (t + 1)) tb (k - tb)).2 (n - 1))) (va_cwS 3 hts (gCall [.methodLink RX7 34 yX7_join, .static yX7_join, .initialized RX7] (List.forall_mem_cons.mpr ⟨(wa_18 _ (List.mem_of_getElem? (i := 19) (by decide +kernel))), (List.forall_mem_cons.mpr ⟨(wa_18 _ (List.mem_of_getElem? (i := 17) (by decide +kernel))), (List.forall_mem_cons.mpr ⟨(wa_18 _ (List.mem_of_getElem? (i := 18) (by decide +kernel))), (List.forall_mem_cons.mpr ⟨(wa_9 _ (List.mem_of_getElem? (i := 4) (by decide +kernel))), (fun _ h => absurd h List.not_mem_nil)⟩)⟩)⟩)⟩)) rfl rfl rfl (by decide +kernel) ⟨Nat.le_of_ble_eq_true rfl, Nat.le_of_ble_eq_true rfl⟩) rfl hl.1 rfl (Nat.le_of_ble_eq_true rfl) dX7_says_268 ⟨Nat.le_of_ble_eq_true rfl, Nat.le_of_ble_eq_true rfl⟩) hW (fun H locs hW => ?_)
                                    refine m_iast S hW gt2 ((n - 1) - 1) rfl (by omega) (by decide) dX7_says_271 (fun H locs hW => ?_)
                                    obtain ⟨V_73, eV_73⟩ : ∃ z : mV, z = mU V1 (t + 2) ((n - 1) - 1) (fJoin (V (t + 1) k) ((evX (V no) (V (t + 1)) tb (k - tb)).2 (n - 1 - 1)) ((evX (V no) (V (t + 1)) tb (k - tb)).2 (n - 1))) := ⟨_, rfl⟩
                                    rw [← eV_73] at hW
                                    refine lv_iinc (v := nI (k + 1)) (lv' := [(6, .int (nI (k + 1))), (5, .int (nI (n - 1))), (8, .int ((-(V (t + 1) k)) - (nI 2))), (7, .int (V (t + 1) k)), (4, .int (nI tl)), (3, .int (nI tb)), (0, .ref (ad t)), (1, .int (nI 2)), (2, .ref (ad no))]) hx hb dX7_says_272 hl (k := 8) rfl (m_inc k 1) (by decide) rfl (fun ls hl => ?_)
                                    refine lv_goto (tgt := 61) hx hb dX7_says_275 (by decide) ?_
                                    exact ih_61  (n - 1) (k + 1) V_73 _ _ _ (by omega) (by omega) (by intro a ha; rw [eV_73, mU_no _ _ ha]; exact hfr a ha) (by first | (exfalso; omega) | skip; rw [eV_73, mU_row, evX_s (by omega)]; first | exact hR.push (by first | exact Int32.not_lt.mp (by assumption) | assumption) (by omega) | exact hR.nm (by intro h; first | exact absurd h.1 (Int32.not_le.mpr (by assumption)) | exact absurd h.2 (by omega)) (by assumption) (by omega) eix hix | exact hR.nt0 (by intro h; first | exact absurd h.1 (Int32.not_le.mpr (by assumption)) | exact absurd h.2 (by omega)) (by intro h; first | exact absurd h.1 (by assumption) | exact absurd h.2 (by omega)) (by assumption) (by omega) (by assumption) | exact hR.nt1 (by intro h; first | exact absurd h.1 (Int32.not_le.mpr (by assumption)) | exact absurd h.2 (by omega)) (by intro h; first | exact absurd h.1 (by assumption) | exact absurd h.2 (by omega)) (by assumption) (by omega) (by assumption) | exact hR.ng (by intro h; first | exact absurd h.1 (Int32.not_le.mpr (by assumption)) | exact absurd h.2 (by omega)) (by intro h; first | exact absurd h.1 (by assumption) | exact absurd h.2 (by omega)) (by assumption) (by omega) | exact hR.jn (by intro h; first | exact absurd h.1 (Int32.not_le.mpr (by assumption)) | exact absurd h.2 (by omega)) (by intro h; first | exact absurd h.1 (by assumption) | exact absurd h.2 (by omega)) (by intro h; first | exact absurd h.1 (by assumption) | exact absurd h.2 (by omega)) (by intro h; first | exact absurd h.1 (by assumption) | exact absurd h.2 (by omega)) (by omega)) (by omega) hW (lv_sub hl [4, 5, 6, 7, 8, 1, 0] rfl)
                                · skip
                                  have c_71 : ¬ n ≤ 0 := mt (nI_leI (by omega) (by omega)).mpr c_71
                                  refine lv_aload_n hx hb dX7_says_211 rfl (lv_at hl 4 rfl) ?_
                                  refine m_getr S hW gt 4 rfl (j := (t + 2)) rfl kX7 (iW7 _) (by decide) (List.mem_cons_of_mem _ (wa_9 _ (List.mem_of_getElem? (i := 9) (by decide +kernel)))) dX7_says_212 ?_
                                  refine lv_iload hx hb dX7_says_215 (lv_at hl 7 rfl) ?_
                                  refine lv_iconst (v := nI 1) hx hb dX7_says_217 (by decide) ?_
                                  refine lv_isub hx hb dX7_says_218 ?_
                                  refine m_top (y := nI (n - 1)) (pk_sub (by omega)) ?_
                                  refine lv_aload_n hx hb dX7_says_219 rfl (lv_at hl 4 rfl) ?_
                                  refine m_getr S hW gt 4 rfl (j := (t + 2)) rfl kX7 (iW7 _) (by decide) (List.mem_cons_of_mem _ (wa_9 _ (List.mem_of_getElem? (i := 9) (by decide +kernel)))) dX7_says_220 ?_
                                  refine lv_iload hx hb dX7_says_223 (lv_at hl 7 rfl) ?_
                                  refine lv_iconst (v := nI 1) hx hb dX7_says_225 (by decide) ?_
                                  refine lv_isub hx hb dX7_says_226 ?_
                                  refine m_top (y := nI (n - 1)) (pk_sub (by omega)) ?_
                                  refine m_iald S hW gt2 (n - 1) rfl (by omega) (by decide) dX7_says_227 ?_
                                  refine m_top (y := (evX (V no) (V (t + 1)) tb (k - tb)).2 (n - 1)) (hR.2 _ (by omega)) ?_
                                  refine lv_ineg hx hb dX7_says_228 ?_
                                  refine m_iast S hW gt2 (n - 1) rfl (by omega) (by decide) dX7_says_229 (fun H locs hW => ?_)
                                  obtain ⟨V_74, eV_74⟩ : ∃ z : mV, z = mU V1 (t + 2) (n - 1) ((-((evX (V no) (V (t + 1)) tb (k - tb)).2 (n - 1)))) := ⟨_, rfl⟩
                                  rw [← eV_74] at hW
                                  refine lv_goto (tgt := 272) hx hb dX7_says_230 (by decide) ?_
                                  refine lv_iinc (v := nI (k + 1)) (lv' := [(6, .int (nI (k + 1))), (8, .int ((-(V (t + 1) k)) - (nI 2))), (7, .int (V (t + 1) k)), (4, .int (nI tl)), (3, .int (nI tb)), (0, .ref (ad t)), (1, .int (nI 2)), (2, .ref (ad no)), (5, .int (nI n))]) hx hb dX7_says_272 hl (k := 8) rfl (m_inc k 1) (by decide) rfl (fun ls hl => ?_)
                                  refine lv_goto (tgt := 61) hx hb dX7_says_275 (by decide) ?_
                                  exact ih_61  n (k + 1) V_74 _ _ _ (by omega) (by omega) (by intro a ha; rw [eV_74, mU_no _ _ ha]; exact hfr a ha) (by first | (exfalso; omega) | skip; rw [eV_74, mU_row, evX_s (by omega)]; first | exact hR.push (by first | exact Int32.not_lt.mp (by assumption) | assumption) (by omega) | exact hR.nm (by intro h; first | exact absurd h.1 (Int32.not_le.mpr (by assumption)) | exact absurd h.2 (by omega)) (by assumption) (by omega) eix hix | exact hR.nt0 (by intro h; first | exact absurd h.1 (Int32.not_le.mpr (by assumption)) | exact absurd h.2 (by omega)) (by intro h; first | exact absurd h.1 (by assumption) | exact absurd h.2 (by omega)) (by assumption) (by omega) (by assumption) | exact hR.nt1 (by intro h; first | exact absurd h.1 (Int32.not_le.mpr (by assumption)) | exact absurd h.2 (by omega)) (by intro h; first | exact absurd h.1 (by assumption) | exact absurd h.2 (by omega)) (by assumption) (by omega) (by assumption) | exact hR.ng (by intro h; first | exact absurd h.1 (Int32.not_le.mpr (by assumption)) | exact absurd h.2 (by omega)) (by intro h; first | exact absurd h.1 (by assumption) | exact absurd h.2 (by omega)) (by assumption) (by omega) | exact hR.jn (by intro h; first | exact absurd h.1 (Int32.not_le.mpr (by assumption)) | exact absurd h.2 (by omega)) (by intro h; first | exact absurd h.1 (by assumption) | exact absurd h.2 (by omega)) (by intro h; first | exact absurd h.1 (by assumption) | exact absurd h.2 (by omega)) (by intro h; first | exact absurd h.1 (by assumption) | exact absurd h.2 (by omega)) (by omega)) (by omega) hW (lv_sub hl [3, 4, 5, 6, 7, 8, 0] rfl)
                            · skip
                              refine lv_iload hx hb dX7_says_165 (lv_at hl 7 rfl) ?_
                              refine m_if_le (tgt := 199) hx hb dX7_says_167 (by decide) (fun c_75 => ?_) (fun c_75 => ?_)
                              · skip
                                have c_75 : n ≤ 0 := (nI_leI (by omega) (by omega)).mp c_75
                                refine lv_iload hx hb dX7_says_199 (lv_at hl 1 rfl) ?_
                                refine lv_bipush (v := -14) hx hb dX7_says_201 (by decide) ?_
                                refine lv_icmp_ne (tgt := 233) hx hb dX7_says_203 (by decide) (fun c_76 => ?_) (fun c_76 => ?_)
                                · skip
                                  refine lv_iload hx hb dX7_says_233 (lv_at hl 7 rfl) ?_
                                  refine lv_iconst (v := nI 1) hx hb dX7_says_235 (by decide) ?_
                                  refine lv_icmp_le (tgt := 272) hx hb dX7_says_236 (by decide) (fun c_77 => ?_) (fun c_77 => ?_)
                                  · skip
                                    have c_77 : n ≤ 1 := (nI_leI (by omega) (by omega)).mp c_77
                                    refine lv_iinc (v := nI (k + 1)) (lv' := [(6, .int (nI (k + 1))), (8, .int ((-(V (t + 1) k)) - (nI 2))), (7, .int (V (t + 1) k)), (4, .int (nI tl)), (3, .int (nI tb)), (0, .ref (ad t)), (1, .int (nI 2)), (2, .ref (ad no)), (5, .int (nI n))]) hx hb dX7_says_272 hl (k := 8) rfl (m_inc k 1) (by decide) rfl (fun ls hl => ?_)
                                    refine lv_goto (tgt := 61) hx hb dX7_says_275 (by decide) ?_
                                    exact ih_61  n (k + 1) V1 _ _ _ (by omega) (by omega) (by exact hfr) (by rw [evX_s (by omega)]; exact hR.no (by intro h; first | exact absurd h.1 (Int32.not_le.mpr (by assumption)) | exact absurd h.2 (by omega)) (by intro h; first | exact absurd h.1 (by assumption) | exact absurd h.2 (by omega)) (by intro h; first | exact absurd h.1 (by assumption) | exact absurd h.2 (by omega)) (by intro h; first | exact absurd h.1 (by assumption) | exact absurd h.2 (by omega)) (by omega)) (by omega) hW (lv_sub hl [3, 4, 5, 6, 7, 8, 0] rfl)
                                  · skip
                                    have c_77 : ¬ n ≤ 1 := mt (nI_leI (by omega) (by omega)).mpr c_77
                                    refine lv_iinc (v := nI (n - 1)) (lv' := [(5, .int (nI (n - 1))), (8, .int ((-(V (t + 1) k)) - (nI 2))), (7, .int (V (t + 1) k)), (4, .int (nI tl)), (3, .int (nI tb)), (0, .ref (ad t)), (1, .int (nI 2)), (2, .ref (ad no)), (6, .int (nI k))]) hx hb dX7_says_239 hl (k := 7) rfl (m_dec n 1 (by omega)) (by decide) rfl (fun ls hl => ?_)
                                    refine lv_aload_n hx hb dX7_says_242 rfl (lv_at hl 5 rfl) ?_
                                    refine m_getr S hW gt 4 rfl (j := (t + 2)) rfl kX7 (iW7 _) (by decide) (List.mem_cons_of_mem _ (wa_9 _ (List.mem_of_getElem? (i := 9) (by decide +kernel)))) dX7_says_243 ?_
                                    refine lv_iload hx hb dX7_says_246 (lv_at hl 0 rfl) ?_
                                    refine lv_iconst (v := nI 1) hx hb dX7_says_248 (by decide) ?_
                                    refine lv_isub hx hb dX7_says_249 ?_
                                    refine m_top (y := nI ((n - 1) - 1)) (pk_sub (by omega)) ?_
                                    refine lv_iload hx hb dX7_says_250 (lv_at hl 2 rfl) ?_
                                    refine lv_aload_n hx hb dX7_says_252 rfl (lv_at hl 5 rfl) ?_
                                    refine m_getr S hW gt 4 rfl (j := (t + 2)) rfl kX7 (iW7 _) (by decide) (List.mem_cons_of_mem _ (wa_9 _ (List.mem_of_getElem? (i := 9) (by decide +kernel)))) dX7_says_253 ?_
                                    refine lv_iload hx hb dX7_says_256 (lv_at hl 0 rfl) ?_
                                    refine lv_iconst (v := nI 1) hx hb dX7_says_258 (by decide) ?_
                                    refine lv_isub hx hb dX7_says_259 ?_
                                    refine m_top (y := nI ((n - 1) - 1)) (pk_sub (by omega)) ?_
                                    refine m_iald S hW gt2 ((n - 1) - 1) rfl (by omega) (by decide) dX7_says_260 ?_
                                    refine m_top (y := (evX (V no) (V (t + 1)) tb (k - tb)).2 (n - 1 - 1)) (hR.2 _ (by omega)) ?_
                                    refine lv_aload_n hx hb dX7_says_261 rfl (lv_at hl 5 rfl) ?_
                                    refine m_getr S hW gt 4 rfl (j := (t + 2)) rfl kX7 (iW7 _) (by decide) (List.mem_cons_of_mem _ (wa_9 _ (List.mem_of_getElem? (i := 9) (by decide +kernel)))) dX7_says_262 ?_
                                    refine lv_iload hx hb dX7_says_265 (lv_at hl 0 rfl) ?_
                                    refine m_iald S hW gt2 (n - 1) rfl (by omega) (by decide) dX7_says_267 ?_
                                    refine m_top (y := (evX (V no) (V (t + 1)) tb (k - tb)).2 (n - 1)) (hR.2 _ (by omega)) ?_
                                    refine m_cie (m_rS S hW (c_X7_join l G ad sh1 V1 (V (t + 1) k) ((evX (V no) (V (t + 1)) tb (k - tb)).2 (n - 1 - 1)) ((evX (V no) (V (t + 1)) tb (k - tb)).2 (n - 1))) (va_cwS 3 hts (gCall [.methodLink RX7 34 yX7_join, .static yX7_join, .initialized RX7] (List.forall_mem_cons.mpr ⟨(wa_18 _ (List.mem_of_getElem? (i := 19) (by decide +kernel))), (List.forall_mem_cons.mpr ⟨(wa_18 _ (List.mem_of_getElem? (i := 17) (by decide +kernel))), (List.forall_mem_cons.mpr ⟨(wa_18 _ (List.mem_of_getElem? (i := 18) (by decide +kernel))), (List.forall_mem_cons.mpr ⟨(wa_9 _ (List.mem_of_getElem? (i := 4) (by decide +kernel))), (fun _ h => absurd h List.not_mem_nil)⟩)⟩)⟩)⟩)) rfl rfl rfl (by decide +kernel) ⟨Nat.le_of_ble_eq_true rfl, Nat.le_of_ble_eq_true rfl⟩) rfl hl.1 rfl (Nat.le_of_ble_eq_true rfl) dX7_says_268 ⟨Nat.le_of_ble_eq_true rfl, Nat.le_of_ble_eq_true rfl⟩) hW (fun H locs hW => ?_)
                                    refine m_iast S hW gt2 ((n - 1) - 1) rfl (by omega) (by decide) dX7_says_271 (fun H locs hW => ?_)
                                    obtain ⟨V_78, eV_78⟩ : ∃ z : mV, z = mU V1 (t + 2) ((n - 1) - 1) (fJoin (V (t + 1) k) ((evX (V no) (V (t + 1)) tb (k - tb)).2 (n - 1 - 1)) ((evX (V no) (V (t + 1)) tb (k - tb)).2 (n - 1))) := ⟨_, rfl⟩
                                    rw [← eV_78] at hW
                                    refine lv_iinc (v := nI (k + 1)) (lv' := [(6, .int (nI (k + 1))), (5, .int (nI (n - 1))), (8, .int ((-(V (t + 1) k)) - (nI 2))), (7, .int (V (t + 1) k)), (4, .int (nI tl)), (3, .int (nI tb)), (0, .ref (ad t)), (1, .int (nI 2)), (2, .ref (ad no))]) hx hb dX7_says_272 hl (k := 8) rfl (m_inc k 1) (by decide) rfl (fun ls hl => ?_)
                                    refine lv_goto (tgt := 61) hx hb dX7_says_275 (by decide) ?_
                                    exact ih_61  (n - 1) (k + 1) V_78 _ _ _ (by omega) (by omega) (by intro a ha; rw [eV_78, mU_no _ _ ha]; exact hfr a ha) (by first | (exfalso; omega) | skip; rw [eV_78, mU_row, evX_s (by omega)]; first | exact hR.push (by first | exact Int32.not_lt.mp (by assumption) | assumption) (by omega) | exact hR.nm (by intro h; first | exact absurd h.1 (Int32.not_le.mpr (by assumption)) | exact absurd h.2 (by omega)) (by assumption) (by omega) eix hix | exact hR.nt0 (by intro h; first | exact absurd h.1 (Int32.not_le.mpr (by assumption)) | exact absurd h.2 (by omega)) (by intro h; first | exact absurd h.1 (by assumption) | exact absurd h.2 (by omega)) (by assumption) (by omega) (by assumption) | exact hR.nt1 (by intro h; first | exact absurd h.1 (Int32.not_le.mpr (by assumption)) | exact absurd h.2 (by omega)) (by intro h; first | exact absurd h.1 (by assumption) | exact absurd h.2 (by omega)) (by assumption) (by omega) (by assumption) | exact hR.ng (by intro h; first | exact absurd h.1 (Int32.not_le.mpr (by assumption)) | exact absurd h.2 (by omega)) (by intro h; first | exact absurd h.1 (by assumption) | exact absurd h.2 (by omega)) (by assumption) (by omega) | exact hR.jn (by intro h; first | exact absurd h.1 (Int32.not_le.mpr (by assumption)) | exact absurd h.2 (by omega)) (by intro h; first | exact absurd h.1 (by assumption) | exact absurd h.2 (by omega)) (by intro h; first | exact absurd h.1 (by assumption) | exact absurd h.2 (by omega)) (by intro h; first | exact absurd h.1 (by assumption) | exact absurd h.2 (by omega)) (by omega)) (by omega) hW (lv_sub hl [4, 5, 6, 7, 8, 1, 0] rfl)
                                · skip
                                  refine lv_iload hx hb dX7_says_206 (lv_at hl 7 rfl) ?_
                                  refine m_if_le (tgt := 233) hx hb dX7_says_208 (by decide) (fun c_79 => ?_) (fun c_79 => ?_)
                                  · skip
                                    have c_79 : n ≤ 0 := (nI_leI (by omega) (by omega)).mp c_79
                                    refine lv_iload hx hb dX7_says_233 (lv_at hl 7 rfl) ?_
                                    refine lv_iconst (v := nI 1) hx hb dX7_says_235 (by decide) ?_
                                    refine lv_icmp_le (tgt := 272) hx hb dX7_says_236 (by decide) (fun c_80 => ?_) (fun c_80 => ?_)
                                    · skip
                                      have c_80 : n ≤ 1 := (nI_leI (by omega) (by omega)).mp c_80
                                      refine lv_iinc (v := nI (k + 1)) (lv' := [(6, .int (nI (k + 1))), (8, .int ((-(V (t + 1) k)) - (nI 2))), (7, .int (V (t + 1) k)), (4, .int (nI tl)), (3, .int (nI tb)), (0, .ref (ad t)), (1, .int (nI 2)), (2, .ref (ad no)), (5, .int (nI n))]) hx hb dX7_says_272 hl (k := 8) rfl (m_inc k 1) (by decide) rfl (fun ls hl => ?_)
                                      refine lv_goto (tgt := 61) hx hb dX7_says_275 (by decide) ?_
                                      exact ih_61  n (k + 1) V1 _ _ _ (by omega) (by omega) (by exact hfr) (by rw [evX_s (by omega)]; exact hR.no (by intro h; first | exact absurd h.1 (Int32.not_le.mpr (by assumption)) | exact absurd h.2 (by omega)) (by intro h; first | exact absurd h.1 (by assumption) | exact absurd h.2 (by omega)) (by intro h; first | exact absurd h.1 (by assumption) | exact absurd h.2 (by omega)) (by intro h; first | exact absurd h.1 (by assumption) | exact absurd h.2 (by omega)) (by omega)) (by omega) hW (lv_sub hl [3, 4, 5, 6, 7, 8, 0] rfl)
                                    · skip
                                      have c_80 : ¬ n ≤ 1 := mt (nI_leI (by omega) (by omega)).mpr c_80
                                      refine lv_iinc (v := nI (n - 1)) (lv' := [(5, .int (nI (n - 1))), (8, .int ((-(V (t + 1) k)) - (nI 2))), (7, .int (V (t + 1) k)), (4, .int (nI tl)), (3, .int (nI tb)), (0, .ref (ad t)), (1, .int (nI 2)), (2, .ref (ad no)), (6, .int (nI k))]) hx hb dX7_says_239 hl (k := 7) rfl (m_dec n 1 (by omega)) (by decide) rfl (fun ls hl => ?_)
                                      refine lv_aload_n hx hb dX7_says_242 rfl (lv_at hl 5 rfl) ?_
                                      refine m_getr S hW gt 4 rfl (j := (t + 2)) rfl kX7 (iW7 _) (by decide) (List.mem_cons_of_mem _ (wa_9 _ (List.mem_of_getElem? (i := 9) (by decide +kernel)))) dX7_says_243 ?_
                                      refine lv_iload hx hb dX7_says_246 (lv_at hl 0 rfl) ?_
                                      refine lv_iconst (v := nI 1) hx hb dX7_says_248 (by decide) ?_
                                      refine lv_isub hx hb dX7_says_249 ?_
                                      refine m_top (y := nI ((n - 1) - 1)) (pk_sub (by omega)) ?_
                                      refine lv_iload hx hb dX7_says_250 (lv_at hl 2 rfl) ?_
                                      refine lv_aload_n hx hb dX7_says_252 rfl (lv_at hl 5 rfl) ?_
                                      refine m_getr S hW gt 4 rfl (j := (t + 2)) rfl kX7 (iW7 _) (by decide) (List.mem_cons_of_mem _ (wa_9 _ (List.mem_of_getElem? (i := 9) (by decide +kernel)))) dX7_says_253 ?_
                                      refine lv_iload hx hb dX7_says_256 (lv_at hl 0 rfl) ?_
                                      refine lv_iconst (v := nI 1) hx hb dX7_says_258 (by decide) ?_
                                      refine lv_isub hx hb dX7_says_259 ?_
                                      refine m_top (y := nI ((n - 1) - 1)) (pk_sub (by omega)) ?_
                                      refine m_iald S hW gt2 ((n - 1) - 1) rfl (by omega) (by decide) dX7_says_260 ?_
                                      refine m_top (y := (evX (V no) (V (t + 1)) tb (k - tb)).2 (n - 1 - 1)) (hR.2 _ (by omega)) ?_
                                      refine lv_aload_n hx hb dX7_says_261 rfl (lv_at hl 5 rfl) ?_
                                      refine m_getr S hW gt 4 rfl (j := (t + 2)) rfl kX7 (iW7 _) (by decide) (List.mem_cons_of_mem _ (wa_9 _ (List.mem_of_getElem? (i := 9) (by decide +kernel)))) dX7_says_262 ?_
                                      refine lv_iload hx hb dX7_says_265 (lv_at hl 0 rfl) ?_
                                      refine m_iald S hW gt2 (n - 1) rfl (by omega) (by decide) dX7_says_267 ?_
                                      refine m_top (y := (evX (V no) (V (t + 1)) tb (k - tb)).2 (n - 1)) (hR.2 _ (by omega)) ?_
                                      refine m_cie (m_rS S hW (c_X7_join l G ad sh1 V1 (V (t + 1) k) ((evX (V no) (V (t + 1)) tb (k - tb)).2 (n - 1 - 1)) ((evX (V no) (V (t + 1)) tb (k - tb)).2 (n - 1))) (va_cwS 3 hts (gCall [.methodLink RX7 34 yX7_join, .static yX7_join, .initialized RX7] (List.forall_mem_cons.mpr ⟨(wa_18 _ (List.mem_of_getElem? (i := 19) (by decide +kernel))), (List.forall_mem_cons.mpr ⟨(wa_18 _ (List.mem_of_getElem? (i := 17) (by decide +kernel))), (List.forall_mem_cons.mpr ⟨(wa_18 _ (List.mem_of_getElem? (i := 18) (by decide +kernel))), (List.forall_mem_cons.mpr ⟨(wa_9 _ (List.mem_of_getElem? (i := 4) (by decide +kernel))), (fun _ h => absurd h List.not_mem_nil)⟩)⟩)⟩)⟩)) rfl rfl rfl (by decide +kernel) ⟨Nat.le_of_ble_eq_true rfl, Nat.le_of_ble_eq_true rfl⟩) rfl hl.1 rfl (Nat.le_of_ble_eq_true rfl) dX7_says_268 ⟨Nat.le_of_ble_eq_true rfl, Nat.le_of_ble_eq_true rfl⟩) hW (fun H locs hW => ?_)
                                      refine m_iast S hW gt2 ((n - 1) - 1) rfl (by omega) (by decide) dX7_says_271 (fun H locs hW => ?_)
                                      obtain ⟨V_81, eV_81⟩ : ∃ z : mV, z = mU V1 (t + 2) ((n - 1) - 1) (fJoin (V (t + 1) k) ((evX (V no) (V (t + 1)) tb (k - tb)).2 (n - 1 - 1)) ((evX (V no) (V (t + 1)) tb (k - tb)).2 (n - 1))) := ⟨_, rfl⟩
                                      rw [← eV_81] at hW
                                      refine lv_iinc (v := nI (k + 1)) (lv' := [(6, .int (nI (k + 1))), (5, .int (nI (n - 1))), (8, .int ((-(V (t + 1) k)) - (nI 2))), (7, .int (V (t + 1) k)), (4, .int (nI tl)), (3, .int (nI tb)), (0, .ref (ad t)), (1, .int (nI 2)), (2, .ref (ad no))]) hx hb dX7_says_272 hl (k := 8) rfl (m_inc k 1) (by decide) rfl (fun ls hl => ?_)
                                      refine lv_goto (tgt := 61) hx hb dX7_says_275 (by decide) ?_
                                      exact ih_61  (n - 1) (k + 1) V_81 _ _ _ (by omega) (by omega) (by intro a ha; rw [eV_81, mU_no _ _ ha]; exact hfr a ha) (by first | (exfalso; omega) | skip; rw [eV_81, mU_row, evX_s (by omega)]; first | exact hR.push (by first | exact Int32.not_lt.mp (by assumption) | assumption) (by omega) | exact hR.nm (by intro h; first | exact absurd h.1 (Int32.not_le.mpr (by assumption)) | exact absurd h.2 (by omega)) (by assumption) (by omega) eix hix | exact hR.nt0 (by intro h; first | exact absurd h.1 (Int32.not_le.mpr (by assumption)) | exact absurd h.2 (by omega)) (by intro h; first | exact absurd h.1 (by assumption) | exact absurd h.2 (by omega)) (by assumption) (by omega) (by assumption) | exact hR.nt1 (by intro h; first | exact absurd h.1 (Int32.not_le.mpr (by assumption)) | exact absurd h.2 (by omega)) (by intro h; first | exact absurd h.1 (by assumption) | exact absurd h.2 (by omega)) (by assumption) (by omega) (by assumption) | exact hR.ng (by intro h; first | exact absurd h.1 (Int32.not_le.mpr (by assumption)) | exact absurd h.2 (by omega)) (by intro h; first | exact absurd h.1 (by assumption) | exact absurd h.2 (by omega)) (by assumption) (by omega) | exact hR.jn (by intro h; first | exact absurd h.1 (Int32.not_le.mpr (by assumption)) | exact absurd h.2 (by omega)) (by intro h; first | exact absurd h.1 (by assumption) | exact absurd h.2 (by omega)) (by intro h; first | exact absurd h.1 (by assumption) | exact absurd h.2 (by omega)) (by intro h; first | exact absurd h.1 (by assumption) | exact absurd h.2 (by omega)) (by omega)) (by omega) hW (lv_sub hl [4, 5, 6, 7, 8, 1, 0] rfl)
                                  · skip
                                    have c_79 : ¬ n ≤ 0 := mt (nI_leI (by omega) (by omega)).mpr c_79
                                    refine lv_aload_n hx hb dX7_says_211 rfl (lv_at hl 4 rfl) ?_
                                    refine m_getr S hW gt 4 rfl (j := (t + 2)) rfl kX7 (iW7 _) (by decide) (List.mem_cons_of_mem _ (wa_9 _ (List.mem_of_getElem? (i := 9) (by decide +kernel)))) dX7_says_212 ?_
                                    refine lv_iload hx hb dX7_says_215 (lv_at hl 7 rfl) ?_
                                    refine lv_iconst (v := nI 1) hx hb dX7_says_217 (by decide) ?_
                                    refine lv_isub hx hb dX7_says_218 ?_
                                    refine m_top (y := nI (n - 1)) (pk_sub (by omega)) ?_
                                    refine lv_aload_n hx hb dX7_says_219 rfl (lv_at hl 4 rfl) ?_
                                    refine m_getr S hW gt 4 rfl (j := (t + 2)) rfl kX7 (iW7 _) (by decide) (List.mem_cons_of_mem _ (wa_9 _ (List.mem_of_getElem? (i := 9) (by decide +kernel)))) dX7_says_220 ?_
                                    refine lv_iload hx hb dX7_says_223 (lv_at hl 7 rfl) ?_
                                    refine lv_iconst (v := nI 1) hx hb dX7_says_225 (by decide) ?_
                                    refine lv_isub hx hb dX7_says_226 ?_
                                    refine m_top (y := nI (n - 1)) (pk_sub (by omega)) ?_
                                    refine m_iald S hW gt2 (n - 1) rfl (by omega) (by decide) dX7_says_227 ?_
                                    refine m_top (y := (evX (V no) (V (t + 1)) tb (k - tb)).2 (n - 1)) (hR.2 _ (by omega)) ?_
                                    refine lv_ineg hx hb dX7_says_228 ?_
                                    refine m_iast S hW gt2 (n - 1) rfl (by omega) (by decide) dX7_says_229 (fun H locs hW => ?_)
                                    obtain ⟨V_82, eV_82⟩ : ∃ z : mV, z = mU V1 (t + 2) (n - 1) ((-((evX (V no) (V (t + 1)) tb (k - tb)).2 (n - 1)))) := ⟨_, rfl⟩
                                    rw [← eV_82] at hW
                                    refine lv_goto (tgt := 272) hx hb dX7_says_230 (by decide) ?_
                                    refine lv_iinc (v := nI (k + 1)) (lv' := [(6, .int (nI (k + 1))), (8, .int ((-(V (t + 1) k)) - (nI 2))), (7, .int (V (t + 1) k)), (4, .int (nI tl)), (3, .int (nI tb)), (0, .ref (ad t)), (1, .int (nI 2)), (2, .ref (ad no)), (5, .int (nI n))]) hx hb dX7_says_272 hl (k := 8) rfl (m_inc k 1) (by decide) rfl (fun ls hl => ?_)
                                    refine lv_goto (tgt := 61) hx hb dX7_says_275 (by decide) ?_
                                    exact ih_61  n (k + 1) V_82 _ _ _ (by omega) (by omega) (by intro a ha; rw [eV_82, mU_no _ _ ha]; exact hfr a ha) (by first | (exfalso; omega) | skip; rw [eV_82, mU_row, evX_s (by omega)]; first | exact hR.push (by first | exact Int32.not_lt.mp (by assumption) | assumption) (by omega) | exact hR.nm (by intro h; first | exact absurd h.1 (Int32.not_le.mpr (by assumption)) | exact absurd h.2 (by omega)) (by assumption) (by omega) eix hix | exact hR.nt0 (by intro h; first | exact absurd h.1 (Int32.not_le.mpr (by assumption)) | exact absurd h.2 (by omega)) (by intro h; first | exact absurd h.1 (by assumption) | exact absurd h.2 (by omega)) (by assumption) (by omega) (by assumption) | exact hR.nt1 (by intro h; first | exact absurd h.1 (Int32.not_le.mpr (by assumption)) | exact absurd h.2 (by omega)) (by intro h; first | exact absurd h.1 (by assumption) | exact absurd h.2 (by omega)) (by assumption) (by omega) (by assumption) | exact hR.ng (by intro h; first | exact absurd h.1 (Int32.not_le.mpr (by assumption)) | exact absurd h.2 (by omega)) (by intro h; first | exact absurd h.1 (by assumption) | exact absurd h.2 (by omega)) (by assumption) (by omega) | exact hR.jn (by intro h; first | exact absurd h.1 (Int32.not_le.mpr (by assumption)) | exact absurd h.2 (by omega)) (by intro h; first | exact absurd h.1 (by assumption) | exact absurd h.2 (by omega)) (by intro h; first | exact absurd h.1 (by assumption) | exact absurd h.2 (by omega)) (by intro h; first | exact absurd h.1 (by assumption) | exact absurd h.2 (by omega)) (by omega)) (by omega) hW (lv_sub hl [3, 4, 5, 6, 7, 8, 0] rfl)
                              · skip
                                have c_75 : ¬ n ≤ 0 := mt (nI_leI (by omega) (by omega)).mpr c_75
                                refine lv_aload_n hx hb dX7_says_170 rfl (lv_at hl 4 rfl) ?_
                                refine m_getr S hW gt 4 rfl (j := (t + 2)) rfl kX7 (iW7 _) (by decide) (List.mem_cons_of_mem _ (wa_9 _ (List.mem_of_getElem? (i := 9) (by decide +kernel)))) dX7_says_171 ?_
                                refine lv_iload hx hb dX7_says_174 (lv_at hl 7 rfl) ?_
                                refine lv_iconst (v := nI 1) hx hb dX7_says_176 (by decide) ?_
                                refine lv_isub hx hb dX7_says_177 ?_
                                refine m_top (y := nI (n - 1)) (pk_sub (by omega)) ?_
                                refine lv_aload_n hx hb dX7_says_178 rfl (lv_at hl 4 rfl) ?_
                                refine m_getr S hW gt 4 rfl (j := (t + 2)) rfl kX7 (iW7 _) (by decide) (List.mem_cons_of_mem _ (wa_9 _ (List.mem_of_getElem? (i := 9) (by decide +kernel)))) dX7_says_179 ?_
                                refine lv_iload hx hb dX7_says_182 (lv_at hl 7 rfl) ?_
                                refine lv_iconst (v := nI 1) hx hb dX7_says_184 (by decide) ?_
                                refine lv_isub hx hb dX7_says_185 ?_
                                refine m_top (y := nI (n - 1)) (pk_sub (by omega)) ?_
                                refine m_iald S hW gt2 (n - 1) rfl (by omega) (by decide) dX7_says_186 ?_
                                refine m_top (y := (evX (V no) (V (t + 1)) tb (k - tb)).2 (n - 1)) (hR.2 _ (by omega)) ?_
                                refine m_if_ne (tgt := 194) hx hb dX7_says_187 (by decide) (fun c_83 => ?_) (fun c_83 => ?_)
                                · skip
                                  refine lv_iconst (v := nI 0) hx hb dX7_says_194 (by decide) ?_
                                  refine m_iast S hW gt2 (n - 1) rfl (by omega) (by decide) dX7_says_195 (fun H locs hW => ?_)
                                  obtain ⟨V_84, eV_84⟩ : ∃ z : mV, z = mU V1 (t + 2) (n - 1) (nI 0) := ⟨_, rfl⟩
                                  rw [← eV_84] at hW
                                  refine lv_goto (tgt := 272) hx hb dX7_says_196 (by decide) ?_
                                  refine lv_iinc (v := nI (k + 1)) (lv' := [(6, .int (nI (k + 1))), (8, .int ((-(V (t + 1) k)) - (nI 2))), (7, .int (V (t + 1) k)), (4, .int (nI tl)), (3, .int (nI tb)), (0, .ref (ad t)), (1, .int (nI 2)), (2, .ref (ad no)), (5, .int (nI n))]) hx hb dX7_says_272 hl (k := 8) rfl (m_inc k 1) (by decide) rfl (fun ls hl => ?_)
                                  refine lv_goto (tgt := 61) hx hb dX7_says_275 (by decide) ?_
                                  exact ih_61  n (k + 1) V_84 _ _ _ (by omega) (by omega) (by intro a ha; rw [eV_84, mU_no _ _ ha]; exact hfr a ha) (by first | (exfalso; omega) | skip; rw [eV_84, mU_row, evX_s (by omega)]; first | exact hR.push (by first | exact Int32.not_lt.mp (by assumption) | assumption) (by omega) | exact hR.nm (by intro h; first | exact absurd h.1 (Int32.not_le.mpr (by assumption)) | exact absurd h.2 (by omega)) (by assumption) (by omega) eix hix | exact hR.nt0 (by intro h; first | exact absurd h.1 (Int32.not_le.mpr (by assumption)) | exact absurd h.2 (by omega)) (by intro h; first | exact absurd h.1 (by assumption) | exact absurd h.2 (by omega)) (by assumption) (by omega) (by assumption) | exact hR.nt1 (by intro h; first | exact absurd h.1 (Int32.not_le.mpr (by assumption)) | exact absurd h.2 (by omega)) (by intro h; first | exact absurd h.1 (by assumption) | exact absurd h.2 (by omega)) (by assumption) (by omega) (by assumption) | exact hR.ng (by intro h; first | exact absurd h.1 (Int32.not_le.mpr (by assumption)) | exact absurd h.2 (by omega)) (by intro h; first | exact absurd h.1 (by assumption) | exact absurd h.2 (by omega)) (by assumption) (by omega) | exact hR.jn (by intro h; first | exact absurd h.1 (Int32.not_le.mpr (by assumption)) | exact absurd h.2 (by omega)) (by intro h; first | exact absurd h.1 (by assumption) | exact absurd h.2 (by omega)) (by intro h; first | exact absurd h.1 (by assumption) | exact absurd h.2 (by omega)) (by intro h; first | exact absurd h.1 (by assumption) | exact absurd h.2 (by omega)) (by omega)) (by omega) hW (lv_sub hl [3, 4, 5, 6, 7, 8, 0] rfl)
                                · skip
                                  refine lv_iconst (v := nI 1) hx hb dX7_says_190 (by decide) ?_
                                  refine lv_goto (tgt := 195) hx hb dX7_says_191 (by decide) ?_
                                  refine m_iast S hW gt2 (n - 1) rfl (by omega) (by decide) dX7_says_195 (fun H locs hW => ?_)
                                  obtain ⟨V_85, eV_85⟩ : ∃ z : mV, z = mU V1 (t + 2) (n - 1) (nI 1) := ⟨_, rfl⟩
                                  rw [← eV_85] at hW
                                  refine lv_goto (tgt := 272) hx hb dX7_says_196 (by decide) ?_
                                  refine lv_iinc (v := nI (k + 1)) (lv' := [(6, .int (nI (k + 1))), (8, .int ((-(V (t + 1) k)) - (nI 2))), (7, .int (V (t + 1) k)), (4, .int (nI tl)), (3, .int (nI tb)), (0, .ref (ad t)), (1, .int (nI 2)), (2, .ref (ad no)), (5, .int (nI n))]) hx hb dX7_says_272 hl (k := 8) rfl (m_inc k 1) (by decide) rfl (fun ls hl => ?_)
                                  refine lv_goto (tgt := 61) hx hb dX7_says_275 (by decide) ?_
                                  exact ih_61  n (k + 1) V_85 _ _ _ (by omega) (by omega) (by intro a ha; rw [eV_85, mU_no _ _ ha]; exact hfr a ha) (by first | (exfalso; omega) | skip; rw [eV_85, mU_row, evX_s (by omega)]; first | exact hR.push (by first | exact Int32.not_lt.mp (by assumption) | assumption) (by omega) | exact hR.nm (by intro h; first | exact absurd h.1 (Int32.not_le.mpr (by assumption)) | exact absurd h.2 (by omega)) (by assumption) (by omega) eix hix | exact hR.nt0 (by intro h; first | exact absurd h.1 (Int32.not_le.mpr (by assumption)) | exact absurd h.2 (by omega)) (by intro h; first | exact absurd h.1 (by assumption) | exact absurd h.2 (by omega)) (by assumption) (by omega) (by assumption) | exact hR.nt1 (by intro h; first | exact absurd h.1 (Int32.not_le.mpr (by assumption)) | exact absurd h.2 (by omega)) (by intro h; first | exact absurd h.1 (by assumption) | exact absurd h.2 (by omega)) (by assumption) (by omega) (by assumption) | exact hR.ng (by intro h; first | exact absurd h.1 (Int32.not_le.mpr (by assumption)) | exact absurd h.2 (by omega)) (by intro h; first | exact absurd h.1 (by assumption) | exact absurd h.2 (by omega)) (by assumption) (by omega) | exact hR.jn (by intro h; first | exact absurd h.1 (Int32.not_le.mpr (by assumption)) | exact absurd h.2 (by omega)) (by intro h; first | exact absurd h.1 (by assumption) | exact absurd h.2 (by omega)) (by intro h; first | exact absurd h.1 (by assumption) | exact absurd h.2 (by omega)) (by intro h; first | exact absurd h.1 (by assumption) | exact absurd h.2 (by omega)) (by omega)) (by omega) hW (lv_sub hl [3, 4, 5, 6, 7, 8, 0] rfl)
                          · skip
                            have c_66 : ¬ 32 ≤ n := mt (nI_leI (by omega) (by omega)).mpr c_66
                            refine lv_aload_n hx hb dX7_says_141 rfl (lv_at hl 4 rfl) ?_
                            refine m_getr S hW gt 4 rfl (j := (t + 2)) rfl kX7 (iW7 _) (by decide) (List.mem_cons_of_mem _ (wa_9 _ (List.mem_of_getElem? (i := 9) (by decide +kernel)))) dX7_says_142 ?_
                            refine lv_iload hx hb dX7_says_145 (lv_at hl 7 rfl) ?_
                            refine lv_iinc (v := nI (n + 1)) (lv' := [(5, .int (nI (n + 1))), (8, .int ((-(V (t + 1) k)) - (nI 2))), (7, .int (V (t + 1) k)), (4, .int (nI tl)), (3, .int (nI tb)), (0, .ref (ad t)), (1, .int (nI 2)), (2, .ref (ad no)), (6, .int (nI k))]) hx hb dX7_says_147 hl (k := 7) rfl (m_inc n 1) (by decide) rfl (fun ls hl => ?_)
                            refine lv_aload_n hx hb dX7_says_150 rfl (lv_at hl 7 rfl) ?_
                            refine lv_iload hx hb dX7_says_151 (lv_at hl 1 rfl) ?_
                            obtain ⟨ix, eix, -, hix⟩ := w_63.ex
                            refine m_iald S hW gn ix eix hix (by decide) dX7_says_153 ?_
                            refine m_top (y := V no ix) (by rw [hfr _ hno2]) ?_
                            refine m_iast S hW gt2 n rfl (by omega) (by decide) dX7_says_154 (fun H locs hW => ?_)
                            obtain ⟨V_86, eV_86⟩ : ∃ z : mV, z = mU V1 (t + 2) n (V no ix) := ⟨_, rfl⟩
                            rw [← eV_86] at hW
                            refine lv_goto (tgt := 272) hx hb dX7_says_155 (by decide) ?_
                            refine lv_iinc (v := nI (k + 1)) (lv' := [(6, .int (nI (k + 1))), (5, .int (nI (n + 1))), (8, .int ((-(V (t + 1) k)) - (nI 2))), (7, .int (V (t + 1) k)), (4, .int (nI tl)), (3, .int (nI tb)), (0, .ref (ad t)), (1, .int (nI 2)), (2, .ref (ad no))]) hx hb dX7_says_272 hl (k := 8) rfl (m_inc k 1) (by decide) rfl (fun ls hl => ?_)
                            refine lv_goto (tgt := 61) hx hb dX7_says_275 (by decide) ?_
                            exact ih_61  (n + 1) (k + 1) V_86 _ _ _ (by omega) (by omega) (by intro a ha; rw [eV_86, mU_no _ _ ha]; exact hfr a ha) (by first | (exfalso; omega) | skip; rw [eV_86, mU_row, evX_s (by omega)]; first | exact hR.push (by first | exact Int32.not_lt.mp (by assumption) | assumption) (by omega) | exact hR.nm (by intro h; first | exact absurd h.1 (Int32.not_le.mpr (by assumption)) | exact absurd h.2 (by omega)) (by assumption) (by omega) eix hix | exact hR.nt0 (by intro h; first | exact absurd h.1 (Int32.not_le.mpr (by assumption)) | exact absurd h.2 (by omega)) (by intro h; first | exact absurd h.1 (by assumption) | exact absurd h.2 (by omega)) (by assumption) (by omega) (by assumption) | exact hR.nt1 (by intro h; first | exact absurd h.1 (Int32.not_le.mpr (by assumption)) | exact absurd h.2 (by omega)) (by intro h; first | exact absurd h.1 (by assumption) | exact absurd h.2 (by omega)) (by assumption) (by omega) (by assumption) | exact hR.ng (by intro h; first | exact absurd h.1 (Int32.not_le.mpr (by assumption)) | exact absurd h.2 (by omega)) (by intro h; first | exact absurd h.1 (by assumption) | exact absurd h.2 (by omega)) (by assumption) (by omega) | exact hR.jn (by intro h; first | exact absurd h.1 (Int32.not_le.mpr (by assumption)) | exact absurd h.2 (by omega)) (by intro h; first | exact absurd h.1 (by assumption) | exact absurd h.2 (by omega)) (by intro h; first | exact absurd h.1 (by assumption) | exact absurd h.2 (by omega)) (by intro h; first | exact absurd h.1 (by assumption) | exact absurd h.2 (by omega)) (by omega)) (by omega) hW (lv_sub hl [4, 5, 6, 7, 8, 1, 0] rfl)
                      · skip
                        refine m_if_eq (tgt := 158) hx hb dX7_says_131 (by decide) (fun c_87 => ?_) (fun c_87 => ?_)
                        · skip
                          refine lv_iload hx hb dX7_says_158 (lv_at hl 1 rfl) ?_
                          refine lv_bipush (v := -13) hx hb dX7_says_160 (by decide) ?_
                          refine lv_icmp_ne (tgt := 199) hx hb dX7_says_162 (by decide) (fun c_88 => ?_) (fun c_88 => ?_)
                          · skip
                            refine lv_iload hx hb dX7_says_199 (lv_at hl 1 rfl) ?_
                            refine lv_bipush (v := -14) hx hb dX7_says_201 (by decide) ?_
                            refine lv_icmp_ne (tgt := 233) hx hb dX7_says_203 (by decide) (fun c_89 => ?_) (fun c_89 => ?_)
                            · skip
                              refine lv_iload hx hb dX7_says_233 (lv_at hl 7 rfl) ?_
                              refine lv_iconst (v := nI 1) hx hb dX7_says_235 (by decide) ?_
                              refine lv_icmp_le (tgt := 272) hx hb dX7_says_236 (by decide) (fun c_90 => ?_) (fun c_90 => ?_)
                              · skip
                                have c_90 : n ≤ 1 := (nI_leI (by omega) (by omega)).mp c_90
                                refine lv_iinc (v := nI (k + 1)) (lv' := [(6, .int (nI (k + 1))), (8, .int ((-(V (t + 1) k)) - (nI 2))), (7, .int (V (t + 1) k)), (4, .int (nI tl)), (3, .int (nI tb)), (0, .ref (ad t)), (1, .int (nI 2)), (2, .ref (ad no)), (5, .int (nI n))]) hx hb dX7_says_272 hl (k := 8) rfl (m_inc k 1) (by decide) rfl (fun ls hl => ?_)
                                refine lv_goto (tgt := 61) hx hb dX7_says_275 (by decide) ?_
                                exact ih_61  n (k + 1) V1 _ _ _ (by omega) (by omega) (by exact hfr) (by rw [evX_s (by omega)]; exact hR.no (by intro h; first | exact absurd h.1 (Int32.not_le.mpr (by assumption)) | exact absurd h.2 (by omega)) (by intro h; first | exact absurd h.1 (by assumption) | exact absurd h.2 (by omega)) (by intro h; first | exact absurd h.1 (by assumption) | exact absurd h.2 (by omega)) (by intro h; first | exact absurd h.1 (by assumption) | exact absurd h.2 (by omega)) (by omega)) (by omega) hW (lv_sub hl [3, 4, 5, 6, 7, 8, 0] rfl)
                              · skip
                                have c_90 : ¬ n ≤ 1 := mt (nI_leI (by omega) (by omega)).mpr c_90
                                refine lv_iinc (v := nI (n - 1)) (lv' := [(5, .int (nI (n - 1))), (8, .int ((-(V (t + 1) k)) - (nI 2))), (7, .int (V (t + 1) k)), (4, .int (nI tl)), (3, .int (nI tb)), (0, .ref (ad t)), (1, .int (nI 2)), (2, .ref (ad no)), (6, .int (nI k))]) hx hb dX7_says_239 hl (k := 7) rfl (m_dec n 1 (by omega)) (by decide) rfl (fun ls hl => ?_)
                                refine lv_aload_n hx hb dX7_says_242 rfl (lv_at hl 5 rfl) ?_
                                refine m_getr S hW gt 4 rfl (j := (t + 2)) rfl kX7 (iW7 _) (by decide) (List.mem_cons_of_mem _ (wa_9 _ (List.mem_of_getElem? (i := 9) (by decide +kernel)))) dX7_says_243 ?_
                                refine lv_iload hx hb dX7_says_246 (lv_at hl 0 rfl) ?_
                                refine lv_iconst (v := nI 1) hx hb dX7_says_248 (by decide) ?_
                                refine lv_isub hx hb dX7_says_249 ?_
                                refine m_top (y := nI ((n - 1) - 1)) (pk_sub (by omega)) ?_
                                refine lv_iload hx hb dX7_says_250 (lv_at hl 2 rfl) ?_
                                refine lv_aload_n hx hb dX7_says_252 rfl (lv_at hl 5 rfl) ?_
                                refine m_getr S hW gt 4 rfl (j := (t + 2)) rfl kX7 (iW7 _) (by decide) (List.mem_cons_of_mem _ (wa_9 _ (List.mem_of_getElem? (i := 9) (by decide +kernel)))) dX7_says_253 ?_
                                refine lv_iload hx hb dX7_says_256 (lv_at hl 0 rfl) ?_
                                refine lv_iconst (v := nI 1) hx hb dX7_says_258 (by decide) ?_
                                refine lv_isub hx hb dX7_says_259 ?_
                                refine m_top (y := nI ((n - 1) - 1)) (pk_sub (by omega)) ?_
                                refine m_iald S hW gt2 ((n - 1) - 1) rfl (by omega) (by decide) dX7_says_260 ?_
                                refine m_top (y := (evX (V no) (V (t + 1)) tb (k - tb)).2 (n - 1 - 1)) (hR.2 _ (by omega)) ?_
                                refine lv_aload_n hx hb dX7_says_261 rfl (lv_at hl 5 rfl) ?_
                                refine m_getr S hW gt 4 rfl (j := (t + 2)) rfl kX7 (iW7 _) (by decide) (List.mem_cons_of_mem _ (wa_9 _ (List.mem_of_getElem? (i := 9) (by decide +kernel)))) dX7_says_262 ?_
                                refine lv_iload hx hb dX7_says_265 (lv_at hl 0 rfl) ?_
                                refine m_iald S hW gt2 (n - 1) rfl (by omega) (by decide) dX7_says_267 ?_
                                refine m_top (y := (evX (V no) (V (t + 1)) tb (k - tb)).2 (n - 1)) (hR.2 _ (by omega)) ?_
                                refine m_cie (m_rS S hW (c_X7_join l G ad sh1 V1 (V (t + 1) k) ((evX (V no) (V (t + 1)) tb (k - tb)).2 (n - 1 - 1)) ((evX (V no) (V (t + 1)) tb (k - tb)).2 (n - 1))) (va_cwS 3 hts (gCall [.methodLink RX7 34 yX7_join, .static yX7_join, .initialized RX7] (List.forall_mem_cons.mpr ⟨(wa_18 _ (List.mem_of_getElem? (i := 19) (by decide +kernel))), (List.forall_mem_cons.mpr ⟨(wa_18 _ (List.mem_of_getElem? (i := 17) (by decide +kernel))), (List.forall_mem_cons.mpr ⟨(wa_18 _ (List.mem_of_getElem? (i := 18) (by decide +kernel))), (List.forall_mem_cons.mpr ⟨(wa_9 _ (List.mem_of_getElem? (i := 4) (by decide +kernel))), (fun _ h => absurd h List.not_mem_nil)⟩)⟩)⟩)⟩)) rfl rfl rfl (by decide +kernel) ⟨Nat.le_of_ble_eq_true rfl, Nat.le_of_ble_eq_true rfl⟩) rfl hl.1 rfl (Nat.le_of_ble_eq_true rfl) dX7_says_268 ⟨Nat.le_of_ble_eq_true rfl, Nat.le_of_ble_eq_true rfl⟩) hW (fun H locs hW => ?_)
                                refine m_iast S hW gt2 ((n - 1) - 1) rfl (by omega) (by decide) dX7_says_271 (fun H locs hW => ?_)
                                obtain ⟨V_91, eV_91⟩ : ∃ z : mV, z = mU V1 (t + 2) ((n - 1) - 1) (fJoin (V (t + 1) k) ((evX (V no) (V (t + 1)) tb (k - tb)).2 (n - 1 - 1)) ((evX (V no) (V (t + 1)) tb (k - tb)).2 (n - 1))) := ⟨_, rfl⟩
                                rw [← eV_91] at hW
                                refine lv_iinc (v := nI (k + 1)) (lv' := [(6, .int (nI (k + 1))), (5, .int (nI (n - 1))), (8, .int ((-(V (t + 1) k)) - (nI 2))), (7, .int (V (t + 1) k)), (4, .int (nI tl)), (3, .int (nI tb)), (0, .ref (ad t)), (1, .int (nI 2)), (2, .ref (ad no))]) hx hb dX7_says_272 hl (k := 8) rfl (m_inc k 1) (by decide) rfl (fun ls hl => ?_)
                                refine lv_goto (tgt := 61) hx hb dX7_says_275 (by decide) ?_
                                exact ih_61  (n - 1) (k + 1) V_91 _ _ _ (by omega) (by omega) (by intro a ha; rw [eV_91, mU_no _ _ ha]; exact hfr a ha) (by first | (exfalso; omega) | skip; rw [eV_91, mU_row, evX_s (by omega)]; first | exact hR.push (by first | exact Int32.not_lt.mp (by assumption) | assumption) (by omega) | exact hR.nm (by intro h; first | exact absurd h.1 (Int32.not_le.mpr (by assumption)) | exact absurd h.2 (by omega)) (by assumption) (by omega) eix hix | exact hR.nt0 (by intro h; first | exact absurd h.1 (Int32.not_le.mpr (by assumption)) | exact absurd h.2 (by omega)) (by intro h; first | exact absurd h.1 (by assumption) | exact absurd h.2 (by omega)) (by assumption) (by omega) (by assumption) | exact hR.nt1 (by intro h; first | exact absurd h.1 (Int32.not_le.mpr (by assumption)) | exact absurd h.2 (by omega)) (by intro h; first | exact absurd h.1 (by assumption) | exact absurd h.2 (by omega)) (by assumption) (by omega) (by assumption) | exact hR.ng (by intro h; first | exact absurd h.1 (Int32.not_le.mpr (by assumption)) | exact absurd h.2 (by omega)) (by intro h; first | exact absurd h.1 (by assumption) | exact absurd h.2 (by omega)) (by assumption) (by omega) | exact hR.jn (by intro h; first | exact absurd h.1 (Int32.not_le.mpr (by assumption)) | exact absurd h.2 (by omega)) (by intro h; first | exact absurd h.1 (by assumption) | exact absurd h.2 (by omega)) (by intro h; first | exact absurd h.1 (by assumption) | exact absurd h.2 (by omega)) (by intro h; first | exact absurd h.1 (by assumption) | exact absurd h.2 (by omega)) (by omega)) (by omega) hW (lv_sub hl [4, 5, 6, 7, 8, 1, 0] rfl)
                            · skip
                              refine lv_iload hx hb dX7_says_206 (lv_at hl 7 rfl) ?_
                              refine m_if_le (tgt := 233) hx hb dX7_says_208 (by decide) (fun c_92 => ?_) (fun c_92 => ?_)
                              · skip
                                have c_92 : n ≤ 0 := (nI_leI (by omega) (by omega)).mp c_92
                                refine lv_iload hx hb dX7_says_233 (lv_at hl 7 rfl) ?_
                                refine lv_iconst (v := nI 1) hx hb dX7_says_235 (by decide) ?_
                                refine lv_icmp_le (tgt := 272) hx hb dX7_says_236 (by decide) (fun c_93 => ?_) (fun c_93 => ?_)
                                · skip
                                  have c_93 : n ≤ 1 := (nI_leI (by omega) (by omega)).mp c_93
                                  refine lv_iinc (v := nI (k + 1)) (lv' := [(6, .int (nI (k + 1))), (8, .int ((-(V (t + 1) k)) - (nI 2))), (7, .int (V (t + 1) k)), (4, .int (nI tl)), (3, .int (nI tb)), (0, .ref (ad t)), (1, .int (nI 2)), (2, .ref (ad no)), (5, .int (nI n))]) hx hb dX7_says_272 hl (k := 8) rfl (m_inc k 1) (by decide) rfl (fun ls hl => ?_)
                                  refine lv_goto (tgt := 61) hx hb dX7_says_275 (by decide) ?_
                                  exact ih_61  n (k + 1) V1 _ _ _ (by omega) (by omega) (by exact hfr) (by rw [evX_s (by omega)]; exact hR.no (by intro h; first | exact absurd h.1 (Int32.not_le.mpr (by assumption)) | exact absurd h.2 (by omega)) (by intro h; first | exact absurd h.1 (by assumption) | exact absurd h.2 (by omega)) (by intro h; first | exact absurd h.1 (by assumption) | exact absurd h.2 (by omega)) (by intro h; first | exact absurd h.1 (by assumption) | exact absurd h.2 (by omega)) (by omega)) (by omega) hW (lv_sub hl [3, 4, 5, 6, 7, 8, 0] rfl)
                                · skip
                                  have c_93 : ¬ n ≤ 1 := mt (nI_leI (by omega) (by omega)).mpr c_93
                                  refine lv_iinc (v := nI (n - 1)) (lv' := [(5, .int (nI (n - 1))), (8, .int ((-(V (t + 1) k)) - (nI 2))), (7, .int (V (t + 1) k)), (4, .int (nI tl)), (3, .int (nI tb)), (0, .ref (ad t)), (1, .int (nI 2)), (2, .ref (ad no)), (6, .int (nI k))]) hx hb dX7_says_239 hl (k := 7) rfl (m_dec n 1 (by omega)) (by decide) rfl (fun ls hl => ?_)
                                  refine lv_aload_n hx hb dX7_says_242 rfl (lv_at hl 5 rfl) ?_
                                  refine m_getr S hW gt 4 rfl (j := (t + 2)) rfl kX7 (iW7 _) (by decide) (List.mem_cons_of_mem _ (wa_9 _ (List.mem_of_getElem? (i := 9) (by decide +kernel)))) dX7_says_243 ?_
                                  refine lv_iload hx hb dX7_says_246 (lv_at hl 0 rfl) ?_
                                  refine lv_iconst (v := nI 1) hx hb dX7_says_248 (by decide) ?_
                                  refine lv_isub hx hb dX7_says_249 ?_
                                  refine m_top (y := nI ((n - 1) - 1)) (pk_sub (by omega)) ?_
                                  refine lv_iload hx hb dX7_says_250 (lv_at hl 2 rfl) ?_
                                  refine lv_aload_n hx hb dX7_says_252 rfl (lv_at hl 5 rfl) ?_
                                  refine m_getr S hW gt 4 rfl (j := (t + 2)) rfl kX7 (iW7 _) (by decide) (List.mem_cons_of_mem _ (wa_9 _ (List.mem_of_getElem? (i := 9) (by decide +kernel)))) dX7_says_253 ?_
                                  refine lv_iload hx hb dX7_says_256 (lv_at hl 0 rfl) ?_
                                  refine lv_iconst (v := nI 1) hx hb dX7_says_258 (by decide) ?_
                                  refine lv_isub hx hb dX7_says_259 ?_
                                  refine m_top (y := nI ((n - 1) - 1)) (pk_sub (by omega)) ?_
                                  refine m_iald S hW gt2 ((n - 1) - 1) rfl (by omega) (by decide) dX7_says_260 ?_
                                  refine m_top (y := (evX (V no) (V (t + 1)) tb (k - tb)).2 (n - 1 - 1)) (hR.2 _ (by omega)) ?_
                                  refine lv_aload_n hx hb dX7_says_261 rfl (lv_at hl 5 rfl) ?_
                                  refine m_getr S hW gt 4 rfl (j := (t + 2)) rfl kX7 (iW7 _) (by decide) (List.mem_cons_of_mem _ (wa_9 _ (List.mem_of_getElem? (i := 9) (by decide +kernel)))) dX7_says_262 ?_
                                  refine lv_iload hx hb dX7_says_265 (lv_at hl 0 rfl) ?_
                                  refine m_iald S hW gt2 (n - 1) rfl (by omega) (by decide) dX7_says_267 ?_
                                  refine m_top (y := (evX (V no) (V (t + 1)) tb (k - tb)).2 (n - 1)) (hR.2 _ (by omega)) ?_
                                  refine m_cie (m_rS S hW (c_X7_join l G ad sh1 V1 (V (t + 1) k) ((evX (V no) (V (t + 1)) tb (k - tb)).2 (n - 1 - 1)) ((evX (V no) (V (t + 1)) tb (k - tb)).2 (n - 1))) (va_cwS 3 hts (gCall [.methodLink RX7 34 yX7_join, .static yX7_join, .initialized RX7] (List.forall_mem_cons.mpr ⟨(wa_18 _ (List.mem_of_getElem? (i := 19) (by decide +kernel))), (List.forall_mem_cons.mpr ⟨(wa_18 _ (List.mem_of_getElem? (i := 17) (by decide +kernel))), (List.forall_mem_cons.mpr ⟨(wa_18 _ (List.mem_of_getElem? (i := 18) (by decide +kernel))), (List.forall_mem_cons.mpr ⟨(wa_9 _ (List.mem_of_getElem? (i := 4) (by decide +kernel))), (fun _ h => absurd h List.not_mem_nil)⟩)⟩)⟩)⟩)) rfl rfl rfl (by decide +kernel) ⟨Nat.le_of_ble_eq_true rfl, Nat.le_of_ble_eq_true rfl⟩) rfl hl.1 rfl (Nat.le_of_ble_eq_true rfl) dX7_says_268 ⟨Nat.le_of_ble_eq_true rfl, Nat.le_of_ble_eq_true rfl⟩) hW (fun H locs hW => ?_)
                                  refine m_iast S hW gt2 ((n - 1) - 1) rfl (by omega) (by decide) dX7_says_271 (fun H locs hW => ?_)
                                  obtain ⟨V_94, eV_94⟩ : ∃ z : mV, z = mU V1 (t + 2) ((n - 1) - 1) (fJoin (V (t + 1) k) ((evX (V no) (V (t + 1)) tb (k - tb)).2 (n - 1 - 1)) ((evX (V no) (V (t + 1)) tb (k - tb)).2 (n - 1))) := ⟨_, rfl⟩
                                  rw [← eV_94] at hW
                                  refine lv_iinc (v := nI (k + 1)) (lv' := [(6, .int (nI (k + 1))), (5, .int (nI (n - 1))), (8, .int ((-(V (t + 1) k)) - (nI 2))), (7, .int (V (t + 1) k)), (4, .int (nI tl)), (3, .int (nI tb)), (0, .ref (ad t)), (1, .int (nI 2)), (2, .ref (ad no))]) hx hb dX7_says_272 hl (k := 8) rfl (m_inc k 1) (by decide) rfl (fun ls hl => ?_)
                                  refine lv_goto (tgt := 61) hx hb dX7_says_275 (by decide) ?_
                                  exact ih_61  (n - 1) (k + 1) V_94 _ _ _ (by omega) (by omega) (by intro a ha; rw [eV_94, mU_no _ _ ha]; exact hfr a ha) (by first | (exfalso; omega) | skip; rw [eV_94, mU_row, evX_s (by omega)]; first | exact hR.push (by first | exact Int32.not_lt.mp (by assumption) | assumption) (by omega) | exact hR.nm (by intro h; first | exact absurd h.1 (Int32.not_le.mpr (by assumption)) | exact absurd h.2 (by omega)) (by assumption) (by omega) eix hix | exact hR.nt0 (by intro h; first | exact absurd h.1 (Int32.not_le.mpr (by assumption)) | exact absurd h.2 (by omega)) (by intro h; first | exact absurd h.1 (by assumption) | exact absurd h.2 (by omega)) (by assumption) (by omega) (by assumption) | exact hR.nt1 (by intro h; first | exact absurd h.1 (Int32.not_le.mpr (by assumption)) | exact absurd h.2 (by omega)) (by intro h; first | exact absurd h.1 (by assumption) | exact absurd h.2 (by omega)) (by assumption) (by omega) (by assumption) | exact hR.ng (by intro h; first | exact absurd h.1 (Int32.not_le.mpr (by assumption)) | exact absurd h.2 (by omega)) (by intro h; first | exact absurd h.1 (by assumption) | exact absurd h.2 (by omega)) (by assumption) (by omega) | exact hR.jn (by intro h; first | exact absurd h.1 (Int32.not_le.mpr (by assumption)) | exact absurd h.2 (by omega)) (by intro h; first | exact absurd h.1 (by assumption) | exact absurd h.2 (by omega)) (by intro h; first | exact absurd h.1 (by assumption) | exact absurd h.2 (by omega)) (by intro h; first | exact absurd h.1 (by assumption) | exact absurd h.2 (by omega)) (by omega)) (by omega) hW (lv_sub hl [4, 5, 6, 7, 8, 1, 0] rfl)
                              · skip
                                have c_92 : ¬ n ≤ 0 := mt (nI_leI (by omega) (by omega)).mpr c_92
                                refine lv_aload_n hx hb dX7_says_211 rfl (lv_at hl 4 rfl) ?_
                                refine m_getr S hW gt 4 rfl (j := (t + 2)) rfl kX7 (iW7 _) (by decide) (List.mem_cons_of_mem _ (wa_9 _ (List.mem_of_getElem? (i := 9) (by decide +kernel)))) dX7_says_212 ?_
                                refine lv_iload hx hb dX7_says_215 (lv_at hl 7 rfl) ?_
                                refine lv_iconst (v := nI 1) hx hb dX7_says_217 (by decide) ?_
                                refine lv_isub hx hb dX7_says_218 ?_
                                refine m_top (y := nI (n - 1)) (pk_sub (by omega)) ?_
                                refine lv_aload_n hx hb dX7_says_219 rfl (lv_at hl 4 rfl) ?_
                                refine m_getr S hW gt 4 rfl (j := (t + 2)) rfl kX7 (iW7 _) (by decide) (List.mem_cons_of_mem _ (wa_9 _ (List.mem_of_getElem? (i := 9) (by decide +kernel)))) dX7_says_220 ?_
                                refine lv_iload hx hb dX7_says_223 (lv_at hl 7 rfl) ?_
                                refine lv_iconst (v := nI 1) hx hb dX7_says_225 (by decide) ?_
                                refine lv_isub hx hb dX7_says_226 ?_
                                refine m_top (y := nI (n - 1)) (pk_sub (by omega)) ?_
                                refine m_iald S hW gt2 (n - 1) rfl (by omega) (by decide) dX7_says_227 ?_
                                refine m_top (y := (evX (V no) (V (t + 1)) tb (k - tb)).2 (n - 1)) (hR.2 _ (by omega)) ?_
                                refine lv_ineg hx hb dX7_says_228 ?_
                                refine m_iast S hW gt2 (n - 1) rfl (by omega) (by decide) dX7_says_229 (fun H locs hW => ?_)
                                obtain ⟨V_95, eV_95⟩ : ∃ z : mV, z = mU V1 (t + 2) (n - 1) ((-((evX (V no) (V (t + 1)) tb (k - tb)).2 (n - 1)))) := ⟨_, rfl⟩
                                rw [← eV_95] at hW
                                refine lv_goto (tgt := 272) hx hb dX7_says_230 (by decide) ?_
                                refine lv_iinc (v := nI (k + 1)) (lv' := [(6, .int (nI (k + 1))), (8, .int ((-(V (t + 1) k)) - (nI 2))), (7, .int (V (t + 1) k)), (4, .int (nI tl)), (3, .int (nI tb)), (0, .ref (ad t)), (1, .int (nI 2)), (2, .ref (ad no)), (5, .int (nI n))]) hx hb dX7_says_272 hl (k := 8) rfl (m_inc k 1) (by decide) rfl (fun ls hl => ?_)
                                refine lv_goto (tgt := 61) hx hb dX7_says_275 (by decide) ?_
                                exact ih_61  n (k + 1) V_95 _ _ _ (by omega) (by omega) (by intro a ha; rw [eV_95, mU_no _ _ ha]; exact hfr a ha) (by first | (exfalso; omega) | skip; rw [eV_95, mU_row, evX_s (by omega)]; first | exact hR.push (by first | exact Int32.not_lt.mp (by assumption) | assumption) (by omega) | exact hR.nm (by intro h; first | exact absurd h.1 (Int32.not_le.mpr (by assumption)) | exact absurd h.2 (by omega)) (by assumption) (by omega) eix hix | exact hR.nt0 (by intro h; first | exact absurd h.1 (Int32.not_le.mpr (by assumption)) | exact absurd h.2 (by omega)) (by intro h; first | exact absurd h.1 (by assumption) | exact absurd h.2 (by omega)) (by assumption) (by omega) (by assumption) | exact hR.nt1 (by intro h; first | exact absurd h.1 (Int32.not_le.mpr (by assumption)) | exact absurd h.2 (by omega)) (by intro h; first | exact absurd h.1 (by assumption) | exact absurd h.2 (by omega)) (by assumption) (by omega) (by assumption) | exact hR.ng (by intro h; first | exact absurd h.1 (Int32.not_le.mpr (by assumption)) | exact absurd h.2 (by omega)) (by intro h; first | exact absurd h.1 (by assumption) | exact absurd h.2 (by omega)) (by assumption) (by omega) | exact hR.jn (by intro h; first | exact absurd h.1 (Int32.not_le.mpr (by assumption)) | exact absurd h.2 (by omega)) (by intro h; first | exact absurd h.1 (by assumption) | exact absurd h.2 (by omega)) (by intro h; first | exact absurd h.1 (by assumption) | exact absurd h.2 (by omega)) (by intro h; first | exact absurd h.1 (by assumption) | exact absurd h.2 (by omega)) (by omega)) (by omega) hW (lv_sub hl [3, 4, 5, 6, 7, 8, 0] rfl)
                          · skip
                            refine lv_iload hx hb dX7_says_165 (lv_at hl 7 rfl) ?_
                            refine m_if_le (tgt := 199) hx hb dX7_says_167 (by decide) (fun c_96 => ?_) (fun c_96 => ?_)
                            · skip
                              have c_96 : n ≤ 0 := (nI_leI (by omega) (by omega)).mp c_96
                              refine lv_iload hx hb dX7_says_199 (lv_at hl 1 rfl) ?_
                              refine lv_bipush (v := -14) hx hb dX7_says_201 (by decide) ?_
                              refine lv_icmp_ne (tgt := 233) hx hb dX7_says_203 (by decide) (fun c_97 => ?_) (fun c_97 => ?_)
                              · skip
                                refine lv_iload hx hb dX7_says_233 (lv_at hl 7 rfl) ?_
                                refine lv_iconst (v := nI 1) hx hb dX7_says_235 (by decide) ?_
                                refine lv_icmp_le (tgt := 272) hx hb dX7_says_236 (by decide) (fun c_98 => ?_) (fun c_98 => ?_)
                                · skip
                                  have c_98 : n ≤ 1 := (nI_leI (by omega) (by omega)).mp c_98
                                  refine lv_iinc (v := nI (k + 1)) (lv' := [(6, .int (nI (k + 1))), (8, .int ((-(V (t + 1) k)) - (nI 2))), (7, .int (V (t + 1) k)), (4, .int (nI tl)), (3, .int (nI tb)), (0, .ref (ad t)), (1, .int (nI 2)), (2, .ref (ad no)), (5, .int (nI n))]) hx hb dX7_says_272 hl (k := 8) rfl (m_inc k 1) (by decide) rfl (fun ls hl => ?_)
                                  refine lv_goto (tgt := 61) hx hb dX7_says_275 (by decide) ?_
                                  exact ih_61  n (k + 1) V1 _ _ _ (by omega) (by omega) (by exact hfr) (by rw [evX_s (by omega)]; exact hR.no (by intro h; first | exact absurd h.1 (Int32.not_le.mpr (by assumption)) | exact absurd h.2 (by omega)) (by intro h; first | exact absurd h.1 (by assumption) | exact absurd h.2 (by omega)) (by intro h; first | exact absurd h.1 (by assumption) | exact absurd h.2 (by omega)) (by intro h; first | exact absurd h.1 (by assumption) | exact absurd h.2 (by omega)) (by omega)) (by omega) hW (lv_sub hl [3, 4, 5, 6, 7, 8, 0] rfl)
                                · skip
                                  have c_98 : ¬ n ≤ 1 := mt (nI_leI (by omega) (by omega)).mpr c_98
                                  refine lv_iinc (v := nI (n - 1)) (lv' := [(5, .int (nI (n - 1))), (8, .int ((-(V (t + 1) k)) - (nI 2))), (7, .int (V (t + 1) k)), (4, .int (nI tl)), (3, .int (nI tb)), (0, .ref (ad t)), (1, .int (nI 2)), (2, .ref (ad no)), (6, .int (nI k))]) hx hb dX7_says_239 hl (k := 7) rfl (m_dec n 1 (by omega)) (by decide) rfl (fun ls hl => ?_)
                                  refine lv_aload_n hx hb dX7_says_242 rfl (lv_at hl 5 rfl) ?_
                                  refine m_getr S hW gt 4 rfl (j := (t + 2)) rfl kX7 (iW7 _) (by decide) (List.mem_cons_of_mem _ (wa_9 _ (List.mem_of_getElem? (i := 9) (by decide +kernel)))) dX7_says_243 ?_
                                  refine lv_iload hx hb dX7_says_246 (lv_at hl 0 rfl) ?_
                                  refine lv_iconst (v := nI 1) hx hb dX7_says_248 (by decide) ?_
                                  refine lv_isub hx hb dX7_says_249 ?_
                                  refine m_top (y := nI ((n - 1) - 1)) (pk_sub (by omega)) ?_
                                  refine lv_iload hx hb dX7_says_250 (lv_at hl 2 rfl) ?_
                                  refine lv_aload_n hx hb dX7_says_252 rfl (lv_at hl 5 rfl) ?_
                                  refine m_getr S hW gt 4 rfl (j := (t + 2)) rfl kX7 (iW7 _) (by decide) (List.mem_cons_of_mem _ (wa_9 _ (List.mem_of_getElem? (i := 9) (by decide +kernel)))) dX7_says_253 ?_
                                  refine lv_iload hx hb dX7_says_256 (lv_at hl 0 rfl) ?_
                                  refine lv_iconst (v := nI 1) hx hb dX7_says_258 (by decide) ?_
                                  refine lv_isub hx hb dX7_says_259 ?_
                                  refine m_top (y := nI ((n - 1) - 1)) (pk_sub (by omega)) ?_
                                  refine m_iald S hW gt2 ((n - 1) - 1) rfl (by omega) (by decide) dX7_says_260 ?_
                                  refine m_top (y := (evX (V no) (V (t + 1)) tb (k - tb)).2 (n - 1 - 1)) (hR.2 _ (by omega)) ?_
                                  refine lv_aload_n hx hb dX7_says_261 rfl (lv_at hl 5 rfl) ?_
                                  refine m_getr S hW gt 4 rfl (j := (t + 2)) rfl kX7 (iW7 _) (by decide) (List.mem_cons_of_mem _ (wa_9 _ (List.mem_of_getElem? (i := 9) (by decide +kernel)))) dX7_says_262 ?_
                                  refine lv_iload hx hb dX7_says_265 (lv_at hl 0 rfl) ?_
                                  refine m_iald S hW gt2 (n - 1) rfl (by omega) (by decide) dX7_says_267 ?_
                                  refine m_top (y := (evX (V no) (V (t + 1)) tb (k - tb)).2 (n - 1)) (hR.2 _ (by omega)) ?_
                                  refine m_cie (m_rS S hW (c_X7_join l G ad sh1 V1 (V (t + 1) k) ((evX (V no) (V (t + 1)) tb (k - tb)).2 (n - 1 - 1)) ((evX (V no) (V (t + 1)) tb (k - tb)).2 (n - 1))) (va_cwS 3 hts (gCall [.methodLink RX7 34 yX7_join, .static yX7_join, .initialized RX7] (List.forall_mem_cons.mpr ⟨(wa_18 _ (List.mem_of_getElem? (i := 19) (by decide +kernel))), (List.forall_mem_cons.mpr ⟨(wa_18 _ (List.mem_of_getElem? (i := 17) (by decide +kernel))), (List.forall_mem_cons.mpr ⟨(wa_18 _ (List.mem_of_getElem? (i := 18) (by decide +kernel))), (List.forall_mem_cons.mpr ⟨(wa_9 _ (List.mem_of_getElem? (i := 4) (by decide +kernel))), (fun _ h => absurd h List.not_mem_nil)⟩)⟩)⟩)⟩)) rfl rfl rfl (by decide +kernel) ⟨Nat.le_of_ble_eq_true rfl, Nat.le_of_ble_eq_true rfl⟩) rfl hl.1 rfl (Nat.le_of_ble_eq_true rfl) dX7_says_268 ⟨Nat.le_of_ble_eq_true rfl, Nat.le_of_ble_eq_true rfl⟩) hW (fun H locs hW => ?_)
                                  refine m_iast S hW gt2 ((n - 1) - 1) rfl (by omega) (by decide) dX7_says_271 (fun H locs hW => ?_)
                                  obtain ⟨V_99, eV_99⟩ : ∃ z : mV, z = mU V1 (t + 2) ((n - 1) - 1) (fJoin (V (t + 1) k) ((evX (V no) (V (t + 1)) tb (k - tb)).2 (n - 1 - 1)) ((evX (V no) (V (t + 1)) tb (k - tb)).2 (n - 1))) := ⟨_, rfl⟩
                                  rw [← eV_99] at hW
                                  refine lv_iinc (v := nI (k + 1)) (lv' := [(6, .int (nI (k + 1))), (5, .int (nI (n - 1))), (8, .int ((-(V (t + 1) k)) - (nI 2))), (7, .int (V (t + 1) k)), (4, .int (nI tl)), (3, .int (nI tb)), (0, .ref (ad t)), (1, .int (nI 2)), (2, .ref (ad no))]) hx hb dX7_says_272 hl (k := 8) rfl (m_inc k 1) (by decide) rfl (fun ls hl => ?_)
                                  refine lv_goto (tgt := 61) hx hb dX7_says_275 (by decide) ?_
                                  exact ih_61  (n - 1) (k + 1) V_99 _ _ _ (by omega) (by omega) (by intro a ha; rw [eV_99, mU_no _ _ ha]; exact hfr a ha) (by first | (exfalso; omega) | skip; rw [eV_99, mU_row, evX_s (by omega)]; first | exact hR.push (by first | exact Int32.not_lt.mp (by assumption) | assumption) (by omega) | exact hR.nm (by intro h; first | exact absurd h.1 (Int32.not_le.mpr (by assumption)) | exact absurd h.2 (by omega)) (by assumption) (by omega) eix hix | exact hR.nt0 (by intro h; first | exact absurd h.1 (Int32.not_le.mpr (by assumption)) | exact absurd h.2 (by omega)) (by intro h; first | exact absurd h.1 (by assumption) | exact absurd h.2 (by omega)) (by assumption) (by omega) (by assumption) | exact hR.nt1 (by intro h; first | exact absurd h.1 (Int32.not_le.mpr (by assumption)) | exact absurd h.2 (by omega)) (by intro h; first | exact absurd h.1 (by assumption) | exact absurd h.2 (by omega)) (by assumption) (by omega) (by assumption) | exact hR.ng (by intro h; first | exact absurd h.1 (Int32.not_le.mpr (by assumption)) | exact absurd h.2 (by omega)) (by intro h; first | exact absurd h.1 (by assumption) | exact absurd h.2 (by omega)) (by assumption) (by omega) | exact hR.jn (by intro h; first | exact absurd h.1 (Int32.not_le.mpr (by assumption)) | exact absurd h.2 (by omega)) (by intro h; first | exact absurd h.1 (by assumption) | exact absurd h.2 (by omega)) (by intro h; first | exact absurd h.1 (by assumption) | exact absurd h.2 (by omega)) (by intro h; first | exact absurd h.1 (by assumption) | exact absurd h.2 (by omega)) (by omega)) (by omega) hW (lv_sub hl [4, 5, 6, 7, 8, 1, 0] rfl)
                              · skip
                                refine lv_iload hx hb dX7_says_206 (lv_at hl 7 rfl) ?_
                                refine m_if_le (tgt := 233) hx hb dX7_says_208 (by decide) (fun c_100 => ?_) (fun c_100 => ?_)
                                · skip
                                  have c_100 : n ≤ 0 := (nI_leI (by omega) (by omega)).mp c_100
                                  refine lv_iload hx hb dX7_says_233 (lv_at hl 7 rfl) ?_
                                  refine lv_iconst (v := nI 1) hx hb dX7_says_235 (by decide) ?_
                                  refine lv_icmp_le (tgt := 272) hx hb dX7_says_236 (by decide) (fun c_101 => ?_) (fun c_101 => ?_)
                                  · skip
                                    have c_101 : n ≤ 1 := (nI_leI (by omega) (by omega)).mp c_101
                                    refine lv_iinc (v := nI (k + 1)) (lv' := [(6, .int (nI (k + 1))), (8, .int ((-(V (t + 1) k)) - (nI 2))), (7, .int (V (t + 1) k)), (4, .int (nI tl)), (3, .int (nI tb)), (0, .ref (ad t)), (1, .int (nI 2)), (2, .ref (ad no)), (5, .int (nI n))]) hx hb dX7_says_272 hl (k := 8) rfl (m_inc k 1) (by decide) rfl (fun ls hl => ?_)
                                    refine lv_goto (tgt := 61) hx hb dX7_says_275 (by decide) ?_
                                    exact ih_61  n (k + 1) V1 _ _ _ (by omega) (by omega) (by exact hfr) (by rw [evX_s (by omega)]; exact hR.no (by intro h; first | exact absurd h.1 (Int32.not_le.mpr (by assumption)) | exact absurd h.2 (by omega)) (by intro h; first | exact absurd h.1 (by assumption) | exact absurd h.2 (by omega)) (by intro h; first | exact absurd h.1 (by assumption) | exact absurd h.2 (by omega)) (by intro h; first | exact absurd h.1 (by assumption) | exact absurd h.2 (by omega)) (by omega)) (by omega) hW (lv_sub hl [3, 4, 5, 6, 7, 8, 0] rfl)
                                  · skip
                                    have c_101 : ¬ n ≤ 1 := mt (nI_leI (by omega) (by omega)).mpr c_101
                                    refine lv_iinc (v := nI (n - 1)) (lv' := [(5, .int (nI (n - 1))), (8, .int ((-(V (t + 1) k)) - (nI 2))), (7, .int (V (t + 1) k)), (4, .int (nI tl)), (3, .int (nI tb)), (0, .ref (ad t)), (1, .int (nI 2)), (2, .ref (ad no)), (6, .int (nI k))]) hx hb dX7_says_239 hl (k := 7) rfl (m_dec n 1 (by omega)) (by decide) rfl (fun ls hl => ?_)
                                    refine lv_aload_n hx hb dX7_says_242 rfl (lv_at hl 5 rfl) ?_
                                    refine m_getr S hW gt 4 rfl (j := (t + 2)) rfl kX7 (iW7 _) (by decide) (List.mem_cons_of_mem _ (wa_9 _ (List.mem_of_getElem? (i := 9) (by decide +kernel)))) dX7_says_243 ?_
                                    refine lv_iload hx hb dX7_says_246 (lv_at hl 0 rfl) ?_
                                    refine lv_iconst (v := nI 1) hx hb dX7_says_248 (by decide) ?_
                                    refine lv_isub hx hb dX7_says_249 ?_
                                    refine m_top (y := nI ((n - 1) - 1)) (pk_sub (by omega)) ?_
                                    refine lv_iload hx hb dX7_says_250 (lv_at hl 2 rfl) ?_
                                    refine lv_aload_n hx hb dX7_says_252 rfl (lv_at hl 5 rfl) ?_
                                    refine m_getr S hW gt 4 rfl (j := (t + 2)) rfl kX7 (iW7 _) (by decide) (List.mem_cons_of_mem _ (wa_9 _ (List.mem_of_getElem? (i := 9) (by decide +kernel)))) dX7_says_253 ?_
                                    refine lv_iload hx hb dX7_says_256 (lv_at hl 0 rfl) ?_
                                    refine lv_iconst (v := nI 1) hx hb dX7_says_258 (by decide) ?_
                                    refine lv_isub hx hb dX7_says_259 ?_
                                    refine m_top (y := nI ((n - 1) - 1)) (pk_sub (by omega)) ?_
                                    refine m_iald S hW gt2 ((n - 1) - 1) rfl (by omega) (by decide) dX7_says_260 ?_
                                    refine m_top (y := (evX (V no) (V (t + 1)) tb (k - tb)).2 (n - 1 - 1)) (hR.2 _ (by omega)) ?_
                                    refine lv_aload_n hx hb dX7_says_261 rfl (lv_at hl 5 rfl) ?_
                                    refine m_getr S hW gt 4 rfl (j := (t + 2)) rfl kX7 (iW7 _) (by decide) (List.mem_cons_of_mem _ (wa_9 _ (List.mem_of_getElem? (i := 9) (by decide +kernel)))) dX7_says_262 ?_
                                    refine lv_iload hx hb dX7_says_265 (lv_at hl 0 rfl) ?_
                                    refine m_iald S hW gt2 (n - 1) rfl (by omega) (by decide) dX7_says_267 ?_
                                    refine m_top (y := (evX (V no) (V (t + 1)) tb (k - tb)).2 (n - 1)) (hR.2 _ (by omega)) ?_
                                    refine m_cie (m_rS S hW (c_X7_join l G ad sh1 V1 (V (t + 1) k) ((evX (V no) (V (t + 1)) tb (k - tb)).2 (n - 1 - 1)) ((evX (V no) (V (t + 1)) tb (k - tb)).2 (n - 1))) (va_cwS 3 hts (gCall [.methodLink RX7 34 yX7_join, .static yX7_join, .initialized RX7] (List.forall_mem_cons.mpr ⟨(wa_18 _ (List.mem_of_getElem? (i := 19) (by decide +kernel))), (List.forall_mem_cons.mpr ⟨(wa_18 _ (List.mem_of_getElem? (i := 17) (by decide +kernel))), (List.forall_mem_cons.mpr ⟨(wa_18 _ (List.mem_of_getElem? (i := 18) (by decide +kernel))), (List.forall_mem_cons.mpr ⟨(wa_9 _ (List.mem_of_getElem? (i := 4) (by decide +kernel))), (fun _ h => absurd h List.not_mem_nil)⟩)⟩)⟩)⟩)) rfl rfl rfl (by decide +kernel) ⟨Nat.le_of_ble_eq_true rfl, Nat.le_of_ble_eq_true rfl⟩) rfl hl.1 rfl (Nat.le_of_ble_eq_true rfl) dX7_says_268 ⟨Nat.le_of_ble_eq_true rfl, Nat.le_of_ble_eq_true rfl⟩) hW (fun H locs hW => ?_)
                                    refine m_iast S hW gt2 ((n - 1) - 1) rfl (by omega) (by decide) dX7_says_271 (fun H locs hW => ?_)
                                    obtain ⟨V_102, eV_102⟩ : ∃ z : mV, z = mU V1 (t + 2) ((n - 1) - 1) (fJoin (V (t + 1) k) ((evX (V no) (V (t + 1)) tb (k - tb)).2 (n - 1 - 1)) ((evX (V no) (V (t + 1)) tb (k - tb)).2 (n - 1))) := ⟨_, rfl⟩
                                    rw [← eV_102] at hW
                                    refine lv_iinc (v := nI (k + 1)) (lv' := [(6, .int (nI (k + 1))), (5, .int (nI (n - 1))), (8, .int ((-(V (t + 1) k)) - (nI 2))), (7, .int (V (t + 1) k)), (4, .int (nI tl)), (3, .int (nI tb)), (0, .ref (ad t)), (1, .int (nI 2)), (2, .ref (ad no))]) hx hb dX7_says_272 hl (k := 8) rfl (m_inc k 1) (by decide) rfl (fun ls hl => ?_)
                                    refine lv_goto (tgt := 61) hx hb dX7_says_275 (by decide) ?_
                                    exact ih_61  (n - 1) (k + 1) V_102 _ _ _ (by omega) (by omega) (by intro a ha; rw [eV_102, mU_no _ _ ha]; exact hfr a ha) (by first | (exfalso; omega) | skip; rw [eV_102, mU_row, evX_s (by omega)]; first | exact hR.push (by first | exact Int32.not_lt.mp (by assumption) | assumption) (by omega) | exact hR.nm (by intro h; first | exact absurd h.1 (Int32.not_le.mpr (by assumption)) | exact absurd h.2 (by omega)) (by assumption) (by omega) eix hix | exact hR.nt0 (by intro h; first | exact absurd h.1 (Int32.not_le.mpr (by assumption)) | exact absurd h.2 (by omega)) (by intro h; first | exact absurd h.1 (by assumption) | exact absurd h.2 (by omega)) (by assumption) (by omega) (by assumption) | exact hR.nt1 (by intro h; first | exact absurd h.1 (Int32.not_le.mpr (by assumption)) | exact absurd h.2 (by omega)) (by intro h; first | exact absurd h.1 (by assumption) | exact absurd h.2 (by omega)) (by assumption) (by omega) (by assumption) | exact hR.ng (by intro h; first | exact absurd h.1 (Int32.not_le.mpr (by assumption)) | exact absurd h.2 (by omega)) (by intro h; first | exact absurd h.1 (by assumption) | exact absurd h.2 (by omega)) (by assumption) (by omega) | exact hR.jn (by intro h; first | exact absurd h.1 (Int32.not_le.mpr (by assumption)) | exact absurd h.2 (by omega)) (by intro h; first | exact absurd h.1 (by assumption) | exact absurd h.2 (by omega)) (by intro h; first | exact absurd h.1 (by assumption) | exact absurd h.2 (by omega)) (by intro h; first | exact absurd h.1 (by assumption) | exact absurd h.2 (by omega)) (by omega)) (by omega) hW (lv_sub hl [4, 5, 6, 7, 8, 1, 0] rfl)
                                · skip
                                  have c_100 : ¬ n ≤ 0 := mt (nI_leI (by omega) (by omega)).mpr c_100
                                  refine lv_aload_n hx hb dX7_says_211 rfl (lv_at hl 4 rfl) ?_
                                  refine m_getr S hW gt 4 rfl (j := (t + 2)) rfl kX7 (iW7 _) (by decide) (List.mem_cons_of_mem _ (wa_9 _ (List.mem_of_getElem? (i := 9) (by decide +kernel)))) dX7_says_212 ?_
                                  refine lv_iload hx hb dX7_says_215 (lv_at hl 7 rfl) ?_
                                  refine lv_iconst (v := nI 1) hx hb dX7_says_217 (by decide) ?_
                                  refine lv_isub hx hb dX7_says_218 ?_
                                  refine m_top (y := nI (n - 1)) (pk_sub (by omega)) ?_
                                  refine lv_aload_n hx hb dX7_says_219 rfl (lv_at hl 4 rfl) ?_
                                  refine m_getr S hW gt 4 rfl (j := (t + 2)) rfl kX7 (iW7 _) (by decide) (List.mem_cons_of_mem _ (wa_9 _ (List.mem_of_getElem? (i := 9) (by decide +kernel)))) dX7_says_220 ?_
                                  refine lv_iload hx hb dX7_says_223 (lv_at hl 7 rfl) ?_
                                  refine lv_iconst (v := nI 1) hx hb dX7_says_225 (by decide) ?_
                                  refine lv_isub hx hb dX7_says_226 ?_
                                  refine m_top (y := nI (n - 1)) (pk_sub (by omega)) ?_
                                  refine m_iald S hW gt2 (n - 1) rfl (by omega) (by decide) dX7_says_227 ?_
                                  refine m_top (y := (evX (V no) (V (t + 1)) tb (k - tb)).2 (n - 1)) (hR.2 _ (by omega)) ?_
                                  refine lv_ineg hx hb dX7_says_228 ?_
                                  refine m_iast S hW gt2 (n - 1) rfl (by omega) (by decide) dX7_says_229 (fun H locs hW => ?_)
                                  obtain ⟨V_103, eV_103⟩ : ∃ z : mV, z = mU V1 (t + 2) (n - 1) ((-((evX (V no) (V (t + 1)) tb (k - tb)).2 (n - 1)))) := ⟨_, rfl⟩
                                  rw [← eV_103] at hW
                                  refine lv_goto (tgt := 272) hx hb dX7_says_230 (by decide) ?_
                                  refine lv_iinc (v := nI (k + 1)) (lv' := [(6, .int (nI (k + 1))), (8, .int ((-(V (t + 1) k)) - (nI 2))), (7, .int (V (t + 1) k)), (4, .int (nI tl)), (3, .int (nI tb)), (0, .ref (ad t)), (1, .int (nI 2)), (2, .ref (ad no)), (5, .int (nI n))]) hx hb dX7_says_272 hl (k := 8) rfl (m_inc k 1) (by decide) rfl (fun ls hl => ?_)
                                  refine lv_goto (tgt := 61) hx hb dX7_says_275 (by decide) ?_
                                  exact ih_61  n (k + 1) V_103 _ _ _ (by omega) (by omega) (by intro a ha; rw [eV_103, mU_no _ _ ha]; exact hfr a ha) (by first | (exfalso; omega) | skip; rw [eV_103, mU_row, evX_s (by omega)]; first | exact hR.push (by first | exact Int32.not_lt.mp (by assumption) | assumption) (by omega) | exact hR.nm (by intro h; first | exact absurd h.1 (Int32.not_le.mpr (by assumption)) | exact absurd h.2 (by omega)) (by assumption) (by omega) eix hix | exact hR.nt0 (by intro h; first | exact absurd h.1 (Int32.not_le.mpr (by assumption)) | exact absurd h.2 (by omega)) (by intro h; first | exact absurd h.1 (by assumption) | exact absurd h.2 (by omega)) (by assumption) (by omega) (by assumption) | exact hR.nt1 (by intro h; first | exact absurd h.1 (Int32.not_le.mpr (by assumption)) | exact absurd h.2 (by omega)) (by intro h; first | exact absurd h.1 (by assumption) | exact absurd h.2 (by omega)) (by assumption) (by omega) (by assumption) | exact hR.ng (by intro h; first | exact absurd h.1 (Int32.not_le.mpr (by assumption)) | exact absurd h.2 (by omega)) (by intro h; first | exact absurd h.1 (by assumption) | exact absurd h.2 (by omega)) (by assumption) (by omega) | exact hR.jn (by intro h; first | exact absurd h.1 (Int32.not_le.mpr (by assumption)) | exact absurd h.2 (by omega)) (by intro h; first | exact absurd h.1 (by assumption) | exact absurd h.2 (by omega)) (by intro h; first | exact absurd h.1 (by assumption) | exact absurd h.2 (by omega)) (by intro h; first | exact absurd h.1 (by assumption) | exact absurd h.2 (by omega)) (by omega)) (by omega) hW (lv_sub hl [3, 4, 5, 6, 7, 8, 0] rfl)
                            · skip
                              have c_96 : ¬ n ≤ 0 := mt (nI_leI (by omega) (by omega)).mpr c_96
                              refine lv_aload_n hx hb dX7_says_170 rfl (lv_at hl 4 rfl) ?_
                              refine m_getr S hW gt 4 rfl (j := (t + 2)) rfl kX7 (iW7 _) (by decide) (List.mem_cons_of_mem _ (wa_9 _ (List.mem_of_getElem? (i := 9) (by decide +kernel)))) dX7_says_171 ?_
                              refine lv_iload hx hb dX7_says_174 (lv_at hl 7 rfl) ?_
                              refine lv_iconst (v := nI 1) hx hb dX7_says_176 (by decide) ?_
                              refine lv_isub hx hb dX7_says_177 ?_
                              refine m_top (y := nI (n - 1)) (pk_sub (by omega)) ?_
                              refine lv_aload_n hx hb dX7_says_178 rfl (lv_at hl 4 rfl) ?_
                              refine m_getr S hW gt 4 rfl (j := (t + 2)) rfl kX7 (iW7 _) (by decide) (List.mem_cons_of_mem _ (wa_9 _ (List.mem_of_getElem? (i := 9) (by decide +kernel)))) dX7_says_179 ?_
                              refine lv_iload hx hb dX7_says_182 (lv_at hl 7 rfl) ?_
                              refine lv_iconst (v := nI 1) hx hb dX7_says_184 (by decide) ?_
                              refine lv_isub hx hb dX7_says_185 ?_
                              refine m_top (y := nI (n - 1)) (pk_sub (by omega)) ?_
                              refine m_iald S hW gt2 (n - 1) rfl (by omega) (by decide) dX7_says_186 ?_
                              refine m_top (y := (evX (V no) (V (t + 1)) tb (k - tb)).2 (n - 1)) (hR.2 _ (by omega)) ?_
                              refine m_if_ne (tgt := 194) hx hb dX7_says_187 (by decide) (fun c_104 => ?_) (fun c_104 => ?_)
                              · skip
                                refine lv_iconst (v := nI 0) hx hb dX7_says_194 (by decide) ?_
                                refine m_iast S hW gt2 (n - 1) rfl (by omega) (by decide) dX7_says_195 (fun H locs hW => ?_)
                                obtain ⟨V_105, eV_105⟩ : ∃ z : mV, z = mU V1 (t + 2) (n - 1) (nI 0) := ⟨_, rfl⟩
                                rw [← eV_105] at hW
                                refine lv_goto (tgt := 272) hx hb dX7_says_196 (by decide) ?_
                                refine lv_iinc (v := nI (k + 1)) (lv' := [(6, .int (nI (k + 1))), (8, .int ((-(V (t + 1) k)) - (nI 2))), (7, .int (V (t + 1) k)), (4, .int (nI tl)), (3, .int (nI tb)), (0, .ref (ad t)), (1, .int (nI 2)), (2, .ref (ad no)), (5, .int (nI n))]) hx hb dX7_says_272 hl (k := 8) rfl (m_inc k 1) (by decide) rfl (fun ls hl => ?_)
                                refine lv_goto (tgt := 61) hx hb dX7_says_275 (by decide) ?_
                                exact ih_61  n (k + 1) V_105 _ _ _ (by omega) (by omega) (by intro a ha; rw [eV_105, mU_no _ _ ha]; exact hfr a ha) (by first | (exfalso; omega) | skip; rw [eV_105, mU_row, evX_s (by omega)]; first | exact hR.push (by first | exact Int32.not_lt.mp (by assumption) | assumption) (by omega) | exact hR.nm (by intro h; first | exact absurd h.1 (Int32.not_le.mpr (by assumption)) | exact absurd h.2 (by omega)) (by assumption) (by omega) eix hix | exact hR.nt0 (by intro h; first | exact absurd h.1 (Int32.not_le.mpr (by assumption)) | exact absurd h.2 (by omega)) (by intro h; first | exact absurd h.1 (by assumption) | exact absurd h.2 (by omega)) (by assumption) (by omega) (by assumption) | exact hR.nt1 (by intro h; first | exact absurd h.1 (Int32.not_le.mpr (by assumption)) | exact absurd h.2 (by omega)) (by intro h; first | exact absurd h.1 (by assumption) | exact absurd h.2 (by omega)) (by assumption) (by omega) (by assumption) | exact hR.ng (by intro h; first | exact absurd h.1 (Int32.not_le.mpr (by assumption)) | exact absurd h.2 (by omega)) (by intro h; first | exact absurd h.1 (by assumption) | exact absurd h.2 (by omega)) (by assumption) (by omega) | exact hR.jn (by intro h; first | exact absurd h.1 (Int32.not_le.mpr (by assumption)) | exact absurd h.2 (by omega)) (by intro h; first | exact absurd h.1 (by assumption) | exact absurd h.2 (by omega)) (by intro h; first | exact absurd h.1 (by assumption) | exact absurd h.2 (by omega)) (by intro h; first | exact absurd h.1 (by assumption) | exact absurd h.2 (by omega)) (by omega)) (by omega) hW (lv_sub hl [3, 4, 5, 6, 7, 8, 0] rfl)
                              · skip
                                refine lv_iconst (v := nI 1) hx hb dX7_says_190 (by decide) ?_
                                refine lv_goto (tgt := 195) hx hb dX7_says_191 (by decide) ?_
                                refine m_iast S hW gt2 (n - 1) rfl (by omega) (by decide) dX7_says_195 (fun H locs hW => ?_)
                                obtain ⟨V_106, eV_106⟩ : ∃ z : mV, z = mU V1 (t + 2) (n - 1) (nI 1) := ⟨_, rfl⟩
                                rw [← eV_106] at hW
                                refine lv_goto (tgt := 272) hx hb dX7_says_196 (by decide) ?_
                                refine lv_iinc (v := nI (k + 1)) (lv' := [(6, .int (nI (k + 1))), (8, .int ((-(V (t + 1) k)) - (nI 2))), (7, .int (V (t + 1) k)), (4, .int (nI tl)), (3, .int (nI tb)), (0, .ref (ad t)), (1, .int (nI 2)), (2, .ref (ad no)), (5, .int (nI n))]) hx hb dX7_says_272 hl (k := 8) rfl (m_inc k 1) (by decide) rfl (fun ls hl => ?_)
                                refine lv_goto (tgt := 61) hx hb dX7_says_275 (by decide) ?_
                                exact ih_61  n (k + 1) V_106 _ _ _ (by omega) (by omega) (by intro a ha; rw [eV_106, mU_no _ _ ha]; exact hfr a ha) (by first | (exfalso; omega) | skip; rw [eV_106, mU_row, evX_s (by omega)]; first | exact hR.push (by first | exact Int32.not_lt.mp (by assumption) | assumption) (by omega) | exact hR.nm (by intro h; first | exact absurd h.1 (Int32.not_le.mpr (by assumption)) | exact absurd h.2 (by omega)) (by assumption) (by omega) eix hix | exact hR.nt0 (by intro h; first | exact absurd h.1 (Int32.not_le.mpr (by assumption)) | exact absurd h.2 (by omega)) (by intro h; first | exact absurd h.1 (by assumption) | exact absurd h.2 (by omega)) (by assumption) (by omega) (by assumption) | exact hR.nt1 (by intro h; first | exact absurd h.1 (Int32.not_le.mpr (by assumption)) | exact absurd h.2 (by omega)) (by intro h; first | exact absurd h.1 (by assumption) | exact absurd h.2 (by omega)) (by assumption) (by omega) (by assumption) | exact hR.ng (by intro h; first | exact absurd h.1 (Int32.not_le.mpr (by assumption)) | exact absurd h.2 (by omega)) (by intro h; first | exact absurd h.1 (by assumption) | exact absurd h.2 (by omega)) (by assumption) (by omega) | exact hR.jn (by intro h; first | exact absurd h.1 (Int32.not_le.mpr (by assumption)) | exact absurd h.2 (by omega)) (by intro h; first | exact absurd h.1 (by assumption) | exact absurd h.2 (by omega)) (by intro h; first | exact absurd h.1 (by assumption) | exact absurd h.2 (by omega)) (by intro h; first | exact absurd h.1 (by assumption) | exact absurd h.2 (by omega)) (by omega)) (by omega) hW (lv_sub hl [3, 4, 5, 6, 7, 8, 0] rfl)
                        · exact absurd c_87 (by decide)
                    · skip
                      have c_60 : ¬ 32 ≤ n := mt (nI_leI (by omega) (by omega)).mpr c_60
                      refine lv_aload_n hx hb dX7_says_106 rfl (lv_at hl 4 rfl) ?_
                      refine m_getr S hW gt 4 rfl (j := (t + 2)) rfl kX7 (iW7 _) (by decide) (List.mem_cons_of_mem _ (wa_9 _ (List.mem_of_getElem? (i := 9) (by decide +kernel)))) dX7_says_107 ?_
                      refine lv_iload hx hb dX7_says_110 (lv_at hl 7 rfl) ?_
                      refine lv_iinc (v := nI (n + 1)) (lv' := [(5, .int (nI (n + 1))), (8, .int ((-(V (t + 1) k)) - (nI 2))), (7, .int (V (t + 1) k)), (4, .int (nI tl)), (3, .int (nI tb)), (0, .ref (ad t)), (1, .int (nI 2)), (2, .ref (ad no)), (6, .int (nI k))]) hx hb dX7_says_112 hl (k := 7) rfl (m_inc n 1) (by decide) rfl (fun ls hl => ?_)
                      refine lv_iload hx hb dX7_says_115 (lv_at hl 2 rfl) ?_
                      refine m_iast S hW gt2 n rfl (by omega) (by decide) dX7_says_117 (fun H locs hW => ?_)
                      obtain ⟨V_107, eV_107⟩ : ∃ z : mV, z = mU V1 (t + 2) n (V (t + 1) k) := ⟨_, rfl⟩
                      rw [← eV_107] at hW
                      refine lv_goto (tgt := 272) hx hb dX7_says_118 (by decide) ?_
                      refine lv_iinc (v := nI (k + 1)) (lv' := [(6, .int (nI (k + 1))), (5, .int (nI (n + 1))), (8, .int ((-(V (t + 1) k)) - (nI 2))), (7, .int (V (t + 1) k)), (4, .int (nI tl)), (3, .int (nI tb)), (0, .ref (ad t)), (1, .int (nI 2)), (2, .ref (ad no))]) hx hb dX7_says_272 hl (k := 8) rfl (m_inc k 1) (by decide) rfl (fun ls hl => ?_)
                      refine lv_goto (tgt := 61) hx hb dX7_says_275 (by decide) ?_
                      exact ih_61  (n + 1) (k + 1) V_107 _ _ _ (by omega) (by omega) (by intro a ha; rw [eV_107, mU_no _ _ ha]; exact hfr a ha) (by first | (exfalso; omega) | skip; rw [eV_107, mU_row, evX_s (by omega)]; first | exact hR.push (by first | exact Int32.not_lt.mp (by assumption) | assumption) (by omega) | exact hR.nm (by intro h; first | exact absurd h.1 (Int32.not_le.mpr (by assumption)) | exact absurd h.2 (by omega)) (by assumption) (by omega) eix hix | exact hR.nt0 (by intro h; first | exact absurd h.1 (Int32.not_le.mpr (by assumption)) | exact absurd h.2 (by omega)) (by intro h; first | exact absurd h.1 (by assumption) | exact absurd h.2 (by omega)) (by assumption) (by omega) (by assumption) | exact hR.nt1 (by intro h; first | exact absurd h.1 (Int32.not_le.mpr (by assumption)) | exact absurd h.2 (by omega)) (by intro h; first | exact absurd h.1 (by assumption) | exact absurd h.2 (by omega)) (by assumption) (by omega) (by assumption) | exact hR.ng (by intro h; first | exact absurd h.1 (Int32.not_le.mpr (by assumption)) | exact absurd h.2 (by omega)) (by intro h; first | exact absurd h.1 (by assumption) | exact absurd h.2 (by omega)) (by assumption) (by omega) | exact hR.jn (by intro h; first | exact absurd h.1 (Int32.not_le.mpr (by assumption)) | exact absurd h.2 (by omega)) (by intro h; first | exact absurd h.1 (by assumption) | exact absurd h.2 (by omega)) (by intro h; first | exact absurd h.1 (by assumption) | exact absurd h.2 (by omega)) (by intro h; first | exact absurd h.1 (by assumption) | exact absurd h.2 (by omega)) (by omega)) (by omega) hW (lv_sub hl [4, 5, 6, 7, 8, 1, 0] rfl)
          exact loop_61 (tl - tb + 1) 0 tb V0 _ _ _ (by omega) (by omega) (by exact hfr) (by rw [Nat.sub_self]; exact ⟨rfl, fun j hj => absurd hj (by omega)⟩) (by omega) hW (lv_sub hl [2, 3, 4, 5, 6, 1, 0] rfl)
        · exact absurd c_4 (by decide)
      · exact absurd c_3 (by decide)
    · exact absurd c_2 (by decide)
  · exact absurd c_1 (by decide)
