section LAWL
variable {p : Program} {l : Launch} {e : Env} {s : State} {m : MethodId} {below : List Frame} {meth : Method} {c : Code} {b L : Nat} {xs : Nat → Int32} {G : mG}
set_option maxHeartbeats 4000000 in
set_option maxRecDepth 100000 in
theorem law_loop (S : CallFix p m c cL_law 4 s #[Value.ref b] wsLaw RL) (hXs : va_X b L xs s s.heap) (hbl : b < s.heap.size) (hL : L ≤ 3584) (hr : meth.sig.returnType = ret) (hlk : meth.locks = false) : ∀ (n k : Nat) (ad : Nat → Nat) (sh : Nat → Option mSh) (V : mV) (q : Sg) (H : Heap) (locs : List Loc) (ls : Array Slot), 7 * k ≤ L → L - 7 * k < n → XI sh V q → MI sh V q → NoT sh (gTxs q).length → mC (fun z => s.heap.size ≤ z) s.heap s G ad sh V H locs → lv_has ls 4 [(0, .ref b), (1, .ref (ad 0)), (2, .ref (ad 200)), (3, .int (nI (7 * k)))] → W p l e room_1 s m #[Value.ref b] below meth c H locs (107 + 3 * k) (5516 + 197 * k) (lw_Z below #[Value.ref b] s) (F0 m 18 ls []) := by
  obtain ⟨hx, hb, hml, hown, hts⟩ := id S
  have hbA : ¬ (fun z : Nat => s.heap.size ≤ z) b := Nat.not_le.mpr hbl
  intro n
  induction n with
  | zero => intro k ad sh V q H locs ls h7 hn; omega
  | succ n ih =>
    intro k ad sh V q H locs ls h7 hn hX hM hN hW hl
    refine lv_iload_n hx hb dL_law_18 rfl (lv_at hl 3 rfl) ?_
    refine lv_aload_n hx hb dL_law_19 rfl (lv_at hl 0 rfl) ?_
    refine va_slen hx hb hXs hbl hbA hW.2.2.1 dL_law_20 ?_
    refine m_top (y := nI L) rfl ?_
    refine lv_bipush (v := nI 7) hx hb dL_law_21 (by decide) ?_
    refine lv_isub hx hb dL_law_23 ?_
    have hI : (nI L - nI 7 < nI (7 * k)) ↔ L < 7 * k + 7 := by
      rw [Int32.lt_iff_toInt_lt, pk_sub_toInt (by omega) (by omega), nI_toInt (by omega)]
      omega
    refine lv_icmp_gt (tgt := 1549) hx hb dL_law_24 (by decide) (fun c1 => ?_) (fun c1 => ?_)
    · refine lv_iconst (v := nI 1) hx hb dL_law_1549 (by decide) ?_
      refine m_top (y := 1) (by decide) ?_
      refine va_forget (fun z hz => hW.2.2.1.2.2 z hz) ?_
      refine W.widen (k := 600000) (n := 7302249) (by omega) (by omega) ?_
      exact lw_ret hx hb hr hlk dL_law_1550
    · have hk : 7 * k + 7 ≤ L := Nat.not_lt.mp (fun h => c1 (hI.mpr h))
      refine lv_aload_n hx hb dL_law_27 rfl (lv_at hl 0 rfl) ?_
      refine lv_iload_n hx hb dL_law_28 rfl (lv_at hl 3 rfl) ?_
      refine va_sld hx hb hXs hbl hbA hW.2.2.1 (vp_in_nI (by omega) (by omega)) dL_law_29 ?_
      refine lv_bipush (v := nI 63) hx hb dL_law_30 (by decide) ?_
      refine lv_iand hx hb dL_law_32 ?_
      refine lv_topi (fun x ex => ?_)
      have kk : LwK p l e s m below meth c b k G (107 + 3 * k) (5516 + 197 * k) (lw_Z below #[Value.ref b] s) := by
        intro ad sh V q H locs ls hX hM hN hW hl
        refine lv_iinc (v := nI (7 * k + 7)) (lv' := [(3, .int (nI (7 * k + 7))), (0, .ref b), (1, .ref (ad 0)), (2, .ref (ad 200))]) hx hb dL_law_1543 hl (k := 3) rfl (m_inc (7 * k) 7) (by decide) rfl (fun ls hl => ?_)
        refine lv_goto (tgt := 18) hx hb dL_law_1546 (by decide) ?_
        have h := ih (k + 1) ad sh V q H locs ls (by omega) (by omega) hX hM hN hW (lv_sub hl [1, 2, 3, 0] rfl)
        rw [show 107 + 3 * (k + 1) = 107 + 3 * k + 3 by omega, show 5516 + 197 * (k + 1) = 5516 + 197 * k + 197 by omega] at h
        exact h
      have hcs : 107 + 3 * k + 3 ≤ 600000 ∧ 5516 + 197 * k + 197 ≤ 7302249 := by omega
      by_cases hin : 0 ≤ x.toInt ∧ x.toInt ≤ 35
      · obtain ⟨j, hj, rfl⟩ : ∃ j : Nat, j < 36 ∧ x = nI j := ⟨x.toInt.toNat, by omega, Int32.toInt_inj.mp (by rw [nI_toInt (by omega)]; omega)⟩
        clear hin ex
        rcases (show j = 0 ∨ j = 1 ∨ j = 2 ∨ j = 3 ∨ j = 4 ∨ j = 5 ∨ j = 6 ∨ j = 7 ∨ j = 8 ∨ j = 9 ∨ j = 10 ∨ j = 11 ∨ j = 12 ∨ j = 13 ∨ j = 14 ∨ j = 15 ∨ j = 16 ∨ j = 17 ∨ j = 18 ∨ j = 19 ∨ j = 20 ∨ j = 21 ∨ j = 22 ∨ j = 23 ∨ j = 24 ∨ j = 25 ∨ j = 26 ∨ j = 27 ∨ j = 28 ∨ j = 29 ∨ j = 30 ∨ j = 31 ∨ j = 32 ∨ j = 33 ∨ j = 34 ∨ j = 35 by omega) with rfl | rfl | rfl | rfl | rfl | rfl | rfl | rfl | rfl | rfl | rfl | rfl | rfl | rfl | rfl | rfl | rfl | rfl | rfl | rfl | rfl | rfl | rfl | rfl | rfl | rfl | rfl | rfl | rfl | rfl | rfl | rfl | rfl | rfl | rfl | rfl
        · refine lv_tableIn (off := 159) (tgt := 192) hx hb dL_law_33 (by decide) (by decide) (by decide +kernel) (by decide) ?_
          exact law_c0 S hXs hbl hL hk hcs hX hM hN hW hl kk
        · refine lv_tableIn (off := 182) (tgt := 215) hx hb dL_law_33 (by decide) (by decide) (by decide +kernel) (by decide) ?_
          exact law_c1 S hXs hbl hL hk hcs hX hM hN hW hl kk
        · refine lv_tableIn (off := 205) (tgt := 238) hx hb dL_law_33 (by decide) (by decide) (by decide +kernel) (by decide) ?_
          exact law_c2 S hXs hbl hL hk hcs hX hM hN hW hl kk
        · refine lv_tableIn (off := 280) (tgt := 313) hx hb dL_law_33 (by decide) (by decide) (by decide +kernel) (by decide) ?_
          exact law_c3 S hXs hbl hL hk hcs hX hM hN hW hl kk
        · refine lv_tableIn (off := 293) (tgt := 326) hx hb dL_law_33 (by decide) (by decide) (by decide +kernel) (by decide) ?_
          exact law_c4 S hXs hbl hL hk hcs hX hM hN hW hl kk
        · refine lv_tableIn (off := 316) (tgt := 349) hx hb dL_law_33 (by decide) (by decide) (by decide +kernel) (by decide) ?_
          exact law_c5 S hXs hbl hL hk hcs hX hM hN hW hl kk
        · refine lv_tableIn (off := 369) (tgt := 402) hx hb dL_law_33 (by decide) (by decide) (by decide +kernel) (by decide) ?_
          exact law_c6 S hXs hbl hL hk hcs hX hM hN hW hl kk
        · refine lv_tableIn (off := 402) (tgt := 435) hx hb dL_law_33 (by decide) (by decide) (by decide +kernel) (by decide) ?_
          exact law_c7 S hXs hbl hL hk hcs hX hM hN hW hl kk
        · refine lv_tableIn (off := 445) (tgt := 478) hx hb dL_law_33 (by decide) (by decide) (by decide +kernel) (by decide) ?_
          exact law_c8 S hXs hbl hL hk hcs hX hM hN hW hl kk
        · refine lv_tableIn (off := 478) (tgt := 511) hx hb dL_law_33 (by decide) (by decide) (by decide +kernel) (by decide) ?_
          exact law_c9 S hXs hbl hL hk hcs hX hM hN hW hl kk
        · refine lv_tableIn (off := 511) (tgt := 544) hx hb dL_law_33 (by decide) (by decide) (by decide +kernel) (by decide) ?_
          exact law_c10 S hXs hbl hL hk hcs hX hM hN hW hl kk
        · refine lv_tableIn (off := 544) (tgt := 577) hx hb dL_law_33 (by decide) (by decide) (by decide +kernel) (by decide) ?_
          exact law_c11 S hXs hbl hL hk hcs hX hM hN hW hl kk
        · refine lv_tableIn (off := 587) (tgt := 620) hx hb dL_law_33 (by decide) (by decide) (by decide +kernel) (by decide) ?_
          exact law_c12 S hXs hbl hL hk hcs hX hM hN hW hl kk
        · refine lv_tableIn (off := 620) (tgt := 653) hx hb dL_law_33 (by decide) (by decide) (by decide +kernel) (by decide) ?_
          exact law_c13 S hXs hbl hL hk hcs hX hM hN hW hl kk
        · refine lv_tableIn (off := 673) (tgt := 706) hx hb dL_law_33 (by decide) (by decide) (by decide +kernel) (by decide) ?_
          exact law_c14 S hXs hbl hL hk hcs hX hM hN hW hl kk
        · refine lv_tableIn (off := 716) (tgt := 749) hx hb dL_law_33 (by decide) (by decide) (by decide +kernel) (by decide) ?_
          exact law_c15 S hXs hbl hL hk hcs hX hM hN hW hl kk
        · refine lv_tableIn (off := 749) (tgt := 782) hx hb dL_law_33 (by decide) (by decide) (by decide +kernel) (by decide) ?_
          exact law_c16 S hXs hbl hL hk hcs hX hM hN hW hl kk
        · refine lv_tableIn (off := 772) (tgt := 805) hx hb dL_law_33 (by decide) (by decide) (by decide +kernel) (by decide) ?_
          exact law_c17 S hXs hbl hL hk hcs hX hM hN hW hl kk
        · refine lv_tableIn (off := 825) (tgt := 858) hx hb dL_law_33 (by decide) (by decide) (by decide +kernel) (by decide) ?_
          exact law_c18 S hXs hbl hL hk hcs hX hM hN hW hl kk
        · refine lv_tableIn (off := 858) (tgt := 891) hx hb dL_law_33 (by decide) (by decide) (by decide +kernel) (by decide) ?_
          exact law_c19 S hXs hbl hL hk hcs hX hM hN hW hl kk
        · refine lv_tableIn (off := 891) (tgt := 924) hx hb dL_law_33 (by decide) (by decide) (by decide +kernel) (by decide) ?_
          exact law_c20 S hXs hbl hL hk hcs hX hM hN hW hl kk
        · refine lv_tableIn (off := 924) (tgt := 957) hx hb dL_law_33 (by decide) (by decide) (by decide +kernel) (by decide) ?_
          exact law_c21 S hXs hbl hL hk hcs hX hM hN hW hl kk
        · refine lv_tableIn (off := 957) (tgt := 990) hx hb dL_law_33 (by decide) (by decide) (by decide +kernel) (by decide) ?_
          exact law_c22 S hXs hbl hL hk hcs hX hM hN hW hl kk
        · refine lv_tableIn (off := 1010) (tgt := 1043) hx hb dL_law_33 (by decide) (by decide) (by decide +kernel) (by decide) ?_
          exact law_c23 S hXs hbl hL hk hcs hX hM hN hW hl kk
        · refine lv_tableIn (off := 1033) (tgt := 1066) hx hb dL_law_33 (by decide) (by decide) (by decide +kernel) (by decide) ?_
          exact law_c24 S hXs hbl hL hk hcs hX hM hN hW hl kk
        · refine lv_tableIn (off := 1076) (tgt := 1109) hx hb dL_law_33 (by decide) (by decide) (by decide +kernel) (by decide) ?_
          exact law_c25 S hXs hbl hL hk hcs hX hM hN hW hl kk
        · refine lv_tableIn (off := 1099) (tgt := 1132) hx hb dL_law_33 (by decide) (by decide) (by decide +kernel) (by decide) ?_
          exact law_c26 S hXs hbl hL hk hcs hX hM hN hW hl kk
        · refine lv_tableIn (off := 1132) (tgt := 1165) hx hb dL_law_33 (by decide) (by decide) (by decide +kernel) (by decide) ?_
          exact law_c27 S hXs hbl hL hk hcs hX hM hN hW hl kk
        · refine lv_tableIn (off := 1185) (tgt := 1218) hx hb dL_law_33 (by decide) (by decide) (by decide +kernel) (by decide) ?_
          exact law_c28 S hXs hbl hL hk hcs hX hM hN hW hl kk
        · refine lv_tableIn (off := 1249) (tgt := 1282) hx hb dL_law_33 (by decide) (by decide) (by decide +kernel) (by decide) ?_
          exact law_c29 S hXs hbl hL hk hcs hX hM hN hW hl kk
        · refine lv_tableIn (off := 1262) (tgt := 1295) hx hb dL_law_33 (by decide) (by decide) (by decide +kernel) (by decide) ?_
          exact law_c30 S hXs hbl hL hk hcs hX hM hN hW hl kk
        · refine lv_tableIn (off := 1275) (tgt := 1308) hx hb dL_law_33 (by decide) (by decide) (by decide +kernel) (by decide) ?_
          exact law_c31 S hXs hbl hL hk hcs hX hM hN hW hl kk
        · refine lv_tableIn (off := 1318) (tgt := 1351) hx hb dL_law_33 (by decide) (by decide) (by decide +kernel) (by decide) ?_
          exact law_c32 S hXs hbl hL hk hcs hX hM hN hW hl kk
        · refine lv_tableIn (off := 1361) (tgt := 1394) hx hb dL_law_33 (by decide) (by decide) (by decide +kernel) (by decide) ?_
          exact law_c33 S hXs hbl hL hk hcs hX hM hN hW hl kk
        · refine lv_tableIn (off := 1424) (tgt := 1457) hx hb dL_law_33 (by decide) (by decide) (by decide +kernel) (by decide) ?_
          exact law_c34 S hXs hbl hL hk hcs hX hM hN hW hl kk
        · refine lv_tableIn (off := 1477) (tgt := 1510) hx hb dL_law_33 (by decide) (by decide) (by decide +kernel) (by decide) ?_
          exact law_c35 S hXs hbl hL hk hcs hX hM hN hW hl kk
      · refine lv_tableOut (tgt := 1543) hx hb dL_law_33 (by omega) (by decide) ?_
        refine W.widen (k := 107 + 3 * k + 3) (n := 5516 + 197 * k + 197) (by omega) (by omega) ?_
        exact kk ad sh V q _ _ ls hX hM hN hW hl
end LAWL
set_option maxHeartbeats 4000000 in
set_option maxRecDepth 100000 in
theorem whole_start {p : Program} {e : Env} {s : State} {m : MethodId} {below : List Frame} {meth : Method} {c : Code} (l : Launch) (hflags : l.flags = flags0) {b L : Nat} {xs : Nat → Int32} (hL : L ≤ 3584) (C0 : lw_At p s m meth c b L xs) : W p l e room_1 s m #[Value.ref b] below meth c s.heap [] 0 0 (lw_Z below #[Value.ref b] s) (entryFrame m ([Value.ref b] : List Value).toArray 4) := by
  obtain ⟨hx, hb, hr, hml, hown, hts0, hXs, hbl, hlk, hgv⟩ := id C0
  obtain ⟨G, hK, hE⟩ := law_G hts0 hgv
  have hts : ∀ w ∈ wsLaw, w.before #[Value.ref b] s = true := fun w hw => by
    rcases List.mem_cons.mp hw with rfl | h
    · exact hts0 _ (wsL_law_in _ (wa_1 _ (List.mem_of_getElem? (i := 2) (by decide +kernel))))
    · exact hts0 _ (wsL_law_in _ h)
  have S : CallFix p m c cL_law 4 s #[Value.ref b] wsLaw RL := ⟨hx, hb, hml, hown, hts⟩
  obtain ⟨sh, hsh⟩ : ∃ vv_ : Nat → Option mSh, vv_ = fun _ => none := ⟨_, rfl⟩
  obtain ⟨ad, -⟩ : ∃ vv_ : Nat → Nat, vv_ = fun _ => 0 := ⟨_, rfl⟩
  obtain ⟨V, -⟩ : ∃ vv_ : mV, vv_ = fun _ _ => 0 := ⟨_, rfl⟩
  have hn0 : ∀ a, sh a = none := fun a => congrFun hsh a
  have hW : mC (fun z => s.heap.size ≤ z) s.heap s G ad sh V s.heap [] := ⟨⟨fun i S h => absurd ((hn0 i).symm.trans h) (fun z => by cases z), fun i j h => absurd (hn0 i) h, fun i S r h => absurd ((hn0 i).symm.trans h) (fun z => by cases z)⟩, fun i h => absurd (hn0 i) h, va_S.rf, hK, fun q h => h, hE⟩
  have hl := lv_entry ([.ref b]) (n := 4) (Nat.le_of_ble_eq_true rfl)
  rw [lg_entry_eq]
  generalize (lg_sl ([.ref b]) ++ List.replicate (4 - (lg_sl ([.ref b])).length) Slot.unset).toArray = ls at hl ⊢
  have hl : lv_has ls 4 [(0, .ref b)] := hl
  refine m_new S hW (C := RX10) (ci := 9) (ks := nKs [true, true, false, true, true, false, true, true, true, true]) 0 (hn0 0) kX10 (iW10 _) tyX10 tyX10_ok (List.mem_cons_of_mem _ (wa_1 _ (List.mem_of_getElem? (i := 0) (by decide +kernel)))) (List.mem_cons_of_mem _ (wa_1 _ (List.mem_of_getElem? (i := 1) (by decide +kernel)))) (List.mem_cons_of_mem _ (wa_1 _ (List.mem_of_getElem? (i := 2) (by decide +kernel)))) (fun r => nKs_no _ _ _ r) (fun ad j hj => by rcases (show j = 0 ∨ j = 1 ∨ j = 2 ∨ j = 3 ∨ j = 4 ∨ j = 5 ∨ j = 6 ∨ j = 7 ∨ j = 8 ∨ j = 9 by omega) with rfl | rfl | rfl | rfl | rfl | rfl | rfl | rfl | rfl | rfl <;> rfl) (Nat.le_of_ble_eq_true rfl) (Nat.le_of_ble_eq_true rfl) dL_law_0 (fun ad_1 H fad_1 hW => ?_)
  obtain ⟨sh_2, esh_2⟩ : ∃ vv_ : Nat → Option mSh, vv_ = va_up sh 0 (some (mO 9 (nKs [true, true, false, true, true, false, true, true, true, true]))) := ⟨_, rfl⟩
  rw [← esh_2] at hW
  have qsh_2 : sh_2 0 = some (mO 9 (nKs [true, true, false, true, true, false, true, true, true, true])) := by rw [esh_2]; exact va_up_self _ _ _
  have fsh_2 : ∀ a, a ≠ 0 → sh_2 a = sh a := fun a ha => by rw [esh_2]; exact va_up_ne _ _ ha
  clear esh_2
  obtain ⟨V_3, eV_3⟩ : ∃ vv_ : mV, vv_ = va_up V 0 (fun _ => 0) := ⟨_, rfl⟩
  rw [← eV_3] at hW
  have qV_3 : V_3 0 = fun _ => 0 := by rw [eV_3]; exact va_up_self _ _ _
  have fV_3 : ∀ a, a ≠ 0 → V_3 a = V a := fun a ha => by rw [eV_3]; exact va_up_ne _ _ ha
  clear eV_3
  refine lv_dup hx hb dL_law_3 rfl ?_
  refine m_fin (m_rI S hW (c_X10_init l G ad_1 sh_2 V_3 qsh_2 (fun a h1 => ((fsh_2 a (by omega)).trans (hn0 a))) qV_3) (cwI 0 hts (gCall [] (List.forall_mem_cons.mpr ⟨(wa_1 _ (List.mem_of_getElem? (i := 8) (by decide +kernel))), (fun _ h => absurd h List.not_mem_nil)⟩)) rfl rfl rfl (hts (.initialized RX10) (List.mem_cons_of_mem _ (wa_1 _ (List.mem_of_getElem? (i := 2) (by decide +kernel))))) (hts (.methodLink RL 9 yX10_init) (List.mem_cons_of_mem _ (wa_1 _ (List.mem_of_getElem? (i := 6) (by decide +kernel))))) (hts (.instanceMethod yX10_init) (List.mem_cons_of_mem _ (wa_1 _ (List.mem_of_getElem? (i := 7) (by decide +kernel))))) rfl (by decide +kernel) ⟨(Nat.le_of_ble_eq_true rfl), (Nat.le_of_ble_eq_true rfl)⟩) rfl hl.1 rfl (Nat.le_of_ble_eq_true rfl) dL_law_4 ⟨(Nat.le_of_ble_eq_true rfl), (Nat.le_of_ble_eq_true rfl)⟩) hW (fun v_4 ad_5 sh_6 V_7 H locs hp_8 hW => ?_)
  obtain ⟨rfl, hA_9, hS_10, hV_11, hX_12, hN_13⟩ := hp_8
  refine W.eq (g2 := F0 m 7 ls [.ref (ad_5 0)]) (by rw [hA_9 0 (by omega)]; rfl) ?_
  refine lv_astore_n (lv' := [(1, .ref (ad_5 0)), (0, .ref b)]) hx hb dL_law_7 rfl hl (by decide) rfl (fun ls hl => ?_)
  refine m_new S hW (C := RX11) (ci := 10) (ks := nKs [false, true, false, true, true, true, false, true, false, true, true, false, false, false, true, true, true, true, true, true, true, false, false, false, false, true, true, false, false, false, true, true, false, true, true, true, false, false]) 200 ((hS_10 200 (by omega)).trans ((fsh_2 200 (by omega)).trans (hn0 200))) kX11 (iW11 _) tyX11 tyX11_ok (List.mem_cons_of_mem _ (wa_1 _ (List.mem_of_getElem? (i := 3) (by decide +kernel)))) (List.mem_cons_of_mem _ (wa_1 _ (List.mem_of_getElem? (i := 4) (by decide +kernel)))) (List.mem_cons_of_mem _ (wa_1 _ (List.mem_of_getElem? (i := 5) (by decide +kernel)))) (fun r => nKs_no _ _ _ r) (fun ad j hj => by rcases (show j = 0 ∨ j = 1 ∨ j = 2 ∨ j = 3 ∨ j = 4 ∨ j = 5 ∨ j = 6 ∨ j = 7 ∨ j = 8 ∨ j = 9 ∨ j = 10 ∨ j = 11 ∨ j = 12 ∨ j = 13 ∨ j = 14 ∨ j = 15 ∨ j = 16 ∨ j = 17 ∨ j = 18 ∨ j = 19 ∨ j = 20 ∨ j = 21 ∨ j = 22 ∨ j = 23 ∨ j = 24 ∨ j = 25 ∨ j = 26 ∨ j = 27 ∨ j = 28 ∨ j = 29 ∨ j = 30 ∨ j = 31 ∨ j = 32 ∨ j = 33 ∨ j = 34 ∨ j = 35 ∨ j = 36 ∨ j = 37 by omega) with rfl | rfl | rfl | rfl | rfl | rfl | rfl | rfl | rfl | rfl | rfl | rfl | rfl | rfl | rfl | rfl | rfl | rfl | rfl | rfl | rfl | rfl | rfl | rfl | rfl | rfl | rfl | rfl | rfl | rfl | rfl | rfl | rfl | rfl | rfl | rfl | rfl | rfl <;> rfl) (Nat.le_of_ble_eq_true rfl) (Nat.le_of_ble_eq_true rfl) dL_law_8 (fun ad_14 H fad_14 hW => ?_)
  have hl : lv_has ls 4 [(1, .ref (ad_14 0)), (0, .ref b)] := by rw [fad_14 0 (by omega)]; exact hl
  obtain ⟨sh_15, esh_15⟩ : ∃ vv_ : Nat → Option mSh, vv_ = va_up sh_6 200 (some (mO 10 (nKs [false, true, false, true, true, true, false, true, false, true, true, false, false, false, true, true, true, true, true, true, true, false, false, false, false, true, true, false, false, false, true, true, false, true, true, true, false, false]))) := ⟨_, rfl⟩
  rw [← esh_15] at hW
  have qsh_15 : sh_15 200 = some (mO 10 (nKs [false, true, false, true, true, true, false, true, false, true, true, false, false, false, true, true, true, true, true, true, true, false, false, false, false, true, true, false, false, false, true, true, false, true, true, true, false, false])) := by rw [esh_15]; exact va_up_self _ _ _
  have fsh_15 : ∀ a, a ≠ 200 → sh_15 a = sh_6 a := fun a ha => by rw [esh_15]; exact va_up_ne _ _ ha
  clear esh_15
  obtain ⟨V_16, eV_16⟩ : ∃ vv_ : mV, vv_ = va_up V_7 200 (fun _ => 0) := ⟨_, rfl⟩
  rw [← eV_16] at hW
  have qV_16 : V_16 200 = fun _ => 0 := by rw [eV_16]; exact va_up_self _ _ _
  have fV_16 : ∀ a, a ≠ 200 → V_16 a = V_7 a := fun a ha => by rw [eV_16]; exact va_up_ne _ _ ha
  clear eV_16
  refine lv_dup hx hb dL_law_11 rfl ?_
  refine m_fin (m_rI S hW (c_X11_init l G ad_14 sh_15 V_16 qsh_15 (fun a h1 => ((fsh_15 a (by omega)).trans ((hS_10 a (by omega)).trans ((fsh_2 a (by omega)).trans (hn0 a))))) qV_16) (cwI 0 hts (gCall [] (List.forall_mem_cons.mpr ⟨(wa_11 _ (List.mem_of_getElem? (i := 0) rfl)), (fun _ h => absurd h List.not_mem_nil)⟩)) rfl rfl rfl (hts (.initialized RX11) (List.mem_cons_of_mem _ (wa_1 _ (List.mem_of_getElem? (i := 5) (by decide +kernel))))) (hts (.methodLink RL 12 yX11_init) (List.mem_cons_of_mem _ (wa_10 _ (List.mem_of_getElem? (i := 22) (by decide +kernel))))) (hts (.instanceMethod yX11_init) (List.mem_cons_of_mem _ (wa_10 _ (List.mem_of_getElem? (i := 23) (by decide +kernel))))) rfl (by decide +kernel) ⟨(Nat.le_of_ble_eq_true rfl), (Nat.le_of_ble_eq_true rfl)⟩) rfl hl.1 rfl (Nat.le_of_ble_eq_true rfl) dL_law_12 ⟨(Nat.le_of_ble_eq_true rfl), (Nat.le_of_ble_eq_true rfl)⟩) hW (fun v_17 ad_18 sh_19 V_20 H locs hp_21 hW => ?_)
  obtain ⟨rfl, hA_22, hS_23, hV_24, hX_25⟩ := hp_21
  refine W.eq (g2 := F0 m 15 ls [.ref (ad_18 200)]) (by rw [hA_22 200 (by omega)]; rfl) ?_
  have hl : lv_has ls 4 [(1, .ref (ad_18 0)), (0, .ref b)] := by rw [hA_22 0 (by omega)]; exact hl
  refine lv_astore_n (lv' := [(2, .ref (ad_18 200)), (1, .ref (ad_18 0)), (0, .ref b)]) hx hb dL_law_15 rfl hl (by decide) rfl (fun ls hl => ?_)
  refine lv_iconst (v := nI 0) hx hb dL_law_16 (by decide) ?_
  refine lv_istore_n (lv' := [(3, .int (nI 0)), (2, .ref (ad_18 200)), (1, .ref (ad_18 0)), (0, .ref b)]) hx hb dL_law_17 rfl hl (by decide) rfl (fun ls hl => ?_)
  have hX : XI sh_19 V_20 q00 := hX_12.los (fun a ha => (hS_23 a (by omega)).trans (fsh_15 a (by omega))) (fun a ha => (hV_24 a (by omega)).trans (fV_16 a (by omega)))
  have hM : MI sh_19 V_20 q00 := hX_25
  have hs18 : ∀ a, a < 200 → sh_19 a = sh_6 a := fun a ha => (hS_23 a (by omega)).trans (fsh_15 a (by omega))
  have hN : NoT sh_19 (gTxs q00).length := fun t h1 h2 => by
    rw [hs18 _ (by omega), hs18 _ (by omega), hs18 _ (by omega)]
    exact hN_13 t h1 h2
  refine W.widen (k := 107 + 3 * 0) (n := 5516 + 197 * 0) (Nat.le_of_ble_eq_true rfl) (Nat.le_of_ble_eq_true rfl) ?_
  exact law_loop S hXs hbl hL hr hlk (L + 1) 0 ad_18 sh_19 V_20 q00 _ _ _ (by omega) (by omega) hX hM hN hW (lv_sub hl [3, 2, 1, 0] rfl)
