section LAWC
variable {p : Program} {l : Launch} {e : Env} {s : State} {m : MethodId} {below : List Frame} {meth : Method} {c : Code} {b L k : Nat} {xs : Nat → Int32} {G : mG} {ad : Nat → Nat} {sh : Nat → Option mSh} {V : mV} {q : Sg} {H : Heap} {locs : List Loc} {ls : Array Slot} {cells slots : Nat} {Q : State → Prop}
set_option maxHeartbeats 4000000 in
set_option maxRecDepth 100000 in
theorem law_c12 (S : CallFix p m c cL_law 4 s #[Value.ref b] wsLaw RL) (hXs : va_X b L xs s s.heap) (hbl : b < s.heap.size) (hL : L ≤ 3584) (hk : 7 * k + 7 ≤ L) (hcs : cells + 3 ≤ 600000 ∧ slots + 197 ≤ 7302249) (hX : XI sh V q) (hM : MI sh V q) (hN : NoT sh (gTxs q).length) (hW : mC (fun z => s.heap.size ≤ z) s.heap s G ad sh V H locs) (hl : lv_has ls 4 [(0, .ref b), (1, .ref (ad 0)), (2, .ref (ad 200)), (3, .int (nI (7 * k)))]) (kk : LwK p l e s m below meth c b k G cells slots Q) : W p l e room_1 s m #[Value.ref b] below meth c H locs cells slots Q (F0 m 620 ls []) := by
  obtain ⟨hx, hb, hml, hown, hts⟩ := id S
  have hbA : ¬ (fun z : Nat => s.heap.size ≤ z) b := Nat.not_le.mpr hbl
  refine lv_aload_n hx hb dL_law_620 rfl (lv_at hl 1 rfl) ?_
  refine lv_aload_n hx hb dL_law_621 rfl (lv_at hl 0 rfl) ?_
  refine lv_iload_n hx hb dL_law_622 rfl (lv_at hl 3 rfl) ?_
  refine lv_iconst (v := nI 1) hx hb dL_law_623 (by decide) ?_
  refine lv_iadd hx hb dL_law_624 ?_
  refine m_top (y := nI (7 * k + 1)) (nI_add (7 * k) 1) ?_
  refine va_sld hx hb hXs hbl hbA hW.2.2.1 (vp_in_nI (by omega) (by omega)) dL_law_625 ?_
  refine lv_aload_n hx hb dL_law_626 rfl (lv_at hl 0 rfl) ?_
  refine lv_iload_n hx hb dL_law_627 rfl (lv_at hl 3 rfl) ?_
  refine lv_iconst (v := nI 2) hx hb dL_law_628 (by decide) ?_
  refine lv_iadd hx hb dL_law_629 ?_
  refine m_top (y := nI (7 * k + 2)) (nI_add (7 * k) 2) ?_
  refine va_sld hx hb hXs hbl hbA hW.2.2.1 (vp_in_nI (by omega) (by omega)) dL_law_630 ?_
  refine m_cie (m_rV S hW (c_X10_shape l G ad sh V q (xs (nI (7 * k + 1)).toNatClampNeg) (xs (nI (7 * k + 2)).toNatClampNeg) hX) (cwV 2 hts (gCall [.methodLink RL 67 yX10_shape, .instanceMethod yX10_shape, .selects RX10 yX10_shape yX10_shape, .initialized RX10] (List.forall_mem_cons.mpr ⟨(wa_24 _ (List.mem_of_getElem? (i := 7) (by decide +kernel))), (List.forall_mem_cons.mpr ⟨(wa_24 _ (List.mem_of_getElem? (i := 4) (by decide +kernel))), (List.forall_mem_cons.mpr ⟨(wa_24 _ (List.mem_of_getElem? (i := 5) (by decide +kernel))), (List.forall_mem_cons.mpr ⟨(wa_24 _ (List.mem_of_getElem? (i := 6) (by decide +kernel))), (List.forall_mem_cons.mpr ⟨(wa_1 _ (List.mem_of_getElem? (i := 2) (by decide +kernel))), (fun _ h => absurd h List.not_mem_nil)⟩)⟩)⟩)⟩)⟩)) rfl rfl rfl (by decide +kernel) ⟨(Nat.le_of_ble_eq_true rfl), (Nat.le_of_ble_eq_true rfl)⟩) hX.sp.1 kX10 rfl hl.1 rfl (Nat.le_of_ble_eq_true rfl) dL_law_631 ⟨by show _ ≤ 600000; omega, by show _ ≤ 7302249; omega⟩) hW (fun H locs hW => ?_)
  refine lv_aload_n hx hb dL_law_634 rfl (lv_at hl 2 rfl) ?_
  refine lv_aload_n hx hb dL_law_635 rfl (lv_at hl 0 rfl) ?_
  refine lv_iload_n hx hb dL_law_636 rfl (lv_at hl 3 rfl) ?_
  refine lv_iconst (v := nI 1) hx hb dL_law_637 (by decide) ?_
  refine lv_iadd hx hb dL_law_638 ?_
  refine m_top (y := nI (7 * k + 1)) (nI_add (7 * k) 1) ?_
  refine va_sld hx hb hXs hbl hbA hW.2.2.1 (vp_in_nI (by omega) (by omega)) dL_law_639 ?_
  refine lv_aload_n hx hb dL_law_640 rfl (lv_at hl 0 rfl) ?_
  refine lv_iload_n hx hb dL_law_641 rfl (lv_at hl 3 rfl) ?_
  refine lv_iconst (v := nI 2) hx hb dL_law_642 (by decide) ?_
  refine lv_iadd hx hb dL_law_643 ?_
  refine m_top (y := nI (7 * k + 2)) (nI_add (7 * k) 2) ?_
  refine va_sld hx hb hXs hbl hbA hW.2.2.1 (vp_in_nI (by omega) (by omega)) dL_law_644 ?_
  refine m_ci (m_rV S hW (c_X11_shape l G ad sh V q (xs (nI (7 * k + 1)).toNatClampNeg) (xs (nI (7 * k + 2)).toNatClampNeg) hM) (cwV 2 hts (gCall [.methodLink RL 70 yX11_shape, .instanceMethod yX11_shape, .selects RX11 yX11_shape yX11_shape, .initialized RX11] (List.forall_mem_cons.mpr ⟨(wa_24 _ (List.mem_of_getElem? (i := 16) (by decide +kernel))), (List.forall_mem_cons.mpr ⟨(wa_24 _ (List.mem_of_getElem? (i := 13) (by decide +kernel))), (List.forall_mem_cons.mpr ⟨(wa_24 _ (List.mem_of_getElem? (i := 14) (by decide +kernel))), (List.forall_mem_cons.mpr ⟨(wa_24 _ (List.mem_of_getElem? (i := 15) (by decide +kernel))), (List.forall_mem_cons.mpr ⟨(wa_1 _ (List.mem_of_getElem? (i := 5) (by decide +kernel))), (fun _ h => absurd h List.not_mem_nil)⟩)⟩)⟩)⟩)⟩)) rfl rfl rfl (by decide +kernel) ⟨(Nat.le_of_ble_eq_true rfl), (Nat.le_of_ble_eq_true rfl)⟩) hM.s200 kX11 rfl hl.1 rfl (Nat.le_of_ble_eq_true rfl) dL_law_645 ⟨by show _ ≤ 600000; omega, by show _ ≤ 7302249; omega⟩) hW (fun r2 V2 H locs hp hW => ?_)
  obtain ⟨e2, e3⟩ := hp
  obtain rfl := e2
  rw [e3] at hW
  refine lv_icmp_eq (tgt := 1543) hx hb dL_law_648 (by decide) (fun c1 => ?_) (fun c1 => ?_)
  · refine W.widen (k := cells + 3) (n := slots + 197) (by omega) (by omega) ?_
    exact kk ad sh V _ _ _ ls hX hM hN hW hl
  · exact absurd rfl c1
set_option maxHeartbeats 4000000 in
set_option maxRecDepth 100000 in
theorem law_c13 (S : CallFix p m c cL_law 4 s #[Value.ref b] wsLaw RL) (hXs : va_X b L xs s s.heap) (hbl : b < s.heap.size) (hL : L ≤ 3584) (hk : 7 * k + 7 ≤ L) (hcs : cells + 3 ≤ 600000 ∧ slots + 197 ≤ 7302249) (hX : XI sh V q) (hM : MI sh V q) (hN : NoT sh (gTxs q).length) (hW : mC (fun z => s.heap.size ≤ z) s.heap s G ad sh V H locs) (hl : lv_has ls 4 [(0, .ref b), (1, .ref (ad 0)), (2, .ref (ad 200)), (3, .int (nI (7 * k)))]) (kk : LwK p l e s m below meth c b k G cells slots Q) : W p l e room_1 s m #[Value.ref b] below meth c H locs cells slots Q (F0 m 653 ls []) := by
  obtain ⟨hx, hb, hml, hown, hts⟩ := id S
  have hbA : ¬ (fun z : Nat => s.heap.size ≤ z) b := Nat.not_le.mpr hbl
  refine lv_aload_n hx hb dL_law_653 rfl (lv_at hl 1 rfl) ?_
  refine lv_aload_n hx hb dL_law_654 rfl (lv_at hl 0 rfl) ?_
  refine lv_iload_n hx hb dL_law_655 rfl (lv_at hl 3 rfl) ?_
  refine lv_iconst (v := nI 1) hx hb dL_law_656 (by decide) ?_
  refine lv_iadd hx hb dL_law_657 ?_
  refine m_top (y := nI (7 * k + 1)) (nI_add (7 * k) 1) ?_
  refine va_sld hx hb hXs hbl hbA hW.2.2.1 (vp_in_nI (by omega) (by omega)) dL_law_658 ?_
  refine lv_aload_n hx hb dL_law_659 rfl (lv_at hl 0 rfl) ?_
  refine lv_iload_n hx hb dL_law_660 rfl (lv_at hl 3 rfl) ?_
  refine lv_iconst (v := nI 2) hx hb dL_law_661 (by decide) ?_
  refine lv_iadd hx hb dL_law_662 ?_
  refine m_top (y := nI (7 * k + 2)) (nI_add (7 * k) 2) ?_
  refine va_sld hx hb hXs hbl hbA hW.2.2.1 (vp_in_nI (by omega) (by omega)) dL_law_663 ?_
  refine lv_aload_n hx hb dL_law_664 rfl (lv_at hl 0 rfl) ?_
  refine lv_iload_n hx hb dL_law_665 rfl (lv_at hl 3 rfl) ?_
  refine lv_iconst (v := nI 3) hx hb dL_law_666 (by decide) ?_
  refine lv_iadd hx hb dL_law_667 ?_
  refine m_top (y := nI (7 * k + 3)) (nI_add (7 * k) 3) ?_
  refine va_sld hx hb hXs hbl hbA hW.2.2.1 (vp_in_nI (by omega) (by omega)) dL_law_668 ?_
  refine lv_aload_n hx hb dL_law_669 rfl (lv_at hl 0 rfl) ?_
  refine lv_iload_n hx hb dL_law_670 rfl (lv_at hl 3 rfl) ?_
  refine lv_iconst (v := nI 4) hx hb dL_law_671 (by decide) ?_
  refine lv_iadd hx hb dL_law_672 ?_
  refine m_top (y := nI (7 * k + 4)) (nI_add (7 * k) 4) ?_
  refine va_sld hx hb hXs hbl hbA hW.2.2.1 (vp_in_nI (by omega) (by omega)) dL_law_673 ?_
  refine m_cie (m_rV S hW (c_X10_mark l G ad sh V q (xs (nI (7 * k + 1)).toNatClampNeg) (xs (nI (7 * k + 2)).toNatClampNeg) (xs (nI (7 * k + 3)).toNatClampNeg) (xs (nI (7 * k + 4)).toNatClampNeg) hX) (cwV 4 hts (gCall [.methodLink RL 71 yX10_mark, .instanceMethod yX10_mark, .selects RX10 yX10_mark yX10_mark, .initialized RX10] (List.forall_mem_cons.mpr ⟨(wa_25 _ (List.mem_of_getElem? (i := 0) (by decide +kernel))), (List.forall_mem_cons.mpr ⟨(wa_24 _ (List.mem_of_getElem? (i := 21) (by decide +kernel))), (List.forall_mem_cons.mpr ⟨(wa_24 _ (List.mem_of_getElem? (i := 22) (by decide +kernel))), (List.forall_mem_cons.mpr ⟨(wa_24 _ (List.mem_of_getElem? (i := 23) (by decide +kernel))), (List.forall_mem_cons.mpr ⟨(wa_1 _ (List.mem_of_getElem? (i := 2) (by decide +kernel))), (fun _ h => absurd h List.not_mem_nil)⟩)⟩)⟩)⟩)⟩)) rfl rfl rfl (by decide +kernel) ⟨(Nat.le_of_ble_eq_true rfl), (Nat.le_of_ble_eq_true rfl)⟩) hX.sp.1 kX10 rfl hl.1 rfl (Nat.le_of_ble_eq_true rfl) dL_law_674 ⟨by show _ ≤ 600000; omega, by show _ ≤ 7302249; omega⟩) hW (fun H locs hW => ?_)
  refine lv_aload_n hx hb dL_law_677 rfl (lv_at hl 2 rfl) ?_
  refine lv_aload_n hx hb dL_law_678 rfl (lv_at hl 0 rfl) ?_
  refine lv_iload_n hx hb dL_law_679 rfl (lv_at hl 3 rfl) ?_
  refine lv_iconst (v := nI 1) hx hb dL_law_680 (by decide) ?_
  refine lv_iadd hx hb dL_law_681 ?_
  refine m_top (y := nI (7 * k + 1)) (nI_add (7 * k) 1) ?_
  refine va_sld hx hb hXs hbl hbA hW.2.2.1 (vp_in_nI (by omega) (by omega)) dL_law_682 ?_
  refine lv_aload_n hx hb dL_law_683 rfl (lv_at hl 0 rfl) ?_
  refine lv_iload_n hx hb dL_law_684 rfl (lv_at hl 3 rfl) ?_
  refine lv_iconst (v := nI 2) hx hb dL_law_685 (by decide) ?_
  refine lv_iadd hx hb dL_law_686 ?_
  refine m_top (y := nI (7 * k + 2)) (nI_add (7 * k) 2) ?_
  refine va_sld hx hb hXs hbl hbA hW.2.2.1 (vp_in_nI (by omega) (by omega)) dL_law_687 ?_
  refine lv_aload_n hx hb dL_law_688 rfl (lv_at hl 0 rfl) ?_
  refine lv_iload_n hx hb dL_law_689 rfl (lv_at hl 3 rfl) ?_
  refine lv_iconst (v := nI 3) hx hb dL_law_690 (by decide) ?_
  refine lv_iadd hx hb dL_law_691 ?_
  refine m_top (y := nI (7 * k + 3)) (nI_add (7 * k) 3) ?_
  refine va_sld hx hb hXs hbl hbA hW.2.2.1 (vp_in_nI (by omega) (by omega)) dL_law_692 ?_
  refine lv_aload_n hx hb dL_law_693 rfl (lv_at hl 0 rfl) ?_
  refine lv_iload_n hx hb dL_law_694 rfl (lv_at hl 3 rfl) ?_
  refine lv_iconst (v := nI 4) hx hb dL_law_695 (by decide) ?_
  refine lv_iadd hx hb dL_law_696 ?_
  refine m_top (y := nI (7 * k + 4)) (nI_add (7 * k) 4) ?_
  refine va_sld hx hb hXs hbl hbA hW.2.2.1 (vp_in_nI (by omega) (by omega)) dL_law_697 ?_
  refine m_ci (m_rV S hW (c_X11_mark l G ad sh V q (xs (nI (7 * k + 1)).toNatClampNeg) (xs (nI (7 * k + 2)).toNatClampNeg) (xs (nI (7 * k + 3)).toNatClampNeg) (xs (nI (7 * k + 4)).toNatClampNeg) hM) (cwV 4 hts (gCall [.methodLink RL 74 yX11_mark, .instanceMethod yX11_mark, .selects RX11 yX11_mark yX11_mark, .initialized RX11] (List.forall_mem_cons.mpr ⟨(wa_26 _ (List.mem_of_getElem? (i := 11) (by decide +kernel))), (List.forall_mem_cons.mpr ⟨(wa_26 _ (List.mem_of_getElem? (i := 8) (by decide +kernel))), (List.forall_mem_cons.mpr ⟨(wa_26 _ (List.mem_of_getElem? (i := 9) (by decide +kernel))), (List.forall_mem_cons.mpr ⟨(wa_26 _ (List.mem_of_getElem? (i := 10) (by decide +kernel))), (List.forall_mem_cons.mpr ⟨(wa_1 _ (List.mem_of_getElem? (i := 5) (by decide +kernel))), (fun _ h => absurd h List.not_mem_nil)⟩)⟩)⟩)⟩)⟩)) rfl rfl rfl (by decide +kernel) ⟨(Nat.le_of_ble_eq_true rfl), (Nat.le_of_ble_eq_true rfl)⟩) hM.s200 kX11 rfl hl.1 rfl (Nat.le_of_ble_eq_true rfl) dL_law_698 ⟨by show _ ≤ 600000; omega, by show _ ≤ 7302249; omega⟩) hW (fun r2 V2 H locs hp hW => ?_)
  obtain ⟨e2, e3⟩ := hp
  obtain rfl := e2
  rw [e3] at hW
  refine lv_icmp_eq (tgt := 1543) hx hb dL_law_701 (by decide) (fun c1 => ?_) (fun c1 => ?_)
  · refine W.widen (k := cells + 3) (n := slots + 197) (by omega) (by omega) ?_
    exact kk ad sh V _ _ _ ls hX hM hN hW hl
  · exact absurd rfl c1
set_option maxHeartbeats 4000000 in
set_option maxRecDepth 100000 in
theorem law_c14 (S : CallFix p m c cL_law 4 s #[Value.ref b] wsLaw RL) (hXs : va_X b L xs s s.heap) (hbl : b < s.heap.size) (hL : L ≤ 3584) (hk : 7 * k + 7 ≤ L) (hcs : cells + 3 ≤ 600000 ∧ slots + 197 ≤ 7302249) (hX : XI sh V q) (hM : MI sh V q) (hN : NoT sh (gTxs q).length) (hW : mC (fun z => s.heap.size ≤ z) s.heap s G ad sh V H locs) (hl : lv_has ls 4 [(0, .ref b), (1, .ref (ad 0)), (2, .ref (ad 200)), (3, .int (nI (7 * k)))]) (kk : LwK p l e s m below meth c b k G cells slots Q) : W p l e room_1 s m #[Value.ref b] below meth c H locs cells slots Q (F0 m 706 ls []) := by
  obtain ⟨hx, hb, hml, hown, hts⟩ := id S
  have hbA : ¬ (fun z : Nat => s.heap.size ≤ z) b := Nat.not_le.mpr hbl
  refine lv_aload_n hx hb dL_law_706 rfl (lv_at hl 1 rfl) ?_
  refine lv_aload_n hx hb dL_law_707 rfl (lv_at hl 0 rfl) ?_
  refine lv_iload_n hx hb dL_law_708 rfl (lv_at hl 3 rfl) ?_
  refine lv_iconst (v := nI 1) hx hb dL_law_709 (by decide) ?_
  refine lv_iadd hx hb dL_law_710 ?_
  refine m_top (y := nI (7 * k + 1)) (nI_add (7 * k) 1) ?_
  refine va_sld hx hb hXs hbl hbA hW.2.2.1 (vp_in_nI (by omega) (by omega)) dL_law_711 ?_
  refine lv_aload_n hx hb dL_law_712 rfl (lv_at hl 0 rfl) ?_
  refine lv_iload_n hx hb dL_law_713 rfl (lv_at hl 3 rfl) ?_
  refine lv_iconst (v := nI 2) hx hb dL_law_714 (by decide) ?_
  refine lv_iadd hx hb dL_law_715 ?_
  refine m_top (y := nI (7 * k + 2)) (nI_add (7 * k) 2) ?_
  refine va_sld hx hb hXs hbl hbA hW.2.2.1 (vp_in_nI (by omega) (by omega)) dL_law_716 ?_
  refine lv_aload_n hx hb dL_law_717 rfl (lv_at hl 0 rfl) ?_
  refine lv_iload_n hx hb dL_law_718 rfl (lv_at hl 3 rfl) ?_
  refine lv_iconst (v := nI 3) hx hb dL_law_719 (by decide) ?_
  refine lv_iadd hx hb dL_law_720 ?_
  refine m_top (y := nI (7 * k + 3)) (nI_add (7 * k) 3) ?_
  refine va_sld hx hb hXs hbl hbA hW.2.2.1 (vp_in_nI (by omega) (by omega)) dL_law_721 ?_
  refine m_ci (m_rV S hW (c_X10_bite l G ad sh V q (xs (nI (7 * k + 1)).toNatClampNeg) (xs (nI (7 * k + 2)).toNatClampNeg) (xs (nI (7 * k + 3)).toNatClampNeg) hX) (cwV 3 hts (gCall [.methodLink RL 75 yX10_bite, .instanceMethod yX10_bite, .selects RX10 yX10_bite yX10_bite, .initialized RX10] (List.forall_mem_cons.mpr ⟨(wa_27 _ (List.mem_of_getElem? (i := 13) (by decide +kernel))), (List.forall_mem_cons.mpr ⟨(wa_27 _ (List.mem_of_getElem? (i := 10) (by decide +kernel))), (List.forall_mem_cons.mpr ⟨(wa_27 _ (List.mem_of_getElem? (i := 11) (by decide +kernel))), (List.forall_mem_cons.mpr ⟨(wa_27 _ (List.mem_of_getElem? (i := 12) (by decide +kernel))), (List.forall_mem_cons.mpr ⟨(wa_1 _ (List.mem_of_getElem? (i := 2) (by decide +kernel))), (fun _ h => absurd h List.not_mem_nil)⟩)⟩)⟩)⟩)⟩)) rfl rfl rfl (by decide +kernel) ⟨(Nat.le_of_ble_eq_true rfl), (Nat.le_of_ble_eq_true rfl)⟩) hX.sp.1 kX10 rfl hl.1 rfl (Nat.le_of_ble_eq_true rfl) dL_law_722 ⟨by show _ ≤ 600000; omega, by show _ ≤ 7302249; omega⟩) hW (fun r1 V1 H locs hp hW => ?_)
  obtain ⟨e1, hX1, hf1⟩ := hp
  obtain rfl := e1
  have hM := hM.hi (fun _ _ => rfl) hf1
  refine lv_aload_n hx hb dL_law_725 rfl (lv_at hl 2 rfl) ?_
  refine lv_aload_n hx hb dL_law_726 rfl (lv_at hl 0 rfl) ?_
  refine lv_iload_n hx hb dL_law_727 rfl (lv_at hl 3 rfl) ?_
  refine lv_iconst (v := nI 1) hx hb dL_law_728 (by decide) ?_
  refine lv_iadd hx hb dL_law_729 ?_
  refine m_top (y := nI (7 * k + 1)) (nI_add (7 * k) 1) ?_
  refine va_sld hx hb hXs hbl hbA hW.2.2.1 (vp_in_nI (by omega) (by omega)) dL_law_730 ?_
  refine lv_aload_n hx hb dL_law_731 rfl (lv_at hl 0 rfl) ?_
  refine lv_iload_n hx hb dL_law_732 rfl (lv_at hl 3 rfl) ?_
  refine lv_iconst (v := nI 2) hx hb dL_law_733 (by decide) ?_
  refine lv_iadd hx hb dL_law_734 ?_
  refine m_top (y := nI (7 * k + 2)) (nI_add (7 * k) 2) ?_
  refine va_sld hx hb hXs hbl hbA hW.2.2.1 (vp_in_nI (by omega) (by omega)) dL_law_735 ?_
  refine lv_aload_n hx hb dL_law_736 rfl (lv_at hl 0 rfl) ?_
  refine lv_iload_n hx hb dL_law_737 rfl (lv_at hl 3 rfl) ?_
  refine lv_iconst (v := nI 3) hx hb dL_law_738 (by decide) ?_
  refine lv_iadd hx hb dL_law_739 ?_
  refine m_top (y := nI (7 * k + 3)) (nI_add (7 * k) 3) ?_
  refine va_sld hx hb hXs hbl hbA hW.2.2.1 (vp_in_nI (by omega) (by omega)) dL_law_740 ?_
  refine m_ci (m_rV S hW (c_X11_bite l G ad sh V1 q (xs (nI (7 * k + 1)).toNatClampNeg) (xs (nI (7 * k + 2)).toNatClampNeg) (xs (nI (7 * k + 3)).toNatClampNeg) hM) (cwV 3 hts (gCall [.methodLink RL 78 yX11_bite, .instanceMethod yX11_bite, .selects RX11 yX11_bite yX11_bite, .initialized RX11] (List.forall_mem_cons.mpr ⟨(wa_28 _ (List.mem_of_getElem? (i := 7) (by decide +kernel))), (List.forall_mem_cons.mpr ⟨(wa_28 _ (List.mem_of_getElem? (i := 4) (by decide +kernel))), (List.forall_mem_cons.mpr ⟨(wa_28 _ (List.mem_of_getElem? (i := 5) (by decide +kernel))), (List.forall_mem_cons.mpr ⟨(wa_28 _ (List.mem_of_getElem? (i := 6) (by decide +kernel))), (List.forall_mem_cons.mpr ⟨(wa_1 _ (List.mem_of_getElem? (i := 5) (by decide +kernel))), (fun _ h => absurd h List.not_mem_nil)⟩)⟩)⟩)⟩)⟩)) rfl rfl rfl (by decide +kernel) ⟨(Nat.le_of_ble_eq_true rfl), (Nat.le_of_ble_eq_true rfl)⟩) hM.s200 kX11 rfl hl.1 rfl (Nat.le_of_ble_eq_true rfl) dL_law_741 ⟨by show _ ≤ 600000; omega, by show _ ≤ 7302249; omega⟩) hW (fun r2 V2 H locs hp hW => ?_)
  obtain ⟨e2, hM2, hf2⟩ := hp
  obtain rfl := e2
  have hX2 := hX1.lo hf2
  refine lv_icmp_eq (tgt := 1543) hx hb dL_law_744 (by decide) (fun c1 => ?_) (fun c1 => ?_)
  · refine W.widen (k := cells + 3) (n := slots + 197) (by omega) (by omega) ?_
    exact kk ad sh V2 _ _ _ ls hX2 hM2 (by rw [nBite_tx]; exact hN) hW hl
  · exact absurd rfl c1
set_option maxHeartbeats 4000000 in
set_option maxRecDepth 100000 in
theorem law_c15 (S : CallFix p m c cL_law 4 s #[Value.ref b] wsLaw RL) (hXs : va_X b L xs s s.heap) (hbl : b < s.heap.size) (hL : L ≤ 3584) (hk : 7 * k + 7 ≤ L) (hcs : cells + 3 ≤ 600000 ∧ slots + 197 ≤ 7302249) (hX : XI sh V q) (hM : MI sh V q) (hN : NoT sh (gTxs q).length) (hW : mC (fun z => s.heap.size ≤ z) s.heap s G ad sh V H locs) (hl : lv_has ls 4 [(0, .ref b), (1, .ref (ad 0)), (2, .ref (ad 200)), (3, .int (nI (7 * k)))]) (kk : LwK p l e s m below meth c b k G cells slots Q) : W p l e room_1 s m #[Value.ref b] below meth c H locs cells slots Q (F0 m 749 ls []) := by
  obtain ⟨hx, hb, hml, hown, hts⟩ := id S
  have hbA : ¬ (fun z : Nat => s.heap.size ≤ z) b := Nat.not_le.mpr hbl
  refine lv_aload_n hx hb dL_law_749 rfl (lv_at hl 1 rfl) ?_
  refine lv_aload_n hx hb dL_law_750 rfl (lv_at hl 0 rfl) ?_
  refine lv_iload_n hx hb dL_law_751 rfl (lv_at hl 3 rfl) ?_
  refine lv_iconst (v := nI 1) hx hb dL_law_752 (by decide) ?_
  refine lv_iadd hx hb dL_law_753 ?_
  refine m_top (y := nI (7 * k + 1)) (nI_add (7 * k) 1) ?_
  refine va_sld hx hb hXs hbl hbA hW.2.2.1 (vp_in_nI (by omega) (by omega)) dL_law_754 ?_
  refine lv_aload_n hx hb dL_law_755 rfl (lv_at hl 0 rfl) ?_
  refine lv_iload_n hx hb dL_law_756 rfl (lv_at hl 3 rfl) ?_
  refine lv_iconst (v := nI 2) hx hb dL_law_757 (by decide) ?_
  refine lv_iadd hx hb dL_law_758 ?_
  refine m_top (y := nI (7 * k + 2)) (nI_add (7 * k) 2) ?_
  refine va_sld hx hb hXs hbl hbA hW.2.2.1 (vp_in_nI (by omega) (by omega)) dL_law_759 ?_
  refine m_ci (m_rV S hW (c_X10_best l G ad sh V q (xs (nI (7 * k + 1)).toNatClampNeg) (xs (nI (7 * k + 2)).toNatClampNeg) hX) (cwV 2 hts (gCall [.methodLink RL 79 yX10_best, .instanceMethod yX10_best, .selects RX10 yX10_best yX10_best, .initialized RX10] (List.forall_mem_cons.mpr ⟨(wa_28 _ (List.mem_of_getElem? (i := 15) (by decide +kernel))), (List.forall_mem_cons.mpr ⟨(wa_28 _ (List.mem_of_getElem? (i := 12) (by decide +kernel))), (List.forall_mem_cons.mpr ⟨(wa_28 _ (List.mem_of_getElem? (i := 13) (by decide +kernel))), (List.forall_mem_cons.mpr ⟨(wa_28 _ (List.mem_of_getElem? (i := 14) (by decide +kernel))), (List.forall_mem_cons.mpr ⟨(wa_1 _ (List.mem_of_getElem? (i := 2) (by decide +kernel))), (fun _ h => absurd h List.not_mem_nil)⟩)⟩)⟩)⟩)⟩)) rfl rfl rfl (by decide +kernel) ⟨(Nat.le_of_ble_eq_true rfl), (Nat.le_of_ble_eq_true rfl)⟩) hX.sp.1 kX10 rfl hl.1 rfl (Nat.le_of_ble_eq_true rfl) dL_law_760 ⟨by show _ ≤ 600000; omega, by show _ ≤ 7302249; omega⟩) hW (fun r1 V1 H locs hp hW => ?_)
  obtain ⟨e1, hk1⟩ := hp
  obtain rfl := e1
  have hX := hX.k hk1
  have hM := hM.hi (fun _ _ => rfl) hk1.f
  refine lv_aload_n hx hb dL_law_763 rfl (lv_at hl 2 rfl) ?_
  refine lv_aload_n hx hb dL_law_764 rfl (lv_at hl 0 rfl) ?_
  refine lv_iload_n hx hb dL_law_765 rfl (lv_at hl 3 rfl) ?_
  refine lv_iconst (v := nI 1) hx hb dL_law_766 (by decide) ?_
  refine lv_iadd hx hb dL_law_767 ?_
  refine m_top (y := nI (7 * k + 1)) (nI_add (7 * k) 1) ?_
  refine va_sld hx hb hXs hbl hbA hW.2.2.1 (vp_in_nI (by omega) (by omega)) dL_law_768 ?_
  refine lv_aload_n hx hb dL_law_769 rfl (lv_at hl 0 rfl) ?_
  refine lv_iload_n hx hb dL_law_770 rfl (lv_at hl 3 rfl) ?_
  refine lv_iconst (v := nI 2) hx hb dL_law_771 (by decide) ?_
  refine lv_iadd hx hb dL_law_772 ?_
  refine m_top (y := nI (7 * k + 2)) (nI_add (7 * k) 2) ?_
  refine va_sld hx hb hXs hbl hbA hW.2.2.1 (vp_in_nI (by omega) (by omega)) dL_law_773 ?_
  refine m_ci (m_rV S hW (c_X11_best l G ad sh V1 q (xs (nI (7 * k + 1)).toNatClampNeg) (xs (nI (7 * k + 2)).toNatClampNeg) hM) (cwV 2 hts (gCall [.methodLink RL 82 yX11_best, .instanceMethod yX11_best, .selects RX11 yX11_best yX11_best, .initialized RX11] (List.forall_mem_cons.mpr ⟨(wa_29 _ (List.mem_of_getElem? (i := 10) (by decide +kernel))), (List.forall_mem_cons.mpr ⟨(wa_29 _ (List.mem_of_getElem? (i := 7) (by decide +kernel))), (List.forall_mem_cons.mpr ⟨(wa_29 _ (List.mem_of_getElem? (i := 8) (by decide +kernel))), (List.forall_mem_cons.mpr ⟨(wa_29 _ (List.mem_of_getElem? (i := 9) (by decide +kernel))), (List.forall_mem_cons.mpr ⟨(wa_1 _ (List.mem_of_getElem? (i := 5) (by decide +kernel))), (fun _ h => absurd h List.not_mem_nil)⟩)⟩)⟩)⟩)⟩)) rfl rfl rfl (by decide +kernel) ⟨(Nat.le_of_ble_eq_true rfl), (Nat.le_of_ble_eq_true rfl)⟩) hM.s200 kX11 rfl hl.1 rfl (Nat.le_of_ble_eq_true rfl) dL_law_774 ⟨by show _ ≤ 600000; omega, by show _ ≤ 7302249; omega⟩) hW (fun r2 V2 H locs hp hW => ?_)
  obtain ⟨e2, hk2⟩ := hp
  obtain rfl := e2
  have hX2 := hX.lo hk2.f
  have hM2 := hM.k hk2
  refine lv_icmp_eq (tgt := 1543) hx hb dL_law_777 (by decide) (fun c1 => ?_) (fun c1 => ?_)
  · refine W.widen (k := cells + 3) (n := slots + 197) (by omega) (by omega) ?_
    exact kk ad sh V2 _ _ _ ls hX2 hM2 hN hW hl
  · exact absurd rfl c1
set_option maxHeartbeats 4000000 in
set_option maxRecDepth 100000 in
theorem law_c16 (S : CallFix p m c cL_law 4 s #[Value.ref b] wsLaw RL) (hXs : va_X b L xs s s.heap) (hbl : b < s.heap.size) (hL : L ≤ 3584) (hk : 7 * k + 7 ≤ L) (hcs : cells + 3 ≤ 600000 ∧ slots + 197 ≤ 7302249) (hX : XI sh V q) (hM : MI sh V q) (hN : NoT sh (gTxs q).length) (hW : mC (fun z => s.heap.size ≤ z) s.heap s G ad sh V H locs) (hl : lv_has ls 4 [(0, .ref b), (1, .ref (ad 0)), (2, .ref (ad 200)), (3, .int (nI (7 * k)))]) (kk : LwK p l e s m below meth c b k G cells slots Q) : W p l e room_1 s m #[Value.ref b] below meth c H locs cells slots Q (F0 m 782 ls []) := by
  obtain ⟨hx, hb, hml, hown, hts⟩ := id S
  have hbA : ¬ (fun z : Nat => s.heap.size ≤ z) b := Nat.not_le.mpr hbl
  refine lv_aload_n hx hb dL_law_782 rfl (lv_at hl 1 rfl) ?_
  refine lv_aload_n hx hb dL_law_783 rfl (lv_at hl 0 rfl) ?_
  refine lv_iload_n hx hb dL_law_784 rfl (lv_at hl 3 rfl) ?_
  refine lv_iconst (v := nI 1) hx hb dL_law_785 (by decide) ?_
  refine lv_iadd hx hb dL_law_786 ?_
  refine m_top (y := nI (7 * k + 1)) (nI_add (7 * k) 1) ?_
  refine va_sld hx hb hXs hbl hbA hW.2.2.1 (vp_in_nI (by omega) (by omega)) dL_law_787 ?_
  refine m_ci (m_rV S hW (c_X10_orderly l G ad sh V q (xs (nI (7 * k + 1)).toNatClampNeg) hX) (cwV 1 hts (gCall [.methodLink RL 83 yX10_orderly, .instanceMethod yX10_orderly, .selects RX10 yX10_orderly yX10_orderly, .initialized RX10] (List.forall_mem_cons.mpr ⟨(wa_29 _ (List.mem_of_getElem? (i := 23) (by decide +kernel))), (List.forall_mem_cons.mpr ⟨(wa_29 _ (List.mem_of_getElem? (i := 20) (by decide +kernel))), (List.forall_mem_cons.mpr ⟨(wa_29 _ (List.mem_of_getElem? (i := 21) (by decide +kernel))), (List.forall_mem_cons.mpr ⟨(wa_29 _ (List.mem_of_getElem? (i := 22) (by decide +kernel))), (List.forall_mem_cons.mpr ⟨(wa_1 _ (List.mem_of_getElem? (i := 2) (by decide +kernel))), (fun _ h => absurd h List.not_mem_nil)⟩)⟩)⟩)⟩)⟩)) rfl rfl rfl (by decide +kernel) ⟨(Nat.le_of_ble_eq_true rfl), (Nat.le_of_ble_eq_true rfl)⟩) hX.sp.1 kX10 rfl hl.1 rfl (Nat.le_of_ble_eq_true rfl) dL_law_788 ⟨by show _ ≤ 600000; omega, by show _ ≤ 7302249; omega⟩) hW (fun r1 V1 H locs hp hW => ?_)
  obtain ⟨e1, hk1⟩ := hp
  obtain rfl := e1
  have hX := hX.k hk1
  have hM := hM.hi (fun _ _ => rfl) hk1.f
  refine lv_aload_n hx hb dL_law_791 rfl (lv_at hl 2 rfl) ?_
  refine lv_aload_n hx hb dL_law_792 rfl (lv_at hl 0 rfl) ?_
  refine lv_iload_n hx hb dL_law_793 rfl (lv_at hl 3 rfl) ?_
  refine lv_iconst (v := nI 1) hx hb dL_law_794 (by decide) ?_
  refine lv_iadd hx hb dL_law_795 ?_
  refine m_top (y := nI (7 * k + 1)) (nI_add (7 * k) 1) ?_
  refine va_sld hx hb hXs hbl hbA hW.2.2.1 (vp_in_nI (by omega) (by omega)) dL_law_796 ?_
  refine m_ci (m_rV S hW (c_X11_orderly l G ad sh V1 q (xs (nI (7 * k + 1)).toNatClampNeg) hM) (cwV 1 hts (gCall [.methodLink RL 86 yX11_orderly, .instanceMethod yX11_orderly, .selects RX11 yX11_orderly yX11_orderly, .initialized RX11] (List.forall_mem_cons.mpr ⟨(wa_32 _ (List.mem_of_getElem? (i := 5) (by decide +kernel))), (List.forall_mem_cons.mpr ⟨(wa_32 _ (List.mem_of_getElem? (i := 2) (by decide +kernel))), (List.forall_mem_cons.mpr ⟨(wa_32 _ (List.mem_of_getElem? (i := 3) (by decide +kernel))), (List.forall_mem_cons.mpr ⟨(wa_32 _ (List.mem_of_getElem? (i := 4) (by decide +kernel))), (List.forall_mem_cons.mpr ⟨(wa_1 _ (List.mem_of_getElem? (i := 5) (by decide +kernel))), (fun _ h => absurd h List.not_mem_nil)⟩)⟩)⟩)⟩)⟩)) rfl rfl rfl (by decide +kernel) ⟨(Nat.le_of_ble_eq_true rfl), (Nat.le_of_ble_eq_true rfl)⟩) hM.s200 kX11 rfl hl.1 rfl (Nat.le_of_ble_eq_true rfl) dL_law_797 ⟨by show _ ≤ 600000; omega, by show _ ≤ 7302249; omega⟩) hW (fun r2 V2 H locs hp hW => ?_)
  obtain ⟨e2, hk2⟩ := hp
  obtain rfl := e2
  have hX2 := hX.lo hk2.f
  have hM2 := hM.k hk2
  refine lv_icmp_eq (tgt := 1543) hx hb dL_law_800 (by decide) (fun c1 => ?_) (fun c1 => ?_)
  · refine W.widen (k := cells + 3) (n := slots + 197) (by omega) (by omega) ?_
    exact kk ad sh V2 _ _ _ ls hX2 hM2 hN hW hl
  · exact absurd rfl c1
set_option maxHeartbeats 4000000 in
set_option maxRecDepth 100000 in
theorem law_c17 (S : CallFix p m c cL_law 4 s #[Value.ref b] wsLaw RL) (hXs : va_X b L xs s s.heap) (hbl : b < s.heap.size) (hL : L ≤ 3584) (hk : 7 * k + 7 ≤ L) (hcs : cells + 3 ≤ 600000 ∧ slots + 197 ≤ 7302249) (hX : XI sh V q) (hM : MI sh V q) (hN : NoT sh (gTxs q).length) (hW : mC (fun z => s.heap.size ≤ z) s.heap s G ad sh V H locs) (hl : lv_has ls 4 [(0, .ref b), (1, .ref (ad 0)), (2, .ref (ad 200)), (3, .int (nI (7 * k)))]) (kk : LwK p l e s m below meth c b k G cells slots Q) : W p l e room_1 s m #[Value.ref b] below meth c H locs cells slots Q (F0 m 805 ls []) := by
  obtain ⟨hx, hb, hml, hown, hts⟩ := id S
  have hbA : ¬ (fun z : Nat => s.heap.size ≤ z) b := Nat.not_le.mpr hbl
  refine lv_aload_n hx hb dL_law_805 rfl (lv_at hl 1 rfl) ?_
  refine lv_aload_n hx hb dL_law_806 rfl (lv_at hl 0 rfl) ?_
  refine lv_iload_n hx hb dL_law_807 rfl (lv_at hl 3 rfl) ?_
  refine lv_iconst (v := nI 1) hx hb dL_law_808 (by decide) ?_
  refine lv_iadd hx hb dL_law_809 ?_
  refine m_top (y := nI (7 * k + 1)) (nI_add (7 * k) 1) ?_
  refine va_sld hx hb hXs hbl hbA hW.2.2.1 (vp_in_nI (by omega) (by omega)) dL_law_810 ?_
  refine lv_aload_n hx hb dL_law_811 rfl (lv_at hl 0 rfl) ?_
  refine lv_iload_n hx hb dL_law_812 rfl (lv_at hl 3 rfl) ?_
  refine lv_iconst (v := nI 2) hx hb dL_law_813 (by decide) ?_
  refine lv_iadd hx hb dL_law_814 ?_
  refine m_top (y := nI (7 * k + 2)) (nI_add (7 * k) 2) ?_
  refine va_sld hx hb hXs hbl hbA hW.2.2.1 (vp_in_nI (by omega) (by omega)) dL_law_815 ?_
  refine lv_aload_n hx hb dL_law_816 rfl (lv_at hl 0 rfl) ?_
  refine lv_iload_n hx hb dL_law_817 rfl (lv_at hl 3 rfl) ?_
  refine lv_iconst (v := nI 3) hx hb dL_law_818 (by decide) ?_
  refine lv_iadd hx hb dL_law_819 ?_
  refine m_top (y := nI (7 * k + 3)) (nI_add (7 * k) 3) ?_
  refine va_sld hx hb hXs hbl hbA hW.2.2.1 (vp_in_nI (by omega) (by omega)) dL_law_820 ?_
  refine lv_aload_n hx hb dL_law_821 rfl (lv_at hl 0 rfl) ?_
  refine lv_iload_n hx hb dL_law_822 rfl (lv_at hl 3 rfl) ?_
  refine lv_iconst (v := nI 4) hx hb dL_law_823 (by decide) ?_
  refine lv_iadd hx hb dL_law_824 ?_
  refine m_top (y := nI (7 * k + 4)) (nI_add (7 * k) 4) ?_
  refine va_sld hx hb hXs hbl hbA hW.2.2.1 (vp_in_nI (by omega) (by omega)) dL_law_825 ?_
  refine m_ci (m_rV S hW (c_X10_duel l G ad sh V q (xs (nI (7 * k + 1)).toNatClampNeg) (xs (nI (7 * k + 2)).toNatClampNeg) (xs (nI (7 * k + 3)).toNatClampNeg) (xs (nI (7 * k + 4)).toNatClampNeg) hX) (cwV 4 hts (gCall [.methodLink RL 87 yX10_duel, .instanceMethod yX10_duel, .selects RX10 yX10_duel yX10_duel, .initialized RX10] (List.forall_mem_cons.mpr ⟨(wa_33 _ (List.mem_of_getElem? (i := 1) (by decide +kernel))), (List.forall_mem_cons.mpr ⟨(wa_32 _ (List.mem_of_getElem? (i := 22) (by decide +kernel))), (List.forall_mem_cons.mpr ⟨(wa_32 _ (List.mem_of_getElem? (i := 23) (by decide +kernel))), (List.forall_mem_cons.mpr ⟨(wa_33 _ (List.mem_of_getElem? (i := 0) (by decide +kernel))), (List.forall_mem_cons.mpr ⟨(wa_1 _ (List.mem_of_getElem? (i := 2) (by decide +kernel))), (fun _ h => absurd h List.not_mem_nil)⟩)⟩)⟩)⟩)⟩)) rfl rfl rfl (by decide +kernel) ⟨(Nat.le_of_ble_eq_true rfl), (Nat.le_of_ble_eq_true rfl)⟩) hX.sp.1 kX10 rfl hl.1 rfl (Nat.le_of_ble_eq_true rfl) dL_law_826 ⟨by show _ ≤ 600000; omega, by show _ ≤ 7302249; omega⟩) hW (fun r1 V1 H locs hp hW => ?_)
  obtain ⟨e1, hk1⟩ := hp
  obtain rfl := e1
  have hX := hX.k hk1
  have hM := hM.hi (fun _ _ => rfl) hk1.f
  refine lv_aload_n hx hb dL_law_829 rfl (lv_at hl 2 rfl) ?_
  refine lv_aload_n hx hb dL_law_830 rfl (lv_at hl 0 rfl) ?_
  refine lv_iload_n hx hb dL_law_831 rfl (lv_at hl 3 rfl) ?_
  refine lv_iconst (v := nI 1) hx hb dL_law_832 (by decide) ?_
  refine lv_iadd hx hb dL_law_833 ?_
  refine m_top (y := nI (7 * k + 1)) (nI_add (7 * k) 1) ?_
  refine va_sld hx hb hXs hbl hbA hW.2.2.1 (vp_in_nI (by omega) (by omega)) dL_law_834 ?_
  refine lv_aload_n hx hb dL_law_835 rfl (lv_at hl 0 rfl) ?_
  refine lv_iload_n hx hb dL_law_836 rfl (lv_at hl 3 rfl) ?_
  refine lv_iconst (v := nI 2) hx hb dL_law_837 (by decide) ?_
  refine lv_iadd hx hb dL_law_838 ?_
  refine m_top (y := nI (7 * k + 2)) (nI_add (7 * k) 2) ?_
  refine va_sld hx hb hXs hbl hbA hW.2.2.1 (vp_in_nI (by omega) (by omega)) dL_law_839 ?_
  refine lv_aload_n hx hb dL_law_840 rfl (lv_at hl 0 rfl) ?_
  refine lv_iload_n hx hb dL_law_841 rfl (lv_at hl 3 rfl) ?_
  refine lv_iconst (v := nI 3) hx hb dL_law_842 (by decide) ?_
  refine lv_iadd hx hb dL_law_843 ?_
  refine m_top (y := nI (7 * k + 3)) (nI_add (7 * k) 3) ?_
  refine va_sld hx hb hXs hbl hbA hW.2.2.1 (vp_in_nI (by omega) (by omega)) dL_law_844 ?_
  refine lv_aload_n hx hb dL_law_845 rfl (lv_at hl 0 rfl) ?_
  refine lv_iload_n hx hb dL_law_846 rfl (lv_at hl 3 rfl) ?_
  refine lv_iconst (v := nI 4) hx hb dL_law_847 (by decide) ?_
  refine lv_iadd hx hb dL_law_848 ?_
  refine m_top (y := nI (7 * k + 4)) (nI_add (7 * k) 4) ?_
  refine va_sld hx hb hXs hbl hbA hW.2.2.1 (vp_in_nI (by omega) (by omega)) dL_law_849 ?_
  refine m_ci (m_rV S hW (c_X11_duel l G ad sh V1 q (xs (nI (7 * k + 1)).toNatClampNeg) (xs (nI (7 * k + 2)).toNatClampNeg) (xs (nI (7 * k + 3)).toNatClampNeg) (xs (nI (7 * k + 4)).toNatClampNeg) hM) (cwV 4 hts (gCall [.methodLink RL 90 yX11_duel, .instanceMethod yX11_duel, .selects RX11 yX11_duel yX11_duel, .initialized RX11] (List.forall_mem_cons.mpr ⟨(wa_33 _ (List.mem_of_getElem? (i := 22) (by decide +kernel))), (List.forall_mem_cons.mpr ⟨(wa_33 _ (List.mem_of_getElem? (i := 19) (by decide +kernel))), (List.forall_mem_cons.mpr ⟨(wa_33 _ (List.mem_of_getElem? (i := 20) (by decide +kernel))), (List.forall_mem_cons.mpr ⟨(wa_33 _ (List.mem_of_getElem? (i := 21) (by decide +kernel))), (List.forall_mem_cons.mpr ⟨(wa_1 _ (List.mem_of_getElem? (i := 5) (by decide +kernel))), (fun _ h => absurd h List.not_mem_nil)⟩)⟩)⟩)⟩)⟩)) rfl rfl rfl (by decide +kernel) ⟨(Nat.le_of_ble_eq_true rfl), (Nat.le_of_ble_eq_true rfl)⟩) hM.s200 kX11 rfl hl.1 rfl (Nat.le_of_ble_eq_true rfl) dL_law_850 ⟨by show _ ≤ 600000; omega, by show _ ≤ 7302249; omega⟩) hW (fun r2 V2 H locs hp hW => ?_)
  obtain ⟨e2, hk2⟩ := hp
  obtain rfl := e2
  have hX2 := hX.lo hk2.f
  have hM2 := hM.k hk2
  refine lv_icmp_eq (tgt := 1543) hx hb dL_law_853 (by decide) (fun c1 => ?_) (fun c1 => ?_)
  · refine W.widen (k := cells + 3) (n := slots + 197) (by omega) (by omega) ?_
    exact kk ad sh V2 _ _ _ ls hX2 hM2 hN hW hl
  · exact absurd rfl c1
set_option maxHeartbeats 4000000 in
set_option maxRecDepth 100000 in
theorem law_c18 (S : CallFix p m c cL_law 4 s #[Value.ref b] wsLaw RL) (hXs : va_X b L xs s s.heap) (hbl : b < s.heap.size) (hL : L ≤ 3584) (hk : 7 * k + 7 ≤ L) (hcs : cells + 3 ≤ 600000 ∧ slots + 197 ≤ 7302249) (hX : XI sh V q) (hM : MI sh V q) (hN : NoT sh (gTxs q).length) (hW : mC (fun z => s.heap.size ≤ z) s.heap s G ad sh V H locs) (hl : lv_has ls 4 [(0, .ref b), (1, .ref (ad 0)), (2, .ref (ad 200)), (3, .int (nI (7 * k)))]) (kk : LwK p l e s m below meth c b k G cells slots Q) : W p l e room_1 s m #[Value.ref b] below meth c H locs cells slots Q (F0 m 858 ls []) := by
  obtain ⟨hx, hb, hml, hown, hts⟩ := id S
  have hbA : ¬ (fun z : Nat => s.heap.size ≤ z) b := Nat.not_le.mpr hbl
  refine lv_aload_n hx hb dL_law_858 rfl (lv_at hl 1 rfl) ?_
  refine lv_aload_n hx hb dL_law_859 rfl (lv_at hl 0 rfl) ?_
  refine lv_iload_n hx hb dL_law_860 rfl (lv_at hl 3 rfl) ?_
  refine lv_iconst (v := nI 1) hx hb dL_law_861 (by decide) ?_
  refine lv_iadd hx hb dL_law_862 ?_
  refine m_top (y := nI (7 * k + 1)) (nI_add (7 * k) 1) ?_
  refine va_sld hx hb hXs hbl hbA hW.2.2.1 (vp_in_nI (by omega) (by omega)) dL_law_863 ?_
  refine lv_aload_n hx hb dL_law_864 rfl (lv_at hl 0 rfl) ?_
  refine lv_iload_n hx hb dL_law_865 rfl (lv_at hl 3 rfl) ?_
  refine lv_iconst (v := nI 2) hx hb dL_law_866 (by decide) ?_
  refine lv_iadd hx hb dL_law_867 ?_
  refine m_top (y := nI (7 * k + 2)) (nI_add (7 * k) 2) ?_
  refine va_sld hx hb hXs hbl hbA hW.2.2.1 (vp_in_nI (by omega) (by omega)) dL_law_868 ?_
  refine m_ci (m_rV S hW (c_X10_fewest l G ad sh V q (xs (nI (7 * k + 1)).toNatClampNeg) (xs (nI (7 * k + 2)).toNatClampNeg) hX hM.zok) (cwV 2 hts (gCall [.methodLink RL 91 yX10_fewest, .instanceMethod yX10_fewest, .selects RX10 yX10_fewest yX10_fewest, .initialized RX10] (List.forall_mem_cons.mpr ⟨(wa_34 _ (List.mem_of_getElem? (i := 8) (by decide +kernel))), (List.forall_mem_cons.mpr ⟨(wa_34 _ (List.mem_of_getElem? (i := 5) (by decide +kernel))), (List.forall_mem_cons.mpr ⟨(wa_34 _ (List.mem_of_getElem? (i := 6) (by decide +kernel))), (List.forall_mem_cons.mpr ⟨(wa_34 _ (List.mem_of_getElem? (i := 7) (by decide +kernel))), (List.forall_mem_cons.mpr ⟨(wa_1 _ (List.mem_of_getElem? (i := 2) (by decide +kernel))), (fun _ h => absurd h List.not_mem_nil)⟩)⟩)⟩)⟩)⟩)) rfl rfl rfl (by decide +kernel) ⟨(Nat.le_of_ble_eq_true rfl), (Nat.le_of_ble_eq_true rfl)⟩) hX.sp.1 kX10 rfl hl.1 rfl (Nat.le_of_ble_eq_true rfl) dL_law_869 ⟨by show _ ≤ 600000; omega, by show _ ≤ 7302249; omega⟩) hW (fun r1 V1 H locs hp hW => ?_)
  obtain ⟨e1, hk1⟩ := hp
  obtain rfl := e1
  have hX := hX.k hk1
  have hM := hM.hi (fun _ _ => rfl) hk1.f
  refine lv_aload_n hx hb dL_law_872 rfl (lv_at hl 2 rfl) ?_
  refine lv_aload_n hx hb dL_law_873 rfl (lv_at hl 0 rfl) ?_
  refine lv_iload_n hx hb dL_law_874 rfl (lv_at hl 3 rfl) ?_
  refine lv_iconst (v := nI 1) hx hb dL_law_875 (by decide) ?_
  refine lv_iadd hx hb dL_law_876 ?_
  refine m_top (y := nI (7 * k + 1)) (nI_add (7 * k) 1) ?_
  refine va_sld hx hb hXs hbl hbA hW.2.2.1 (vp_in_nI (by omega) (by omega)) dL_law_877 ?_
  refine lv_aload_n hx hb dL_law_878 rfl (lv_at hl 0 rfl) ?_
  refine lv_iload_n hx hb dL_law_879 rfl (lv_at hl 3 rfl) ?_
  refine lv_iconst (v := nI 2) hx hb dL_law_880 (by decide) ?_
  refine lv_iadd hx hb dL_law_881 ?_
  refine m_top (y := nI (7 * k + 2)) (nI_add (7 * k) 2) ?_
  refine va_sld hx hb hXs hbl hbA hW.2.2.1 (vp_in_nI (by omega) (by omega)) dL_law_882 ?_
  refine m_ci (m_rV S hW (c_X11_fewest l G ad sh V1 q (xs (nI (7 * k + 1)).toNatClampNeg) (xs (nI (7 * k + 2)).toNatClampNeg) hM) (cwV 2 hts (gCall [.methodLink RL 94 yX11_fewest, .instanceMethod yX11_fewest, .selects RX11 yX11_fewest yX11_fewest, .initialized RX11] (List.forall_mem_cons.mpr ⟨(wa_34 _ (List.mem_of_getElem? (i := 19) (by decide +kernel))), (List.forall_mem_cons.mpr ⟨(wa_34 _ (List.mem_of_getElem? (i := 16) (by decide +kernel))), (List.forall_mem_cons.mpr ⟨(wa_34 _ (List.mem_of_getElem? (i := 17) (by decide +kernel))), (List.forall_mem_cons.mpr ⟨(wa_34 _ (List.mem_of_getElem? (i := 18) (by decide +kernel))), (List.forall_mem_cons.mpr ⟨(wa_1 _ (List.mem_of_getElem? (i := 5) (by decide +kernel))), (fun _ h => absurd h List.not_mem_nil)⟩)⟩)⟩)⟩)⟩)) rfl rfl rfl (by decide +kernel) ⟨(Nat.le_of_ble_eq_true rfl), (Nat.le_of_ble_eq_true rfl)⟩) hM.s200 kX11 rfl hl.1 rfl (Nat.le_of_ble_eq_true rfl) dL_law_883 ⟨by show _ ≤ 600000; omega, by show _ ≤ 7302249; omega⟩) hW (fun r2 V2 H locs hp hW => ?_)
  obtain ⟨e2, e3⟩ := hp
  obtain rfl := e2
  rw [e3] at hW
  refine lv_icmp_eq (tgt := 1543) hx hb dL_law_886 (by decide) (fun c1 => ?_) (fun c1 => ?_)
  · refine W.widen (k := cells + 3) (n := slots + 197) (by omega) (by omega) ?_
    exact kk ad sh V1 _ _ _ ls hX hM hN hW hl
  · exact absurd rfl c1
set_option maxHeartbeats 4000000 in
set_option maxRecDepth 100000 in
theorem law_c19 (S : CallFix p m c cL_law 4 s #[Value.ref b] wsLaw RL) (hXs : va_X b L xs s s.heap) (hbl : b < s.heap.size) (hL : L ≤ 3584) (hk : 7 * k + 7 ≤ L) (hcs : cells + 3 ≤ 600000 ∧ slots + 197 ≤ 7302249) (hX : XI sh V q) (hM : MI sh V q) (hN : NoT sh (gTxs q).length) (hW : mC (fun z => s.heap.size ≤ z) s.heap s G ad sh V H locs) (hl : lv_has ls 4 [(0, .ref b), (1, .ref (ad 0)), (2, .ref (ad 200)), (3, .int (nI (7 * k)))]) (kk : LwK p l e s m below meth c b k G cells slots Q) : W p l e room_1 s m #[Value.ref b] below meth c H locs cells slots Q (F0 m 891 ls []) := by
  obtain ⟨hx, hb, hml, hown, hts⟩ := id S
  have hbA : ¬ (fun z : Nat => s.heap.size ≤ z) b := Nat.not_le.mpr hbl
  refine lv_aload_n hx hb dL_law_891 rfl (lv_at hl 1 rfl) ?_
  refine lv_aload_n hx hb dL_law_892 rfl (lv_at hl 0 rfl) ?_
  refine lv_iload_n hx hb dL_law_893 rfl (lv_at hl 3 rfl) ?_
  refine lv_iconst (v := nI 1) hx hb dL_law_894 (by decide) ?_
  refine lv_iadd hx hb dL_law_895 ?_
  refine m_top (y := nI (7 * k + 1)) (nI_add (7 * k) 1) ?_
  refine va_sld hx hb hXs hbl hbA hW.2.2.1 (vp_in_nI (by omega) (by omega)) dL_law_896 ?_
  refine lv_aload_n hx hb dL_law_897 rfl (lv_at hl 0 rfl) ?_
  refine lv_iload_n hx hb dL_law_898 rfl (lv_at hl 3 rfl) ?_
  refine lv_iconst (v := nI 2) hx hb dL_law_899 (by decide) ?_
  refine lv_iadd hx hb dL_law_900 ?_
  refine m_top (y := nI (7 * k + 2)) (nI_add (7 * k) 2) ?_
  refine va_sld hx hb hXs hbl hbA hW.2.2.1 (vp_in_nI (by omega) (by omega)) dL_law_901 ?_
  refine m_ci (m_rV S hW (c_X10_soonest l G ad sh V q (xs (nI (7 * k + 1)).toNatClampNeg) (xs (nI (7 * k + 2)).toNatClampNeg) hX hM.zok) (cwV 2 hts (gCall [.methodLink RL 95 yX10_soonest, .instanceMethod yX10_soonest, .selects RX10 yX10_soonest yX10_soonest, .initialized RX10] (List.forall_mem_cons.mpr ⟨(wa_35 _ (List.mem_of_getElem? (i := 3) (by decide +kernel))), (List.forall_mem_cons.mpr ⟨(wa_35 _ (List.mem_of_getElem? (i := 0) (by decide +kernel))), (List.forall_mem_cons.mpr ⟨(wa_35 _ (List.mem_of_getElem? (i := 1) (by decide +kernel))), (List.forall_mem_cons.mpr ⟨(wa_35 _ (List.mem_of_getElem? (i := 2) (by decide +kernel))), (List.forall_mem_cons.mpr ⟨(wa_1 _ (List.mem_of_getElem? (i := 2) (by decide +kernel))), (fun _ h => absurd h List.not_mem_nil)⟩)⟩)⟩)⟩)⟩)) rfl rfl rfl (by decide +kernel) ⟨(Nat.le_of_ble_eq_true rfl), (Nat.le_of_ble_eq_true rfl)⟩) hX.sp.1 kX10 rfl hl.1 rfl (Nat.le_of_ble_eq_true rfl) dL_law_902 ⟨by show _ ≤ 600000; omega, by show _ ≤ 7302249; omega⟩) hW (fun r1 V1 H locs hp hW => ?_)
  obtain ⟨e1, hk1⟩ := hp
  obtain rfl := e1
  have hX := hX.k hk1
  have hM := hM.hi (fun _ _ => rfl) hk1.f
  refine lv_aload_n hx hb dL_law_905 rfl (lv_at hl 2 rfl) ?_
  refine lv_aload_n hx hb dL_law_906 rfl (lv_at hl 0 rfl) ?_
  refine lv_iload_n hx hb dL_law_907 rfl (lv_at hl 3 rfl) ?_
  refine lv_iconst (v := nI 1) hx hb dL_law_908 (by decide) ?_
  refine lv_iadd hx hb dL_law_909 ?_
  refine m_top (y := nI (7 * k + 1)) (nI_add (7 * k) 1) ?_
  refine va_sld hx hb hXs hbl hbA hW.2.2.1 (vp_in_nI (by omega) (by omega)) dL_law_910 ?_
  refine lv_aload_n hx hb dL_law_911 rfl (lv_at hl 0 rfl) ?_
  refine lv_iload_n hx hb dL_law_912 rfl (lv_at hl 3 rfl) ?_
  refine lv_iconst (v := nI 2) hx hb dL_law_913 (by decide) ?_
  refine lv_iadd hx hb dL_law_914 ?_
  refine m_top (y := nI (7 * k + 2)) (nI_add (7 * k) 2) ?_
  refine va_sld hx hb hXs hbl hbA hW.2.2.1 (vp_in_nI (by omega) (by omega)) dL_law_915 ?_
  refine m_ci (m_rV S hW (c_X11_soonest l G ad sh V1 q (xs (nI (7 * k + 1)).toNatClampNeg) (xs (nI (7 * k + 2)).toNatClampNeg) hM) (cwV 2 hts (gCall [.methodLink RL 98 yX11_soonest, .instanceMethod yX11_soonest, .selects RX11 yX11_soonest yX11_soonest, .initialized RX11] (List.forall_mem_cons.mpr ⟨(wa_35 _ (List.mem_of_getElem? (i := 8) (by decide +kernel))), (List.forall_mem_cons.mpr ⟨(wa_35 _ (List.mem_of_getElem? (i := 5) (by decide +kernel))), (List.forall_mem_cons.mpr ⟨(wa_35 _ (List.mem_of_getElem? (i := 6) (by decide +kernel))), (List.forall_mem_cons.mpr ⟨(wa_35 _ (List.mem_of_getElem? (i := 7) (by decide +kernel))), (List.forall_mem_cons.mpr ⟨(wa_1 _ (List.mem_of_getElem? (i := 5) (by decide +kernel))), (fun _ h => absurd h List.not_mem_nil)⟩)⟩)⟩)⟩)⟩)) rfl rfl rfl (by decide +kernel) ⟨(Nat.le_of_ble_eq_true rfl), (Nat.le_of_ble_eq_true rfl)⟩) hM.s200 kX11 rfl hl.1 rfl (Nat.le_of_ble_eq_true rfl) dL_law_916 ⟨by show _ ≤ 600000; omega, by show _ ≤ 7302249; omega⟩) hW (fun r2 V2 H locs hp hW => ?_)
  obtain ⟨e2, e3⟩ := hp
  obtain rfl := e2
  rw [e3] at hW
  refine lv_icmp_eq (tgt := 1543) hx hb dL_law_919 (by decide) (fun c1 => ?_) (fun c1 => ?_)
  · refine W.widen (k := cells + 3) (n := slots + 197) (by omega) (by omega) ?_
    exact kk ad sh V1 _ _ _ ls hX hM hN hW hl
  · exact absurd rfl c1
set_option maxHeartbeats 4000000 in
set_option maxRecDepth 100000 in
theorem law_c20 (S : CallFix p m c cL_law 4 s #[Value.ref b] wsLaw RL) (hXs : va_X b L xs s s.heap) (hbl : b < s.heap.size) (hL : L ≤ 3584) (hk : 7 * k + 7 ≤ L) (hcs : cells + 3 ≤ 600000 ∧ slots + 197 ≤ 7302249) (hX : XI sh V q) (hM : MI sh V q) (hN : NoT sh (gTxs q).length) (hW : mC (fun z => s.heap.size ≤ z) s.heap s G ad sh V H locs) (hl : lv_has ls 4 [(0, .ref b), (1, .ref (ad 0)), (2, .ref (ad 200)), (3, .int (nI (7 * k)))]) (kk : LwK p l e s m below meth c b k G cells slots Q) : W p l e room_1 s m #[Value.ref b] below meth c H locs cells slots Q (F0 m 924 ls []) := by
  obtain ⟨hx, hb, hml, hown, hts⟩ := id S
  have hbA : ¬ (fun z : Nat => s.heap.size ≤ z) b := Nat.not_le.mpr hbl
  refine lv_aload_n hx hb dL_law_924 rfl (lv_at hl 1 rfl) ?_
  refine lv_aload_n hx hb dL_law_925 rfl (lv_at hl 0 rfl) ?_
  refine lv_iload_n hx hb dL_law_926 rfl (lv_at hl 3 rfl) ?_
  refine lv_iconst (v := nI 1) hx hb dL_law_927 (by decide) ?_
  refine lv_iadd hx hb dL_law_928 ?_
  refine m_top (y := nI (7 * k + 1)) (nI_add (7 * k) 1) ?_
  refine va_sld hx hb hXs hbl hbA hW.2.2.1 (vp_in_nI (by omega) (by omega)) dL_law_929 ?_
  refine lv_aload_n hx hb dL_law_930 rfl (lv_at hl 0 rfl) ?_
  refine lv_iload_n hx hb dL_law_931 rfl (lv_at hl 3 rfl) ?_
  refine lv_iconst (v := nI 2) hx hb dL_law_932 (by decide) ?_
  refine lv_iadd hx hb dL_law_933 ?_
  refine m_top (y := nI (7 * k + 2)) (nI_add (7 * k) 2) ?_
  refine va_sld hx hb hXs hbl hbA hW.2.2.1 (vp_in_nI (by omega) (by omega)) dL_law_934 ?_
  refine m_ci (m_rV S hW (c_X10_hire l G ad sh V q (xs (nI (7 * k + 1)).toNatClampNeg) (xs (nI (7 * k + 2)).toNatClampNeg) hX) (cwV 2 hts (gCall [.methodLink RL 99 yX10_hire, .instanceMethod yX10_hire, .selects RX10 yX10_hire yX10_hire, .initialized RX10] (List.forall_mem_cons.mpr ⟨(wa_35 _ (List.mem_of_getElem? (i := 12) (by decide +kernel))), (List.forall_mem_cons.mpr ⟨(wa_35 _ (List.mem_of_getElem? (i := 9) (by decide +kernel))), (List.forall_mem_cons.mpr ⟨(wa_35 _ (List.mem_of_getElem? (i := 10) (by decide +kernel))), (List.forall_mem_cons.mpr ⟨(wa_35 _ (List.mem_of_getElem? (i := 11) (by decide +kernel))), (List.forall_mem_cons.mpr ⟨(wa_1 _ (List.mem_of_getElem? (i := 2) (by decide +kernel))), (fun _ h => absurd h List.not_mem_nil)⟩)⟩)⟩)⟩)⟩)) rfl rfl rfl (by decide +kernel) ⟨(Nat.le_of_ble_eq_true rfl), (Nat.le_of_ble_eq_true rfl)⟩) hX.sp.1 kX10 rfl hl.1 rfl (Nat.le_of_ble_eq_true rfl) dL_law_935 ⟨by show _ ≤ 600000; omega, by show _ ≤ 7302249; omega⟩) hW (fun r1 V1 H locs hp hW => ?_)
  obtain ⟨e1, hk1⟩ := hp
  obtain rfl := e1
  have hX := hX.k hk1
  have hM := hM.hi (fun _ _ => rfl) hk1.f
  refine lv_aload_n hx hb dL_law_938 rfl (lv_at hl 2 rfl) ?_
  refine lv_aload_n hx hb dL_law_939 rfl (lv_at hl 0 rfl) ?_
  refine lv_iload_n hx hb dL_law_940 rfl (lv_at hl 3 rfl) ?_
  refine lv_iconst (v := nI 1) hx hb dL_law_941 (by decide) ?_
  refine lv_iadd hx hb dL_law_942 ?_
  refine m_top (y := nI (7 * k + 1)) (nI_add (7 * k) 1) ?_
  refine va_sld hx hb hXs hbl hbA hW.2.2.1 (vp_in_nI (by omega) (by omega)) dL_law_943 ?_
  refine lv_aload_n hx hb dL_law_944 rfl (lv_at hl 0 rfl) ?_
  refine lv_iload_n hx hb dL_law_945 rfl (lv_at hl 3 rfl) ?_
  refine lv_iconst (v := nI 2) hx hb dL_law_946 (by decide) ?_
  refine lv_iadd hx hb dL_law_947 ?_
  refine m_top (y := nI (7 * k + 2)) (nI_add (7 * k) 2) ?_
  refine va_sld hx hb hXs hbl hbA hW.2.2.1 (vp_in_nI (by omega) (by omega)) dL_law_948 ?_
  refine m_ci (m_rV S hW (c_X11_hire l G ad sh V1 q (xs (nI (7 * k + 1)).toNatClampNeg) (xs (nI (7 * k + 2)).toNatClampNeg) hM) (cwV 2 hts (gCall [.methodLink RL 102 yX11_hire, .instanceMethod yX11_hire, .selects RX11 yX11_hire yX11_hire, .initialized RX11] (List.forall_mem_cons.mpr ⟨(wa_36 _ (List.mem_of_getElem? (i := 3) (by decide +kernel))), (List.forall_mem_cons.mpr ⟨(wa_36 _ (List.mem_of_getElem? (i := 0) (by decide +kernel))), (List.forall_mem_cons.mpr ⟨(wa_36 _ (List.mem_of_getElem? (i := 1) (by decide +kernel))), (List.forall_mem_cons.mpr ⟨(wa_36 _ (List.mem_of_getElem? (i := 2) (by decide +kernel))), (List.forall_mem_cons.mpr ⟨(wa_1 _ (List.mem_of_getElem? (i := 5) (by decide +kernel))), (fun _ h => absurd h List.not_mem_nil)⟩)⟩)⟩)⟩)⟩)) rfl rfl rfl (by decide +kernel) ⟨(Nat.le_of_ble_eq_true rfl), (Nat.le_of_ble_eq_true rfl)⟩) hM.s200 kX11 rfl hl.1 rfl (Nat.le_of_ble_eq_true rfl) dL_law_949 ⟨by show _ ≤ 600000; omega, by show _ ≤ 7302249; omega⟩) hW (fun r2 V2 H locs hp hW => ?_)
  obtain ⟨e2, hk2⟩ := hp
  obtain rfl := e2
  have hX2 := hX.lo hk2.f
  have hM2 := hM.k hk2
  refine lv_icmp_eq (tgt := 1543) hx hb dL_law_952 (by decide) (fun c1 => ?_) (fun c1 => ?_)
  · refine W.widen (k := cells + 3) (n := slots + 197) (by omega) (by omega) ?_
    exact kk ad sh V2 _ _ _ ls hX2 hM2 hN hW hl
  · exact absurd rfl c1
set_option maxHeartbeats 4000000 in
set_option maxRecDepth 100000 in
theorem law_c21 (S : CallFix p m c cL_law 4 s #[Value.ref b] wsLaw RL) (hXs : va_X b L xs s s.heap) (hbl : b < s.heap.size) (hL : L ≤ 3584) (hk : 7 * k + 7 ≤ L) (hcs : cells + 3 ≤ 600000 ∧ slots + 197 ≤ 7302249) (hX : XI sh V q) (hM : MI sh V q) (hN : NoT sh (gTxs q).length) (hW : mC (fun z => s.heap.size ≤ z) s.heap s G ad sh V H locs) (hl : lv_has ls 4 [(0, .ref b), (1, .ref (ad 0)), (2, .ref (ad 200)), (3, .int (nI (7 * k)))]) (kk : LwK p l e s m below meth c b k G cells slots Q) : W p l e room_1 s m #[Value.ref b] below meth c H locs cells slots Q (F0 m 957 ls []) := by
  obtain ⟨hx, hb, hml, hown, hts⟩ := id S
  have hbA : ¬ (fun z : Nat => s.heap.size ≤ z) b := Nat.not_le.mpr hbl
  refine lv_aload_n hx hb dL_law_957 rfl (lv_at hl 1 rfl) ?_
  refine lv_aload_n hx hb dL_law_958 rfl (lv_at hl 0 rfl) ?_
  refine lv_iload_n hx hb dL_law_959 rfl (lv_at hl 3 rfl) ?_
  refine lv_iconst (v := nI 1) hx hb dL_law_960 (by decide) ?_
  refine lv_iadd hx hb dL_law_961 ?_
  refine m_top (y := nI (7 * k + 1)) (nI_add (7 * k) 1) ?_
  refine va_sld hx hb hXs hbl hbA hW.2.2.1 (vp_in_nI (by omega) (by omega)) dL_law_962 ?_
  refine lv_aload_n hx hb dL_law_963 rfl (lv_at hl 0 rfl) ?_
  refine lv_iload_n hx hb dL_law_964 rfl (lv_at hl 3 rfl) ?_
  refine lv_iconst (v := nI 2) hx hb dL_law_965 (by decide) ?_
  refine lv_iadd hx hb dL_law_966 ?_
  refine m_top (y := nI (7 * k + 2)) (nI_add (7 * k) 2) ?_
  refine va_sld hx hb hXs hbl hbA hW.2.2.1 (vp_in_nI (by omega) (by omega)) dL_law_967 ?_
  refine m_cie (m_rV S hW (c_X10_whose l G ad sh V q (xs (nI (7 * k + 1)).toNatClampNeg) (xs (nI (7 * k + 2)).toNatClampNeg) hX) (cwV 2 hts (gCall [.methodLink RL 103 yX10_whose, .instanceMethod yX10_whose, .selects RX10 yX10_whose yX10_whose, .initialized RX10] (List.forall_mem_cons.mpr ⟨(wa_36 _ (List.mem_of_getElem? (i := 7) (by decide +kernel))), (List.forall_mem_cons.mpr ⟨(wa_36 _ (List.mem_of_getElem? (i := 4) (by decide +kernel))), (List.forall_mem_cons.mpr ⟨(wa_36 _ (List.mem_of_getElem? (i := 5) (by decide +kernel))), (List.forall_mem_cons.mpr ⟨(wa_36 _ (List.mem_of_getElem? (i := 6) (by decide +kernel))), (List.forall_mem_cons.mpr ⟨(wa_1 _ (List.mem_of_getElem? (i := 2) (by decide +kernel))), (fun _ h => absurd h List.not_mem_nil)⟩)⟩)⟩)⟩)⟩)) rfl rfl rfl (by decide +kernel) ⟨(Nat.le_of_ble_eq_true rfl), (Nat.le_of_ble_eq_true rfl)⟩) hX.sp.1 kX10 rfl hl.1 rfl (Nat.le_of_ble_eq_true rfl) dL_law_968 ⟨by show _ ≤ 600000; omega, by show _ ≤ 7302249; omega⟩) hW (fun H locs hW => ?_)
  refine lv_aload_n hx hb dL_law_971 rfl (lv_at hl 2 rfl) ?_
  refine lv_aload_n hx hb dL_law_972 rfl (lv_at hl 0 rfl) ?_
  refine lv_iload_n hx hb dL_law_973 rfl (lv_at hl 3 rfl) ?_
  refine lv_iconst (v := nI 1) hx hb dL_law_974 (by decide) ?_
  refine lv_iadd hx hb dL_law_975 ?_
  refine m_top (y := nI (7 * k + 1)) (nI_add (7 * k) 1) ?_
  refine va_sld hx hb hXs hbl hbA hW.2.2.1 (vp_in_nI (by omega) (by omega)) dL_law_976 ?_
  refine lv_aload_n hx hb dL_law_977 rfl (lv_at hl 0 rfl) ?_
  refine lv_iload_n hx hb dL_law_978 rfl (lv_at hl 3 rfl) ?_
  refine lv_iconst (v := nI 2) hx hb dL_law_979 (by decide) ?_
  refine lv_iadd hx hb dL_law_980 ?_
  refine m_top (y := nI (7 * k + 2)) (nI_add (7 * k) 2) ?_
  refine va_sld hx hb hXs hbl hbA hW.2.2.1 (vp_in_nI (by omega) (by omega)) dL_law_981 ?_
  refine m_ci (m_rV S hW (c_X11_whose l G ad sh V q (xs (nI (7 * k + 1)).toNatClampNeg) (xs (nI (7 * k + 2)).toNatClampNeg) hM) (cwV 2 hts (gCall [.methodLink RL 106 yX11_whose, .instanceMethod yX11_whose, .selects RX11 yX11_whose yX11_whose, .initialized RX11] (List.forall_mem_cons.mpr ⟨(wa_36 _ (List.mem_of_getElem? (i := 19) (by decide +kernel))), (List.forall_mem_cons.mpr ⟨(wa_36 _ (List.mem_of_getElem? (i := 16) (by decide +kernel))), (List.forall_mem_cons.mpr ⟨(wa_36 _ (List.mem_of_getElem? (i := 17) (by decide +kernel))), (List.forall_mem_cons.mpr ⟨(wa_36 _ (List.mem_of_getElem? (i := 18) (by decide +kernel))), (List.forall_mem_cons.mpr ⟨(wa_1 _ (List.mem_of_getElem? (i := 5) (by decide +kernel))), (fun _ h => absurd h List.not_mem_nil)⟩)⟩)⟩)⟩)⟩)) rfl rfl rfl (by decide +kernel) ⟨(Nat.le_of_ble_eq_true rfl), (Nat.le_of_ble_eq_true rfl)⟩) hM.s200 kX11 rfl hl.1 rfl (Nat.le_of_ble_eq_true rfl) dL_law_982 ⟨by show _ ≤ 600000; omega, by show _ ≤ 7302249; omega⟩) hW (fun r2 V2 H locs hp hW => ?_)
  obtain ⟨e2, e3⟩ := hp
  obtain rfl := e2
  rw [e3] at hW
  refine lv_icmp_eq (tgt := 1543) hx hb dL_law_985 (by decide) (fun c1 => ?_) (fun c1 => ?_)
  · refine W.widen (k := cells + 3) (n := slots + 197) (by omega) (by omega) ?_
    exact kk ad sh V _ _ _ ls hX hM hN hW hl
  · exact absurd rfl c1
set_option maxHeartbeats 4000000 in
set_option maxRecDepth 100000 in
theorem law_c22 (S : CallFix p m c cL_law 4 s #[Value.ref b] wsLaw RL) (hXs : va_X b L xs s s.heap) (hbl : b < s.heap.size) (hL : L ≤ 3584) (hk : 7 * k + 7 ≤ L) (hcs : cells + 3 ≤ 600000 ∧ slots + 197 ≤ 7302249) (hX : XI sh V q) (hM : MI sh V q) (hN : NoT sh (gTxs q).length) (hW : mC (fun z => s.heap.size ≤ z) s.heap s G ad sh V H locs) (hl : lv_has ls 4 [(0, .ref b), (1, .ref (ad 0)), (2, .ref (ad 200)), (3, .int (nI (7 * k)))]) (kk : LwK p l e s m below meth c b k G cells slots Q) : W p l e room_1 s m #[Value.ref b] below meth c H locs cells slots Q (F0 m 990 ls []) := by
  obtain ⟨hx, hb, hml, hown, hts⟩ := id S
  have hbA : ¬ (fun z : Nat => s.heap.size ≤ z) b := Nat.not_le.mpr hbl
  refine lv_aload_n hx hb dL_law_990 rfl (lv_at hl 1 rfl) ?_
  refine lv_aload_n hx hb dL_law_991 rfl (lv_at hl 0 rfl) ?_
  refine lv_iload_n hx hb dL_law_992 rfl (lv_at hl 3 rfl) ?_
  refine lv_iconst (v := nI 1) hx hb dL_law_993 (by decide) ?_
  refine lv_iadd hx hb dL_law_994 ?_
  refine m_top (y := nI (7 * k + 1)) (nI_add (7 * k) 1) ?_
  refine va_sld hx hb hXs hbl hbA hW.2.2.1 (vp_in_nI (by omega) (by omega)) dL_law_995 ?_
  refine lv_aload_n hx hb dL_law_996 rfl (lv_at hl 0 rfl) ?_
  refine lv_iload_n hx hb dL_law_997 rfl (lv_at hl 3 rfl) ?_
  refine lv_iconst (v := nI 2) hx hb dL_law_998 (by decide) ?_
  refine lv_iadd hx hb dL_law_999 ?_
  refine m_top (y := nI (7 * k + 2)) (nI_add (7 * k) 2) ?_
  refine va_sld hx hb hXs hbl hbA hW.2.2.1 (vp_in_nI (by omega) (by omega)) dL_law_1000 ?_
  refine lv_aload_n hx hb dL_law_1001 rfl (lv_at hl 0 rfl) ?_
  refine lv_iload_n hx hb dL_law_1002 rfl (lv_at hl 3 rfl) ?_
  refine lv_iconst (v := nI 3) hx hb dL_law_1003 (by decide) ?_
  refine lv_iadd hx hb dL_law_1004 ?_
  refine m_top (y := nI (7 * k + 3)) (nI_add (7 * k) 3) ?_
  refine va_sld hx hb hXs hbl hbA hW.2.2.1 (vp_in_nI (by omega) (by omega)) dL_law_1005 ?_
  refine lv_aload_n hx hb dL_law_1006 rfl (lv_at hl 0 rfl) ?_
  refine lv_iload_n hx hb dL_law_1007 rfl (lv_at hl 3 rfl) ?_
  refine lv_iconst (v := nI 4) hx hb dL_law_1008 (by decide) ?_
  refine lv_iadd hx hb dL_law_1009 ?_
  refine m_top (y := nI (7 * k + 4)) (nI_add (7 * k) 4) ?_
  refine va_sld hx hb hXs hbl hbA hW.2.2.1 (vp_in_nI (by omega) (by omega)) dL_law_1010 ?_
  refine m_ci (m_rV S hW (c_X10_kinds l G ad sh V q (xs (nI (7 * k + 1)).toNatClampNeg) (xs (nI (7 * k + 2)).toNatClampNeg) (xs (nI (7 * k + 3)).toNatClampNeg) (xs (nI (7 * k + 4)).toNatClampNeg) hX) (cwV 4 hts (gCall [.methodLink RL 107 yX10_kinds, .instanceMethod yX10_kinds, .selects RX10 yX10_kinds yX10_kinds, .initialized RX10] (List.forall_mem_cons.mpr ⟨(wa_37 _ (List.mem_of_getElem? (i := 7) (by decide +kernel))), (List.forall_mem_cons.mpr ⟨(wa_37 _ (List.mem_of_getElem? (i := 4) (by decide +kernel))), (List.forall_mem_cons.mpr ⟨(wa_37 _ (List.mem_of_getElem? (i := 5) (by decide +kernel))), (List.forall_mem_cons.mpr ⟨(wa_37 _ (List.mem_of_getElem? (i := 6) (by decide +kernel))), (List.forall_mem_cons.mpr ⟨(wa_1 _ (List.mem_of_getElem? (i := 2) (by decide +kernel))), (fun _ h => absurd h List.not_mem_nil)⟩)⟩)⟩)⟩)⟩)) rfl rfl rfl (by decide +kernel) ⟨(Nat.le_of_ble_eq_true rfl), (Nat.le_of_ble_eq_true rfl)⟩) hX.sp.1 kX10 rfl hl.1 rfl (Nat.le_of_ble_eq_true rfl) dL_law_1011 ⟨by show _ ≤ 600000; omega, by show _ ≤ 7302249; omega⟩) hW (fun r1 V1 H locs hp hW => ?_)
  obtain ⟨e1, hk1⟩ := hp
  obtain rfl := e1
  have hX := hX.k hk1
  have hM := hM.hi (fun _ _ => rfl) hk1.f
  refine lv_aload_n hx hb dL_law_1014 rfl (lv_at hl 2 rfl) ?_
  refine lv_aload_n hx hb dL_law_1015 rfl (lv_at hl 0 rfl) ?_
  refine lv_iload_n hx hb dL_law_1016 rfl (lv_at hl 3 rfl) ?_
  refine lv_iconst (v := nI 1) hx hb dL_law_1017 (by decide) ?_
  refine lv_iadd hx hb dL_law_1018 ?_
  refine m_top (y := nI (7 * k + 1)) (nI_add (7 * k) 1) ?_
  refine va_sld hx hb hXs hbl hbA hW.2.2.1 (vp_in_nI (by omega) (by omega)) dL_law_1019 ?_
  refine lv_aload_n hx hb dL_law_1020 rfl (lv_at hl 0 rfl) ?_
  refine lv_iload_n hx hb dL_law_1021 rfl (lv_at hl 3 rfl) ?_
  refine lv_iconst (v := nI 2) hx hb dL_law_1022 (by decide) ?_
  refine lv_iadd hx hb dL_law_1023 ?_
  refine m_top (y := nI (7 * k + 2)) (nI_add (7 * k) 2) ?_
  refine va_sld hx hb hXs hbl hbA hW.2.2.1 (vp_in_nI (by omega) (by omega)) dL_law_1024 ?_
  refine lv_aload_n hx hb dL_law_1025 rfl (lv_at hl 0 rfl) ?_
  refine lv_iload_n hx hb dL_law_1026 rfl (lv_at hl 3 rfl) ?_
  refine lv_iconst (v := nI 3) hx hb dL_law_1027 (by decide) ?_
  refine lv_iadd hx hb dL_law_1028 ?_
  refine m_top (y := nI (7 * k + 3)) (nI_add (7 * k) 3) ?_
  refine va_sld hx hb hXs hbl hbA hW.2.2.1 (vp_in_nI (by omega) (by omega)) dL_law_1029 ?_
  refine lv_aload_n hx hb dL_law_1030 rfl (lv_at hl 0 rfl) ?_
  refine lv_iload_n hx hb dL_law_1031 rfl (lv_at hl 3 rfl) ?_
  refine lv_iconst (v := nI 4) hx hb dL_law_1032 (by decide) ?_
  refine lv_iadd hx hb dL_law_1033 ?_
  refine m_top (y := nI (7 * k + 4)) (nI_add (7 * k) 4) ?_
  refine va_sld hx hb hXs hbl hbA hW.2.2.1 (vp_in_nI (by omega) (by omega)) dL_law_1034 ?_
  refine m_ci (m_rV S hW (c_X11_kinds l G ad sh V1 q (xs (nI (7 * k + 1)).toNatClampNeg) (xs (nI (7 * k + 2)).toNatClampNeg) (xs (nI (7 * k + 3)).toNatClampNeg) (xs (nI (7 * k + 4)).toNatClampNeg) hM) (cwV 4 hts (gCall [.methodLink RL 110 yX11_kinds, .instanceMethod yX11_kinds, .selects RX11 yX11_kinds yX11_kinds, .initialized RX11] (List.forall_mem_cons.mpr ⟨(wa_38 _ (List.mem_of_getElem? (i := 5) (by decide +kernel))), (List.forall_mem_cons.mpr ⟨(wa_38 _ (List.mem_of_getElem? (i := 2) (by decide +kernel))), (List.forall_mem_cons.mpr ⟨(wa_38 _ (List.mem_of_getElem? (i := 3) (by decide +kernel))), (List.forall_mem_cons.mpr ⟨(wa_38 _ (List.mem_of_getElem? (i := 4) (by decide +kernel))), (List.forall_mem_cons.mpr ⟨(wa_1 _ (List.mem_of_getElem? (i := 5) (by decide +kernel))), (fun _ h => absurd h List.not_mem_nil)⟩)⟩)⟩)⟩)⟩)) rfl rfl rfl (by decide +kernel) ⟨(Nat.le_of_ble_eq_true rfl), (Nat.le_of_ble_eq_true rfl)⟩) hM.s200 kX11 rfl hl.1 rfl (Nat.le_of_ble_eq_true rfl) dL_law_1035 ⟨by show _ ≤ 600000; omega, by show _ ≤ 7302249; omega⟩) hW (fun r2 V2 H locs hp hW => ?_)
  obtain ⟨e2, e3⟩ := hp
  obtain rfl := e2
  rw [e3] at hW
  refine lv_icmp_eq (tgt := 1543) hx hb dL_law_1038 (by decide) (fun c1 => ?_) (fun c1 => ?_)
  · refine W.widen (k := cells + 3) (n := slots + 197) (by omega) (by omega) ?_
    exact kk ad sh V1 _ _ _ ls hX hM hN hW hl
  · exact absurd rfl c1
set_option maxHeartbeats 4000000 in
set_option maxRecDepth 100000 in
theorem law_c23 (S : CallFix p m c cL_law 4 s #[Value.ref b] wsLaw RL) (hXs : va_X b L xs s s.heap) (hbl : b < s.heap.size) (hL : L ≤ 3584) (hk : 7 * k + 7 ≤ L) (hcs : cells + 3 ≤ 600000 ∧ slots + 197 ≤ 7302249) (hX : XI sh V q) (hM : MI sh V q) (hN : NoT sh (gTxs q).length) (hW : mC (fun z => s.heap.size ≤ z) s.heap s G ad sh V H locs) (hl : lv_has ls 4 [(0, .ref b), (1, .ref (ad 0)), (2, .ref (ad 200)), (3, .int (nI (7 * k)))]) (kk : LwK p l e s m below meth c b k G cells slots Q) : W p l e room_1 s m #[Value.ref b] below meth c H locs cells slots Q (F0 m 1043 ls []) := by
  obtain ⟨hx, hb, hml, hown, hts⟩ := id S
  have hbA : ¬ (fun z : Nat => s.heap.size ≤ z) b := Nat.not_le.mpr hbl
  refine lv_aload_n hx hb dL_law_1043 rfl (lv_at hl 1 rfl) ?_
  refine lv_aload_n hx hb dL_law_1044 rfl (lv_at hl 0 rfl) ?_
  refine lv_iload_n hx hb dL_law_1045 rfl (lv_at hl 3 rfl) ?_
  refine lv_iconst (v := nI 1) hx hb dL_law_1046 (by decide) ?_
  refine lv_iadd hx hb dL_law_1047 ?_
  refine m_top (y := nI (7 * k + 1)) (nI_add (7 * k) 1) ?_
  refine va_sld hx hb hXs hbl hbA hW.2.2.1 (vp_in_nI (by omega) (by omega)) dL_law_1048 ?_
  refine m_ci (m_rV S hW (c_X10_judge l G ad sh V q (xs (nI (7 * k + 1)).toNatClampNeg) hX) (cwV 1 hts (gCall [.methodLink RL 111 yX10_judge, .instanceMethod yX10_judge, .selects RX10 yX10_judge yX10_judge, .initialized RX10] (List.forall_mem_cons.mpr ⟨(wa_38 _ (List.mem_of_getElem? (i := 13) (by decide +kernel))), (List.forall_mem_cons.mpr ⟨(wa_38 _ (List.mem_of_getElem? (i := 10) (by decide +kernel))), (List.forall_mem_cons.mpr ⟨(wa_38 _ (List.mem_of_getElem? (i := 11) (by decide +kernel))), (List.forall_mem_cons.mpr ⟨(wa_38 _ (List.mem_of_getElem? (i := 12) (by decide +kernel))), (List.forall_mem_cons.mpr ⟨(wa_1 _ (List.mem_of_getElem? (i := 2) (by decide +kernel))), (fun _ h => absurd h List.not_mem_nil)⟩)⟩)⟩)⟩)⟩)) rfl rfl rfl (by decide +kernel) ⟨(Nat.le_of_ble_eq_true rfl), (Nat.le_of_ble_eq_true rfl)⟩) hX.sp.1 kX10 rfl hl.1 rfl (Nat.le_of_ble_eq_true rfl) dL_law_1049 ⟨by show _ ≤ 600000; omega, by show _ ≤ 7302249; omega⟩) hW (fun r1 V1 H locs hp hW => ?_)
  obtain ⟨e1, hk1⟩ := hp
  obtain rfl := e1
  have hX := hX.k hk1
  have hM := hM.hi (fun _ _ => rfl) hk1.f
  refine lv_aload_n hx hb dL_law_1052 rfl (lv_at hl 2 rfl) ?_
  refine lv_aload_n hx hb dL_law_1053 rfl (lv_at hl 0 rfl) ?_
  refine lv_iload_n hx hb dL_law_1054 rfl (lv_at hl 3 rfl) ?_
  refine lv_iconst (v := nI 1) hx hb dL_law_1055 (by decide) ?_
  refine lv_iadd hx hb dL_law_1056 ?_
  refine m_top (y := nI (7 * k + 1)) (nI_add (7 * k) 1) ?_
  refine va_sld hx hb hXs hbl hbA hW.2.2.1 (vp_in_nI (by omega) (by omega)) dL_law_1057 ?_
  refine m_ci (m_rV S hW (c_X11_judge l G ad sh V1 q (xs (nI (7 * k + 1)).toNatClampNeg) hM) (cwV 1 hts (gCall [.methodLink RL 114 yX11_judge, .instanceMethod yX11_judge, .selects RX11 yX11_judge yX11_judge, .initialized RX11] (List.forall_mem_cons.mpr ⟨(wa_39 _ (List.mem_of_getElem? (i := 12) (by decide +kernel))), (List.forall_mem_cons.mpr ⟨(wa_39 _ (List.mem_of_getElem? (i := 9) (by decide +kernel))), (List.forall_mem_cons.mpr ⟨(wa_39 _ (List.mem_of_getElem? (i := 10) (by decide +kernel))), (List.forall_mem_cons.mpr ⟨(wa_39 _ (List.mem_of_getElem? (i := 11) (by decide +kernel))), (List.forall_mem_cons.mpr ⟨(wa_1 _ (List.mem_of_getElem? (i := 5) (by decide +kernel))), (fun _ h => absurd h List.not_mem_nil)⟩)⟩)⟩)⟩)⟩)) rfl rfl rfl (by decide +kernel) ⟨(Nat.le_of_ble_eq_true rfl), (Nat.le_of_ble_eq_true rfl)⟩) hM.s200 kX11 rfl hl.1 rfl (Nat.le_of_ble_eq_true rfl) dL_law_1058 ⟨by show _ ≤ 600000; omega, by show _ ≤ 7302249; omega⟩) hW (fun r2 V2 H locs hp hW => ?_)
  obtain ⟨e2, hk2⟩ := hp
  obtain rfl := e2
  have hX2 := hX.lo hk2.f
  have hM2 := hM.k hk2
  refine lv_icmp_eq (tgt := 1543) hx hb dL_law_1061 (by decide) (fun c1 => ?_) (fun c1 => ?_)
  · refine W.widen (k := cells + 3) (n := slots + 197) (by omega) (by omega) ?_
    exact kk ad sh V2 _ _ _ ls hX2 hM2 hN hW hl
  · exact absurd rfl c1
end LAWC
