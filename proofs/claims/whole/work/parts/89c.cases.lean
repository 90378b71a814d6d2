section LAWC
variable {p : Program} {l : Launch} {e : Env} {s : State} {m : MethodId} {below : List Frame} {meth : Method} {c : Code} {b L k : Nat} {xs : Nat → Int32} {G : mG} {ad : Nat → Nat} {sh : Nat → Option mSh} {V : mV} {q : Sg} {H : Heap} {locs : List Loc} {ls : Array Slot} {cells slots : Nat} {Q : State → Prop}
set_option maxHeartbeats 4000000 in
set_option maxRecDepth 100000 in
theorem law_c24 (S : CallFix p m c cL_law 4 s #[Value.ref b] wsLaw RL) (hXs : va_X b L xs s s.heap) (hbl : b < s.heap.size) (hL : L ≤ 3584) (hk : 7 * k + 7 ≤ L) (hcs : cells + 3 ≤ 600000 ∧ slots + 197 ≤ 7302249) (hX : XI sh V q) (hM : MI sh V q) (hN : NoT sh (gTxs q).length) (hW : mC (fun z => s.heap.size ≤ z) s.heap s G ad sh V H locs) (hl : lv_has ls 4 [(0, .ref b), (1, .ref (ad 0)), (2, .ref (ad 200)), (3, .int (nI (7 * k)))]) (kk : LwK p l e s m below meth c b k G cells slots Q) : W p l e room_1 s m #[Value.ref b] below meth c H locs cells slots Q (F0 m 1066 ls []) := by
  obtain ⟨hx, hb, hml, hown, hts⟩ := id S
  have hbA : ¬ (fun z : Nat => s.heap.size ≤ z) b := Nat.not_le.mpr hbl
  refine lv_aload_n hx hb dL_law_1066 rfl (lv_at hl 1 rfl) ?_
  refine lv_aload_n hx hb dL_law_1067 rfl (lv_at hl 0 rfl) ?_
  refine lv_iload_n hx hb dL_law_1068 rfl (lv_at hl 3 rfl) ?_
  refine lv_iconst (v := nI 1) hx hb dL_law_1069 (by decide) ?_
  refine lv_iadd hx hb dL_law_1070 ?_
  refine m_top (y := nI (7 * k + 1)) (nI_add (7 * k) 1) ?_
  refine va_sld hx hb hXs hbl hbA hW.2.2.1 (vp_in_nI (by omega) (by omega)) dL_law_1071 ?_
  refine lv_aload_n hx hb dL_law_1072 rfl (lv_at hl 0 rfl) ?_
  refine lv_iload_n hx hb dL_law_1073 rfl (lv_at hl 3 rfl) ?_
  refine lv_iconst (v := nI 2) hx hb dL_law_1074 (by decide) ?_
  refine lv_iadd hx hb dL_law_1075 ?_
  refine m_top (y := nI (7 * k + 2)) (nI_add (7 * k) 2) ?_
  refine va_sld hx hb hXs hbl hbA hW.2.2.1 (vp_in_nI (by omega) (by omega)) dL_law_1076 ?_
  refine lv_aload_n hx hb dL_law_1077 rfl (lv_at hl 0 rfl) ?_
  refine lv_iload_n hx hb dL_law_1078 rfl (lv_at hl 3 rfl) ?_
  refine lv_iconst (v := nI 3) hx hb dL_law_1079 (by decide) ?_
  refine lv_iadd hx hb dL_law_1080 ?_
  refine m_top (y := nI (7 * k + 3)) (nI_add (7 * k) 3) ?_
  refine va_sld hx hb hXs hbl hbA hW.2.2.1 (vp_in_nI (by omega) (by omega)) dL_law_1081 ?_
  refine m_ci (m_rV S hW (c_X10_ends l G ad sh V q (xs (nI (7 * k + 1)).toNatClampNeg) (xs (nI (7 * k + 2)).toNatClampNeg) (xs (nI (7 * k + 3)).toNatClampNeg) hX) (cwV 3 hts (gCall [.methodLink RL 115 yX10_ends, .instanceMethod yX10_ends, .selects RX10 yX10_ends yX10_ends, .initialized RX10] (List.forall_mem_cons.mpr ⟨(wa_40 _ (List.mem_of_getElem? (i := 4) (by decide +kernel))), (List.forall_mem_cons.mpr ⟨(wa_40 _ (List.mem_of_getElem? (i := 1) (by decide +kernel))), (List.forall_mem_cons.mpr ⟨(wa_40 _ (List.mem_of_getElem? (i := 2) (by decide +kernel))), (List.forall_mem_cons.mpr ⟨(wa_40 _ (List.mem_of_getElem? (i := 3) (by decide +kernel))), (List.forall_mem_cons.mpr ⟨(wa_1 _ (List.mem_of_getElem? (i := 2) (by decide +kernel))), (fun _ h => absurd h List.not_mem_nil)⟩)⟩)⟩)⟩)⟩)) rfl rfl rfl (by decide +kernel) ⟨(Nat.le_of_ble_eq_true rfl), (Nat.le_of_ble_eq_true rfl)⟩) hX.sp.1 kX10 rfl hl.1 rfl (Nat.le_of_ble_eq_true rfl) dL_law_1082 ⟨by show _ ≤ 600000; omega, by show _ ≤ 7302249; omega⟩) hW (fun r1 V1 H locs hp hW => ?_)
  obtain ⟨e1, hk1⟩ := hp
  obtain rfl := e1
  have hX := hX.k hk1
  have hM := hM.hi (fun _ _ => rfl) hk1.f
  refine lv_aload_n hx hb dL_law_1085 rfl (lv_at hl 2 rfl) ?_
  refine lv_aload_n hx hb dL_law_1086 rfl (lv_at hl 0 rfl) ?_
  refine lv_iload_n hx hb dL_law_1087 rfl (lv_at hl 3 rfl) ?_
  refine lv_iconst (v := nI 1) hx hb dL_law_1088 (by decide) ?_
  refine lv_iadd hx hb dL_law_1089 ?_
  refine m_top (y := nI (7 * k + 1)) (nI_add (7 * k) 1) ?_
  refine va_sld hx hb hXs hbl hbA hW.2.2.1 (vp_in_nI (by omega) (by omega)) dL_law_1090 ?_
  refine lv_aload_n hx hb dL_law_1091 rfl (lv_at hl 0 rfl) ?_
  refine lv_iload_n hx hb dL_law_1092 rfl (lv_at hl 3 rfl) ?_
  refine lv_iconst (v := nI 2) hx hb dL_law_1093 (by decide) ?_
  refine lv_iadd hx hb dL_law_1094 ?_
  refine m_top (y := nI (7 * k + 2)) (nI_add (7 * k) 2) ?_
  refine va_sld hx hb hXs hbl hbA hW.2.2.1 (vp_in_nI (by omega) (by omega)) dL_law_1095 ?_
  refine lv_aload_n hx hb dL_law_1096 rfl (lv_at hl 0 rfl) ?_
  refine lv_iload_n hx hb dL_law_1097 rfl (lv_at hl 3 rfl) ?_
  refine lv_iconst (v := nI 3) hx hb dL_law_1098 (by decide) ?_
  refine lv_iadd hx hb dL_law_1099 ?_
  refine m_top (y := nI (7 * k + 3)) (nI_add (7 * k) 3) ?_
  refine va_sld hx hb hXs hbl hbA hW.2.2.1 (vp_in_nI (by omega) (by omega)) dL_law_1100 ?_
  refine m_ci (m_rV S hW (c_X11_ends l G ad sh V1 q (xs (nI (7 * k + 1)).toNatClampNeg) (xs (nI (7 * k + 2)).toNatClampNeg) (xs (nI (7 * k + 3)).toNatClampNeg) hM) (cwV 3 hts (gCall [.methodLink RL 118 yX11_ends, .instanceMethod yX11_ends, .selects RX11 yX11_ends yX11_ends, .initialized RX11] (List.forall_mem_cons.mpr ⟨(wa_40 _ (List.mem_of_getElem? (i := 8) (by decide +kernel))), (List.forall_mem_cons.mpr ⟨(wa_40 _ (List.mem_of_getElem? (i := 5) (by decide +kernel))), (List.forall_mem_cons.mpr ⟨(wa_40 _ (List.mem_of_getElem? (i := 6) (by decide +kernel))), (List.forall_mem_cons.mpr ⟨(wa_40 _ (List.mem_of_getElem? (i := 7) (by decide +kernel))), (List.forall_mem_cons.mpr ⟨(wa_1 _ (List.mem_of_getElem? (i := 5) (by decide +kernel))), (fun _ h => absurd h List.not_mem_nil)⟩)⟩)⟩)⟩)⟩)) rfl rfl rfl (by decide +kernel) ⟨(Nat.le_of_ble_eq_true rfl), (Nat.le_of_ble_eq_true rfl)⟩) hM.s200 kX11 rfl hl.1 rfl (Nat.le_of_ble_eq_true rfl) dL_law_1101 ⟨by show _ ≤ 600000; omega, by show _ ≤ 7302249; omega⟩) hW (fun r2 V2 H locs hp hW => ?_)
  obtain ⟨e2, hk2⟩ := hp
  obtain rfl := e2
  have hX2 := hX.lo hk2.f
  have hM2 := hM.k hk2
  refine lv_icmp_eq (tgt := 1543) hx hb dL_law_1104 (by decide) (fun c1 => ?_) (fun c1 => ?_)
  · refine W.widen (k := cells + 3) (n := slots + 197) (by omega) (by omega) ?_
    exact kk ad sh V2 _ _ _ ls hX2 hM2 hN hW hl
  · exact absurd rfl c1
set_option maxHeartbeats 4000000 in
set_option maxRecDepth 100000 in
theorem law_c25 (S : CallFix p m c cL_law 4 s #[Value.ref b] wsLaw RL) (hXs : va_X b L xs s s.heap) (hbl : b < s.heap.size) (hL : L ≤ 3584) (hk : 7 * k + 7 ≤ L) (hcs : cells + 3 ≤ 600000 ∧ slots + 197 ≤ 7302249) (hX : XI sh V q) (hM : MI sh V q) (hN : NoT sh (gTxs q).length) (hW : mC (fun z => s.heap.size ≤ z) s.heap s G ad sh V H locs) (hl : lv_has ls 4 [(0, .ref b), (1, .ref (ad 0)), (2, .ref (ad 200)), (3, .int (nI (7 * k)))]) (kk : LwK p l e s m below meth c b k G cells slots Q) : W p l e room_1 s m #[Value.ref b] below meth c H locs cells slots Q (F0 m 1109 ls []) := by
  obtain ⟨hx, hb, hml, hown, hts⟩ := id S
  have hbA : ¬ (fun z : Nat => s.heap.size ≤ z) b := Nat.not_le.mpr hbl
  refine lv_aload_n hx hb dL_law_1109 rfl (lv_at hl 1 rfl) ?_
  refine lv_aload_n hx hb dL_law_1110 rfl (lv_at hl 0 rfl) ?_
  refine lv_iload_n hx hb dL_law_1111 rfl (lv_at hl 3 rfl) ?_
  refine lv_iconst (v := nI 1) hx hb dL_law_1112 (by decide) ?_
  refine lv_iadd hx hb dL_law_1113 ?_
  refine m_top (y := nI (7 * k + 1)) (nI_add (7 * k) 1) ?_
  refine va_sld hx hb hXs hbl hbA hW.2.2.1 (vp_in_nI (by omega) (by omega)) dL_law_1114 ?_
  refine m_ci (m_rV S hW (c_X10_laws l G ad sh V q (xs (nI (7 * k + 1)).toNatClampNeg) hX) (cwV 1 hts (gCall [.methodLink RL 119 yX10_laws, .instanceMethod yX10_laws, .selects RX10 yX10_laws yX10_laws, .initialized RX10] (List.forall_mem_cons.mpr ⟨(wa_40 _ (List.mem_of_getElem? (i := 12) (by decide +kernel))), (List.forall_mem_cons.mpr ⟨(wa_40 _ (List.mem_of_getElem? (i := 9) (by decide +kernel))), (List.forall_mem_cons.mpr ⟨(wa_40 _ (List.mem_of_getElem? (i := 10) (by decide +kernel))), (List.forall_mem_cons.mpr ⟨(wa_40 _ (List.mem_of_getElem? (i := 11) (by decide +kernel))), (List.forall_mem_cons.mpr ⟨(wa_1 _ (List.mem_of_getElem? (i := 2) (by decide +kernel))), (fun _ h => absurd h List.not_mem_nil)⟩)⟩)⟩)⟩)⟩)) rfl rfl rfl (by decide +kernel) ⟨(Nat.le_of_ble_eq_true rfl), (Nat.le_of_ble_eq_true rfl)⟩) hX.sp.1 kX10 rfl hl.1 rfl (Nat.le_of_ble_eq_true rfl) dL_law_1115 ⟨by show _ ≤ 600000; omega, by show _ ≤ 7302249; omega⟩) hW (fun r1 V1 H locs hp hW => ?_)
  obtain ⟨e1, hk1⟩ := hp
  obtain rfl := e1
  have hX := hX.k hk1
  have hM := hM.hi (fun _ _ => rfl) hk1.f
  refine lv_aload_n hx hb dL_law_1118 rfl (lv_at hl 2 rfl) ?_
  refine lv_aload_n hx hb dL_law_1119 rfl (lv_at hl 0 rfl) ?_
  refine lv_iload_n hx hb dL_law_1120 rfl (lv_at hl 3 rfl) ?_
  refine lv_iconst (v := nI 1) hx hb dL_law_1121 (by decide) ?_
  refine lv_iadd hx hb dL_law_1122 ?_
  refine m_top (y := nI (7 * k + 1)) (nI_add (7 * k) 1) ?_
  refine va_sld hx hb hXs hbl hbA hW.2.2.1 (vp_in_nI (by omega) (by omega)) dL_law_1123 ?_
  refine m_ci (m_rV S hW (c_X11_laws l G ad sh V1 q (xs (nI (7 * k + 1)).toNatClampNeg) hM) (cwV 1 hts (gCall [.methodLink RL 122 yX11_laws, .instanceMethod yX11_laws, .selects RX11 yX11_laws yX11_laws, .initialized RX11] (List.forall_mem_cons.mpr ⟨(wa_40 _ (List.mem_of_getElem? (i := 16) (by decide +kernel))), (List.forall_mem_cons.mpr ⟨(wa_40 _ (List.mem_of_getElem? (i := 13) (by decide +kernel))), (List.forall_mem_cons.mpr ⟨(wa_40 _ (List.mem_of_getElem? (i := 14) (by decide +kernel))), (List.forall_mem_cons.mpr ⟨(wa_40 _ (List.mem_of_getElem? (i := 15) (by decide +kernel))), (List.forall_mem_cons.mpr ⟨(wa_1 _ (List.mem_of_getElem? (i := 5) (by decide +kernel))), (fun _ h => absurd h List.not_mem_nil)⟩)⟩)⟩)⟩)⟩)) rfl rfl rfl (by decide +kernel) ⟨(Nat.le_of_ble_eq_true rfl), (Nat.le_of_ble_eq_true rfl)⟩) hM.s200 kX11 rfl hl.1 rfl (Nat.le_of_ble_eq_true rfl) dL_law_1124 ⟨by show _ ≤ 600000; omega, by show _ ≤ 7302249; omega⟩) hW (fun r2 V2 H locs hp hW => ?_)
  obtain ⟨e2, hk2⟩ := hp
  obtain rfl := e2
  have hX2 := hX.lo hk2.f
  have hM2 := hM.k hk2
  refine lv_icmp_eq (tgt := 1543) hx hb dL_law_1127 (by decide) (fun c1 => ?_) (fun c1 => ?_)
  · refine W.widen (k := cells + 3) (n := slots + 197) (by omega) (by omega) ?_
    exact kk ad sh V2 _ _ _ ls hX2 hM2 hN hW hl
  · exact absurd rfl c1
set_option maxHeartbeats 4000000 in
set_option maxRecDepth 100000 in
theorem law_c26 (S : CallFix p m c cL_law 4 s #[Value.ref b] wsLaw RL) (hXs : va_X b L xs s s.heap) (hbl : b < s.heap.size) (hL : L ≤ 3584) (hk : 7 * k + 7 ≤ L) (hcs : cells + 3 ≤ 600000 ∧ slots + 197 ≤ 7302249) (hX : XI sh V q) (hM : MI sh V q) (hN : NoT sh (gTxs q).length) (hW : mC (fun z => s.heap.size ≤ z) s.heap s G ad sh V H locs) (hl : lv_has ls 4 [(0, .ref b), (1, .ref (ad 0)), (2, .ref (ad 200)), (3, .int (nI (7 * k)))]) (kk : LwK p l e s m below meth c b k G cells slots Q) : W p l e room_1 s m #[Value.ref b] below meth c H locs cells slots Q (F0 m 1132 ls []) := by
  obtain ⟨hx, hb, hml, hown, hts⟩ := id S
  have hbA : ¬ (fun z : Nat => s.heap.size ≤ z) b := Nat.not_le.mpr hbl
  refine lv_aload_n hx hb dL_law_1132 rfl (lv_at hl 1 rfl) ?_
  refine lv_aload_n hx hb dL_law_1133 rfl (lv_at hl 0 rfl) ?_
  refine lv_iload_n hx hb dL_law_1134 rfl (lv_at hl 3 rfl) ?_
  refine lv_iconst (v := nI 1) hx hb dL_law_1135 (by decide) ?_
  refine lv_iadd hx hb dL_law_1136 ?_
  refine m_top (y := nI (7 * k + 1)) (nI_add (7 * k) 1) ?_
  refine va_sld hx hb hXs hbl hbA hW.2.2.1 (vp_in_nI (by omega) (by omega)) dL_law_1137 ?_
  refine lv_aload_n hx hb dL_law_1138 rfl (lv_at hl 0 rfl) ?_
  refine lv_iload_n hx hb dL_law_1139 rfl (lv_at hl 3 rfl) ?_
  refine lv_iconst (v := nI 2) hx hb dL_law_1140 (by decide) ?_
  refine lv_iadd hx hb dL_law_1141 ?_
  refine m_top (y := nI (7 * k + 2)) (nI_add (7 * k) 2) ?_
  refine va_sld hx hb hXs hbl hbA hW.2.2.1 (vp_in_nI (by omega) (by omega)) dL_law_1142 ?_
  refine m_ci (m_rV S hW (c_X10_film l G ad sh V q (xs (nI (7 * k + 1)).toNatClampNeg) (xs (nI (7 * k + 2)).toNatClampNeg) hX) (cwV 2 hts (gCall [.methodLink RL 123 yX10_film, .instanceMethod yX10_film, .selects RX10 yX10_film yX10_film, .initialized RX10] (List.forall_mem_cons.mpr ⟨(wa_40 _ (List.mem_of_getElem? (i := 20) (by decide +kernel))), (List.forall_mem_cons.mpr ⟨(wa_40 _ (List.mem_of_getElem? (i := 17) (by decide +kernel))), (List.forall_mem_cons.mpr ⟨(wa_40 _ (List.mem_of_getElem? (i := 18) (by decide +kernel))), (List.forall_mem_cons.mpr ⟨(wa_40 _ (List.mem_of_getElem? (i := 19) (by decide +kernel))), (List.forall_mem_cons.mpr ⟨(wa_1 _ (List.mem_of_getElem? (i := 2) (by decide +kernel))), (fun _ h => absurd h List.not_mem_nil)⟩)⟩)⟩)⟩)⟩)) rfl rfl rfl (by decide +kernel) ⟨(Nat.le_of_ble_eq_true rfl), (Nat.le_of_ble_eq_true rfl)⟩) hX.sp.1 kX10 rfl hl.1 rfl (Nat.le_of_ble_eq_true rfl) dL_law_1143 ⟨by show _ ≤ 600000; omega, by show _ ≤ 7302249; omega⟩) hW (fun r1 V1 H locs hp hW => ?_)
  obtain ⟨e1, hX1, hf1⟩ := hp
  obtain rfl := e1
  have hM := hM.hi (fun _ _ => rfl) hf1
  refine lv_aload_n hx hb dL_law_1146 rfl (lv_at hl 2 rfl) ?_
  refine lv_aload_n hx hb dL_law_1147 rfl (lv_at hl 0 rfl) ?_
  refine lv_iload_n hx hb dL_law_1148 rfl (lv_at hl 3 rfl) ?_
  refine lv_iconst (v := nI 1) hx hb dL_law_1149 (by decide) ?_
  refine lv_iadd hx hb dL_law_1150 ?_
  refine m_top (y := nI (7 * k + 1)) (nI_add (7 * k) 1) ?_
  refine va_sld hx hb hXs hbl hbA hW.2.2.1 (vp_in_nI (by omega) (by omega)) dL_law_1151 ?_
  refine lv_aload_n hx hb dL_law_1152 rfl (lv_at hl 0 rfl) ?_
  refine lv_iload_n hx hb dL_law_1153 rfl (lv_at hl 3 rfl) ?_
  refine lv_iconst (v := nI 2) hx hb dL_law_1154 (by decide) ?_
  refine lv_iadd hx hb dL_law_1155 ?_
  refine m_top (y := nI (7 * k + 2)) (nI_add (7 * k) 2) ?_
  refine va_sld hx hb hXs hbl hbA hW.2.2.1 (vp_in_nI (by omega) (by omega)) dL_law_1156 ?_
  refine m_ci (m_rV S hW (c_X11_film l G ad sh V1 q (xs (nI (7 * k + 1)).toNatClampNeg) (xs (nI (7 * k + 2)).toNatClampNeg) hM) (cwV 2 hts (gCall [.methodLink RL 126 yX11_film, .instanceMethod yX11_film, .selects RX11 yX11_film yX11_film, .initialized RX11] (List.forall_mem_cons.mpr ⟨(wa_41 _ (List.mem_of_getElem? (i := 18) (by decide +kernel))), (List.forall_mem_cons.mpr ⟨(wa_41 _ (List.mem_of_getElem? (i := 15) (by decide +kernel))), (List.forall_mem_cons.mpr ⟨(wa_41 _ (List.mem_of_getElem? (i := 16) (by decide +kernel))), (List.forall_mem_cons.mpr ⟨(wa_41 _ (List.mem_of_getElem? (i := 17) (by decide +kernel))), (List.forall_mem_cons.mpr ⟨(wa_1 _ (List.mem_of_getElem? (i := 5) (by decide +kernel))), (fun _ h => absurd h List.not_mem_nil)⟩)⟩)⟩)⟩)⟩)) rfl rfl rfl (by decide +kernel) ⟨(Nat.le_of_ble_eq_true rfl), (Nat.le_of_ble_eq_true rfl)⟩) hM.s200 kX11 rfl hl.1 rfl (Nat.le_of_ble_eq_true rfl) dL_law_1157 ⟨by show _ ≤ 600000; omega, by show _ ≤ 7302249; omega⟩) hW (fun r2 V2 H locs hp hW => ?_)
  obtain ⟨e2, hM2, hf2⟩ := hp
  obtain rfl := e2
  have hX2 := hX1.lo hf2
  refine lv_icmp_eq (tgt := 1543) hx hb dL_law_1160 (by decide) (fun c1 => ?_) (fun c1 => ?_)
  · refine W.widen (k := cells + 3) (n := slots + 197) (by omega) (by omega) ?_
    exact kk ad sh V2 _ _ _ ls hX2 hM2 (by rw [nFilm_tx]; exact hN) hW hl
  · exact absurd rfl c1
set_option maxHeartbeats 4000000 in
set_option maxRecDepth 100000 in
theorem law_c27 (S : CallFix p m c cL_law 4 s #[Value.ref b] wsLaw RL) (hXs : va_X b L xs s s.heap) (hbl : b < s.heap.size) (hL : L ≤ 3584) (hk : 7 * k + 7 ≤ L) (hcs : cells + 3 ≤ 600000 ∧ slots + 197 ≤ 7302249) (hX : XI sh V q) (hM : MI sh V q) (hN : NoT sh (gTxs q).length) (hW : mC (fun z => s.heap.size ≤ z) s.heap s G ad sh V H locs) (hl : lv_has ls 4 [(0, .ref b), (1, .ref (ad 0)), (2, .ref (ad 200)), (3, .int (nI (7 * k)))]) (kk : LwK p l e s m below meth c b k G cells slots Q) : W p l e room_1 s m #[Value.ref b] below meth c H locs cells slots Q (F0 m 1165 ls []) := by
  obtain ⟨hx, hb, hml, hown, hts⟩ := id S
  have hbA : ¬ (fun z : Nat => s.heap.size ≤ z) b := Nat.not_le.mpr hbl
  refine lv_aload_n hx hb dL_law_1165 rfl (lv_at hl 1 rfl) ?_
  refine lv_aload_n hx hb dL_law_1166 rfl (lv_at hl 0 rfl) ?_
  refine lv_iload_n hx hb dL_law_1167 rfl (lv_at hl 3 rfl) ?_
  refine lv_iconst (v := nI 1) hx hb dL_law_1168 (by decide) ?_
  refine lv_iadd hx hb dL_law_1169 ?_
  refine m_top (y := nI (7 * k + 1)) (nI_add (7 * k) 1) ?_
  refine va_sld hx hb hXs hbl hbA hW.2.2.1 (vp_in_nI (by omega) (by omega)) dL_law_1170 ?_
  refine lv_aload_n hx hb dL_law_1171 rfl (lv_at hl 0 rfl) ?_
  refine lv_iload_n hx hb dL_law_1172 rfl (lv_at hl 3 rfl) ?_
  refine lv_iconst (v := nI 2) hx hb dL_law_1173 (by decide) ?_
  refine lv_iadd hx hb dL_law_1174 ?_
  refine m_top (y := nI (7 * k + 2)) (nI_add (7 * k) 2) ?_
  refine va_sld hx hb hXs hbl hbA hW.2.2.1 (vp_in_nI (by omega) (by omega)) dL_law_1175 ?_
  refine lv_aload_n hx hb dL_law_1176 rfl (lv_at hl 0 rfl) ?_
  refine lv_iload_n hx hb dL_law_1177 rfl (lv_at hl 3 rfl) ?_
  refine lv_iconst (v := nI 3) hx hb dL_law_1178 (by decide) ?_
  refine lv_iadd hx hb dL_law_1179 ?_
  refine m_top (y := nI (7 * k + 3)) (nI_add (7 * k) 3) ?_
  refine va_sld hx hb hXs hbl hbA hW.2.2.1 (vp_in_nI (by omega) (by omega)) dL_law_1180 ?_
  refine lv_aload_n hx hb dL_law_1181 rfl (lv_at hl 0 rfl) ?_
  refine lv_iload_n hx hb dL_law_1182 rfl (lv_at hl 3 rfl) ?_
  refine lv_iconst (v := nI 4) hx hb dL_law_1183 (by decide) ?_
  refine lv_iadd hx hb dL_law_1184 ?_
  refine m_top (y := nI (7 * k + 4)) (nI_add (7 * k) 4) ?_
  refine va_sld hx hb hXs hbl hbA hW.2.2.1 (vp_in_nI (by omega) (by omega)) dL_law_1185 ?_
  refine m_ci (m_rV S hW (c_X10_drawn l G ad sh V q (xs (nI (7 * k + 1)).toNatClampNeg) (xs (nI (7 * k + 2)).toNatClampNeg) (xs (nI (7 * k + 3)).toNatClampNeg) (xs (nI (7 * k + 4)).toNatClampNeg) hX) (cwV 4 hts (gCall [.methodLink RL 127 yX10_drawn, .instanceMethod yX10_drawn, .selects RX10 yX10_drawn yX10_drawn, .initialized RX10] (List.forall_mem_cons.mpr ⟨(wa_41 _ (List.mem_of_getElem? (i := 22) (by decide +kernel))), (List.forall_mem_cons.mpr ⟨(wa_41 _ (List.mem_of_getElem? (i := 19) (by decide +kernel))), (List.forall_mem_cons.mpr ⟨(wa_41 _ (List.mem_of_getElem? (i := 20) (by decide +kernel))), (List.forall_mem_cons.mpr ⟨(wa_41 _ (List.mem_of_getElem? (i := 21) (by decide +kernel))), (List.forall_mem_cons.mpr ⟨(wa_1 _ (List.mem_of_getElem? (i := 2) (by decide +kernel))), (fun _ h => absurd h List.not_mem_nil)⟩)⟩)⟩)⟩)⟩)) rfl rfl rfl (by decide +kernel) ⟨(Nat.le_of_ble_eq_true rfl), (Nat.le_of_ble_eq_true rfl)⟩) hX.sp.1 kX10 rfl hl.1 rfl (Nat.le_of_ble_eq_true rfl) dL_law_1186 ⟨by show _ ≤ 600000; omega, by show _ ≤ 7302249; omega⟩) hW (fun r1 V1 H locs hp hW => ?_)
  obtain ⟨e1, hk1⟩ := hp
  obtain rfl := e1
  have hX := hX.k hk1
  have hM := hM.hi (fun _ _ => rfl) hk1.f
  refine lv_aload_n hx hb dL_law_1189 rfl (lv_at hl 2 rfl) ?_
  refine lv_aload_n hx hb dL_law_1190 rfl (lv_at hl 0 rfl) ?_
  refine lv_iload_n hx hb dL_law_1191 rfl (lv_at hl 3 rfl) ?_
  refine lv_iconst (v := nI 1) hx hb dL_law_1192 (by decide) ?_
  refine lv_iadd hx hb dL_law_1193 ?_
  refine m_top (y := nI (7 * k + 1)) (nI_add (7 * k) 1) ?_
  refine va_sld hx hb hXs hbl hbA hW.2.2.1 (vp_in_nI (by omega) (by omega)) dL_law_1194 ?_
  refine lv_aload_n hx hb dL_law_1195 rfl (lv_at hl 0 rfl) ?_
  refine lv_iload_n hx hb dL_law_1196 rfl (lv_at hl 3 rfl) ?_
  refine lv_iconst (v := nI 2) hx hb dL_law_1197 (by decide) ?_
  refine lv_iadd hx hb dL_law_1198 ?_
  refine m_top (y := nI (7 * k + 2)) (nI_add (7 * k) 2) ?_
  refine va_sld hx hb hXs hbl hbA hW.2.2.1 (vp_in_nI (by omega) (by omega)) dL_law_1199 ?_
  refine lv_aload_n hx hb dL_law_1200 rfl (lv_at hl 0 rfl) ?_
  refine lv_iload_n hx hb dL_law_1201 rfl (lv_at hl 3 rfl) ?_
  refine lv_iconst (v := nI 3) hx hb dL_law_1202 (by decide) ?_
  refine lv_iadd hx hb dL_law_1203 ?_
  refine m_top (y := nI (7 * k + 3)) (nI_add (7 * k) 3) ?_
  refine va_sld hx hb hXs hbl hbA hW.2.2.1 (vp_in_nI (by omega) (by omega)) dL_law_1204 ?_
  refine lv_aload_n hx hb dL_law_1205 rfl (lv_at hl 0 rfl) ?_
  refine lv_iload_n hx hb dL_law_1206 rfl (lv_at hl 3 rfl) ?_
  refine lv_iconst (v := nI 4) hx hb dL_law_1207 (by decide) ?_
  refine lv_iadd hx hb dL_law_1208 ?_
  refine m_top (y := nI (7 * k + 4)) (nI_add (7 * k) 4) ?_
  refine va_sld hx hb hXs hbl hbA hW.2.2.1 (vp_in_nI (by omega) (by omega)) dL_law_1209 ?_
  refine m_ci (m_rV S hW (c_X11_drawn l G ad sh V1 q (xs (nI (7 * k + 1)).toNatClampNeg) (xs (nI (7 * k + 2)).toNatClampNeg) (xs (nI (7 * k + 3)).toNatClampNeg) (xs (nI (7 * k + 4)).toNatClampNeg) hM) (cwV 4 hts (gCall [.methodLink RL 130 yX11_drawn, .instanceMethod yX11_drawn, .selects RX11 yX11_drawn yX11_drawn, .initialized RX11] (List.forall_mem_cons.mpr ⟨(wa_42 _ (List.mem_of_getElem? (i := 12) (by decide +kernel))), (List.forall_mem_cons.mpr ⟨(wa_42 _ (List.mem_of_getElem? (i := 9) (by decide +kernel))), (List.forall_mem_cons.mpr ⟨(wa_42 _ (List.mem_of_getElem? (i := 10) (by decide +kernel))), (List.forall_mem_cons.mpr ⟨(wa_42 _ (List.mem_of_getElem? (i := 11) (by decide +kernel))), (List.forall_mem_cons.mpr ⟨(wa_1 _ (List.mem_of_getElem? (i := 5) (by decide +kernel))), (fun _ h => absurd h List.not_mem_nil)⟩)⟩)⟩)⟩)⟩)) rfl rfl rfl (by decide +kernel) ⟨(Nat.le_of_ble_eq_true rfl), (Nat.le_of_ble_eq_true rfl)⟩) hM.s200 kX11 rfl hl.1 rfl (Nat.le_of_ble_eq_true rfl) dL_law_1210 ⟨by show _ ≤ 600000; omega, by show _ ≤ 7302249; omega⟩) hW (fun r2 V2 H locs hp hW => ?_)
  obtain ⟨e2, hk2⟩ := hp
  obtain rfl := e2
  have hX2 := hX.lo hk2.f
  have hM2 := hM.k hk2
  refine lv_icmp_eq (tgt := 1543) hx hb dL_law_1213 (by decide) (fun c1 => ?_) (fun c1 => ?_)
  · refine W.widen (k := cells + 3) (n := slots + 197) (by omega) (by omega) ?_
    exact kk ad sh V2 _ _ _ ls hX2 hM2 hN hW hl
  · exact absurd rfl c1
set_option maxHeartbeats 4000000 in
set_option maxRecDepth 100000 in
theorem law_c28 (S : CallFix p m c cL_law 4 s #[Value.ref b] wsLaw RL) (hXs : va_X b L xs s s.heap) (hbl : b < s.heap.size) (hL : L ≤ 3584) (hk : 7 * k + 7 ≤ L) (hcs : cells + 3 ≤ 600000 ∧ slots + 197 ≤ 7302249) (hX : XI sh V q) (hM : MI sh V q) (hN : NoT sh (gTxs q).length) (hW : mC (fun z => s.heap.size ≤ z) s.heap s G ad sh V H locs) (hl : lv_has ls 4 [(0, .ref b), (1, .ref (ad 0)), (2, .ref (ad 200)), (3, .int (nI (7 * k)))]) (kk : LwK p l e s m below meth c b k G cells slots Q) : W p l e room_1 s m #[Value.ref b] below meth c H locs cells slots Q (F0 m 1218 ls []) := by
  obtain ⟨hx, hb, hml, hown, hts⟩ := id S
  have hbA : ¬ (fun z : Nat => s.heap.size ≤ z) b := Nat.not_le.mpr hbl
  refine lv_aload_n hx hb dL_law_1218 rfl (lv_at hl 1 rfl) ?_
  refine lv_aload_n hx hb dL_law_1219 rfl (lv_at hl 0 rfl) ?_
  refine lv_iload_n hx hb dL_law_1220 rfl (lv_at hl 3 rfl) ?_
  refine lv_iconst (v := nI 1) hx hb dL_law_1221 (by decide) ?_
  refine lv_iadd hx hb dL_law_1222 ?_
  refine m_top (y := nI (7 * k + 1)) (nI_add (7 * k) 1) ?_
  refine va_sld hx hb hXs hbl hbA hW.2.2.1 (vp_in_nI (by omega) (by omega)) dL_law_1223 ?_
  refine lv_aload_n hx hb dL_law_1224 rfl (lv_at hl 0 rfl) ?_
  refine lv_iload_n hx hb dL_law_1225 rfl (lv_at hl 3 rfl) ?_
  refine lv_iconst (v := nI 2) hx hb dL_law_1226 (by decide) ?_
  refine lv_iadd hx hb dL_law_1227 ?_
  refine m_top (y := nI (7 * k + 2)) (nI_add (7 * k) 2) ?_
  refine va_sld hx hb hXs hbl hbA hW.2.2.1 (vp_in_nI (by omega) (by omega)) dL_law_1228 ?_
  refine lv_aload_n hx hb dL_law_1229 rfl (lv_at hl 0 rfl) ?_
  refine lv_iload_n hx hb dL_law_1230 rfl (lv_at hl 3 rfl) ?_
  refine lv_iconst (v := nI 3) hx hb dL_law_1231 (by decide) ?_
  refine lv_iadd hx hb dL_law_1232 ?_
  refine m_top (y := nI (7 * k + 3)) (nI_add (7 * k) 3) ?_
  refine va_sld hx hb hXs hbl hbA hW.2.2.1 (vp_in_nI (by omega) (by omega)) dL_law_1233 ?_
  refine lv_aload_n hx hb dL_law_1234 rfl (lv_at hl 0 rfl) ?_
  refine lv_iload_n hx hb dL_law_1235 rfl (lv_at hl 3 rfl) ?_
  refine lv_iconst (v := nI 4) hx hb dL_law_1236 (by decide) ?_
  refine lv_iadd hx hb dL_law_1237 ?_
  refine m_top (y := nI (7 * k + 4)) (nI_add (7 * k) 4) ?_
  refine va_sld hx hb hXs hbl hbA hW.2.2.1 (vp_in_nI (by omega) (by omega)) dL_law_1238 ?_
  refine lv_aload_n hx hb dL_law_1239 rfl (lv_at hl 0 rfl) ?_
  refine lv_iload_n hx hb dL_law_1240 rfl (lv_at hl 3 rfl) ?_
  refine lv_iconst (v := nI 5) hx hb dL_law_1241 (by decide) ?_
  refine lv_iadd hx hb dL_law_1242 ?_
  refine m_top (y := nI (7 * k + 5)) (nI_add (7 * k) 5) ?_
  refine va_sld hx hb hXs hbl hbA hW.2.2.1 (vp_in_nI (by omega) (by omega)) dL_law_1243 ?_
  refine m_cl (m_rV S hW (c_X10_odds l G ad sh V q (xs (nI (7 * k + 1)).toNatClampNeg) (xs (nI (7 * k + 2)).toNatClampNeg) (xs (nI (7 * k + 3)).toNatClampNeg) (xs (nI (7 * k + 4)).toNatClampNeg) (xs (nI (7 * k + 5)).toNatClampNeg) hX) (cwV 5 hts (gCall [.methodLink RL 131 yX10_odds, .instanceMethod yX10_odds, .selects RX10 yX10_odds yX10_odds, .initialized RX10] (List.forall_mem_cons.mpr ⟨(wa_43 _ (List.mem_of_getElem? (i := 4) (by decide +kernel))), (List.forall_mem_cons.mpr ⟨(wa_43 _ (List.mem_of_getElem? (i := 1) (by decide +kernel))), (List.forall_mem_cons.mpr ⟨(wa_43 _ (List.mem_of_getElem? (i := 2) (by decide +kernel))), (List.forall_mem_cons.mpr ⟨(wa_43 _ (List.mem_of_getElem? (i := 3) (by decide +kernel))), (List.forall_mem_cons.mpr ⟨(wa_1 _ (List.mem_of_getElem? (i := 2) (by decide +kernel))), (fun _ h => absurd h List.not_mem_nil)⟩)⟩)⟩)⟩)⟩)) rfl rfl rfl (by decide +kernel) ⟨(Nat.le_of_ble_eq_true rfl), (Nat.le_of_ble_eq_true rfl)⟩) hX.sp.1 kX10 rfl hl.1 rfl (Nat.le_of_ble_eq_true rfl) dL_law_1244 ⟨by show _ ≤ 600000; omega, by show _ ≤ 7302249; omega⟩) hW (fun r1 V1 H locs hp hW => ?_)
  obtain ⟨e1, hk1⟩ := hp
  obtain rfl := e1
  have hX := hX.k hk1
  have hM := hM.hi (fun _ _ => rfl) hk1.f
  refine lv_aload_n hx hb dL_law_1247 rfl (lv_at hl 2 rfl) ?_
  refine lv_aload_n hx hb dL_law_1248 rfl (lv_at hl 0 rfl) ?_
  refine lv_iload_n hx hb dL_law_1249 rfl (lv_at hl 3 rfl) ?_
  refine lv_iconst (v := nI 1) hx hb dL_law_1250 (by decide) ?_
  refine lv_iadd hx hb dL_law_1251 ?_
  refine m_top (y := nI (7 * k + 1)) (nI_add (7 * k) 1) ?_
  refine va_sld hx hb hXs hbl hbA hW.2.2.1 (vp_in_nI (by omega) (by omega)) dL_law_1252 ?_
  refine lv_aload_n hx hb dL_law_1253 rfl (lv_at hl 0 rfl) ?_
  refine lv_iload_n hx hb dL_law_1254 rfl (lv_at hl 3 rfl) ?_
  refine lv_iconst (v := nI 2) hx hb dL_law_1255 (by decide) ?_
  refine lv_iadd hx hb dL_law_1256 ?_
  refine m_top (y := nI (7 * k + 2)) (nI_add (7 * k) 2) ?_
  refine va_sld hx hb hXs hbl hbA hW.2.2.1 (vp_in_nI (by omega) (by omega)) dL_law_1257 ?_
  refine lv_aload_n hx hb dL_law_1258 rfl (lv_at hl 0 rfl) ?_
  refine lv_iload_n hx hb dL_law_1259 rfl (lv_at hl 3 rfl) ?_
  refine lv_iconst (v := nI 3) hx hb dL_law_1260 (by decide) ?_
  refine lv_iadd hx hb dL_law_1261 ?_
  refine m_top (y := nI (7 * k + 3)) (nI_add (7 * k) 3) ?_
  refine va_sld hx hb hXs hbl hbA hW.2.2.1 (vp_in_nI (by omega) (by omega)) dL_law_1262 ?_
  refine lv_aload_n hx hb dL_law_1263 rfl (lv_at hl 0 rfl) ?_
  refine lv_iload_n hx hb dL_law_1264 rfl (lv_at hl 3 rfl) ?_
  refine lv_iconst (v := nI 4) hx hb dL_law_1265 (by decide) ?_
  refine lv_iadd hx hb dL_law_1266 ?_
  refine m_top (y := nI (7 * k + 4)) (nI_add (7 * k) 4) ?_
  refine va_sld hx hb hXs hbl hbA hW.2.2.1 (vp_in_nI (by omega) (by omega)) dL_law_1267 ?_
  refine lv_aload_n hx hb dL_law_1268 rfl (lv_at hl 0 rfl) ?_
  refine lv_iload_n hx hb dL_law_1269 rfl (lv_at hl 3 rfl) ?_
  refine lv_iconst (v := nI 5) hx hb dL_law_1270 (by decide) ?_
  refine lv_iadd hx hb dL_law_1271 ?_
  refine m_top (y := nI (7 * k + 5)) (nI_add (7 * k) 5) ?_
  refine va_sld hx hb hXs hbl hbA hW.2.2.1 (vp_in_nI (by omega) (by omega)) dL_law_1272 ?_
  refine m_cl (m_rV S hW (c_X11_odds l G ad sh V1 q (xs (nI (7 * k + 1)).toNatClampNeg) (xs (nI (7 * k + 2)).toNatClampNeg) (xs (nI (7 * k + 3)).toNatClampNeg) (xs (nI (7 * k + 4)).toNatClampNeg) (xs (nI (7 * k + 5)).toNatClampNeg) hM) (cwV 5 hts (gCall [.methodLink RL 135 yX11_odds, .instanceMethod yX11_odds, .selects RX11 yX11_odds yX11_odds, .initialized RX11] (List.forall_mem_cons.mpr ⟨(wa_43 _ (List.mem_of_getElem? (i := 12) (by decide +kernel))), (List.forall_mem_cons.mpr ⟨(wa_43 _ (List.mem_of_getElem? (i := 9) (by decide +kernel))), (List.forall_mem_cons.mpr ⟨(wa_43 _ (List.mem_of_getElem? (i := 10) (by decide +kernel))), (List.forall_mem_cons.mpr ⟨(wa_43 _ (List.mem_of_getElem? (i := 11) (by decide +kernel))), (List.forall_mem_cons.mpr ⟨(wa_1 _ (List.mem_of_getElem? (i := 5) (by decide +kernel))), (fun _ h => absurd h List.not_mem_nil)⟩)⟩)⟩)⟩)⟩)) rfl rfl rfl (by decide +kernel) ⟨(Nat.le_of_ble_eq_true rfl), (Nat.le_of_ble_eq_true rfl)⟩) hM.s200 kX11 rfl hl.1 rfl (Nat.le_of_ble_eq_true rfl) dL_law_1273 ⟨by show _ ≤ 600000; omega, by show _ ≤ 7302249; omega⟩) hW (fun r2 V2 H locs hp hW => ?_)
  obtain ⟨e2, hk2⟩ := hp
  obtain rfl := e2
  have hX2 := hX.lo hk2.f
  have hM2 := hM.k hk2
  refine W.lcmp hx hb dL_law_1276 ?_
  refine m_if_eq (tgt := 1543) hx hb dL_law_1277 (by decide) (fun c1 => ?_) (fun c1 => ?_)
  · refine W.widen (k := cells + 3) (n := slots + 197) (by omega) (by omega) ?_
    exact kk ad sh V2 _ _ _ ls hX2 hM2 hN hW hl
  · exact absurd (lg_cmp_rfl _) c1
set_option maxHeartbeats 4000000 in
set_option maxRecDepth 100000 in
theorem law_c29 (S : CallFix p m c cL_law 4 s #[Value.ref b] wsLaw RL) (hXs : va_X b L xs s s.heap) (hbl : b < s.heap.size) (hL : L ≤ 3584) (hk : 7 * k + 7 ≤ L) (hcs : cells + 3 ≤ 600000 ∧ slots + 197 ≤ 7302249) (hX : XI sh V q) (hM : MI sh V q) (hN : NoT sh (gTxs q).length) (hW : mC (fun z => s.heap.size ≤ z) s.heap s G ad sh V H locs) (hl : lv_has ls 4 [(0, .ref b), (1, .ref (ad 0)), (2, .ref (ad 200)), (3, .int (nI (7 * k)))]) (kk : LwK p l e s m below meth c b k G cells slots Q) : W p l e room_1 s m #[Value.ref b] below meth c H locs cells slots Q (F0 m 1282 ls []) := by
  obtain ⟨hx, hb, hml, hown, hts⟩ := id S
  have hbA : ¬ (fun z : Nat => s.heap.size ≤ z) b := Nat.not_le.mpr hbl
  refine lv_aload_n hx hb dL_law_1282 rfl (lv_at hl 1 rfl) ?_
  refine m_ci (m_rV S hW (c_X10_image l G ad sh V q  hX) (cwV 0 hts (gCall [.methodLink RL 136 yX10_image, .instanceMethod yX10_image, .selects RX10 yX10_image yX10_image, .initialized RX10] (List.forall_mem_cons.mpr ⟨(wa_43 _ (List.mem_of_getElem? (i := 20) (by decide +kernel))), (List.forall_mem_cons.mpr ⟨(wa_43 _ (List.mem_of_getElem? (i := 17) (by decide +kernel))), (List.forall_mem_cons.mpr ⟨(wa_43 _ (List.mem_of_getElem? (i := 18) (by decide +kernel))), (List.forall_mem_cons.mpr ⟨(wa_43 _ (List.mem_of_getElem? (i := 19) (by decide +kernel))), (List.forall_mem_cons.mpr ⟨(wa_1 _ (List.mem_of_getElem? (i := 2) (by decide +kernel))), (fun _ h => absurd h List.not_mem_nil)⟩)⟩)⟩)⟩)⟩)) rfl rfl rfl (by decide +kernel) ⟨(Nat.le_of_ble_eq_true rfl), (Nat.le_of_ble_eq_true rfl)⟩) hX.sp.1 kX10 rfl hl.1 rfl (Nat.le_of_ble_eq_true rfl) dL_law_1283 ⟨by show _ ≤ 600000; omega, by show _ ≤ 7302249; omega⟩) hW (fun r1 V1 H locs hp hW => ?_)
  obtain ⟨e1, hX1, hf1⟩ := hp
  obtain rfl := e1
  have hM := hM.hi (fun _ _ => rfl) hf1
  refine lv_aload_n hx hb dL_law_1286 rfl (lv_at hl 2 rfl) ?_
  refine m_ci (m_rV S hW (c_X11_image l G ad sh V1 q  hM) (cwV 0 hts (gCall [.methodLink RL 139 yX11_image, .instanceMethod yX11_image, .selects RX11 yX11_image yX11_image, .initialized RX11] (List.forall_mem_cons.mpr ⟨(wa_44 _ (List.mem_of_getElem? (i := 2) (by decide +kernel))), (List.forall_mem_cons.mpr ⟨(wa_43 _ (List.mem_of_getElem? (i := 23) (by decide +kernel))), (List.forall_mem_cons.mpr ⟨(wa_44 _ (List.mem_of_getElem? (i := 0) (by decide +kernel))), (List.forall_mem_cons.mpr ⟨(wa_44 _ (List.mem_of_getElem? (i := 1) (by decide +kernel))), (List.forall_mem_cons.mpr ⟨(wa_1 _ (List.mem_of_getElem? (i := 5) (by decide +kernel))), (fun _ h => absurd h List.not_mem_nil)⟩)⟩)⟩)⟩)⟩)) rfl rfl rfl (by decide +kernel) ⟨(Nat.le_of_ble_eq_true rfl), (Nat.le_of_ble_eq_true rfl)⟩) hM.s200 kX11 rfl hl.1 rfl (Nat.le_of_ble_eq_true rfl) dL_law_1287 ⟨by show _ ≤ 600000; omega, by show _ ≤ 7302249; omega⟩) hW (fun r2 V2 H locs hp hW => ?_)
  obtain ⟨e2, hM2, hf2⟩ := hp
  obtain rfl := e2
  have hX2 := hX1.lo hf2
  refine lv_icmp_eq (tgt := 1543) hx hb dL_law_1290 (by decide) (fun c1 => ?_) (fun c1 => ?_)
  · refine W.widen (k := cells + 3) (n := slots + 197) (by omega) (by omega) ?_
    exact kk ad sh V2 _ _ _ ls hX2 hM2 (by rw [nImage_tx]; exact hN) hW hl
  · exact absurd rfl c1
set_option maxHeartbeats 4000000 in
set_option maxRecDepth 100000 in
theorem law_c30 (S : CallFix p m c cL_law 4 s #[Value.ref b] wsLaw RL) (hXs : va_X b L xs s s.heap) (hbl : b < s.heap.size) (hL : L ≤ 3584) (hk : 7 * k + 7 ≤ L) (hcs : cells + 3 ≤ 600000 ∧ slots + 197 ≤ 7302249) (hX : XI sh V q) (hM : MI sh V q) (hN : NoT sh (gTxs q).length) (hW : mC (fun z => s.heap.size ≤ z) s.heap s G ad sh V H locs) (hl : lv_has ls 4 [(0, .ref b), (1, .ref (ad 0)), (2, .ref (ad 200)), (3, .int (nI (7 * k)))]) (kk : LwK p l e s m below meth c b k G cells slots Q) : W p l e room_1 s m #[Value.ref b] below meth c H locs cells slots Q (F0 m 1295 ls []) := by
  obtain ⟨hx, hb, hml, hown, hts⟩ := id S
  have hbA : ¬ (fun z : Nat => s.heap.size ≤ z) b := Nat.not_le.mpr hbl
  refine lv_aload_n hx hb dL_law_1295 rfl (lv_at hl 1 rfl) ?_
  refine m_ci (m_rV S hW (c_X10_back l G ad sh V q  hX) (cwV 0 hts (gCall [.methodLink RL 140 yX10_back, .instanceMethod yX10_back, .selects RX10 yX10_back yX10_back, .initialized RX10] (List.forall_mem_cons.mpr ⟨(wa_44 _ (List.mem_of_getElem? (i := 7) (by decide +kernel))), (List.forall_mem_cons.mpr ⟨(wa_44 _ (List.mem_of_getElem? (i := 4) (by decide +kernel))), (List.forall_mem_cons.mpr ⟨(wa_44 _ (List.mem_of_getElem? (i := 5) (by decide +kernel))), (List.forall_mem_cons.mpr ⟨(wa_44 _ (List.mem_of_getElem? (i := 6) (by decide +kernel))), (List.forall_mem_cons.mpr ⟨(wa_1 _ (List.mem_of_getElem? (i := 2) (by decide +kernel))), (fun _ h => absurd h List.not_mem_nil)⟩)⟩)⟩)⟩)⟩)) rfl rfl rfl (by decide +kernel) ⟨(Nat.le_of_ble_eq_true rfl), (Nat.le_of_ble_eq_true rfl)⟩) hX.sp.1 kX10 rfl hl.1 rfl (Nat.le_of_ble_eq_true rfl) dL_law_1296 ⟨by show _ ≤ 600000; omega, by show _ ≤ 7302249; omega⟩) hW (fun r1 V1 H locs hp hW => ?_)
  obtain ⟨e1, hX1, hf1⟩ := hp
  obtain rfl := e1
  have hM := hM.hi (fun _ _ => rfl) hf1
  refine lv_aload_n hx hb dL_law_1299 rfl (lv_at hl 2 rfl) ?_
  refine m_ci (m_rV S hW (c_X11_back l G ad sh V1 q  hM) (cwV 0 hts (gCall [.methodLink RL 143 yX11_back, .instanceMethod yX11_back, .selects RX11 yX11_back yX11_back, .initialized RX11] (List.forall_mem_cons.mpr ⟨(wa_44 _ (List.mem_of_getElem? (i := 11) (by decide +kernel))), (List.forall_mem_cons.mpr ⟨(wa_44 _ (List.mem_of_getElem? (i := 8) (by decide +kernel))), (List.forall_mem_cons.mpr ⟨(wa_44 _ (List.mem_of_getElem? (i := 9) (by decide +kernel))), (List.forall_mem_cons.mpr ⟨(wa_44 _ (List.mem_of_getElem? (i := 10) (by decide +kernel))), (List.forall_mem_cons.mpr ⟨(wa_1 _ (List.mem_of_getElem? (i := 5) (by decide +kernel))), (fun _ h => absurd h List.not_mem_nil)⟩)⟩)⟩)⟩)⟩)) rfl rfl rfl (by decide +kernel) ⟨(Nat.le_of_ble_eq_true rfl), (Nat.le_of_ble_eq_true rfl)⟩) hM.s200 kX11 rfl hl.1 rfl (Nat.le_of_ble_eq_true rfl) dL_law_1300 ⟨by show _ ≤ 600000; omega, by show _ ≤ 7302249; omega⟩) hW (fun r2 V2 H locs hp hW => ?_)
  obtain ⟨e2, hM2, hf2⟩ := hp
  obtain rfl := e2
  have hX2 := hX1.lo hf2
  refine lv_icmp_eq (tgt := 1543) hx hb dL_law_1303 (by decide) (fun c1 => ?_) (fun c1 => ?_)
  · refine W.widen (k := cells + 3) (n := slots + 197) (by omega) (by omega) ?_
    exact kk ad sh V2 _ _ _ ls hX2 hM2 (by rw [nBack_tx]; exact hN) hW hl
  · exact absurd rfl c1
set_option maxHeartbeats 4000000 in
set_option maxRecDepth 100000 in
theorem law_c31 (S : CallFix p m c cL_law 4 s #[Value.ref b] wsLaw RL) (hXs : va_X b L xs s s.heap) (hbl : b < s.heap.size) (hL : L ≤ 3584) (hk : 7 * k + 7 ≤ L) (hcs : cells + 3 ≤ 600000 ∧ slots + 197 ≤ 7302249) (hX : XI sh V q) (hM : MI sh V q) (hN : NoT sh (gTxs q).length) (hW : mC (fun z => s.heap.size ≤ z) s.heap s G ad sh V H locs) (hl : lv_has ls 4 [(0, .ref b), (1, .ref (ad 0)), (2, .ref (ad 200)), (3, .int (nI (7 * k)))]) (kk : LwK p l e s m below meth c b k G cells slots Q) : W p l e room_1 s m #[Value.ref b] below meth c H locs cells slots Q (F0 m 1308 ls []) := by
  obtain ⟨hx, hb, hml, hown, hts⟩ := id S
  have hbA : ¬ (fun z : Nat => s.heap.size ≤ z) b := Nat.not_le.mpr hbl
  refine lv_aload_n hx hb dL_law_1308 rfl (lv_at hl 1 rfl) ?_
  refine lv_aload_n hx hb dL_law_1309 rfl (lv_at hl 0 rfl) ?_
  refine lv_iload_n hx hb dL_law_1310 rfl (lv_at hl 3 rfl) ?_
  refine lv_iconst (v := nI 1) hx hb dL_law_1311 (by decide) ?_
  refine lv_iadd hx hb dL_law_1312 ?_
  refine m_top (y := nI (7 * k + 1)) (nI_add (7 * k) 1) ?_
  refine va_sld hx hb hXs hbl hbA hW.2.2.1 (vp_in_nI (by omega) (by omega)) dL_law_1313 ?_
  refine lv_aload_n hx hb dL_law_1314 rfl (lv_at hl 0 rfl) ?_
  refine lv_iload_n hx hb dL_law_1315 rfl (lv_at hl 3 rfl) ?_
  refine lv_iconst (v := nI 2) hx hb dL_law_1316 (by decide) ?_
  refine lv_iadd hx hb dL_law_1317 ?_
  refine m_top (y := nI (7 * k + 2)) (nI_add (7 * k) 2) ?_
  refine va_sld hx hb hXs hbl hbA hW.2.2.1 (vp_in_nI (by omega) (by omega)) dL_law_1318 ?_
  refine lv_aload_n hx hb dL_law_1319 rfl (lv_at hl 0 rfl) ?_
  refine lv_iload_n hx hb dL_law_1320 rfl (lv_at hl 3 rfl) ?_
  refine lv_iconst (v := nI 3) hx hb dL_law_1321 (by decide) ?_
  refine lv_iadd hx hb dL_law_1322 ?_
  refine m_top (y := nI (7 * k + 3)) (nI_add (7 * k) 3) ?_
  refine va_sld hx hb hXs hbl hbA hW.2.2.1 (vp_in_nI (by omega) (by omega)) dL_law_1323 ?_
  refine m_ci (m_rV S hW (c_X10_sheet l G ad sh V q (xs (nI (7 * k + 1)).toNatClampNeg) (xs (nI (7 * k + 2)).toNatClampNeg) (xs (nI (7 * k + 3)).toNatClampNeg) hX) (cwV 3 hts (gCall [.methodLink RL 144 yX10_sheet, .instanceMethod yX10_sheet, .selects RX10 yX10_sheet yX10_sheet, .initialized RX10] (List.forall_mem_cons.mpr ⟨(wa_44 _ (List.mem_of_getElem? (i := 15) (by decide +kernel))), (List.forall_mem_cons.mpr ⟨(wa_44 _ (List.mem_of_getElem? (i := 12) (by decide +kernel))), (List.forall_mem_cons.mpr ⟨(wa_44 _ (List.mem_of_getElem? (i := 13) (by decide +kernel))), (List.forall_mem_cons.mpr ⟨(wa_44 _ (List.mem_of_getElem? (i := 14) (by decide +kernel))), (List.forall_mem_cons.mpr ⟨(wa_1 _ (List.mem_of_getElem? (i := 2) (by decide +kernel))), (fun _ h => absurd h List.not_mem_nil)⟩)⟩)⟩)⟩)⟩)) rfl rfl rfl (by decide +kernel) ⟨(Nat.le_of_ble_eq_true rfl), (Nat.le_of_ble_eq_true rfl)⟩) hX.sp.1 kX10 rfl hl.1 rfl (Nat.le_of_ble_eq_true rfl) dL_law_1324 ⟨by show _ ≤ 600000; omega, by show _ ≤ 7302249; omega⟩) hW (fun r1 V1 H locs hp hW => ?_)
  obtain ⟨e1, hX1, hf1⟩ := hp
  obtain rfl := e1
  have hM := hM.hi (fun _ _ => rfl) hf1
  refine lv_aload_n hx hb dL_law_1327 rfl (lv_at hl 2 rfl) ?_
  refine lv_aload_n hx hb dL_law_1328 rfl (lv_at hl 0 rfl) ?_
  refine lv_iload_n hx hb dL_law_1329 rfl (lv_at hl 3 rfl) ?_
  refine lv_iconst (v := nI 1) hx hb dL_law_1330 (by decide) ?_
  refine lv_iadd hx hb dL_law_1331 ?_
  refine m_top (y := nI (7 * k + 1)) (nI_add (7 * k) 1) ?_
  refine va_sld hx hb hXs hbl hbA hW.2.2.1 (vp_in_nI (by omega) (by omega)) dL_law_1332 ?_
  refine lv_aload_n hx hb dL_law_1333 rfl (lv_at hl 0 rfl) ?_
  refine lv_iload_n hx hb dL_law_1334 rfl (lv_at hl 3 rfl) ?_
  refine lv_iconst (v := nI 2) hx hb dL_law_1335 (by decide) ?_
  refine lv_iadd hx hb dL_law_1336 ?_
  refine m_top (y := nI (7 * k + 2)) (nI_add (7 * k) 2) ?_
  refine va_sld hx hb hXs hbl hbA hW.2.2.1 (vp_in_nI (by omega) (by omega)) dL_law_1337 ?_
  refine lv_aload_n hx hb dL_law_1338 rfl (lv_at hl 0 rfl) ?_
  refine lv_iload_n hx hb dL_law_1339 rfl (lv_at hl 3 rfl) ?_
  refine lv_iconst (v := nI 3) hx hb dL_law_1340 (by decide) ?_
  refine lv_iadd hx hb dL_law_1341 ?_
  refine m_top (y := nI (7 * k + 3)) (nI_add (7 * k) 3) ?_
  refine va_sld hx hb hXs hbl hbA hW.2.2.1 (vp_in_nI (by omega) (by omega)) dL_law_1342 ?_
  refine m_ci (m_rV S hW (c_X11_sheet l G ad sh V1 q (xs (nI (7 * k + 1)).toNatClampNeg) (xs (nI (7 * k + 2)).toNatClampNeg) (xs (nI (7 * k + 3)).toNatClampNeg) hM) (cwV 3 hts (gCall [.methodLink RL 147 yX11_sheet, .instanceMethod yX11_sheet, .selects RX11 yX11_sheet yX11_sheet, .initialized RX11] (List.forall_mem_cons.mpr ⟨(wa_44 _ (List.mem_of_getElem? (i := 20) (by decide +kernel))), (List.forall_mem_cons.mpr ⟨(wa_44 _ (List.mem_of_getElem? (i := 17) (by decide +kernel))), (List.forall_mem_cons.mpr ⟨(wa_44 _ (List.mem_of_getElem? (i := 18) (by decide +kernel))), (List.forall_mem_cons.mpr ⟨(wa_44 _ (List.mem_of_getElem? (i := 19) (by decide +kernel))), (List.forall_mem_cons.mpr ⟨(wa_1 _ (List.mem_of_getElem? (i := 5) (by decide +kernel))), (fun _ h => absurd h List.not_mem_nil)⟩)⟩)⟩)⟩)⟩)) rfl rfl rfl (by decide +kernel) ⟨(Nat.le_of_ble_eq_true rfl), (Nat.le_of_ble_eq_true rfl)⟩) hM.s200 kX11 rfl hl.1 rfl (Nat.le_of_ble_eq_true rfl) dL_law_1343 ⟨by show _ ≤ 600000; omega, by show _ ≤ 7302249; omega⟩) hW (fun r2 V2 H locs hp hW => ?_)
  obtain ⟨e2, hM2, hf2⟩ := hp
  obtain rfl := e2
  have hX2 := hX1.lo hf2
  refine lv_icmp_eq (tgt := 1543) hx hb dL_law_1346 (by decide) (fun c1 => ?_) (fun c1 => ?_)
  · refine W.widen (k := cells + 3) (n := slots + 197) (by omega) (by omega) ?_
    exact kk ad sh V2 _ _ _ ls hX2 hM2 (by rw [nSheet_tx]; exact hN) hW hl
  · exact absurd rfl c1
set_option maxHeartbeats 4000000 in
set_option maxRecDepth 100000 in
theorem law_c32 (S : CallFix p m c cL_law 4 s #[Value.ref b] wsLaw RL) (hXs : va_X b L xs s s.heap) (hbl : b < s.heap.size) (hL : L ≤ 3584) (hk : 7 * k + 7 ≤ L) (hcs : cells + 3 ≤ 600000 ∧ slots + 197 ≤ 7302249) (hX : XI sh V q) (hM : MI sh V q) (hN : NoT sh (gTxs q).length) (hW : mC (fun z => s.heap.size ≤ z) s.heap s G ad sh V H locs) (hl : lv_has ls 4 [(0, .ref b), (1, .ref (ad 0)), (2, .ref (ad 200)), (3, .int (nI (7 * k)))]) (kk : LwK p l e s m below meth c b k G cells slots Q) : W p l e room_1 s m #[Value.ref b] below meth c H locs cells slots Q (F0 m 1351 ls []) := by
  obtain ⟨hx, hb, hml, hown, hts⟩ := id S
  have hbA : ¬ (fun z : Nat => s.heap.size ≤ z) b := Nat.not_le.mpr hbl
  refine lv_aload_n hx hb dL_law_1351 rfl (lv_at hl 1 rfl) ?_
  refine lv_aload_n hx hb dL_law_1352 rfl (lv_at hl 0 rfl) ?_
  refine lv_iload_n hx hb dL_law_1353 rfl (lv_at hl 3 rfl) ?_
  refine lv_iconst (v := nI 1) hx hb dL_law_1354 (by decide) ?_
  refine lv_iadd hx hb dL_law_1355 ?_
  refine m_top (y := nI (7 * k + 1)) (nI_add (7 * k) 1) ?_
  refine va_sld hx hb hXs hbl hbA hW.2.2.1 (vp_in_nI (by omega) (by omega)) dL_law_1356 ?_
  refine lv_aload_n hx hb dL_law_1357 rfl (lv_at hl 0 rfl) ?_
  refine lv_iload_n hx hb dL_law_1358 rfl (lv_at hl 3 rfl) ?_
  refine lv_iconst (v := nI 2) hx hb dL_law_1359 (by decide) ?_
  refine lv_iadd hx hb dL_law_1360 ?_
  refine m_top (y := nI (7 * k + 2)) (nI_add (7 * k) 2) ?_
  refine va_sld hx hb hXs hbl hbA hW.2.2.1 (vp_in_nI (by omega) (by omega)) dL_law_1361 ?_
  refine lv_aload_n hx hb dL_law_1362 rfl (lv_at hl 0 rfl) ?_
  refine lv_iload_n hx hb dL_law_1363 rfl (lv_at hl 3 rfl) ?_
  refine lv_iconst (v := nI 3) hx hb dL_law_1364 (by decide) ?_
  refine lv_iadd hx hb dL_law_1365 ?_
  refine m_top (y := nI (7 * k + 3)) (nI_add (7 * k) 3) ?_
  refine va_sld hx hb hXs hbl hbA hW.2.2.1 (vp_in_nI (by omega) (by omega)) dL_law_1366 ?_
  refine m_ci (m_rV S hW (c_X10_cell l G ad sh V q (xs (nI (7 * k + 1)).toNatClampNeg) (xs (nI (7 * k + 2)).toNatClampNeg) (xs (nI (7 * k + 3)).toNatClampNeg) hX) (cwV 3 hts (gCall [.methodLink RL 148 yX10_cell, .instanceMethod yX10_cell, .selects RX10 yX10_cell yX10_cell, .initialized RX10] (List.forall_mem_cons.mpr ⟨(wa_45 _ (List.mem_of_getElem? (i := 0) (by decide +kernel))), (List.forall_mem_cons.mpr ⟨(wa_44 _ (List.mem_of_getElem? (i := 21) (by decide +kernel))), (List.forall_mem_cons.mpr ⟨(wa_44 _ (List.mem_of_getElem? (i := 22) (by decide +kernel))), (List.forall_mem_cons.mpr ⟨(wa_44 _ (List.mem_of_getElem? (i := 23) (by decide +kernel))), (List.forall_mem_cons.mpr ⟨(wa_1 _ (List.mem_of_getElem? (i := 2) (by decide +kernel))), (fun _ h => absurd h List.not_mem_nil)⟩)⟩)⟩)⟩)⟩)) rfl rfl rfl (by decide +kernel) ⟨(Nat.le_of_ble_eq_true rfl), (Nat.le_of_ble_eq_true rfl)⟩) hX.sp.1 kX10 rfl hl.1 rfl (Nat.le_of_ble_eq_true rfl) dL_law_1367 ⟨by show _ ≤ 600000; omega, by show _ ≤ 7302249; omega⟩) hW (fun r1 V1 H locs hp hW => ?_)
  obtain ⟨e1, hX1, hf1⟩ := hp
  obtain rfl := e1
  have hM := hM.hi (fun _ _ => rfl) hf1
  refine lv_aload_n hx hb dL_law_1370 rfl (lv_at hl 2 rfl) ?_
  refine lv_aload_n hx hb dL_law_1371 rfl (lv_at hl 0 rfl) ?_
  refine lv_iload_n hx hb dL_law_1372 rfl (lv_at hl 3 rfl) ?_
  refine lv_iconst (v := nI 1) hx hb dL_law_1373 (by decide) ?_
  refine lv_iadd hx hb dL_law_1374 ?_
  refine m_top (y := nI (7 * k + 1)) (nI_add (7 * k) 1) ?_
  refine va_sld hx hb hXs hbl hbA hW.2.2.1 (vp_in_nI (by omega) (by omega)) dL_law_1375 ?_
  refine lv_aload_n hx hb dL_law_1376 rfl (lv_at hl 0 rfl) ?_
  refine lv_iload_n hx hb dL_law_1377 rfl (lv_at hl 3 rfl) ?_
  refine lv_iconst (v := nI 2) hx hb dL_law_1378 (by decide) ?_
  refine lv_iadd hx hb dL_law_1379 ?_
  refine m_top (y := nI (7 * k + 2)) (nI_add (7 * k) 2) ?_
  refine va_sld hx hb hXs hbl hbA hW.2.2.1 (vp_in_nI (by omega) (by omega)) dL_law_1380 ?_
  refine lv_aload_n hx hb dL_law_1381 rfl (lv_at hl 0 rfl) ?_
  refine lv_iload_n hx hb dL_law_1382 rfl (lv_at hl 3 rfl) ?_
  refine lv_iconst (v := nI 3) hx hb dL_law_1383 (by decide) ?_
  refine lv_iadd hx hb dL_law_1384 ?_
  refine m_top (y := nI (7 * k + 3)) (nI_add (7 * k) 3) ?_
  refine va_sld hx hb hXs hbl hbA hW.2.2.1 (vp_in_nI (by omega) (by omega)) dL_law_1385 ?_
  refine m_ci (m_rV S hW (c_X11_cell l G ad sh V1 q (xs (nI (7 * k + 1)).toNatClampNeg) (xs (nI (7 * k + 2)).toNatClampNeg) (xs (nI (7 * k + 3)).toNatClampNeg) hM) (cwV 3 hts (gCall [.methodLink RL 151 yX11_cell, .instanceMethod yX11_cell, .selects RX11 yX11_cell yX11_cell, .initialized RX11] (List.forall_mem_cons.mpr ⟨(wa_45 _ (List.mem_of_getElem? (i := 5) (by decide +kernel))), (List.forall_mem_cons.mpr ⟨(wa_45 _ (List.mem_of_getElem? (i := 2) (by decide +kernel))), (List.forall_mem_cons.mpr ⟨(wa_45 _ (List.mem_of_getElem? (i := 3) (by decide +kernel))), (List.forall_mem_cons.mpr ⟨(wa_45 _ (List.mem_of_getElem? (i := 4) (by decide +kernel))), (List.forall_mem_cons.mpr ⟨(wa_1 _ (List.mem_of_getElem? (i := 5) (by decide +kernel))), (fun _ h => absurd h List.not_mem_nil)⟩)⟩)⟩)⟩)⟩)) rfl rfl rfl (by decide +kernel) ⟨(Nat.le_of_ble_eq_true rfl), (Nat.le_of_ble_eq_true rfl)⟩) hM.s200 kX11 rfl hl.1 rfl (Nat.le_of_ble_eq_true rfl) dL_law_1386 ⟨by show _ ≤ 600000; omega, by show _ ≤ 7302249; omega⟩) hW (fun r2 V2 H locs hp hW => ?_)
  obtain ⟨e2, hM2, hf2⟩ := hp
  obtain rfl := e2
  have hX2 := hX1.lo hf2
  refine lv_icmp_eq (tgt := 1543) hx hb dL_law_1389 (by decide) (fun c1 => ?_) (fun c1 => ?_)
  · refine W.widen (k := cells + 3) (n := slots + 197) (by omega) (by omega) ?_
    exact kk ad sh V2 _ _ _ ls hX2 hM2 (by rw [nCell_tx]; exact hN) hW hl
  · exact absurd rfl c1
set_option maxHeartbeats 4000000 in
set_option maxRecDepth 100000 in
theorem law_c33 (S : CallFix p m c cL_law 4 s #[Value.ref b] wsLaw RL) (hXs : va_X b L xs s s.heap) (hbl : b < s.heap.size) (hL : L ≤ 3584) (hk : 7 * k + 7 ≤ L) (hcs : cells + 3 ≤ 600000 ∧ slots + 197 ≤ 7302249) (hX : XI sh V q) (hM : MI sh V q) (hN : NoT sh (gTxs q).length) (hW : mC (fun z => s.heap.size ≤ z) s.heap s G ad sh V H locs) (hl : lv_has ls 4 [(0, .ref b), (1, .ref (ad 0)), (2, .ref (ad 200)), (3, .int (nI (7 * k)))]) (kk : LwK p l e s m below meth c b k G cells slots Q) : W p l e room_1 s m #[Value.ref b] below meth c H locs cells slots Q (F0 m 1394 ls []) := by
  obtain ⟨hx, hb, hml, hown, hts⟩ := id S
  have hbA : ¬ (fun z : Nat => s.heap.size ≤ z) b := Nat.not_le.mpr hbl
  refine lv_aload_n hx hb dL_law_1394 rfl (lv_at hl 1 rfl) ?_
  refine lv_aload_n hx hb dL_law_1395 rfl (lv_at hl 0 rfl) ?_
  refine lv_iload_n hx hb dL_law_1396 rfl (lv_at hl 3 rfl) ?_
  refine lv_iconst (v := nI 1) hx hb dL_law_1397 (by decide) ?_
  refine lv_iadd hx hb dL_law_1398 ?_
  refine m_top (y := nI (7 * k + 1)) (nI_add (7 * k) 1) ?_
  refine va_sld hx hb hXs hbl hbA hW.2.2.1 (vp_in_nI (by omega) (by omega)) dL_law_1399 ?_
  refine lv_aload_n hx hb dL_law_1400 rfl (lv_at hl 0 rfl) ?_
  refine lv_iload_n hx hb dL_law_1401 rfl (lv_at hl 3 rfl) ?_
  refine lv_iconst (v := nI 2) hx hb dL_law_1402 (by decide) ?_
  refine lv_iadd hx hb dL_law_1403 ?_
  refine m_top (y := nI (7 * k + 2)) (nI_add (7 * k) 2) ?_
  refine va_sld hx hb hXs hbl hbA hW.2.2.1 (vp_in_nI (by omega) (by omega)) dL_law_1404 ?_
  refine lv_aload_n hx hb dL_law_1405 rfl (lv_at hl 0 rfl) ?_
  refine lv_iload_n hx hb dL_law_1406 rfl (lv_at hl 3 rfl) ?_
  refine lv_iconst (v := nI 3) hx hb dL_law_1407 (by decide) ?_
  refine lv_iadd hx hb dL_law_1408 ?_
  refine m_top (y := nI (7 * k + 3)) (nI_add (7 * k) 3) ?_
  refine va_sld hx hb hXs hbl hbA hW.2.2.1 (vp_in_nI (by omega) (by omega)) dL_law_1409 ?_
  refine lv_aload_n hx hb dL_law_1410 rfl (lv_at hl 0 rfl) ?_
  refine lv_iload_n hx hb dL_law_1411 rfl (lv_at hl 3 rfl) ?_
  refine lv_iconst (v := nI 4) hx hb dL_law_1412 (by decide) ?_
  refine lv_iadd hx hb dL_law_1413 ?_
  refine m_top (y := nI (7 * k + 4)) (nI_add (7 * k) 4) ?_
  refine va_sld hx hb hXs hbl hbA hW.2.2.1 (vp_in_nI (by omega) (by omega)) dL_law_1414 ?_
  refine lv_aload_n hx hb dL_law_1415 rfl (lv_at hl 0 rfl) ?_
  refine lv_iload_n hx hb dL_law_1416 rfl (lv_at hl 3 rfl) ?_
  refine lv_iconst (v := nI 5) hx hb dL_law_1417 (by decide) ?_
  refine lv_iadd hx hb dL_law_1418 ?_
  refine m_top (y := nI (7 * k + 5)) (nI_add (7 * k) 5) ?_
  refine va_sld hx hb hXs hbl hbA hW.2.2.1 (vp_in_nI (by omega) (by omega)) dL_law_1419 ?_
  refine m_ci (m_rV S hW (c_X10_copy l G ad sh V q (xs (nI (7 * k + 1)).toNatClampNeg) (xs (nI (7 * k + 2)).toNatClampNeg) (xs (nI (7 * k + 3)).toNatClampNeg) (xs (nI (7 * k + 4)).toNatClampNeg) (xs (nI (7 * k + 5)).toNatClampNeg) hX) (cwV 5 hts (gCall [.methodLink RL 152 yX10_copy, .instanceMethod yX10_copy, .selects RX10 yX10_copy yX10_copy, .initialized RX10] (List.forall_mem_cons.mpr ⟨(wa_45 _ (List.mem_of_getElem? (i := 9) (by decide +kernel))), (List.forall_mem_cons.mpr ⟨(wa_45 _ (List.mem_of_getElem? (i := 6) (by decide +kernel))), (List.forall_mem_cons.mpr ⟨(wa_45 _ (List.mem_of_getElem? (i := 7) (by decide +kernel))), (List.forall_mem_cons.mpr ⟨(wa_45 _ (List.mem_of_getElem? (i := 8) (by decide +kernel))), (List.forall_mem_cons.mpr ⟨(wa_1 _ (List.mem_of_getElem? (i := 2) (by decide +kernel))), (fun _ h => absurd h List.not_mem_nil)⟩)⟩)⟩)⟩)⟩)) rfl rfl rfl (by decide +kernel) ⟨(Nat.le_of_ble_eq_true rfl), (Nat.le_of_ble_eq_true rfl)⟩) hX.sp.1 kX10 rfl hl.1 rfl (Nat.le_of_ble_eq_true rfl) dL_law_1420 ⟨by show _ ≤ 600000; omega, by show _ ≤ 7302249; omega⟩) hW (fun r1 V1 H locs hp hW => ?_)
  obtain ⟨e1, hX1, hf1⟩ := hp
  obtain rfl := e1
  have hM := hM.hi (fun _ _ => rfl) hf1
  refine lv_aload_n hx hb dL_law_1423 rfl (lv_at hl 2 rfl) ?_
  refine lv_aload_n hx hb dL_law_1424 rfl (lv_at hl 0 rfl) ?_
  refine lv_iload_n hx hb dL_law_1425 rfl (lv_at hl 3 rfl) ?_
  refine lv_iconst (v := nI 1) hx hb dL_law_1426 (by decide) ?_
  refine lv_iadd hx hb dL_law_1427 ?_
  refine m_top (y := nI (7 * k + 1)) (nI_add (7 * k) 1) ?_
  refine va_sld hx hb hXs hbl hbA hW.2.2.1 (vp_in_nI (by omega) (by omega)) dL_law_1428 ?_
  refine lv_aload_n hx hb dL_law_1429 rfl (lv_at hl 0 rfl) ?_
  refine lv_iload_n hx hb dL_law_1430 rfl (lv_at hl 3 rfl) ?_
  refine lv_iconst (v := nI 2) hx hb dL_law_1431 (by decide) ?_
  refine lv_iadd hx hb dL_law_1432 ?_
  refine m_top (y := nI (7 * k + 2)) (nI_add (7 * k) 2) ?_
  refine va_sld hx hb hXs hbl hbA hW.2.2.1 (vp_in_nI (by omega) (by omega)) dL_law_1433 ?_
  refine lv_aload_n hx hb dL_law_1434 rfl (lv_at hl 0 rfl) ?_
  refine lv_iload_n hx hb dL_law_1435 rfl (lv_at hl 3 rfl) ?_
  refine lv_iconst (v := nI 3) hx hb dL_law_1436 (by decide) ?_
  refine lv_iadd hx hb dL_law_1437 ?_
  refine m_top (y := nI (7 * k + 3)) (nI_add (7 * k) 3) ?_
  refine va_sld hx hb hXs hbl hbA hW.2.2.1 (vp_in_nI (by omega) (by omega)) dL_law_1438 ?_
  refine lv_aload_n hx hb dL_law_1439 rfl (lv_at hl 0 rfl) ?_
  refine lv_iload_n hx hb dL_law_1440 rfl (lv_at hl 3 rfl) ?_
  refine lv_iconst (v := nI 4) hx hb dL_law_1441 (by decide) ?_
  refine lv_iadd hx hb dL_law_1442 ?_
  refine m_top (y := nI (7 * k + 4)) (nI_add (7 * k) 4) ?_
  refine va_sld hx hb hXs hbl hbA hW.2.2.1 (vp_in_nI (by omega) (by omega)) dL_law_1443 ?_
  refine lv_aload_n hx hb dL_law_1444 rfl (lv_at hl 0 rfl) ?_
  refine lv_iload_n hx hb dL_law_1445 rfl (lv_at hl 3 rfl) ?_
  refine lv_iconst (v := nI 5) hx hb dL_law_1446 (by decide) ?_
  refine lv_iadd hx hb dL_law_1447 ?_
  refine m_top (y := nI (7 * k + 5)) (nI_add (7 * k) 5) ?_
  refine va_sld hx hb hXs hbl hbA hW.2.2.1 (vp_in_nI (by omega) (by omega)) dL_law_1448 ?_
  refine m_ci (m_rV S hW (c_X11_copy l G ad sh V1 q (xs (nI (7 * k + 1)).toNatClampNeg) (xs (nI (7 * k + 2)).toNatClampNeg) (xs (nI (7 * k + 3)).toNatClampNeg) (xs (nI (7 * k + 4)).toNatClampNeg) (xs (nI (7 * k + 5)).toNatClampNeg) hM) (cwV 5 hts (gCall [.methodLink RL 156 yX11_copy, .instanceMethod yX11_copy, .selects RX11 yX11_copy yX11_copy, .initialized RX11] (List.forall_mem_cons.mpr ⟨(wa_45 _ (List.mem_of_getElem? (i := 14) (by decide +kernel))), (List.forall_mem_cons.mpr ⟨(wa_45 _ (List.mem_of_getElem? (i := 11) (by decide +kernel))), (List.forall_mem_cons.mpr ⟨(wa_45 _ (List.mem_of_getElem? (i := 12) (by decide +kernel))), (List.forall_mem_cons.mpr ⟨(wa_45 _ (List.mem_of_getElem? (i := 13) (by decide +kernel))), (List.forall_mem_cons.mpr ⟨(wa_1 _ (List.mem_of_getElem? (i := 5) (by decide +kernel))), (fun _ h => absurd h List.not_mem_nil)⟩)⟩)⟩)⟩)⟩)) rfl rfl rfl (by decide +kernel) ⟨(Nat.le_of_ble_eq_true rfl), (Nat.le_of_ble_eq_true rfl)⟩) hM.s200 kX11 rfl hl.1 rfl (Nat.le_of_ble_eq_true rfl) dL_law_1449 ⟨by show _ ≤ 600000; omega, by show _ ≤ 7302249; omega⟩) hW (fun r2 V2 H locs hp hW => ?_)
  obtain ⟨e2, hM2, hf2⟩ := hp
  obtain rfl := e2
  have hX2 := hX1.lo hf2
  refine lv_icmp_eq (tgt := 1543) hx hb dL_law_1452 (by decide) (fun c1 => ?_) (fun c1 => ?_)
  · refine W.widen (k := cells + 3) (n := slots + 197) (by omega) (by omega) ?_
    exact kk ad sh V2 _ _ _ ls hX2 hM2 (by rw [nCopy_tx]; exact hN) hW hl
  · exact absurd rfl c1
set_option maxHeartbeats 4000000 in
set_option maxRecDepth 100000 in
theorem law_c34 (S : CallFix p m c cL_law 4 s #[Value.ref b] wsLaw RL) (hXs : va_X b L xs s s.heap) (hbl : b < s.heap.size) (hL : L ≤ 3584) (hk : 7 * k + 7 ≤ L) (hcs : cells + 3 ≤ 600000 ∧ slots + 197 ≤ 7302249) (hX : XI sh V q) (hM : MI sh V q) (hN : NoT sh (gTxs q).length) (hW : mC (fun z => s.heap.size ≤ z) s.heap s G ad sh V H locs) (hl : lv_has ls 4 [(0, .ref b), (1, .ref (ad 0)), (2, .ref (ad 200)), (3, .int (nI (7 * k)))]) (kk : LwK p l e s m below meth c b k G cells slots Q) : W p l e room_1 s m #[Value.ref b] below meth c H locs cells slots Q (F0 m 1457 ls []) := by
  obtain ⟨hx, hb, hml, hown, hts⟩ := id S
  have hbA : ¬ (fun z : Nat => s.heap.size ≤ z) b := Nat.not_le.mpr hbl
  refine lv_aload_n hx hb dL_law_1457 rfl (lv_at hl 1 rfl) ?_
  refine lv_aload_n hx hb dL_law_1458 rfl (lv_at hl 0 rfl) ?_
  refine lv_iload_n hx hb dL_law_1459 rfl (lv_at hl 3 rfl) ?_
  refine lv_iconst (v := nI 1) hx hb dL_law_1460 (by decide) ?_
  refine lv_iadd hx hb dL_law_1461 ?_
  refine m_top (y := nI (7 * k + 1)) (nI_add (7 * k) 1) ?_
  refine va_sld hx hb hXs hbl hbA hW.2.2.1 (vp_in_nI (by omega) (by omega)) dL_law_1462 ?_
  refine lv_aload_n hx hb dL_law_1463 rfl (lv_at hl 0 rfl) ?_
  refine lv_iload_n hx hb dL_law_1464 rfl (lv_at hl 3 rfl) ?_
  refine lv_iconst (v := nI 2) hx hb dL_law_1465 (by decide) ?_
  refine lv_iadd hx hb dL_law_1466 ?_
  refine m_top (y := nI (7 * k + 2)) (nI_add (7 * k) 2) ?_
  refine va_sld hx hb hXs hbl hbA hW.2.2.1 (vp_in_nI (by omega) (by omega)) dL_law_1467 ?_
  refine lv_aload_n hx hb dL_law_1468 rfl (lv_at hl 0 rfl) ?_
  refine lv_iload_n hx hb dL_law_1469 rfl (lv_at hl 3 rfl) ?_
  refine lv_iconst (v := nI 3) hx hb dL_law_1470 (by decide) ?_
  refine lv_iadd hx hb dL_law_1471 ?_
  refine m_top (y := nI (7 * k + 3)) (nI_add (7 * k) 3) ?_
  refine va_sld hx hb hXs hbl hbA hW.2.2.1 (vp_in_nI (by omega) (by omega)) dL_law_1472 ?_
  refine lv_aload_n hx hb dL_law_1473 rfl (lv_at hl 0 rfl) ?_
  refine lv_iload_n hx hb dL_law_1474 rfl (lv_at hl 3 rfl) ?_
  refine lv_iconst (v := nI 4) hx hb dL_law_1475 (by decide) ?_
  refine lv_iadd hx hb dL_law_1476 ?_
  refine m_top (y := nI (7 * k + 4)) (nI_add (7 * k) 4) ?_
  refine va_sld hx hb hXs hbl hbA hW.2.2.1 (vp_in_nI (by omega) (by omega)) dL_law_1477 ?_
  refine m_ci (m_rV S hW (c_X10_eatersBy l G ad sh V q (xs (nI (7 * k + 1)).toNatClampNeg) (xs (nI (7 * k + 2)).toNatClampNeg) (xs (nI (7 * k + 3)).toNatClampNeg) (xs (nI (7 * k + 4)).toNatClampNeg) hX) (cwV 4 hts (gCall [.methodLink RL 157 yX10_eatersBy, .instanceMethod yX10_eatersBy, .selects RX10 yX10_eatersBy yX10_eatersBy, .initialized RX10] (List.forall_mem_cons.mpr ⟨(wa_45 _ (List.mem_of_getElem? (i := 18) (by decide +kernel))), (List.forall_mem_cons.mpr ⟨(wa_45 _ (List.mem_of_getElem? (i := 15) (by decide +kernel))), (List.forall_mem_cons.mpr ⟨(wa_45 _ (List.mem_of_getElem? (i := 16) (by decide +kernel))), (List.forall_mem_cons.mpr ⟨(wa_45 _ (List.mem_of_getElem? (i := 17) (by decide +kernel))), (List.forall_mem_cons.mpr ⟨(wa_1 _ (List.mem_of_getElem? (i := 2) (by decide +kernel))), (fun _ h => absurd h List.not_mem_nil)⟩)⟩)⟩)⟩)⟩)) rfl rfl rfl (by decide +kernel) ⟨(Nat.le_of_ble_eq_true rfl), (Nat.le_of_ble_eq_true rfl)⟩) hX.sp.1 kX10 rfl hl.1 rfl (Nat.le_of_ble_eq_true rfl) dL_law_1478 ⟨by show _ ≤ 600000; omega, by show _ ≤ 7302249; omega⟩) hW (fun r1 V1 H locs hp hW => ?_)
  obtain ⟨e1, hX1, hf1⟩ := hp
  obtain rfl := e1
  have hM := hM.hi (fun _ _ => rfl) hf1
  refine lv_aload_n hx hb dL_law_1481 rfl (lv_at hl 2 rfl) ?_
  refine lv_aload_n hx hb dL_law_1482 rfl (lv_at hl 0 rfl) ?_
  refine lv_iload_n hx hb dL_law_1483 rfl (lv_at hl 3 rfl) ?_
  refine lv_iconst (v := nI 1) hx hb dL_law_1484 (by decide) ?_
  refine lv_iadd hx hb dL_law_1485 ?_
  refine m_top (y := nI (7 * k + 1)) (nI_add (7 * k) 1) ?_
  refine va_sld hx hb hXs hbl hbA hW.2.2.1 (vp_in_nI (by omega) (by omega)) dL_law_1486 ?_
  refine lv_aload_n hx hb dL_law_1487 rfl (lv_at hl 0 rfl) ?_
  refine lv_iload_n hx hb dL_law_1488 rfl (lv_at hl 3 rfl) ?_
  refine lv_iconst (v := nI 2) hx hb dL_law_1489 (by decide) ?_
  refine lv_iadd hx hb dL_law_1490 ?_
  refine m_top (y := nI (7 * k + 2)) (nI_add (7 * k) 2) ?_
  refine va_sld hx hb hXs hbl hbA hW.2.2.1 (vp_in_nI (by omega) (by omega)) dL_law_1491 ?_
  refine lv_aload_n hx hb dL_law_1492 rfl (lv_at hl 0 rfl) ?_
  refine lv_iload_n hx hb dL_law_1493 rfl (lv_at hl 3 rfl) ?_
  refine lv_iconst (v := nI 3) hx hb dL_law_1494 (by decide) ?_
  refine lv_iadd hx hb dL_law_1495 ?_
  refine m_top (y := nI (7 * k + 3)) (nI_add (7 * k) 3) ?_
  refine va_sld hx hb hXs hbl hbA hW.2.2.1 (vp_in_nI (by omega) (by omega)) dL_law_1496 ?_
  refine lv_aload_n hx hb dL_law_1497 rfl (lv_at hl 0 rfl) ?_
  refine lv_iload_n hx hb dL_law_1498 rfl (lv_at hl 3 rfl) ?_
  refine lv_iconst (v := nI 4) hx hb dL_law_1499 (by decide) ?_
  refine lv_iadd hx hb dL_law_1500 ?_
  refine m_top (y := nI (7 * k + 4)) (nI_add (7 * k) 4) ?_
  refine va_sld hx hb hXs hbl hbA hW.2.2.1 (vp_in_nI (by omega) (by omega)) dL_law_1501 ?_
  refine m_ci (m_rV S hW (c_X11_eatersBy l G ad sh V1 q (xs (nI (7 * k + 1)).toNatClampNeg) (xs (nI (7 * k + 2)).toNatClampNeg) (xs (nI (7 * k + 3)).toNatClampNeg) (xs (nI (7 * k + 4)).toNatClampNeg) hM) (cwV 4 hts (gCall [.methodLink RL 160 yX11_eatersBy, .instanceMethod yX11_eatersBy, .selects RX11 yX11_eatersBy yX11_eatersBy, .initialized RX11] (List.forall_mem_cons.mpr ⟨(wa_45 _ (List.mem_of_getElem? (i := 22) (by decide +kernel))), (List.forall_mem_cons.mpr ⟨(wa_45 _ (List.mem_of_getElem? (i := 19) (by decide +kernel))), (List.forall_mem_cons.mpr ⟨(wa_45 _ (List.mem_of_getElem? (i := 20) (by decide +kernel))), (List.forall_mem_cons.mpr ⟨(wa_45 _ (List.mem_of_getElem? (i := 21) (by decide +kernel))), (List.forall_mem_cons.mpr ⟨(wa_1 _ (List.mem_of_getElem? (i := 5) (by decide +kernel))), (fun _ h => absurd h List.not_mem_nil)⟩)⟩)⟩)⟩)⟩)) rfl rfl rfl (by decide +kernel) ⟨(Nat.le_of_ble_eq_true rfl), (Nat.le_of_ble_eq_true rfl)⟩) hM.s200 kX11 rfl hl.1 rfl (Nat.le_of_ble_eq_true rfl) dL_law_1502 ⟨by show _ ≤ 600000; omega, by show _ ≤ 7302249; omega⟩) hW (fun r2 V2 H locs hp hW => ?_)
  obtain ⟨e2, hM2, hf2⟩ := hp
  obtain rfl := e2
  have hX2 := hX1.lo hf2
  refine lv_icmp_eq (tgt := 1543) hx hb dL_law_1505 (by decide) (fun c1 => ?_) (fun c1 => ?_)
  · refine W.widen (k := cells + 3) (n := slots + 197) (by omega) (by omega) ?_
    exact kk ad sh V2 _ _ _ ls hX2 hM2 (by rw [nBy_tx]; exact hN) hW hl
  · exact absurd rfl c1
set_option maxHeartbeats 4000000 in
set_option maxRecDepth 100000 in
theorem law_c35 (S : CallFix p m c cL_law 4 s #[Value.ref b] wsLaw RL) (hXs : va_X b L xs s s.heap) (hbl : b < s.heap.size) (hL : L ≤ 3584) (hk : 7 * k + 7 ≤ L) (hcs : cells + 3 ≤ 600000 ∧ slots + 197 ≤ 7302249) (hX : XI sh V q) (hM : MI sh V q) (hN : NoT sh (gTxs q).length) (hW : mC (fun z => s.heap.size ≤ z) s.heap s G ad sh V H locs) (hl : lv_has ls 4 [(0, .ref b), (1, .ref (ad 0)), (2, .ref (ad 200)), (3, .int (nI (7 * k)))]) (kk : LwK p l e s m below meth c b k G cells slots Q) : W p l e room_1 s m #[Value.ref b] below meth c H locs cells slots Q (F0 m 1510 ls []) := by
  obtain ⟨hx, hb, hml, hown, hts⟩ := id S
  have hbA : ¬ (fun z : Nat => s.heap.size ≤ z) b := Nat.not_le.mpr hbl
  refine lv_aload_n hx hb dL_law_1510 rfl (lv_at hl 1 rfl) ?_
  refine lv_aload_n hx hb dL_law_1511 rfl (lv_at hl 0 rfl) ?_
  refine lv_iload_n hx hb dL_law_1512 rfl (lv_at hl 3 rfl) ?_
  refine lv_iconst (v := nI 1) hx hb dL_law_1513 (by decide) ?_
  refine lv_iadd hx hb dL_law_1514 ?_
  refine m_top (y := nI (7 * k + 1)) (nI_add (7 * k) 1) ?_
  refine va_sld hx hb hXs hbl hbA hW.2.2.1 (vp_in_nI (by omega) (by omega)) dL_law_1515 ?_
  refine lv_aload_n hx hb dL_law_1516 rfl (lv_at hl 0 rfl) ?_
  refine lv_iload_n hx hb dL_law_1517 rfl (lv_at hl 3 rfl) ?_
  refine lv_iconst (v := nI 2) hx hb dL_law_1518 (by decide) ?_
  refine lv_iadd hx hb dL_law_1519 ?_
  refine m_top (y := nI (7 * k + 2)) (nI_add (7 * k) 2) ?_
  refine va_sld hx hb hXs hbl hbA hW.2.2.1 (vp_in_nI (by omega) (by omega)) dL_law_1520 ?_
  refine m_cie (m_rV S hW (c_X10_taken l G ad sh V q (xs (nI (7 * k + 1)).toNatClampNeg) (xs (nI (7 * k + 2)).toNatClampNeg) hX) (cwV 2 hts (gCall [.methodLink RL 161 yX10_taken, .instanceMethod yX10_taken, .selects RX10 yX10_taken yX10_taken, .initialized RX10] (List.forall_mem_cons.mpr ⟨(wa_46 _ (List.mem_of_getElem? (i := 3) (by decide +kernel))), (List.forall_mem_cons.mpr ⟨(wa_46 _ (List.mem_of_getElem? (i := 0) (by decide +kernel))), (List.forall_mem_cons.mpr ⟨(wa_46 _ (List.mem_of_getElem? (i := 1) (by decide +kernel))), (List.forall_mem_cons.mpr ⟨(wa_46 _ (List.mem_of_getElem? (i := 2) (by decide +kernel))), (List.forall_mem_cons.mpr ⟨(wa_1 _ (List.mem_of_getElem? (i := 2) (by decide +kernel))), (fun _ h => absurd h List.not_mem_nil)⟩)⟩)⟩)⟩)⟩)) rfl rfl rfl (by decide +kernel) ⟨(Nat.le_of_ble_eq_true rfl), (Nat.le_of_ble_eq_true rfl)⟩) hX.sp.1 kX10 rfl hl.1 rfl (Nat.le_of_ble_eq_true rfl) dL_law_1521 ⟨by show _ ≤ 600000; omega, by show _ ≤ 7302249; omega⟩) hW (fun H locs hW => ?_)
  refine lv_aload_n hx hb dL_law_1524 rfl (lv_at hl 2 rfl) ?_
  refine lv_aload_n hx hb dL_law_1525 rfl (lv_at hl 0 rfl) ?_
  refine lv_iload_n hx hb dL_law_1526 rfl (lv_at hl 3 rfl) ?_
  refine lv_iconst (v := nI 1) hx hb dL_law_1527 (by decide) ?_
  refine lv_iadd hx hb dL_law_1528 ?_
  refine m_top (y := nI (7 * k + 1)) (nI_add (7 * k) 1) ?_
  refine va_sld hx hb hXs hbl hbA hW.2.2.1 (vp_in_nI (by omega) (by omega)) dL_law_1529 ?_
  refine lv_aload_n hx hb dL_law_1530 rfl (lv_at hl 0 rfl) ?_
  refine lv_iload_n hx hb dL_law_1531 rfl (lv_at hl 3 rfl) ?_
  refine lv_iconst (v := nI 2) hx hb dL_law_1532 (by decide) ?_
  refine lv_iadd hx hb dL_law_1533 ?_
  refine m_top (y := nI (7 * k + 2)) (nI_add (7 * k) 2) ?_
  refine va_sld hx hb hXs hbl hbA hW.2.2.1 (vp_in_nI (by omega) (by omega)) dL_law_1534 ?_
  refine m_ci (m_rV S hW (c_X11_taken l G ad sh V q (xs (nI (7 * k + 1)).toNatClampNeg) (xs (nI (7 * k + 2)).toNatClampNeg) hM) (cwV 2 hts (gCall [.methodLink RL 164 yX11_taken, .instanceMethod yX11_taken, .selects RX11 yX11_taken yX11_taken, .initialized RX11] (List.forall_mem_cons.mpr ⟨(wa_46 _ (List.mem_of_getElem? (i := 11) (by decide +kernel))), (List.forall_mem_cons.mpr ⟨(wa_46 _ (List.mem_of_getElem? (i := 8) (by decide +kernel))), (List.forall_mem_cons.mpr ⟨(wa_46 _ (List.mem_of_getElem? (i := 9) (by decide +kernel))), (List.forall_mem_cons.mpr ⟨(wa_46 _ (List.mem_of_getElem? (i := 10) (by decide +kernel))), (List.forall_mem_cons.mpr ⟨(wa_1 _ (List.mem_of_getElem? (i := 5) (by decide +kernel))), (fun _ h => absurd h List.not_mem_nil)⟩)⟩)⟩)⟩)⟩)) rfl rfl rfl (by decide +kernel) ⟨(Nat.le_of_ble_eq_true rfl), (Nat.le_of_ble_eq_true rfl)⟩) hM.s200 kX11 rfl hl.1 rfl (Nat.le_of_ble_eq_true rfl) dL_law_1535 ⟨by show _ ≤ 600000; omega, by show _ ≤ 7302249; omega⟩) hW (fun r2 V2 H locs hp hW => ?_)
  obtain ⟨e2, e3⟩ := hp
  obtain rfl := e2
  rw [e3] at hW
  refine lv_icmp_eq (tgt := 1543) hx hb dL_law_1538 (by decide) (fun c1 => ?_) (fun c1 => ?_)
  · refine W.widen (k := cells + 3) (n := slots + 197) (by omega) (by omega) ?_
    exact kk ad sh V _ _ _ ls hX hM hN hW hl
  · exact absurd rfl c1
end LAWC
