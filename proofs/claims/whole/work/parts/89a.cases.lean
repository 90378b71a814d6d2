def LwK (p : Program) (l : Launch) (e : Env) (s : State) (m : MethodId) (below : List Frame) (meth : Method) (c : Code) (b k : Nat) (G : mG) (cells slots : Nat) (Q : State → Prop) : Prop :=
  ∀ (ad : Nat → Nat) (sh : Nat → Option mSh) (V : mV) (q : Sg) (H : Heap) (locs : List Loc) (ls : Array Slot), XI sh V q → MI sh V q → NoT sh (gTxs q).length → mC (fun z => s.heap.size ≤ z) s.heap s G ad sh V H locs → lv_has ls 4 [(0, .ref b), (1, .ref (ad 0)), (2, .ref (ad 200)), (3, .int (nI (7 * k)))] → W p l e room_1 s m #[Value.ref b] below meth c H locs (cells + 3) (slots + 197) Q (F0 m 1543 ls [])
theorem lg_cmp_rfl (x : Int64) : lg_cmp x x = nI 0 := ((lg_cmp_eq x x).mpr rfl).trans nI_0.symm
section LAWC
variable {p : Program} {l : Launch} {e : Env} {s : State} {m : MethodId} {below : List Frame} {meth : Method} {c : Code} {b L k : Nat} {xs : Nat → Int32} {G : mG} {ad : Nat → Nat} {sh : Nat → Option mSh} {V : mV} {q : Sg} {H : Heap} {locs : List Loc} {ls : Array Slot} {cells slots : Nat} {Q : State → Prop}
set_option maxHeartbeats 4000000 in
set_option maxRecDepth 100000 in
theorem law_c0 (S : CallFix p m c cL_law 4 s #[Value.ref b] wsLaw RL) (hXs : va_X b L xs s s.heap) (hbl : b < s.heap.size) (hL : L ≤ 3584) (hk : 7 * k + 7 ≤ L) (hcs : cells + 3 ≤ 600000 ∧ slots + 197 ≤ 7302249) (hX : XI sh V q) (hM : MI sh V q) (hN : NoT sh (gTxs q).length) (hW : mC (fun z => s.heap.size ≤ z) s.heap s G ad sh V H locs) (hl : lv_has ls 4 [(0, .ref b), (1, .ref (ad 0)), (2, .ref (ad 200)), (3, .int (nI (7 * k)))]) (kk : LwK p l e s m below meth c b k G cells slots Q) : W p l e room_1 s m #[Value.ref b] below meth c H locs cells slots Q (F0 m 192 ls []) := by
  obtain ⟨hx, hb, hml, hown, hts⟩ := id S
  have hbA : ¬ (fun z : Nat => s.heap.size ≤ z) b := Nat.not_le.mpr hbl
  refine lv_aload_n hx hb dL_law_192 rfl (lv_at hl 1 rfl) ?_
  refine lv_aload_n hx hb dL_law_193 rfl (lv_at hl 0 rfl) ?_
  refine lv_iload_n hx hb dL_law_194 rfl (lv_at hl 3 rfl) ?_
  refine lv_iconst (v := nI 1) hx hb dL_law_195 (by decide) ?_
  refine lv_iadd hx hb dL_law_196 ?_
  refine m_top (y := nI (7 * k + 1)) (nI_add (7 * k) 1) ?_
  refine va_sld hx hb hXs hbl hbA hW.2.2.1 (vp_in_nI (by omega) (by omega)) dL_law_197 ?_
  refine m_cie (m_rV S hW (c_X10_count l G ad sh V q (xs (nI (7 * k + 1)).toNatClampNeg) hX) (cwV 1 hts (gCall [.methodLink RL 13 yX10_count, .instanceMethod yX10_count, .selects RX10 yX10_count yX10_count, .initialized RX10] (List.forall_mem_cons.mpr ⟨(wa_14 _ (List.mem_of_getElem? (i := 10) (by decide +kernel))), (List.forall_mem_cons.mpr ⟨(wa_14 _ (List.mem_of_getElem? (i := 7) (by decide +kernel))), (List.forall_mem_cons.mpr ⟨(wa_14 _ (List.mem_of_getElem? (i := 8) (by decide +kernel))), (List.forall_mem_cons.mpr ⟨(wa_14 _ (List.mem_of_getElem? (i := 9) (by decide +kernel))), (List.forall_mem_cons.mpr ⟨(wa_1 _ (List.mem_of_getElem? (i := 2) (by decide +kernel))), (fun _ h => absurd h List.not_mem_nil)⟩)⟩)⟩)⟩)⟩)) rfl rfl rfl (by decide +kernel) ⟨(Nat.le_of_ble_eq_true rfl), (Nat.le_of_ble_eq_true rfl)⟩) hX.sp.1 kX10 rfl hl.1 rfl (Nat.le_of_ble_eq_true rfl) dL_law_198 ⟨by show _ ≤ 600000; omega, by show _ ≤ 7302249; omega⟩) hW (fun H locs hW => ?_)
  refine lv_aload_n hx hb dL_law_201 rfl (lv_at hl 2 rfl) ?_
  refine lv_aload_n hx hb dL_law_202 rfl (lv_at hl 0 rfl) ?_
  refine lv_iload_n hx hb dL_law_203 rfl (lv_at hl 3 rfl) ?_
  refine lv_iconst (v := nI 1) hx hb dL_law_204 (by decide) ?_
  refine lv_iadd hx hb dL_law_205 ?_
  refine m_top (y := nI (7 * k + 1)) (nI_add (7 * k) 1) ?_
  refine va_sld hx hb hXs hbl hbA hW.2.2.1 (vp_in_nI (by omega) (by omega)) dL_law_206 ?_
  refine m_ci (m_rV S hW (c_X11_count l G ad sh V q (xs (nI (7 * k + 1)).toNatClampNeg) hM) (cwV 1 hts (gCall [.methodLink RL 17 yX11_count, .instanceMethod yX11_count, .selects RX11 yX11_count yX11_count, .initialized RX11] (List.forall_mem_cons.mpr ⟨(wa_14 _ (List.mem_of_getElem? (i := 23) (by decide +kernel))), (List.forall_mem_cons.mpr ⟨(wa_14 _ (List.mem_of_getElem? (i := 20) (by decide +kernel))), (List.forall_mem_cons.mpr ⟨(wa_14 _ (List.mem_of_getElem? (i := 21) (by decide +kernel))), (List.forall_mem_cons.mpr ⟨(wa_14 _ (List.mem_of_getElem? (i := 22) (by decide +kernel))), (List.forall_mem_cons.mpr ⟨(wa_1 _ (List.mem_of_getElem? (i := 5) (by decide +kernel))), (fun _ h => absurd h List.not_mem_nil)⟩)⟩)⟩)⟩)⟩)) rfl rfl rfl (by decide +kernel) ⟨(Nat.le_of_ble_eq_true rfl), (Nat.le_of_ble_eq_true rfl)⟩) hM.s200 kX11 rfl hl.1 rfl (Nat.le_of_ble_eq_true rfl) dL_law_207 ⟨by show _ ≤ 600000; omega, by show _ ≤ 7302249; omega⟩) hW (fun r2 V2 H locs hp hW => ?_)
  obtain ⟨e2, e3⟩ := hp
  obtain rfl := e2
  rw [e3] at hW
  refine lv_icmp_eq (tgt := 1543) hx hb dL_law_210 (by decide) (fun c1 => ?_) (fun c1 => ?_)
  · refine W.widen (k := cells + 3) (n := slots + 197) (by omega) (by omega) ?_
    exact kk ad sh V _ _ _ ls hX hM hN hW hl
  · exact absurd rfl c1
set_option maxHeartbeats 4000000 in
set_option maxRecDepth 100000 in
theorem law_c1 (S : CallFix p m c cL_law 4 s #[Value.ref b] wsLaw RL) (hXs : va_X b L xs s s.heap) (hbl : b < s.heap.size) (hL : L ≤ 3584) (hk : 7 * k + 7 ≤ L) (hcs : cells + 3 ≤ 600000 ∧ slots + 197 ≤ 7302249) (hX : XI sh V q) (hM : MI sh V q) (hN : NoT sh (gTxs q).length) (hW : mC (fun z => s.heap.size ≤ z) s.heap s G ad sh V H locs) (hl : lv_has ls 4 [(0, .ref b), (1, .ref (ad 0)), (2, .ref (ad 200)), (3, .int (nI (7 * k)))]) (kk : LwK p l e s m below meth c b k G cells slots Q) : W p l e room_1 s m #[Value.ref b] below meth c H locs cells slots Q (F0 m 215 ls []) := by
  obtain ⟨hx, hb, hml, hown, hts⟩ := id S
  have hbA : ¬ (fun z : Nat => s.heap.size ≤ z) b := Nat.not_le.mpr hbl
  refine lv_aload_n hx hb dL_law_215 rfl (lv_at hl 1 rfl) ?_
  refine lv_aload_n hx hb dL_law_216 rfl (lv_at hl 0 rfl) ?_
  refine lv_iload_n hx hb dL_law_217 rfl (lv_at hl 3 rfl) ?_
  refine lv_iconst (v := nI 1) hx hb dL_law_218 (by decide) ?_
  refine lv_iadd hx hb dL_law_219 ?_
  refine m_top (y := nI (7 * k + 1)) (nI_add (7 * k) 1) ?_
  refine va_sld hx hb hXs hbl hbA hW.2.2.1 (vp_in_nI (by omega) (by omega)) dL_law_220 ?_
  refine m_ci (m_rV S hW (c_X10_set l G ad sh V q (xs (nI (7 * k + 1)).toNatClampNeg) hX) (cwV 1 hts (gCall [.methodLink RL 18 yX10_set, .instanceMethod yX10_set, .selects RX10 yX10_set yX10_set, .initialized RX10] (List.forall_mem_cons.mpr ⟨(wa_15 _ (List.mem_of_getElem? (i := 7) (by decide +kernel))), (List.forall_mem_cons.mpr ⟨(wa_15 _ (List.mem_of_getElem? (i := 4) (by decide +kernel))), (List.forall_mem_cons.mpr ⟨(wa_15 _ (List.mem_of_getElem? (i := 5) (by decide +kernel))), (List.forall_mem_cons.mpr ⟨(wa_15 _ (List.mem_of_getElem? (i := 6) (by decide +kernel))), (List.forall_mem_cons.mpr ⟨(wa_1 _ (List.mem_of_getElem? (i := 2) (by decide +kernel))), (fun _ h => absurd h List.not_mem_nil)⟩)⟩)⟩)⟩)⟩)) rfl rfl rfl (by decide +kernel) ⟨(Nat.le_of_ble_eq_true rfl), (Nat.le_of_ble_eq_true rfl)⟩) hX.sp.1 kX10 rfl hl.1 rfl (Nat.le_of_ble_eq_true rfl) dL_law_221 ⟨by show _ ≤ 600000; omega, by show _ ≤ 7302249; omega⟩) hW (fun r1 V1 H locs hp hW => ?_)
  obtain ⟨e1, hX1, hf1⟩ := hp
  obtain rfl := e1
  have hM := hM.hi (fun _ _ => rfl) hf1
  refine lv_aload_n hx hb dL_law_224 rfl (lv_at hl 2 rfl) ?_
  refine lv_aload_n hx hb dL_law_225 rfl (lv_at hl 0 rfl) ?_
  refine lv_iload_n hx hb dL_law_226 rfl (lv_at hl 3 rfl) ?_
  refine lv_iconst (v := nI 1) hx hb dL_law_227 (by decide) ?_
  refine lv_iadd hx hb dL_law_228 ?_
  refine m_top (y := nI (7 * k + 1)) (nI_add (7 * k) 1) ?_
  refine va_sld hx hb hXs hbl hbA hW.2.2.1 (vp_in_nI (by omega) (by omega)) dL_law_229 ?_
  refine m_ci (m_rV S hW (c_X11_set l G ad sh V1 q (xs (nI (7 * k + 1)).toNatClampNeg) hM) (cwV 1 hts (gCall [.methodLink RL 21 yX11_set, .instanceMethod yX11_set, .selects RX11 yX11_set yX11_set, .initialized RX11] (List.forall_mem_cons.mpr ⟨(wa_15 _ (List.mem_of_getElem? (i := 12) (by decide +kernel))), (List.forall_mem_cons.mpr ⟨(wa_15 _ (List.mem_of_getElem? (i := 9) (by decide +kernel))), (List.forall_mem_cons.mpr ⟨(wa_15 _ (List.mem_of_getElem? (i := 10) (by decide +kernel))), (List.forall_mem_cons.mpr ⟨(wa_15 _ (List.mem_of_getElem? (i := 11) (by decide +kernel))), (List.forall_mem_cons.mpr ⟨(wa_1 _ (List.mem_of_getElem? (i := 5) (by decide +kernel))), (fun _ h => absurd h List.not_mem_nil)⟩)⟩)⟩)⟩)⟩)) rfl rfl rfl (by decide +kernel) ⟨(Nat.le_of_ble_eq_true rfl), (Nat.le_of_ble_eq_true rfl)⟩) hM.s200 kX11 rfl hl.1 rfl (Nat.le_of_ble_eq_true rfl) dL_law_230 ⟨by show _ ≤ 600000; omega, by show _ ≤ 7302249; omega⟩) hW (fun r2 V2 H locs hp hW => ?_)
  obtain ⟨e2, hM2, hf2⟩ := hp
  obtain rfl := e2
  have hX2 := hX1.lo hf2
  refine lv_icmp_eq (tgt := 1543) hx hb dL_law_233 (by decide) (fun c1 => ?_) (fun c1 => ?_)
  · refine W.widen (k := cells + 3) (n := slots + 197) (by omega) (by omega) ?_
    exact kk ad sh V2 _ _ _ ls hX2 hM2 (by rw [nSet_tx]; exact hN) hW hl
  · exact absurd rfl c1
set_option maxHeartbeats 4000000 in
set_option maxRecDepth 100000 in
theorem law_c2 (S : CallFix p m c cL_law 4 s #[Value.ref b] wsLaw RL) (hXs : va_X b L xs s s.heap) (hbl : b < s.heap.size) (hL : L ≤ 3584) (hk : 7 * k + 7 ≤ L) (hcs : cells + 3 ≤ 600000 ∧ slots + 197 ≤ 7302249) (hX : XI sh V q) (hM : MI sh V q) (hN : NoT sh (gTxs q).length) (hW : mC (fun z => s.heap.size ≤ z) s.heap s G ad sh V H locs) (hl : lv_has ls 4 [(0, .ref b), (1, .ref (ad 0)), (2, .ref (ad 200)), (3, .int (nI (7 * k)))]) (kk : LwK p l e s m below meth c b k G cells slots Q) : W p l e room_1 s m #[Value.ref b] below meth c H locs cells slots Q (F0 m 238 ls []) := by
  obtain ⟨hx, hb, hml, hown, hts⟩ := id S
  have hbA : ¬ (fun z : Nat => s.heap.size ≤ z) b := Nat.not_le.mpr hbl
  refine lv_aload_n hx hb dL_law_238 rfl (lv_at hl 1 rfl) ?_
  refine lv_aload_n hx hb dL_law_239 rfl (lv_at hl 0 rfl) ?_
  refine lv_iload_n hx hb dL_law_240 rfl (lv_at hl 3 rfl) ?_
  refine lv_iconst (v := nI 1) hx hb dL_law_241 (by decide) ?_
  refine lv_iadd hx hb dL_law_242 ?_
  refine m_top (y := nI (7 * k + 1)) (nI_add (7 * k) 1) ?_
  refine va_sld hx hb hXs hbl hbA hW.2.2.1 (vp_in_nI (by omega) (by omega)) dL_law_243 ?_
  refine lv_aload_n hx hb dL_law_244 rfl (lv_at hl 0 rfl) ?_
  refine lv_iload_n hx hb dL_law_245 rfl (lv_at hl 3 rfl) ?_
  refine lv_iconst (v := nI 2) hx hb dL_law_246 (by decide) ?_
  refine lv_iadd hx hb dL_law_247 ?_
  refine m_top (y := nI (7 * k + 2)) (nI_add (7 * k) 2) ?_
  refine va_sld hx hb hXs hbl hbA hW.2.2.1 (vp_in_nI (by omega) (by omega)) dL_law_248 ?_
  refine lv_aload_n hx hb dL_law_249 rfl (lv_at hl 0 rfl) ?_
  refine lv_iload_n hx hb dL_law_250 rfl (lv_at hl 3 rfl) ?_
  refine lv_iconst (v := nI 3) hx hb dL_law_251 (by decide) ?_
  refine lv_iadd hx hb dL_law_252 ?_
  refine m_top (y := nI (7 * k + 3)) (nI_add (7 * k) 3) ?_
  refine va_sld hx hb hXs hbl hbA hW.2.2.1 (vp_in_nI (by omega) (by omega)) dL_law_253 ?_
  refine lv_aload_n hx hb dL_law_254 rfl (lv_at hl 0 rfl) ?_
  refine lv_iload_n hx hb dL_law_255 rfl (lv_at hl 3 rfl) ?_
  refine lv_iconst (v := nI 4) hx hb dL_law_256 (by decide) ?_
  refine lv_iadd hx hb dL_law_257 ?_
  refine m_top (y := nI (7 * k + 4)) (nI_add (7 * k) 4) ?_
  refine va_sld hx hb hXs hbl hbA hW.2.2.1 (vp_in_nI (by omega) (by omega)) dL_law_258 ?_
  refine lv_aload_n hx hb dL_law_259 rfl (lv_at hl 0 rfl) ?_
  refine lv_iload_n hx hb dL_law_260 rfl (lv_at hl 3 rfl) ?_
  refine lv_iconst (v := nI 5) hx hb dL_law_261 (by decide) ?_
  refine lv_iadd hx hb dL_law_262 ?_
  refine m_top (y := nI (7 * k + 5)) (nI_add (7 * k) 5) ?_
  refine va_sld hx hb hXs hbl hbA hW.2.2.1 (vp_in_nI (by omega) (by omega)) dL_law_263 ?_
  refine lv_aload_n hx hb dL_law_264 rfl (lv_at hl 0 rfl) ?_
  refine lv_iload_n hx hb dL_law_265 rfl (lv_at hl 3 rfl) ?_
  refine lv_bipush (v := nI 6) hx hb dL_law_266 (by decide) ?_
  refine lv_iadd hx hb dL_law_268 ?_
  refine m_top (y := nI (7 * k + 6)) (nI_add (7 * k) 6) ?_
  refine va_sld hx hb hXs hbl hbA hW.2.2.1 (vp_in_nI (by omega) (by omega)) dL_law_269 ?_
  refine m_ci (m_rV S hW (c_X10_feed l G ad sh V q (xs (nI (7 * k + 1)).toNatClampNeg) (xs (nI (7 * k + 2)).toNatClampNeg) (xs (nI (7 * k + 3)).toNatClampNeg) (xs (nI (7 * k + 4)).toNatClampNeg) (xs (nI (7 * k + 5)).toNatClampNeg) (xs (nI (7 * k + 6)).toNatClampNeg) hX) (cwV 6 hts (gCall [.methodLink RL 22 yX10_feed, .instanceMethod yX10_feed, .selects RX10 yX10_feed yX10_feed, .initialized RX10] (List.forall_mem_cons.mpr ⟨(wa_15 _ (List.mem_of_getElem? (i := 16) (by decide +kernel))), (List.forall_mem_cons.mpr ⟨(wa_15 _ (List.mem_of_getElem? (i := 13) (by decide +kernel))), (List.forall_mem_cons.mpr ⟨(wa_15 _ (List.mem_of_getElem? (i := 14) (by decide +kernel))), (List.forall_mem_cons.mpr ⟨(wa_15 _ (List.mem_of_getElem? (i := 15) (by decide +kernel))), (List.forall_mem_cons.mpr ⟨(wa_1 _ (List.mem_of_getElem? (i := 2) (by decide +kernel))), (fun _ h => absurd h List.not_mem_nil)⟩)⟩)⟩)⟩)⟩)) rfl rfl rfl (by decide +kernel) ⟨(Nat.le_of_ble_eq_true rfl), (Nat.le_of_ble_eq_true rfl)⟩) hX.sp.1 kX10 rfl hl.1 rfl (Nat.le_of_ble_eq_true rfl) dL_law_270 ⟨by show _ ≤ 600000; omega, by show _ ≤ 7302249; omega⟩) hW (fun r1 V1 H locs hp hW => ?_)
  obtain ⟨e1, hX1, hf1⟩ := hp
  obtain rfl := e1
  have hM := hM.hi (fun _ _ => rfl) hf1
  refine lv_aload_n hx hb dL_law_273 rfl (lv_at hl 2 rfl) ?_
  refine lv_aload_n hx hb dL_law_274 rfl (lv_at hl 0 rfl) ?_
  refine lv_iload_n hx hb dL_law_275 rfl (lv_at hl 3 rfl) ?_
  refine lv_iconst (v := nI 1) hx hb dL_law_276 (by decide) ?_
  refine lv_iadd hx hb dL_law_277 ?_
  refine m_top (y := nI (7 * k + 1)) (nI_add (7 * k) 1) ?_
  refine va_sld hx hb hXs hbl hbA hW.2.2.1 (vp_in_nI (by omega) (by omega)) dL_law_278 ?_
  refine lv_aload_n hx hb dL_law_279 rfl (lv_at hl 0 rfl) ?_
  refine lv_iload_n hx hb dL_law_280 rfl (lv_at hl 3 rfl) ?_
  refine lv_iconst (v := nI 2) hx hb dL_law_281 (by decide) ?_
  refine lv_iadd hx hb dL_law_282 ?_
  refine m_top (y := nI (7 * k + 2)) (nI_add (7 * k) 2) ?_
  refine va_sld hx hb hXs hbl hbA hW.2.2.1 (vp_in_nI (by omega) (by omega)) dL_law_283 ?_
  refine lv_aload_n hx hb dL_law_284 rfl (lv_at hl 0 rfl) ?_
  refine lv_iload_n hx hb dL_law_285 rfl (lv_at hl 3 rfl) ?_
  refine lv_iconst (v := nI 3) hx hb dL_law_286 (by decide) ?_
  refine lv_iadd hx hb dL_law_287 ?_
  refine m_top (y := nI (7 * k + 3)) (nI_add (7 * k) 3) ?_
  refine va_sld hx hb hXs hbl hbA hW.2.2.1 (vp_in_nI (by omega) (by omega)) dL_law_288 ?_
  refine lv_aload_n hx hb dL_law_289 rfl (lv_at hl 0 rfl) ?_
  refine lv_iload_n hx hb dL_law_290 rfl (lv_at hl 3 rfl) ?_
  refine lv_iconst (v := nI 4) hx hb dL_law_291 (by decide) ?_
  refine lv_iadd hx hb dL_law_292 ?_
  refine m_top (y := nI (7 * k + 4)) (nI_add (7 * k) 4) ?_
  refine va_sld hx hb hXs hbl hbA hW.2.2.1 (vp_in_nI (by omega) (by omega)) dL_law_293 ?_
  refine lv_aload_n hx hb dL_law_294 rfl (lv_at hl 0 rfl) ?_
  refine lv_iload_n hx hb dL_law_295 rfl (lv_at hl 3 rfl) ?_
  refine lv_iconst (v := nI 5) hx hb dL_law_296 (by decide) ?_
  refine lv_iadd hx hb dL_law_297 ?_
  refine m_top (y := nI (7 * k + 5)) (nI_add (7 * k) 5) ?_
  refine va_sld hx hb hXs hbl hbA hW.2.2.1 (vp_in_nI (by omega) (by omega)) dL_law_298 ?_
  refine lv_aload_n hx hb dL_law_299 rfl (lv_at hl 0 rfl) ?_
  refine lv_iload_n hx hb dL_law_300 rfl (lv_at hl 3 rfl) ?_
  refine lv_bipush (v := nI 6) hx hb dL_law_301 (by decide) ?_
  refine lv_iadd hx hb dL_law_303 ?_
  refine m_top (y := nI (7 * k + 6)) (nI_add (7 * k) 6) ?_
  refine va_sld hx hb hXs hbl hbA hW.2.2.1 (vp_in_nI (by omega) (by omega)) dL_law_304 ?_
  refine m_ci (m_rV S hW (c_X11_feed l G ad sh V1 q (xs (nI (7 * k + 1)).toNatClampNeg) (xs (nI (7 * k + 2)).toNatClampNeg) (xs (nI (7 * k + 3)).toNatClampNeg) (xs (nI (7 * k + 4)).toNatClampNeg) (xs (nI (7 * k + 5)).toNatClampNeg) (xs (nI (7 * k + 6)).toNatClampNeg) hM) (cwV 6 hts (gCall [.methodLink RL 26 yX11_feed, .instanceMethod yX11_feed, .selects RX11 yX11_feed yX11_feed, .initialized RX11] (List.forall_mem_cons.mpr ⟨(wa_16 _ (List.mem_of_getElem? (i := 4) (by decide +kernel))), (List.forall_mem_cons.mpr ⟨(wa_16 _ (List.mem_of_getElem? (i := 1) (by decide +kernel))), (List.forall_mem_cons.mpr ⟨(wa_16 _ (List.mem_of_getElem? (i := 2) (by decide +kernel))), (List.forall_mem_cons.mpr ⟨(wa_16 _ (List.mem_of_getElem? (i := 3) (by decide +kernel))), (List.forall_mem_cons.mpr ⟨(wa_1 _ (List.mem_of_getElem? (i := 5) (by decide +kernel))), (fun _ h => absurd h List.not_mem_nil)⟩)⟩)⟩)⟩)⟩)) rfl rfl rfl (by decide +kernel) ⟨(Nat.le_of_ble_eq_true rfl), (Nat.le_of_ble_eq_true rfl)⟩) hM.s200 kX11 rfl hl.1 rfl (Nat.le_of_ble_eq_true rfl) dL_law_305 ⟨by show _ ≤ 600000; omega, by show _ ≤ 7302249; omega⟩) hW (fun r2 V2 H locs hp hW => ?_)
  obtain ⟨e2, hM2, hf2⟩ := hp
  obtain rfl := e2
  have hX2 := hX1.lo hf2
  refine lv_icmp_eq (tgt := 1543) hx hb dL_law_308 (by decide) (fun c1 => ?_) (fun c1 => ?_)
  · refine W.widen (k := cells + 3) (n := slots + 197) (by omega) (by omega) ?_
    exact kk ad sh V2 _ _ _ ls hX2 hM2 (by rw [nFeed_tx]; exact hN) hW hl
  · exact absurd rfl c1
set_option maxHeartbeats 4000000 in
set_option maxRecDepth 100000 in
theorem law_c3 (S : CallFix p m c cL_law 4 s #[Value.ref b] wsLaw RL) (hXs : va_X b L xs s s.heap) (hbl : b < s.heap.size) (hL : L ≤ 3584) (hk : 7 * k + 7 ≤ L) (hcs : cells + 3 ≤ 600000 ∧ slots + 197 ≤ 7302249) (hX : XI sh V q) (hM : MI sh V q) (hN : NoT sh (gTxs q).length) (hW : mC (fun z => s.heap.size ≤ z) s.heap s G ad sh V H locs) (hl : lv_has ls 4 [(0, .ref b), (1, .ref (ad 0)), (2, .ref (ad 200)), (3, .int (nI (7 * k)))]) (kk : LwK p l e s m below meth c b k G cells slots Q) : W p l e room_1 s m #[Value.ref b] below meth c H locs cells slots Q (F0 m 313 ls []) := by
  obtain ⟨hx, hb, hml, hown, hts⟩ := id S
  have hbA : ¬ (fun z : Nat => s.heap.size ≤ z) b := Nat.not_le.mpr hbl
  refine lv_aload_n hx hb dL_law_313 rfl (lv_at hl 1 rfl) ?_
  obtain ⟨ta, hta4, hta⟩ := hX.ta
  refine m_fin (m_rV S hW (c_X10_text l G ad sh V q ta (gTxs q).length hX rfl hta hta4 hN) (cwV 0 hts (gCall [.methodLink RL 27 yX10_text, .instanceMethod yX10_text, .selects RX10 yX10_text yX10_text, .initialized RX10] (List.forall_mem_cons.mpr ⟨(wa_16 _ (List.mem_of_getElem? (i := 11) (by decide +kernel))), (List.forall_mem_cons.mpr ⟨(wa_16 _ (List.mem_of_getElem? (i := 8) (by decide +kernel))), (List.forall_mem_cons.mpr ⟨(wa_16 _ (List.mem_of_getElem? (i := 9) (by decide +kernel))), (List.forall_mem_cons.mpr ⟨(wa_16 _ (List.mem_of_getElem? (i := 10) (by decide +kernel))), (List.forall_mem_cons.mpr ⟨(wa_1 _ (List.mem_of_getElem? (i := 2) (by decide +kernel))), (fun _ h => absurd h List.not_mem_nil)⟩)⟩)⟩)⟩)⟩)) rfl rfl rfl (by decide +kernel) ⟨(Nat.le_of_ble_eq_true rfl), (Nat.le_of_ble_eq_true rfl)⟩) hX.sp.1 kX10 rfl hl.1 rfl (Nat.le_of_ble_eq_true rfl) dL_law_314 ⟨by show _ ≤ 600000; omega, by show _ ≤ 7302249; omega⟩) hW (fun v1 ad1 sh1 V1 H locs hp hW => ?_)
  obtain ⟨rfl, hA, hS1, hV1, hX1, hN1⟩ := hp
  refine W.eq (g2 := F0 m 317 ls [.int (aText q (qsV V ta))]) rfl ?_
  have hl : lv_has ls 4 [(0, .ref b), (1, .ref (ad1 0)), (2, .ref (ad1 200)), (3, .int (nI (7 * k)))] := by rw [hA 0 (by omega), hA 200 (by omega)]; exact hl
  have hM1 := hM.hi (fun a ha => hS1 a (Or.inr ha)) hV1
  refine lv_aload_n hx hb dL_law_317 rfl (lv_at hl 2 rfl) ?_
  refine m_ci (m_rV S hW (c_X11_text_q l G ad1 sh1 V1 q (qsV V ta) hM1 (qsV_ok V ta)) (cwV 0 hts (gCall [.methodLink RL 31 yX11_text, .instanceMethod yX11_text, .selects RX11 yX11_text yX11_text, .initialized RX11] (List.forall_mem_cons.mpr ⟨(wa_12 _ (List.mem_of_getElem? (i := 3) (by decide +kernel))), (List.forall_mem_cons.mpr ⟨(wa_16 _ (List.mem_of_getElem? (i := 12) (by decide +kernel))), (List.forall_mem_cons.mpr ⟨(wa_12 _ (List.mem_of_getElem? (i := 1) (by decide +kernel))), (List.forall_mem_cons.mpr ⟨(wa_12 _ (List.mem_of_getElem? (i := 2) (by decide +kernel))), (List.forall_mem_cons.mpr ⟨(wa_1 _ (List.mem_of_getElem? (i := 5) (by decide +kernel))), (fun _ h => absurd h List.not_mem_nil)⟩)⟩)⟩)⟩)⟩)) rfl rfl rfl (by decide +kernel) ⟨(Nat.le_of_ble_eq_true rfl), (Nat.le_of_ble_eq_true rfl)⟩) hM1.s200 kX11 rfl hl.1 rfl (Nat.le_of_ble_eq_true rfl) dL_law_318 ⟨by show _ ≤ 600000; omega, by show _ ≤ 7302249; omega⟩) hW (fun r2 V2 H locs hp hW => ?_)
  obtain ⟨e2, hM2, hf2⟩ := hp
  obtain rfl := e2
  have hX2 := hX1.lo hf2
  refine lv_icmp_eq (tgt := 1543) hx hb dL_law_321 (by decide) (fun c1 => ?_) (fun c1 => ?_)
  · exact kk ad1 sh1 V2 _ _ _ ls hX2 hM2 hN1 hW hl
  · exact absurd rfl c1
set_option maxHeartbeats 4000000 in
set_option maxRecDepth 100000 in
theorem law_c4 (S : CallFix p m c cL_law 4 s #[Value.ref b] wsLaw RL) (hXs : va_X b L xs s s.heap) (hbl : b < s.heap.size) (hL : L ≤ 3584) (hk : 7 * k + 7 ≤ L) (hcs : cells + 3 ≤ 600000 ∧ slots + 197 ≤ 7302249) (hX : XI sh V q) (hM : MI sh V q) (hN : NoT sh (gTxs q).length) (hW : mC (fun z => s.heap.size ≤ z) s.heap s G ad sh V H locs) (hl : lv_has ls 4 [(0, .ref b), (1, .ref (ad 0)), (2, .ref (ad 200)), (3, .int (nI (7 * k)))]) (kk : LwK p l e s m below meth c b k G cells slots Q) : W p l e room_1 s m #[Value.ref b] below meth c H locs cells slots Q (F0 m 326 ls []) := by
  obtain ⟨hx, hb, hml, hown, hts⟩ := id S
  have hbA : ¬ (fun z : Nat => s.heap.size ≤ z) b := Nat.not_le.mpr hbl
  refine lv_aload_n hx hb dL_law_326 rfl (lv_at hl 1 rfl) ?_
  refine lv_aload_n hx hb dL_law_327 rfl (lv_at hl 0 rfl) ?_
  refine lv_iload_n hx hb dL_law_328 rfl (lv_at hl 3 rfl) ?_
  refine lv_iconst (v := nI 1) hx hb dL_law_329 (by decide) ?_
  refine lv_iadd hx hb dL_law_330 ?_
  refine m_top (y := nI (7 * k + 1)) (nI_add (7 * k) 1) ?_
  refine va_sld hx hb hXs hbl hbA hW.2.2.1 (vp_in_nI (by omega) (by omega)) dL_law_331 ?_
  refine m_ci (m_rV S hW (c_X10_force l G ad sh V q (xs (nI (7 * k + 1)).toNatClampNeg) hX) (cwV 1 hts (gCall [.methodLink RL 32 yX10_force, .instanceMethod yX10_force, .selects RX10 yX10_force yX10_force, .initialized RX10] (List.forall_mem_cons.mpr ⟨(wa_16 _ (List.mem_of_getElem? (i := 16) (by decide +kernel))), (List.forall_mem_cons.mpr ⟨(wa_16 _ (List.mem_of_getElem? (i := 13) (by decide +kernel))), (List.forall_mem_cons.mpr ⟨(wa_16 _ (List.mem_of_getElem? (i := 14) (by decide +kernel))), (List.forall_mem_cons.mpr ⟨(wa_16 _ (List.mem_of_getElem? (i := 15) (by decide +kernel))), (List.forall_mem_cons.mpr ⟨(wa_1 _ (List.mem_of_getElem? (i := 2) (by decide +kernel))), (fun _ h => absurd h List.not_mem_nil)⟩)⟩)⟩)⟩)⟩)) rfl rfl rfl (by decide +kernel) ⟨(Nat.le_of_ble_eq_true rfl), (Nat.le_of_ble_eq_true rfl)⟩) hX.sp.1 kX10 rfl hl.1 rfl (Nat.le_of_ble_eq_true rfl) dL_law_332 ⟨by show _ ≤ 600000; omega, by show _ ≤ 7302249; omega⟩) hW (fun r1 V1 H locs hp hW => ?_)
  obtain ⟨e1, hX1, hf1⟩ := hp
  obtain rfl := e1
  have hM := hM.hi (fun _ _ => rfl) hf1
  refine lv_aload_n hx hb dL_law_335 rfl (lv_at hl 2 rfl) ?_
  refine lv_aload_n hx hb dL_law_336 rfl (lv_at hl 0 rfl) ?_
  refine lv_iload_n hx hb dL_law_337 rfl (lv_at hl 3 rfl) ?_
  refine lv_iconst (v := nI 1) hx hb dL_law_338 (by decide) ?_
  refine lv_iadd hx hb dL_law_339 ?_
  refine m_top (y := nI (7 * k + 1)) (nI_add (7 * k) 1) ?_
  refine va_sld hx hb hXs hbl hbA hW.2.2.1 (vp_in_nI (by omega) (by omega)) dL_law_340 ?_
  refine m_ci (m_rV S hW (c_X11_force l G ad sh V1 q (xs (nI (7 * k + 1)).toNatClampNeg) hM) (cwV 1 hts (gCall [.methodLink RL 35 yX11_force, .instanceMethod yX11_force, .selects RX11 yX11_force yX11_force, .initialized RX11] (List.forall_mem_cons.mpr ⟨(wa_17 _ (List.mem_of_getElem? (i := 0) (by decide +kernel))), (List.forall_mem_cons.mpr ⟨(wa_16 _ (List.mem_of_getElem? (i := 21) (by decide +kernel))), (List.forall_mem_cons.mpr ⟨(wa_16 _ (List.mem_of_getElem? (i := 22) (by decide +kernel))), (List.forall_mem_cons.mpr ⟨(wa_16 _ (List.mem_of_getElem? (i := 23) (by decide +kernel))), (List.forall_mem_cons.mpr ⟨(wa_1 _ (List.mem_of_getElem? (i := 5) (by decide +kernel))), (fun _ h => absurd h List.not_mem_nil)⟩)⟩)⟩)⟩)⟩)) rfl rfl rfl (by decide +kernel) ⟨(Nat.le_of_ble_eq_true rfl), (Nat.le_of_ble_eq_true rfl)⟩) hM.s200 kX11 rfl hl.1 rfl (Nat.le_of_ble_eq_true rfl) dL_law_341 ⟨by show _ ≤ 600000; omega, by show _ ≤ 7302249; omega⟩) hW (fun r2 V2 H locs hp hW => ?_)
  obtain ⟨e2, hM2, hf2⟩ := hp
  obtain rfl := e2
  have hX2 := hX1.lo hf2
  refine lv_icmp_eq (tgt := 1543) hx hb dL_law_344 (by decide) (fun c1 => ?_) (fun c1 => ?_)
  · refine W.widen (k := cells + 3) (n := slots + 197) (by omega) (by omega) ?_
    exact kk ad sh V2 _ _ _ ls hX2 hM2 (by rw [nForce_tx]; exact hN) hW hl
  · exact absurd rfl c1
set_option maxHeartbeats 4000000 in
set_option maxRecDepth 100000 in
theorem law_c5 (S : CallFix p m c cL_law 4 s #[Value.ref b] wsLaw RL) (hXs : va_X b L xs s s.heap) (hbl : b < s.heap.size) (hL : L ≤ 3584) (hk : 7 * k + 7 ≤ L) (hcs : cells + 3 ≤ 600000 ∧ slots + 197 ≤ 7302249) (hX : XI sh V q) (hM : MI sh V q) (hN : NoT sh (gTxs q).length) (hW : mC (fun z => s.heap.size ≤ z) s.heap s G ad sh V H locs) (hl : lv_has ls 4 [(0, .ref b), (1, .ref (ad 0)), (2, .ref (ad 200)), (3, .int (nI (7 * k)))]) (kk : LwK p l e s m below meth c b k G cells slots Q) : W p l e room_1 s m #[Value.ref b] below meth c H locs cells slots Q (F0 m 349 ls []) := by
  obtain ⟨hx, hb, hml, hown, hts⟩ := id S
  have hbA : ¬ (fun z : Nat => s.heap.size ≤ z) b := Nat.not_le.mpr hbl
  refine lv_aload_n hx hb dL_law_349 rfl (lv_at hl 1 rfl) ?_
  refine lv_aload_n hx hb dL_law_350 rfl (lv_at hl 0 rfl) ?_
  refine lv_iload_n hx hb dL_law_351 rfl (lv_at hl 3 rfl) ?_
  refine lv_iconst (v := nI 1) hx hb dL_law_352 (by decide) ?_
  refine lv_iadd hx hb dL_law_353 ?_
  refine m_top (y := nI (7 * k + 1)) (nI_add (7 * k) 1) ?_
  refine va_sld hx hb hXs hbl hbA hW.2.2.1 (vp_in_nI (by omega) (by omega)) dL_law_354 ?_
  refine lv_aload_n hx hb dL_law_355 rfl (lv_at hl 0 rfl) ?_
  refine lv_iload_n hx hb dL_law_356 rfl (lv_at hl 3 rfl) ?_
  refine lv_iconst (v := nI 2) hx hb dL_law_357 (by decide) ?_
  refine lv_iadd hx hb dL_law_358 ?_
  refine m_top (y := nI (7 * k + 2)) (nI_add (7 * k) 2) ?_
  refine va_sld hx hb hXs hbl hbA hW.2.2.1 (vp_in_nI (by omega) (by omega)) dL_law_359 ?_
  refine lv_aload_n hx hb dL_law_360 rfl (lv_at hl 0 rfl) ?_
  refine lv_iload_n hx hb dL_law_361 rfl (lv_at hl 3 rfl) ?_
  refine lv_iconst (v := nI 3) hx hb dL_law_362 (by decide) ?_
  refine lv_iadd hx hb dL_law_363 ?_
  refine m_top (y := nI (7 * k + 3)) (nI_add (7 * k) 3) ?_
  refine va_sld hx hb hXs hbl hbA hW.2.2.1 (vp_in_nI (by omega) (by omega)) dL_law_364 ?_
  refine lv_aload_n hx hb dL_law_365 rfl (lv_at hl 0 rfl) ?_
  refine lv_iload_n hx hb dL_law_366 rfl (lv_at hl 3 rfl) ?_
  refine lv_iconst (v := nI 4) hx hb dL_law_367 (by decide) ?_
  refine lv_iadd hx hb dL_law_368 ?_
  refine m_top (y := nI (7 * k + 4)) (nI_add (7 * k) 4) ?_
  refine va_sld hx hb hXs hbl hbA hW.2.2.1 (vp_in_nI (by omega) (by omega)) dL_law_369 ?_
  refine m_cie (m_rV S hW (c_X10_asks l G ad sh V q (xs (nI (7 * k + 1)).toNatClampNeg) (xs (nI (7 * k + 2)).toNatClampNeg) (xs (nI (7 * k + 3)).toNatClampNeg) (xs (nI (7 * k + 4)).toNatClampNeg) hX) (cwV 4 hts (gCall [.methodLink RL 36 yX10_asks, .instanceMethod yX10_asks, .selects RX10 yX10_asks yX10_asks, .initialized RX10] (List.forall_mem_cons.mpr ⟨(wa_17 _ (List.mem_of_getElem? (i := 4) (by decide +kernel))), (List.forall_mem_cons.mpr ⟨(wa_17 _ (List.mem_of_getElem? (i := 1) (by decide +kernel))), (List.forall_mem_cons.mpr ⟨(wa_17 _ (List.mem_of_getElem? (i := 2) (by decide +kernel))), (List.forall_mem_cons.mpr ⟨(wa_17 _ (List.mem_of_getElem? (i := 3) (by decide +kernel))), (List.forall_mem_cons.mpr ⟨(wa_1 _ (List.mem_of_getElem? (i := 2) (by decide +kernel))), (fun _ h => absurd h List.not_mem_nil)⟩)⟩)⟩)⟩)⟩)) rfl rfl rfl (by decide +kernel) ⟨(Nat.le_of_ble_eq_true rfl), (Nat.le_of_ble_eq_true rfl)⟩) hX.sp.1 kX10 rfl hl.1 rfl (Nat.le_of_ble_eq_true rfl) dL_law_370 ⟨by show _ ≤ 600000; omega, by show _ ≤ 7302249; omega⟩) hW (fun H locs hW => ?_)
  refine lv_aload_n hx hb dL_law_373 rfl (lv_at hl 2 rfl) ?_
  refine lv_aload_n hx hb dL_law_374 rfl (lv_at hl 0 rfl) ?_
  refine lv_iload_n hx hb dL_law_375 rfl (lv_at hl 3 rfl) ?_
  refine lv_iconst (v := nI 1) hx hb dL_law_376 (by decide) ?_
  refine lv_iadd hx hb dL_law_377 ?_
  refine m_top (y := nI (7 * k + 1)) (nI_add (7 * k) 1) ?_
  refine va_sld hx hb hXs hbl hbA hW.2.2.1 (vp_in_nI (by omega) (by omega)) dL_law_378 ?_
  refine lv_aload_n hx hb dL_law_379 rfl (lv_at hl 0 rfl) ?_
  refine lv_iload_n hx hb dL_law_380 rfl (lv_at hl 3 rfl) ?_
  refine lv_iconst (v := nI 2) hx hb dL_law_381 (by decide) ?_
  refine lv_iadd hx hb dL_law_382 ?_
  refine m_top (y := nI (7 * k + 2)) (nI_add (7 * k) 2) ?_
  refine va_sld hx hb hXs hbl hbA hW.2.2.1 (vp_in_nI (by omega) (by omega)) dL_law_383 ?_
  refine lv_aload_n hx hb dL_law_384 rfl (lv_at hl 0 rfl) ?_
  refine lv_iload_n hx hb dL_law_385 rfl (lv_at hl 3 rfl) ?_
  refine lv_iconst (v := nI 3) hx hb dL_law_386 (by decide) ?_
  refine lv_iadd hx hb dL_law_387 ?_
  refine m_top (y := nI (7 * k + 3)) (nI_add (7 * k) 3) ?_
  refine va_sld hx hb hXs hbl hbA hW.2.2.1 (vp_in_nI (by omega) (by omega)) dL_law_388 ?_
  refine lv_aload_n hx hb dL_law_389 rfl (lv_at hl 0 rfl) ?_
  refine lv_iload_n hx hb dL_law_390 rfl (lv_at hl 3 rfl) ?_
  refine lv_iconst (v := nI 4) hx hb dL_law_391 (by decide) ?_
  refine lv_iadd hx hb dL_law_392 ?_
  refine m_top (y := nI (7 * k + 4)) (nI_add (7 * k) 4) ?_
  refine va_sld hx hb hXs hbl hbA hW.2.2.1 (vp_in_nI (by omega) (by omega)) dL_law_393 ?_
  refine m_ci (m_rV S hW (c_X11_asks l G ad sh V q (xs (nI (7 * k + 1)).toNatClampNeg) (xs (nI (7 * k + 2)).toNatClampNeg) (xs (nI (7 * k + 3)).toNatClampNeg) (xs (nI (7 * k + 4)).toNatClampNeg) hM) (cwV 4 hts (gCall [.methodLink RL 40 yX11_asks, .instanceMethod yX11_asks, .selects RX11 yX11_asks yX11_asks, .initialized RX11] (List.forall_mem_cons.mpr ⟨(wa_18 _ (List.mem_of_getElem? (i := 23) (by decide +kernel))), (List.forall_mem_cons.mpr ⟨(wa_18 _ (List.mem_of_getElem? (i := 20) (by decide +kernel))), (List.forall_mem_cons.mpr ⟨(wa_18 _ (List.mem_of_getElem? (i := 21) (by decide +kernel))), (List.forall_mem_cons.mpr ⟨(wa_18 _ (List.mem_of_getElem? (i := 22) (by decide +kernel))), (List.forall_mem_cons.mpr ⟨(wa_1 _ (List.mem_of_getElem? (i := 5) (by decide +kernel))), (fun _ h => absurd h List.not_mem_nil)⟩)⟩)⟩)⟩)⟩)) rfl rfl rfl (by decide +kernel) ⟨(Nat.le_of_ble_eq_true rfl), (Nat.le_of_ble_eq_true rfl)⟩) hM.s200 kX11 rfl hl.1 rfl (Nat.le_of_ble_eq_true rfl) dL_law_394 ⟨by show _ ≤ 600000; omega, by show _ ≤ 7302249; omega⟩) hW (fun r2 V2 H locs hp hW => ?_)
  obtain ⟨e2, e3⟩ := hp
  obtain rfl := e2
  rw [e3] at hW
  refine lv_icmp_eq (tgt := 1543) hx hb dL_law_397 (by decide) (fun c1 => ?_) (fun c1 => ?_)
  · refine W.widen (k := cells + 3) (n := slots + 197) (by omega) (by omega) ?_
    exact kk ad sh V _ _ _ ls hX hM hN hW hl
  · exact absurd rfl c1
set_option maxHeartbeats 4000000 in
set_option maxRecDepth 100000 in
theorem law_c6 (S : CallFix p m c cL_law 4 s #[Value.ref b] wsLaw RL) (hXs : va_X b L xs s s.heap) (hbl : b < s.heap.size) (hL : L ≤ 3584) (hk : 7 * k + 7 ≤ L) (hcs : cells + 3 ≤ 600000 ∧ slots + 197 ≤ 7302249) (hX : XI sh V q) (hM : MI sh V q) (hN : NoT sh (gTxs q).length) (hW : mC (fun z => s.heap.size ≤ z) s.heap s G ad sh V H locs) (hl : lv_has ls 4 [(0, .ref b), (1, .ref (ad 0)), (2, .ref (ad 200)), (3, .int (nI (7 * k)))]) (kk : LwK p l e s m below meth c b k G cells slots Q) : W p l e room_1 s m #[Value.ref b] below meth c H locs cells slots Q (F0 m 402 ls []) := by
  obtain ⟨hx, hb, hml, hown, hts⟩ := id S
  have hbA : ¬ (fun z : Nat => s.heap.size ≤ z) b := Nat.not_le.mpr hbl
  refine lv_aload_n hx hb dL_law_402 rfl (lv_at hl 1 rfl) ?_
  refine lv_aload_n hx hb dL_law_403 rfl (lv_at hl 0 rfl) ?_
  refine lv_iload_n hx hb dL_law_404 rfl (lv_at hl 3 rfl) ?_
  refine lv_iconst (v := nI 1) hx hb dL_law_405 (by decide) ?_
  refine lv_iadd hx hb dL_law_406 ?_
  refine m_top (y := nI (7 * k + 1)) (nI_add (7 * k) 1) ?_
  refine va_sld hx hb hXs hbl hbA hW.2.2.1 (vp_in_nI (by omega) (by omega)) dL_law_407 ?_
  refine lv_aload_n hx hb dL_law_408 rfl (lv_at hl 0 rfl) ?_
  refine lv_iload_n hx hb dL_law_409 rfl (lv_at hl 3 rfl) ?_
  refine lv_iconst (v := nI 2) hx hb dL_law_410 (by decide) ?_
  refine lv_iadd hx hb dL_law_411 ?_
  refine m_top (y := nI (7 * k + 2)) (nI_add (7 * k) 2) ?_
  refine va_sld hx hb hXs hbl hbA hW.2.2.1 (vp_in_nI (by omega) (by omega)) dL_law_412 ?_
  refine m_ci (m_rV S hW (c_X10_good l G ad sh V q (xs (nI (7 * k + 1)).toNatClampNeg) (xs (nI (7 * k + 2)).toNatClampNeg) hX) (cwV 2 hts (gCall [.methodLink RL 41 yX10_good, .instanceMethod yX10_good, .selects RX10 yX10_good yX10_good, .initialized RX10] (List.forall_mem_cons.mpr ⟨(wa_20 _ (List.mem_of_getElem? (i := 12) (by decide +kernel))), (List.forall_mem_cons.mpr ⟨(wa_20 _ (List.mem_of_getElem? (i := 9) (by decide +kernel))), (List.forall_mem_cons.mpr ⟨(wa_20 _ (List.mem_of_getElem? (i := 10) (by decide +kernel))), (List.forall_mem_cons.mpr ⟨(wa_20 _ (List.mem_of_getElem? (i := 11) (by decide +kernel))), (List.forall_mem_cons.mpr ⟨(wa_1 _ (List.mem_of_getElem? (i := 2) (by decide +kernel))), (fun _ h => absurd h List.not_mem_nil)⟩)⟩)⟩)⟩)⟩)) rfl rfl rfl (by decide +kernel) ⟨(Nat.le_of_ble_eq_true rfl), (Nat.le_of_ble_eq_true rfl)⟩) hX.sp.1 kX10 rfl hl.1 rfl (Nat.le_of_ble_eq_true rfl) dL_law_413 ⟨by show _ ≤ 600000; omega, by show _ ≤ 7302249; omega⟩) hW (fun r1 V1 H locs hp hW => ?_)
  obtain ⟨e1, hX1, hf1⟩ := hp
  obtain rfl := e1
  have hM := hM.hi (fun _ _ => rfl) hf1
  refine lv_aload_n hx hb dL_law_416 rfl (lv_at hl 2 rfl) ?_
  refine lv_aload_n hx hb dL_law_417 rfl (lv_at hl 0 rfl) ?_
  refine lv_iload_n hx hb dL_law_418 rfl (lv_at hl 3 rfl) ?_
  refine lv_iconst (v := nI 1) hx hb dL_law_419 (by decide) ?_
  refine lv_iadd hx hb dL_law_420 ?_
  refine m_top (y := nI (7 * k + 1)) (nI_add (7 * k) 1) ?_
  refine va_sld hx hb hXs hbl hbA hW.2.2.1 (vp_in_nI (by omega) (by omega)) dL_law_421 ?_
  refine lv_aload_n hx hb dL_law_422 rfl (lv_at hl 0 rfl) ?_
  refine lv_iload_n hx hb dL_law_423 rfl (lv_at hl 3 rfl) ?_
  refine lv_iconst (v := nI 2) hx hb dL_law_424 (by decide) ?_
  refine lv_iadd hx hb dL_law_425 ?_
  refine m_top (y := nI (7 * k + 2)) (nI_add (7 * k) 2) ?_
  refine va_sld hx hb hXs hbl hbA hW.2.2.1 (vp_in_nI (by omega) (by omega)) dL_law_426 ?_
  refine m_ci (m_rV S hW (c_X11_good l G ad sh V1 q (xs (nI (7 * k + 1)).toNatClampNeg) (xs (nI (7 * k + 2)).toNatClampNeg) hM) (cwV 2 hts (gCall [.methodLink RL 45 yX11_good, .instanceMethod yX11_good, .selects RX11 yX11_good yX11_good, .initialized RX11] (List.forall_mem_cons.mpr ⟨(wa_21 _ (List.mem_of_getElem? (i := 2) (by decide +kernel))), (List.forall_mem_cons.mpr ⟨(wa_20 _ (List.mem_of_getElem? (i := 23) (by decide +kernel))), (List.forall_mem_cons.mpr ⟨(wa_21 _ (List.mem_of_getElem? (i := 0) (by decide +kernel))), (List.forall_mem_cons.mpr ⟨(wa_21 _ (List.mem_of_getElem? (i := 1) (by decide +kernel))), (List.forall_mem_cons.mpr ⟨(wa_1 _ (List.mem_of_getElem? (i := 5) (by decide +kernel))), (fun _ h => absurd h List.not_mem_nil)⟩)⟩)⟩)⟩)⟩)) rfl rfl rfl (by decide +kernel) ⟨(Nat.le_of_ble_eq_true rfl), (Nat.le_of_ble_eq_true rfl)⟩) hM.s200 kX11 rfl hl.1 rfl (Nat.le_of_ble_eq_true rfl) dL_law_427 ⟨by show _ ≤ 600000; omega, by show _ ≤ 7302249; omega⟩) hW (fun r2 V2 H locs hp hW => ?_)
  obtain ⟨e2, hM2, hf2⟩ := hp
  obtain rfl := e2
  have hX2 := hX1.lo hf2
  refine lv_icmp_eq (tgt := 1543) hx hb dL_law_430 (by decide) (fun c1 => ?_) (fun c1 => ?_)
  · refine W.widen (k := cells + 3) (n := slots + 197) (by omega) (by omega) ?_
    exact kk ad sh V2 _ _ _ ls hX2 hM2 (by rw [nGood_tx]; exact hN) hW hl
  · exact absurd rfl c1
set_option maxHeartbeats 4000000 in
set_option maxRecDepth 100000 in
theorem law_c7 (S : CallFix p m c cL_law 4 s #[Value.ref b] wsLaw RL) (hXs : va_X b L xs s s.heap) (hbl : b < s.heap.size) (hL : L ≤ 3584) (hk : 7 * k + 7 ≤ L) (hcs : cells + 3 ≤ 600000 ∧ slots + 197 ≤ 7302249) (hX : XI sh V q) (hM : MI sh V q) (hN : NoT sh (gTxs q).length) (hW : mC (fun z => s.heap.size ≤ z) s.heap s G ad sh V H locs) (hl : lv_has ls 4 [(0, .ref b), (1, .ref (ad 0)), (2, .ref (ad 200)), (3, .int (nI (7 * k)))]) (kk : LwK p l e s m below meth c b k G cells slots Q) : W p l e room_1 s m #[Value.ref b] below meth c H locs cells slots Q (F0 m 435 ls []) := by
  obtain ⟨hx, hb, hml, hown, hts⟩ := id S
  have hbA : ¬ (fun z : Nat => s.heap.size ≤ z) b := Nat.not_le.mpr hbl
  refine lv_aload_n hx hb dL_law_435 rfl (lv_at hl 1 rfl) ?_
  refine lv_aload_n hx hb dL_law_436 rfl (lv_at hl 0 rfl) ?_
  refine lv_iload_n hx hb dL_law_437 rfl (lv_at hl 3 rfl) ?_
  refine lv_iconst (v := nI 1) hx hb dL_law_438 (by decide) ?_
  refine lv_iadd hx hb dL_law_439 ?_
  refine m_top (y := nI (7 * k + 1)) (nI_add (7 * k) 1) ?_
  refine va_sld hx hb hXs hbl hbA hW.2.2.1 (vp_in_nI (by omega) (by omega)) dL_law_440 ?_
  refine lv_aload_n hx hb dL_law_441 rfl (lv_at hl 0 rfl) ?_
  refine lv_iload_n hx hb dL_law_442 rfl (lv_at hl 3 rfl) ?_
  refine lv_iconst (v := nI 2) hx hb dL_law_443 (by decide) ?_
  refine lv_iadd hx hb dL_law_444 ?_
  refine m_top (y := nI (7 * k + 2)) (nI_add (7 * k) 2) ?_
  refine va_sld hx hb hXs hbl hbA hW.2.2.1 (vp_in_nI (by omega) (by omega)) dL_law_445 ?_
  refine lv_aload_n hx hb dL_law_446 rfl (lv_at hl 0 rfl) ?_
  refine lv_iload_n hx hb dL_law_447 rfl (lv_at hl 3 rfl) ?_
  refine lv_iconst (v := nI 3) hx hb dL_law_448 (by decide) ?_
  refine lv_iadd hx hb dL_law_449 ?_
  refine m_top (y := nI (7 * k + 3)) (nI_add (7 * k) 3) ?_
  refine va_sld hx hb hXs hbl hbA hW.2.2.1 (vp_in_nI (by omega) (by omega)) dL_law_450 ?_
  refine m_ci (m_rV S hW (c_X10_put l G ad sh V q (xs (nI (7 * k + 1)).toNatClampNeg) (xs (nI (7 * k + 2)).toNatClampNeg) (xs (nI (7 * k + 3)).toNatClampNeg) hX) (cwV 3 hts (gCall [.methodLink RL 46 yX10_put, .instanceMethod yX10_put, .selects RX10 yX10_put yX10_put, .initialized RX10] (List.forall_mem_cons.mpr ⟨(wa_21 _ (List.mem_of_getElem? (i := 6) (by decide +kernel))), (List.forall_mem_cons.mpr ⟨(wa_21 _ (List.mem_of_getElem? (i := 3) (by decide +kernel))), (List.forall_mem_cons.mpr ⟨(wa_21 _ (List.mem_of_getElem? (i := 4) (by decide +kernel))), (List.forall_mem_cons.mpr ⟨(wa_21 _ (List.mem_of_getElem? (i := 5) (by decide +kernel))), (List.forall_mem_cons.mpr ⟨(wa_1 _ (List.mem_of_getElem? (i := 2) (by decide +kernel))), (fun _ h => absurd h List.not_mem_nil)⟩)⟩)⟩)⟩)⟩)) rfl rfl rfl (by decide +kernel) ⟨(Nat.le_of_ble_eq_true rfl), (Nat.le_of_ble_eq_true rfl)⟩) hX.sp.1 kX10 rfl hl.1 rfl (Nat.le_of_ble_eq_true rfl) dL_law_451 ⟨by show _ ≤ 600000; omega, by show _ ≤ 7302249; omega⟩) hW (fun r1 V1 H locs hp hW => ?_)
  obtain ⟨e1, hX1, hf1⟩ := hp
  obtain rfl := e1
  have hM := hM.hi (fun _ _ => rfl) hf1
  refine lv_aload_n hx hb dL_law_454 rfl (lv_at hl 2 rfl) ?_
  refine lv_aload_n hx hb dL_law_455 rfl (lv_at hl 0 rfl) ?_
  refine lv_iload_n hx hb dL_law_456 rfl (lv_at hl 3 rfl) ?_
  refine lv_iconst (v := nI 1) hx hb dL_law_457 (by decide) ?_
  refine lv_iadd hx hb dL_law_458 ?_
  refine m_top (y := nI (7 * k + 1)) (nI_add (7 * k) 1) ?_
  refine va_sld hx hb hXs hbl hbA hW.2.2.1 (vp_in_nI (by omega) (by omega)) dL_law_459 ?_
  refine lv_aload_n hx hb dL_law_460 rfl (lv_at hl 0 rfl) ?_
  refine lv_iload_n hx hb dL_law_461 rfl (lv_at hl 3 rfl) ?_
  refine lv_iconst (v := nI 2) hx hb dL_law_462 (by decide) ?_
  refine lv_iadd hx hb dL_law_463 ?_
  refine m_top (y := nI (7 * k + 2)) (nI_add (7 * k) 2) ?_
  refine va_sld hx hb hXs hbl hbA hW.2.2.1 (vp_in_nI (by omega) (by omega)) dL_law_464 ?_
  refine lv_aload_n hx hb dL_law_465 rfl (lv_at hl 0 rfl) ?_
  refine lv_iload_n hx hb dL_law_466 rfl (lv_at hl 3 rfl) ?_
  refine lv_iconst (v := nI 3) hx hb dL_law_467 (by decide) ?_
  refine lv_iadd hx hb dL_law_468 ?_
  refine m_top (y := nI (7 * k + 3)) (nI_add (7 * k) 3) ?_
  refine va_sld hx hb hXs hbl hbA hW.2.2.1 (vp_in_nI (by omega) (by omega)) dL_law_469 ?_
  refine m_ci (m_rV S hW (c_X11_put l G ad sh V1 q (xs (nI (7 * k + 1)).toNatClampNeg) (xs (nI (7 * k + 2)).toNatClampNeg) (xs (nI (7 * k + 3)).toNatClampNeg) hM) (cwV 3 hts (gCall [.methodLink RL 50 yX11_put, .instanceMethod yX11_put, .selects RX11 yX11_put yX11_put, .initialized RX11] (List.forall_mem_cons.mpr ⟨(wa_21 _ (List.mem_of_getElem? (i := 21) (by decide +kernel))), (List.forall_mem_cons.mpr ⟨(wa_21 _ (List.mem_of_getElem? (i := 18) (by decide +kernel))), (List.forall_mem_cons.mpr ⟨(wa_21 _ (List.mem_of_getElem? (i := 19) (by decide +kernel))), (List.forall_mem_cons.mpr ⟨(wa_21 _ (List.mem_of_getElem? (i := 20) (by decide +kernel))), (List.forall_mem_cons.mpr ⟨(wa_1 _ (List.mem_of_getElem? (i := 5) (by decide +kernel))), (fun _ h => absurd h List.not_mem_nil)⟩)⟩)⟩)⟩)⟩)) rfl rfl rfl (by decide +kernel) ⟨(Nat.le_of_ble_eq_true rfl), (Nat.le_of_ble_eq_true rfl)⟩) hM.s200 kX11 rfl hl.1 rfl (Nat.le_of_ble_eq_true rfl) dL_law_470 ⟨by show _ ≤ 600000; omega, by show _ ≤ 7302249; omega⟩) hW (fun r2 V2 H locs hp hW => ?_)
  obtain ⟨e2, hM2, hf2⟩ := hp
  obtain rfl := e2
  have hX2 := hX1.lo hf2
  refine lv_icmp_eq (tgt := 1543) hx hb dL_law_473 (by decide) (fun c1 => ?_) (fun c1 => ?_)
  · refine W.widen (k := cells + 3) (n := slots + 197) (by omega) (by omega) ?_
    exact kk ad sh V2 _ _ _ ls hX2 hM2 (by rw [nPut_tx]; exact hN) hW hl
  · exact absurd rfl c1
set_option maxHeartbeats 4000000 in
set_option maxRecDepth 100000 in
theorem law_c8 (S : CallFix p m c cL_law 4 s #[Value.ref b] wsLaw RL) (hXs : va_X b L xs s s.heap) (hbl : b < s.heap.size) (hL : L ≤ 3584) (hk : 7 * k + 7 ≤ L) (hcs : cells + 3 ≤ 600000 ∧ slots + 197 ≤ 7302249) (hX : XI sh V q) (hM : MI sh V q) (hN : NoT sh (gTxs q).length) (hW : mC (fun z => s.heap.size ≤ z) s.heap s G ad sh V H locs) (hl : lv_has ls 4 [(0, .ref b), (1, .ref (ad 0)), (2, .ref (ad 200)), (3, .int (nI (7 * k)))]) (kk : LwK p l e s m below meth c b k G cells slots Q) : W p l e room_1 s m #[Value.ref b] below meth c H locs cells slots Q (F0 m 478 ls []) := by
  obtain ⟨hx, hb, hml, hown, hts⟩ := id S
  have hbA : ¬ (fun z : Nat => s.heap.size ≤ z) b := Nat.not_le.mpr hbl
  refine lv_aload_n hx hb dL_law_478 rfl (lv_at hl 1 rfl) ?_
  refine lv_aload_n hx hb dL_law_479 rfl (lv_at hl 0 rfl) ?_
  refine lv_iload_n hx hb dL_law_480 rfl (lv_at hl 3 rfl) ?_
  refine lv_iconst (v := nI 1) hx hb dL_law_481 (by decide) ?_
  refine lv_iadd hx hb dL_law_482 ?_
  refine m_top (y := nI (7 * k + 1)) (nI_add (7 * k) 1) ?_
  refine va_sld hx hb hXs hbl hbA hW.2.2.1 (vp_in_nI (by omega) (by omega)) dL_law_483 ?_
  refine lv_aload_n hx hb dL_law_484 rfl (lv_at hl 0 rfl) ?_
  refine lv_iload_n hx hb dL_law_485 rfl (lv_at hl 3 rfl) ?_
  refine lv_iconst (v := nI 2) hx hb dL_law_486 (by decide) ?_
  refine lv_iadd hx hb dL_law_487 ?_
  refine m_top (y := nI (7 * k + 2)) (nI_add (7 * k) 2) ?_
  refine va_sld hx hb hXs hbl hbA hW.2.2.1 (vp_in_nI (by omega) (by omega)) dL_law_488 ?_
  refine m_cie (m_rV S hW (c_X10_part l G ad sh V q (xs (nI (7 * k + 1)).toNatClampNeg) (xs (nI (7 * k + 2)).toNatClampNeg) hX) (cwV 2 hts (gCall [.methodLink RL 51 yX10_part, .instanceMethod yX10_part, .selects RX10 yX10_part yX10_part, .initialized RX10] (List.forall_mem_cons.mpr ⟨(wa_22 _ (List.mem_of_getElem? (i := 1) (by decide +kernel))), (List.forall_mem_cons.mpr ⟨(wa_21 _ (List.mem_of_getElem? (i := 22) (by decide +kernel))), (List.forall_mem_cons.mpr ⟨(wa_21 _ (List.mem_of_getElem? (i := 23) (by decide +kernel))), (List.forall_mem_cons.mpr ⟨(wa_22 _ (List.mem_of_getElem? (i := 0) (by decide +kernel))), (List.forall_mem_cons.mpr ⟨(wa_1 _ (List.mem_of_getElem? (i := 2) (by decide +kernel))), (fun _ h => absurd h List.not_mem_nil)⟩)⟩)⟩)⟩)⟩)) rfl rfl rfl (by decide +kernel) ⟨(Nat.le_of_ble_eq_true rfl), (Nat.le_of_ble_eq_true rfl)⟩) hX.sp.1 kX10 rfl hl.1 rfl (Nat.le_of_ble_eq_true rfl) dL_law_489 ⟨by show _ ≤ 600000; omega, by show _ ≤ 7302249; omega⟩) hW (fun H locs hW => ?_)
  refine lv_aload_n hx hb dL_law_492 rfl (lv_at hl 2 rfl) ?_
  refine lv_aload_n hx hb dL_law_493 rfl (lv_at hl 0 rfl) ?_
  refine lv_iload_n hx hb dL_law_494 rfl (lv_at hl 3 rfl) ?_
  refine lv_iconst (v := nI 1) hx hb dL_law_495 (by decide) ?_
  refine lv_iadd hx hb dL_law_496 ?_
  refine m_top (y := nI (7 * k + 1)) (nI_add (7 * k) 1) ?_
  refine va_sld hx hb hXs hbl hbA hW.2.2.1 (vp_in_nI (by omega) (by omega)) dL_law_497 ?_
  refine lv_aload_n hx hb dL_law_498 rfl (lv_at hl 0 rfl) ?_
  refine lv_iload_n hx hb dL_law_499 rfl (lv_at hl 3 rfl) ?_
  refine lv_iconst (v := nI 2) hx hb dL_law_500 (by decide) ?_
  refine lv_iadd hx hb dL_law_501 ?_
  refine m_top (y := nI (7 * k + 2)) (nI_add (7 * k) 2) ?_
  refine va_sld hx hb hXs hbl hbA hW.2.2.1 (vp_in_nI (by omega) (by omega)) dL_law_502 ?_
  refine m_ci (m_rV S hW (c_X11_part l G ad sh V q (xs (nI (7 * k + 1)).toNatClampNeg) (xs (nI (7 * k + 2)).toNatClampNeg) hM) (cwV 2 hts (gCall [.methodLink RL 54 yX11_part, .instanceMethod yX11_part, .selects RX11 yX11_part yX11_part, .initialized RX11] (List.forall_mem_cons.mpr ⟨(wa_22 _ (List.mem_of_getElem? (i := 5) (by decide +kernel))), (List.forall_mem_cons.mpr ⟨(wa_22 _ (List.mem_of_getElem? (i := 2) (by decide +kernel))), (List.forall_mem_cons.mpr ⟨(wa_22 _ (List.mem_of_getElem? (i := 3) (by decide +kernel))), (List.forall_mem_cons.mpr ⟨(wa_22 _ (List.mem_of_getElem? (i := 4) (by decide +kernel))), (List.forall_mem_cons.mpr ⟨(wa_1 _ (List.mem_of_getElem? (i := 5) (by decide +kernel))), (fun _ h => absurd h List.not_mem_nil)⟩)⟩)⟩)⟩)⟩)) rfl rfl rfl (by decide +kernel) ⟨(Nat.le_of_ble_eq_true rfl), (Nat.le_of_ble_eq_true rfl)⟩) hM.s200 kX11 rfl hl.1 rfl (Nat.le_of_ble_eq_true rfl) dL_law_503 ⟨by show _ ≤ 600000; omega, by show _ ≤ 7302249; omega⟩) hW (fun r2 V2 H locs hp hW => ?_)
  obtain ⟨e2, e3⟩ := hp
  obtain rfl := e2
  rw [e3] at hW
  refine lv_icmp_eq (tgt := 1543) hx hb dL_law_506 (by decide) (fun c1 => ?_) (fun c1 => ?_)
  · refine W.widen (k := cells + 3) (n := slots + 197) (by omega) (by omega) ?_
    exact kk ad sh V _ _ _ ls hX hM hN hW hl
  · exact absurd rfl c1
set_option maxHeartbeats 4000000 in
set_option maxRecDepth 100000 in
theorem law_c9 (S : CallFix p m c cL_law 4 s #[Value.ref b] wsLaw RL) (hXs : va_X b L xs s s.heap) (hbl : b < s.heap.size) (hL : L ≤ 3584) (hk : 7 * k + 7 ≤ L) (hcs : cells + 3 ≤ 600000 ∧ slots + 197 ≤ 7302249) (hX : XI sh V q) (hM : MI sh V q) (hN : NoT sh (gTxs q).length) (hW : mC (fun z => s.heap.size ≤ z) s.heap s G ad sh V H locs) (hl : lv_has ls 4 [(0, .ref b), (1, .ref (ad 0)), (2, .ref (ad 200)), (3, .int (nI (7 * k)))]) (kk : LwK p l e s m below meth c b k G cells slots Q) : W p l e room_1 s m #[Value.ref b] below meth c H locs cells slots Q (F0 m 511 ls []) := by
  obtain ⟨hx, hb, hml, hown, hts⟩ := id S
  have hbA : ¬ (fun z : Nat => s.heap.size ≤ z) b := Nat.not_le.mpr hbl
  refine lv_aload_n hx hb dL_law_511 rfl (lv_at hl 1 rfl) ?_
  refine lv_aload_n hx hb dL_law_512 rfl (lv_at hl 0 rfl) ?_
  refine lv_iload_n hx hb dL_law_513 rfl (lv_at hl 3 rfl) ?_
  refine lv_iconst (v := nI 1) hx hb dL_law_514 (by decide) ?_
  refine lv_iadd hx hb dL_law_515 ?_
  refine m_top (y := nI (7 * k + 1)) (nI_add (7 * k) 1) ?_
  refine va_sld hx hb hXs hbl hbA hW.2.2.1 (vp_in_nI (by omega) (by omega)) dL_law_516 ?_
  refine lv_aload_n hx hb dL_law_517 rfl (lv_at hl 0 rfl) ?_
  refine lv_iload_n hx hb dL_law_518 rfl (lv_at hl 3 rfl) ?_
  refine lv_iconst (v := nI 2) hx hb dL_law_519 (by decide) ?_
  refine lv_iadd hx hb dL_law_520 ?_
  refine m_top (y := nI (7 * k + 2)) (nI_add (7 * k) 2) ?_
  refine va_sld hx hb hXs hbl hbA hW.2.2.1 (vp_in_nI (by omega) (by omega)) dL_law_521 ?_
  refine m_ci (m_rV S hW (c_X10_eater l G ad sh V q (xs (nI (7 * k + 1)).toNatClampNeg) (xs (nI (7 * k + 2)).toNatClampNeg) hX) (cwV 2 hts (gCall [.methodLink RL 55 yX10_eater, .instanceMethod yX10_eater, .selects RX10 yX10_eater yX10_eater, .initialized RX10] (List.forall_mem_cons.mpr ⟨(wa_22 _ (List.mem_of_getElem? (i := 9) (by decide +kernel))), (List.forall_mem_cons.mpr ⟨(wa_22 _ (List.mem_of_getElem? (i := 6) (by decide +kernel))), (List.forall_mem_cons.mpr ⟨(wa_22 _ (List.mem_of_getElem? (i := 7) (by decide +kernel))), (List.forall_mem_cons.mpr ⟨(wa_22 _ (List.mem_of_getElem? (i := 8) (by decide +kernel))), (List.forall_mem_cons.mpr ⟨(wa_1 _ (List.mem_of_getElem? (i := 2) (by decide +kernel))), (fun _ h => absurd h List.not_mem_nil)⟩)⟩)⟩)⟩)⟩)) rfl rfl rfl (by decide +kernel) ⟨(Nat.le_of_ble_eq_true rfl), (Nat.le_of_ble_eq_true rfl)⟩) hX.sp.1 kX10 rfl hl.1 rfl (Nat.le_of_ble_eq_true rfl) dL_law_522 ⟨by show _ ≤ 600000; omega, by show _ ≤ 7302249; omega⟩) hW (fun r1 V1 H locs hp hW => ?_)
  obtain ⟨e1, hX1, hf1⟩ := hp
  obtain rfl := e1
  have hM := hM.hi (fun _ _ => rfl) hf1
  refine lv_aload_n hx hb dL_law_525 rfl (lv_at hl 2 rfl) ?_
  refine lv_aload_n hx hb dL_law_526 rfl (lv_at hl 0 rfl) ?_
  refine lv_iload_n hx hb dL_law_527 rfl (lv_at hl 3 rfl) ?_
  refine lv_iconst (v := nI 1) hx hb dL_law_528 (by decide) ?_
  refine lv_iadd hx hb dL_law_529 ?_
  refine m_top (y := nI (7 * k + 1)) (nI_add (7 * k) 1) ?_
  refine va_sld hx hb hXs hbl hbA hW.2.2.1 (vp_in_nI (by omega) (by omega)) dL_law_530 ?_
  refine lv_aload_n hx hb dL_law_531 rfl (lv_at hl 0 rfl) ?_
  refine lv_iload_n hx hb dL_law_532 rfl (lv_at hl 3 rfl) ?_
  refine lv_iconst (v := nI 2) hx hb dL_law_533 (by decide) ?_
  refine lv_iadd hx hb dL_law_534 ?_
  refine m_top (y := nI (7 * k + 2)) (nI_add (7 * k) 2) ?_
  refine va_sld hx hb hXs hbl hbA hW.2.2.1 (vp_in_nI (by omega) (by omega)) dL_law_535 ?_
  refine m_ci (m_rV S hW (c_X11_eater l G ad sh V1 q (xs (nI (7 * k + 1)).toNatClampNeg) (xs (nI (7 * k + 2)).toNatClampNeg) hM) (cwV 2 hts (gCall [.methodLink RL 58 yX11_eater, .instanceMethod yX11_eater, .selects RX11 yX11_eater yX11_eater, .initialized RX11] (List.forall_mem_cons.mpr ⟨(wa_23 _ (List.mem_of_getElem? (i := 6) (by decide +kernel))), (List.forall_mem_cons.mpr ⟨(wa_23 _ (List.mem_of_getElem? (i := 3) (by decide +kernel))), (List.forall_mem_cons.mpr ⟨(wa_23 _ (List.mem_of_getElem? (i := 4) (by decide +kernel))), (List.forall_mem_cons.mpr ⟨(wa_23 _ (List.mem_of_getElem? (i := 5) (by decide +kernel))), (List.forall_mem_cons.mpr ⟨(wa_1 _ (List.mem_of_getElem? (i := 5) (by decide +kernel))), (fun _ h => absurd h List.not_mem_nil)⟩)⟩)⟩)⟩)⟩)) rfl rfl rfl (by decide +kernel) ⟨(Nat.le_of_ble_eq_true rfl), (Nat.le_of_ble_eq_true rfl)⟩) hM.s200 kX11 rfl hl.1 rfl (Nat.le_of_ble_eq_true rfl) dL_law_536 ⟨by show _ ≤ 600000; omega, by show _ ≤ 7302249; omega⟩) hW (fun r2 V2 H locs hp hW => ?_)
  obtain ⟨e2, hM2, hf2⟩ := hp
  obtain rfl := e2
  have hX2 := hX1.lo hf2
  refine lv_icmp_eq (tgt := 1543) hx hb dL_law_539 (by decide) (fun c1 => ?_) (fun c1 => ?_)
  · refine W.widen (k := cells + 3) (n := slots + 197) (by omega) (by omega) ?_
    exact kk ad sh V2 _ _ _ ls hX2 hM2 (by rw [nEater_tx]; exact hN) hW hl
  · exact absurd rfl c1
set_option maxHeartbeats 4000000 in
set_option maxRecDepth 100000 in
theorem law_c10 (S : CallFix p m c cL_law 4 s #[Value.ref b] wsLaw RL) (hXs : va_X b L xs s s.heap) (hbl : b < s.heap.size) (hL : L ≤ 3584) (hk : 7 * k + 7 ≤ L) (hcs : cells + 3 ≤ 600000 ∧ slots + 197 ≤ 7302249) (hX : XI sh V q) (hM : MI sh V q) (hN : NoT sh (gTxs q).length) (hW : mC (fun z => s.heap.size ≤ z) s.heap s G ad sh V H locs) (hl : lv_has ls 4 [(0, .ref b), (1, .ref (ad 0)), (2, .ref (ad 200)), (3, .int (nI (7 * k)))]) (kk : LwK p l e s m below meth c b k G cells slots Q) : W p l e room_1 s m #[Value.ref b] below meth c H locs cells slots Q (F0 m 544 ls []) := by
  obtain ⟨hx, hb, hml, hown, hts⟩ := id S
  have hbA : ¬ (fun z : Nat => s.heap.size ≤ z) b := Nat.not_le.mpr hbl
  refine lv_aload_n hx hb dL_law_544 rfl (lv_at hl 1 rfl) ?_
  refine lv_aload_n hx hb dL_law_545 rfl (lv_at hl 0 rfl) ?_
  refine lv_iload_n hx hb dL_law_546 rfl (lv_at hl 3 rfl) ?_
  refine lv_iconst (v := nI 1) hx hb dL_law_547 (by decide) ?_
  refine lv_iadd hx hb dL_law_548 ?_
  refine m_top (y := nI (7 * k + 1)) (nI_add (7 * k) 1) ?_
  refine va_sld hx hb hXs hbl hbA hW.2.2.1 (vp_in_nI (by omega) (by omega)) dL_law_549 ?_
  refine lv_aload_n hx hb dL_law_550 rfl (lv_at hl 0 rfl) ?_
  refine lv_iload_n hx hb dL_law_551 rfl (lv_at hl 3 rfl) ?_
  refine lv_iconst (v := nI 2) hx hb dL_law_552 (by decide) ?_
  refine lv_iadd hx hb dL_law_553 ?_
  refine m_top (y := nI (7 * k + 2)) (nI_add (7 * k) 2) ?_
  refine va_sld hx hb hXs hbl hbA hW.2.2.1 (vp_in_nI (by omega) (by omega)) dL_law_554 ?_
  refine m_cie (m_rV S hW (c_X10_told l G ad sh V q (xs (nI (7 * k + 1)).toNatClampNeg) (xs (nI (7 * k + 2)).toNatClampNeg) hX) (cwV 2 hts (gCall [.methodLink RL 59 yX10_told, .instanceMethod yX10_told, .selects RX10 yX10_told yX10_told, .initialized RX10] (List.forall_mem_cons.mpr ⟨(wa_23 _ (List.mem_of_getElem? (i := 10) (by decide +kernel))), (List.forall_mem_cons.mpr ⟨(wa_23 _ (List.mem_of_getElem? (i := 7) (by decide +kernel))), (List.forall_mem_cons.mpr ⟨(wa_23 _ (List.mem_of_getElem? (i := 8) (by decide +kernel))), (List.forall_mem_cons.mpr ⟨(wa_23 _ (List.mem_of_getElem? (i := 9) (by decide +kernel))), (List.forall_mem_cons.mpr ⟨(wa_1 _ (List.mem_of_getElem? (i := 2) (by decide +kernel))), (fun _ h => absurd h List.not_mem_nil)⟩)⟩)⟩)⟩)⟩)) rfl rfl rfl (by decide +kernel) ⟨(Nat.le_of_ble_eq_true rfl), (Nat.le_of_ble_eq_true rfl)⟩) hX.sp.1 kX10 rfl hl.1 rfl (Nat.le_of_ble_eq_true rfl) dL_law_555 ⟨by show _ ≤ 600000; omega, by show _ ≤ 7302249; omega⟩) hW (fun H locs hW => ?_)
  refine lv_aload_n hx hb dL_law_558 rfl (lv_at hl 2 rfl) ?_
  refine lv_aload_n hx hb dL_law_559 rfl (lv_at hl 0 rfl) ?_
  refine lv_iload_n hx hb dL_law_560 rfl (lv_at hl 3 rfl) ?_
  refine lv_iconst (v := nI 1) hx hb dL_law_561 (by decide) ?_
  refine lv_iadd hx hb dL_law_562 ?_
  refine m_top (y := nI (7 * k + 1)) (nI_add (7 * k) 1) ?_
  refine va_sld hx hb hXs hbl hbA hW.2.2.1 (vp_in_nI (by omega) (by omega)) dL_law_563 ?_
  refine lv_aload_n hx hb dL_law_564 rfl (lv_at hl 0 rfl) ?_
  refine lv_iload_n hx hb dL_law_565 rfl (lv_at hl 3 rfl) ?_
  refine lv_iconst (v := nI 2) hx hb dL_law_566 (by decide) ?_
  refine lv_iadd hx hb dL_law_567 ?_
  refine m_top (y := nI (7 * k + 2)) (nI_add (7 * k) 2) ?_
  refine va_sld hx hb hXs hbl hbA hW.2.2.1 (vp_in_nI (by omega) (by omega)) dL_law_568 ?_
  refine m_ci (m_rV S hW (c_X11_told l G ad sh V q (xs (nI (7 * k + 1)).toNatClampNeg) (xs (nI (7 * k + 2)).toNatClampNeg) hM) (cwV 2 hts (gCall [.methodLink RL 62 yX11_told, .instanceMethod yX11_told, .selects RX11 yX11_told yX11_told, .initialized RX11] (List.forall_mem_cons.mpr ⟨(wa_23 _ (List.mem_of_getElem? (i := 19) (by decide +kernel))), (List.forall_mem_cons.mpr ⟨(wa_23 _ (List.mem_of_getElem? (i := 16) (by decide +kernel))), (List.forall_mem_cons.mpr ⟨(wa_23 _ (List.mem_of_getElem? (i := 17) (by decide +kernel))), (List.forall_mem_cons.mpr ⟨(wa_23 _ (List.mem_of_getElem? (i := 18) (by decide +kernel))), (List.forall_mem_cons.mpr ⟨(wa_1 _ (List.mem_of_getElem? (i := 5) (by decide +kernel))), (fun _ h => absurd h List.not_mem_nil)⟩)⟩)⟩)⟩)⟩)) rfl rfl rfl (by decide +kernel) ⟨(Nat.le_of_ble_eq_true rfl), (Nat.le_of_ble_eq_true rfl)⟩) hM.s200 kX11 rfl hl.1 rfl (Nat.le_of_ble_eq_true rfl) dL_law_569 ⟨by show _ ≤ 600000; omega, by show _ ≤ 7302249; omega⟩) hW (fun r2 V2 H locs hp hW => ?_)
  obtain ⟨e2, e3⟩ := hp
  obtain rfl := e2
  rw [e3] at hW
  refine lv_icmp_eq (tgt := 1543) hx hb dL_law_572 (by decide) (fun c1 => ?_) (fun c1 => ?_)
  · refine W.widen (k := cells + 3) (n := slots + 197) (by omega) (by omega) ?_
    exact kk ad sh V _ _ _ ls hX hM hN hW hl
  · exact absurd rfl c1
set_option maxHeartbeats 4000000 in
set_option maxRecDepth 100000 in
theorem law_c11 (S : CallFix p m c cL_law 4 s #[Value.ref b] wsLaw RL) (hXs : va_X b L xs s s.heap) (hbl : b < s.heap.size) (hL : L ≤ 3584) (hk : 7 * k + 7 ≤ L) (hcs : cells + 3 ≤ 600000 ∧ slots + 197 ≤ 7302249) (hX : XI sh V q) (hM : MI sh V q) (hN : NoT sh (gTxs q).length) (hW : mC (fun z => s.heap.size ≤ z) s.heap s G ad sh V H locs) (hl : lv_has ls 4 [(0, .ref b), (1, .ref (ad 0)), (2, .ref (ad 200)), (3, .int (nI (7 * k)))]) (kk : LwK p l e s m below meth c b k G cells slots Q) : W p l e room_1 s m #[Value.ref b] below meth c H locs cells slots Q (F0 m 577 ls []) := by
  obtain ⟨hx, hb, hml, hown, hts⟩ := id S
  have hbA : ¬ (fun z : Nat => s.heap.size ≤ z) b := Nat.not_le.mpr hbl
  refine lv_aload_n hx hb dL_law_577 rfl (lv_at hl 1 rfl) ?_
  refine lv_aload_n hx hb dL_law_578 rfl (lv_at hl 0 rfl) ?_
  refine lv_iload_n hx hb dL_law_579 rfl (lv_at hl 3 rfl) ?_
  refine lv_iconst (v := nI 1) hx hb dL_law_580 (by decide) ?_
  refine lv_iadd hx hb dL_law_581 ?_
  refine m_top (y := nI (7 * k + 1)) (nI_add (7 * k) 1) ?_
  refine va_sld hx hb hXs hbl hbA hW.2.2.1 (vp_in_nI (by omega) (by omega)) dL_law_582 ?_
  refine lv_aload_n hx hb dL_law_583 rfl (lv_at hl 0 rfl) ?_
  refine lv_iload_n hx hb dL_law_584 rfl (lv_at hl 3 rfl) ?_
  refine lv_iconst (v := nI 2) hx hb dL_law_585 (by decide) ?_
  refine lv_iadd hx hb dL_law_586 ?_
  refine m_top (y := nI (7 * k + 2)) (nI_add (7 * k) 2) ?_
  refine va_sld hx hb hXs hbl hbA hW.2.2.1 (vp_in_nI (by omega) (by omega)) dL_law_587 ?_
  refine lv_aload_n hx hb dL_law_588 rfl (lv_at hl 0 rfl) ?_
  refine lv_iload_n hx hb dL_law_589 rfl (lv_at hl 3 rfl) ?_
  refine lv_iconst (v := nI 3) hx hb dL_law_590 (by decide) ?_
  refine lv_iadd hx hb dL_law_591 ?_
  refine m_top (y := nI (7 * k + 3)) (nI_add (7 * k) 3) ?_
  refine va_sld hx hb hXs hbl hbA hW.2.2.1 (vp_in_nI (by omega) (by omega)) dL_law_592 ?_
  refine m_ci (m_rV S hW (c_X10_lend l G ad sh V q (xs (nI (7 * k + 1)).toNatClampNeg) (xs (nI (7 * k + 2)).toNatClampNeg) (xs (nI (7 * k + 3)).toNatClampNeg) hX) (cwV 3 hts (gCall [.methodLink RL 63 yX10_lend, .instanceMethod yX10_lend, .selects RX10 yX10_lend yX10_lend, .initialized RX10] (List.forall_mem_cons.mpr ⟨(wa_23 _ (List.mem_of_getElem? (i := 23) (by decide +kernel))), (List.forall_mem_cons.mpr ⟨(wa_23 _ (List.mem_of_getElem? (i := 20) (by decide +kernel))), (List.forall_mem_cons.mpr ⟨(wa_23 _ (List.mem_of_getElem? (i := 21) (by decide +kernel))), (List.forall_mem_cons.mpr ⟨(wa_23 _ (List.mem_of_getElem? (i := 22) (by decide +kernel))), (List.forall_mem_cons.mpr ⟨(wa_1 _ (List.mem_of_getElem? (i := 2) (by decide +kernel))), (fun _ h => absurd h List.not_mem_nil)⟩)⟩)⟩)⟩)⟩)) rfl rfl rfl (by decide +kernel) ⟨(Nat.le_of_ble_eq_true rfl), (Nat.le_of_ble_eq_true rfl)⟩) hX.sp.1 kX10 rfl hl.1 rfl (Nat.le_of_ble_eq_true rfl) dL_law_593 ⟨by show _ ≤ 600000; omega, by show _ ≤ 7302249; omega⟩) hW (fun r1 V1 H locs hp hW => ?_)
  obtain ⟨e1, hX1, hf1⟩ := hp
  obtain rfl := e1
  have hM := hM.hi (fun _ _ => rfl) hf1
  refine lv_aload_n hx hb dL_law_596 rfl (lv_at hl 2 rfl) ?_
  refine lv_aload_n hx hb dL_law_597 rfl (lv_at hl 0 rfl) ?_
  refine lv_iload_n hx hb dL_law_598 rfl (lv_at hl 3 rfl) ?_
  refine lv_iconst (v := nI 1) hx hb dL_law_599 (by decide) ?_
  refine lv_iadd hx hb dL_law_600 ?_
  refine m_top (y := nI (7 * k + 1)) (nI_add (7 * k) 1) ?_
  refine va_sld hx hb hXs hbl hbA hW.2.2.1 (vp_in_nI (by omega) (by omega)) dL_law_601 ?_
  refine lv_aload_n hx hb dL_law_602 rfl (lv_at hl 0 rfl) ?_
  refine lv_iload_n hx hb dL_law_603 rfl (lv_at hl 3 rfl) ?_
  refine lv_iconst (v := nI 2) hx hb dL_law_604 (by decide) ?_
  refine lv_iadd hx hb dL_law_605 ?_
  refine m_top (y := nI (7 * k + 2)) (nI_add (7 * k) 2) ?_
  refine va_sld hx hb hXs hbl hbA hW.2.2.1 (vp_in_nI (by omega) (by omega)) dL_law_606 ?_
  refine lv_aload_n hx hb dL_law_607 rfl (lv_at hl 0 rfl) ?_
  refine lv_iload_n hx hb dL_law_608 rfl (lv_at hl 3 rfl) ?_
  refine lv_iconst (v := nI 3) hx hb dL_law_609 (by decide) ?_
  refine lv_iadd hx hb dL_law_610 ?_
  refine m_top (y := nI (7 * k + 3)) (nI_add (7 * k) 3) ?_
  refine va_sld hx hb hXs hbl hbA hW.2.2.1 (vp_in_nI (by omega) (by omega)) dL_law_611 ?_
  refine m_ci (m_rV S hW (c_X11_lend l G ad sh V1 q (xs (nI (7 * k + 1)).toNatClampNeg) (xs (nI (7 * k + 2)).toNatClampNeg) (xs (nI (7 * k + 3)).toNatClampNeg) hM) (cwV 3 hts (gCall [.methodLink RL 66 yX11_lend, .instanceMethod yX11_lend, .selects RX11 yX11_lend yX11_lend, .initialized RX11] (List.forall_mem_cons.mpr ⟨(wa_24 _ (List.mem_of_getElem? (i := 3) (by decide +kernel))), (List.forall_mem_cons.mpr ⟨(wa_24 _ (List.mem_of_getElem? (i := 0) (by decide +kernel))), (List.forall_mem_cons.mpr ⟨(wa_24 _ (List.mem_of_getElem? (i := 1) (by decide +kernel))), (List.forall_mem_cons.mpr ⟨(wa_24 _ (List.mem_of_getElem? (i := 2) (by decide +kernel))), (List.forall_mem_cons.mpr ⟨(wa_1 _ (List.mem_of_getElem? (i := 5) (by decide +kernel))), (fun _ h => absurd h List.not_mem_nil)⟩)⟩)⟩)⟩)⟩)) rfl rfl rfl (by decide +kernel) ⟨(Nat.le_of_ble_eq_true rfl), (Nat.le_of_ble_eq_true rfl)⟩) hM.s200 kX11 rfl hl.1 rfl (Nat.le_of_ble_eq_true rfl) dL_law_612 ⟨by show _ ≤ 600000; omega, by show _ ≤ 7302249; omega⟩) hW (fun r2 V2 H locs hp hW => ?_)
  obtain ⟨e2, hM2, hf2⟩ := hp
  obtain rfl := e2
  have hX2 := hX1.lo hf2
  refine lv_icmp_eq (tgt := 1543) hx hb dL_law_615 (by decide) (fun c1 => ?_) (fun c1 => ?_)
  · refine W.widen (k := cells + 3) (n := slots + 197) (by omega) (by omega) ?_
    exact kk ad sh V2 _ _ _ ls hX2 hM2 (by rw [nLend_tx]; exact hN) hW hl
  · exact absurd rfl c1
end LAWC
