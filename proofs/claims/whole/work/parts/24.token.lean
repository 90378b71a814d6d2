/-! words' tokens -/
section MWD
variable {A : Nat → Prop} {H0 : Heap} {s : State} {G : mG} {ad : Nat → Nat} {sh : Nat → Option mSh} {V : mV} {H : Heap} {locs : List Loc}
theorem mC.s0 (h : mC A H0 s G ad sh V H locs) : vk_R RX10 42 "pays cells * 2 ; likes worth ; waits 0 ;" (G.2.2.2.1 0) s := h.2.2.2.2.2.2.2.1 0 (RX10, 42, "pays cells * 2 ; likes worth ; waits 0 ;") rfl
theorem mC.s1 (h : mC A H0 s G ad sh V H locs) : vk_R RX6 119 "cells" (G.2.2.2.1 1) s := h.2.2.2.2.2.2.2.1 1 (RX6, 119, "cells") rfl
theorem mC.s2 (h : mC A H0 s G ad sh V H locs) : vk_R RX6 125 "worth" (G.2.2.2.1 2) s := h.2.2.2.2.2.2.2.1 2 (RX6, 125, "worth") rfl
theorem mC.s3 (h : mC A H0 s G ad sh V H locs) : vk_R RX6 127 "soft" (G.2.2.2.1 3) s := h.2.2.2.2.2.2.2.1 3 (RX6, 127, "soft") rfl
theorem mC.s4 (h : mC A H0 s G ad sh V H locs) : vk_R RX6 129 "more" (G.2.2.2.1 4) s := h.2.2.2.2.2.2.2.1 4 (RX6, 129, "more") rfl
theorem mC.s5 (h : mC A H0 s G ad sh V H locs) : vk_R RX6 131 "left" (G.2.2.2.1 5) s := h.2.2.2.2.2.2.2.1 5 (RX6, 131, "left") rfl
theorem mC.s6 (h : mC A H0 s G ad sh V H locs) : vk_R RX6 133 "day" (G.2.2.2.1 6) s := h.2.2.2.2.2.2.2.1 6 (RX6, 133, "day") rfl
theorem mC.s7 (h : mC A H0 s G ad sh V H locs) : vk_R RX6 135 "pays" (G.2.2.2.1 7) s := h.2.2.2.2.2.2.2.1 7 (RX6, 135, "pays") rfl
theorem mC.s8 (h : mC A H0 s G ad sh V H locs) : vk_R RX6 137 "likes" (G.2.2.2.1 8) s := h.2.2.2.2.2.2.2.1 8 (RX6, 137, "likes") rfl
theorem mC.s9 (h : mC A H0 s G ad sh V H locs) : vk_R RX6 139 "waits" (G.2.2.2.1 9) s := h.2.2.2.2.2.2.2.1 9 (RX6, 139, "waits") rfl
theorem mC.s10 (h : mC A H0 s G ad sh V H locs) : vk_R RX6 141 "or" (G.2.2.2.1 10) s := h.2.2.2.2.2.2.2.1 10 (RX6, 141, "or") rfl
theorem mC.s11 (h : mC A H0 s G ad sh V H locs) : vk_R RX6 143 "and" (G.2.2.2.1 11) s := h.2.2.2.2.2.2.2.1 11 (RX6, 143, "and") rfl
theorem mC.s12 (h : mC A H0 s G ad sh V H locs) : vk_R RX6 145 "not" (G.2.2.2.1 12) s := h.2.2.2.2.2.2.2.1 12 (RX6, 145, "not") rfl
end MWD
set_option maxHeartbeats 4000000 in
set_option maxRecDepth 100000 in
theorem c_X6_wordToken (l : Launch) (G : mG) (ad : Nat → Nat) (sh : Nat → Option mSh) (V : mV) (sz : Nat) (B : Nat → Int32) (q : pS) (hT : TpOk sh V sz B q) (hna : q.2.2.1 ≤ q.1) : mM l yX6_wordToken wsX6_wordToken ({ frames := 7, cells := 0, slots := 0, locals := 246 } : Room) G ad sh V [.ref (ad 1)] 0 0 (mPe ad sh V (fWordT B q.2.2.1 q.1)) := by
  refine mM.of (cc := cX6_wordToken) (maxL := 1) (ret := (some .int)) (by decide) rfl (Nat.le_of_ble_eq_true rfl) ?_
  intro p e s m below meth c S hr hlk hnm hW ls hl
  obtain ⟨hx, hb, hml, hown, hts⟩ := id S
  have hl : lv_has ls 1 [(0, .ref (ad 1))] := hl
  have hS0 : True := trivial
  have hs1 := hT.s160
  have hn1 := hT.nxl
  have ha1 := hT.tal
  have hc1 := hT.scl
  refine lv_aload_n hx hb dX6_wordToken_0 rfl (lv_at hl 0 rfl) ?_
  refine va_ldcS hx hb hown hW.s1 dX6_wordToken_1 ?_
  refine m_cip (m_rV S hW (c_X6_isWord l G ad sh V sz B q 1 (by first | assumption | omega) (by decide) (by first | assumption | omega)) (cwV 1 hts (gCall [.methodLink RX6 121 yX6_isWord, .instanceMethod yX6_isWord, .selects RX6 yX6_isWord yX6_isWord, .initialized RX6] (List.forall_mem_cons.mpr ⟨(wa_6 _ (List.mem_of_getElem? (i := 23) (by decide +kernel))), (List.forall_mem_cons.mpr ⟨(wa_6 _ (List.mem_of_getElem? (i := 20) (by decide +kernel))), (List.forall_mem_cons.mpr ⟨(wa_6 _ (List.mem_of_getElem? (i := 21) (by decide +kernel))), (List.forall_mem_cons.mpr ⟨(wa_6 _ (List.mem_of_getElem? (i := 22) (by decide +kernel))), (List.forall_mem_cons.mpr ⟨(wa_1 _ (List.mem_of_getElem? (i := 14) (by decide +kernel))), (fun _ h => absurd h List.not_mem_nil)⟩)⟩)⟩)⟩)⟩)) rfl rfl rfl (by decide +kernel) ⟨Nat.le_of_ble_eq_true rfl, Nat.le_of_ble_eq_true rfl⟩) hT.h1 kX6 rfl hl.1 rfl (Nat.le_of_ble_eq_true rfl) dX6_wordToken_3 ⟨Nat.le_of_ble_eq_true rfl, Nat.le_of_ble_eq_true rfl⟩) hW (fun r_2 H locs hp_1 hW => ?_)
  rcases hp_1 with ⟨rfl, w_3⟩ | ⟨rfl, w_4⟩
  · skip
    refine m_if_eq (tgt := 11) hx hb dX6_wordToken_6 (by decide) (fun c_5 => ?_) (fun c_5 => ?_)
    · exact absurd c_5 (by decide)
    · skip
      refine lv_iconst (v := nI 2) hx hb dX6_wordToken_9 (by decide) ?_
      exact m_iret S hr hlk hW dX6_wordToken_10 ⟨rfl, (by rw [fWordT, if_pos w_3])⟩
  · skip
    refine m_if_eq (tgt := 11) hx hb dX6_wordToken_6 (by decide) (fun c_6 => ?_) (fun c_6 => ?_)
    · skip
      refine lv_aload_n hx hb dX6_wordToken_11 rfl (lv_at hl 0 rfl) ?_
      refine va_ldcS hx hb hown hW.s2 dX6_wordToken_12 ?_
      refine m_cip (m_rV S hW (c_X6_isWord l G ad sh V sz B q 2 (by first | assumption | omega) (by decide) (by first | assumption | omega)) (cwV 1 hts (gCall [.methodLink RX6 121 yX6_isWord, .instanceMethod yX6_isWord, .selects RX6 yX6_isWord yX6_isWord, .initialized RX6] (List.forall_mem_cons.mpr ⟨(wa_6 _ (List.mem_of_getElem? (i := 23) (by decide +kernel))), (List.forall_mem_cons.mpr ⟨(wa_6 _ (List.mem_of_getElem? (i := 20) (by decide +kernel))), (List.forall_mem_cons.mpr ⟨(wa_6 _ (List.mem_of_getElem? (i := 21) (by decide +kernel))), (List.forall_mem_cons.mpr ⟨(wa_6 _ (List.mem_of_getElem? (i := 22) (by decide +kernel))), (List.forall_mem_cons.mpr ⟨(wa_1 _ (List.mem_of_getElem? (i := 14) (by decide +kernel))), (fun _ h => absurd h List.not_mem_nil)⟩)⟩)⟩)⟩)⟩)) rfl rfl rfl (by decide +kernel) ⟨Nat.le_of_ble_eq_true rfl, Nat.le_of_ble_eq_true rfl⟩) hT.h1 kX6 rfl hl.1 rfl (Nat.le_of_ble_eq_true rfl) dX6_wordToken_14 ⟨Nat.le_of_ble_eq_true rfl, Nat.le_of_ble_eq_true rfl⟩) hW (fun r_8 H locs hp_7 hW => ?_)
      rcases hp_7 with ⟨rfl, w_9⟩ | ⟨rfl, w_10⟩
      · skip
        refine m_if_eq (tgt := 22) hx hb dX6_wordToken_17 (by decide) (fun c_11 => ?_) (fun c_11 => ?_)
        · exact absurd c_11 (by decide)
        · skip
          refine lv_iconst (v := nI 3) hx hb dX6_wordToken_20 (by decide) ?_
          exact m_iret S hr hlk hW dX6_wordToken_21 ⟨rfl, (by rw [fWordT, if_neg (by rw [w_4]; exact fun z => by cases z), if_pos w_9])⟩
      · skip
        refine m_if_eq (tgt := 22) hx hb dX6_wordToken_17 (by decide) (fun c_12 => ?_) (fun c_12 => ?_)
        · skip
          refine lv_aload_n hx hb dX6_wordToken_22 rfl (lv_at hl 0 rfl) ?_
          refine va_ldcS hx hb hown hW.s3 dX6_wordToken_23 ?_
          refine m_cip (m_rV S hW (c_X6_isWord l G ad sh V sz B q 3 (by first | assumption | omega) (by decide) (by first | assumption | omega)) (cwV 1 hts (gCall [.methodLink RX6 121 yX6_isWord, .instanceMethod yX6_isWord, .selects RX6 yX6_isWord yX6_isWord, .initialized RX6] (List.forall_mem_cons.mpr ⟨(wa_6 _ (List.mem_of_getElem? (i := 23) (by decide +kernel))), (List.forall_mem_cons.mpr ⟨(wa_6 _ (List.mem_of_getElem? (i := 20) (by decide +kernel))), (List.forall_mem_cons.mpr ⟨(wa_6 _ (List.mem_of_getElem? (i := 21) (by decide +kernel))), (List.forall_mem_cons.mpr ⟨(wa_6 _ (List.mem_of_getElem? (i := 22) (by decide +kernel))), (List.forall_mem_cons.mpr ⟨(wa_1 _ (List.mem_of_getElem? (i := 14) (by decide +kernel))), (fun _ h => absurd h List.not_mem_nil)⟩)⟩)⟩)⟩)⟩)) rfl rfl rfl (by decide +kernel) ⟨Nat.le_of_ble_eq_true rfl, Nat.le_of_ble_eq_true rfl⟩) hT.h1 kX6 rfl hl.1 rfl (Nat.le_of_ble_eq_true rfl) dX6_wordToken_25 ⟨Nat.le_of_ble_eq_true rfl, Nat.le_of_ble_eq_true rfl⟩) hW (fun r_14 H locs hp_13 hW => ?_)
          rcases hp_13 with ⟨rfl, w_15⟩ | ⟨rfl, w_16⟩
          · skip
            refine m_if_eq (tgt := 33) hx hb dX6_wordToken_28 (by decide) (fun c_17 => ?_) (fun c_17 => ?_)
            · exact absurd c_17 (by decide)
            · skip
              refine lv_iconst (v := nI 4) hx hb dX6_wordToken_31 (by decide) ?_
              exact m_iret S hr hlk hW dX6_wordToken_32 ⟨rfl, (by rw [fWordT, if_neg (by rw [w_4]; exact fun z => by cases z), if_neg (by rw [w_10]; exact fun z => by cases z), if_pos w_15])⟩
          · skip
            refine m_if_eq (tgt := 33) hx hb dX6_wordToken_28 (by decide) (fun c_18 => ?_) (fun c_18 => ?_)
            · skip
              refine lv_aload_n hx hb dX6_wordToken_33 rfl (lv_at hl 0 rfl) ?_
              refine va_ldcS hx hb hown hW.s4 dX6_wordToken_34 ?_
              refine m_cip (m_rV S hW (c_X6_isWord l G ad sh V sz B q 4 (by first | assumption | omega) (by decide) (by first | assumption | omega)) (cwV 1 hts (gCall [.methodLink RX6 121 yX6_isWord, .instanceMethod yX6_isWord, .selects RX6 yX6_isWord yX6_isWord, .initialized RX6] (List.forall_mem_cons.mpr ⟨(wa_6 _ (List.mem_of_getElem? (i := 23) (by decide +kernel))), (List.forall_mem_cons.mpr ⟨(wa_6 _ (List.mem_of_getElem? (i := 20) (by decide +kernel))), (List.forall_mem_cons.mpr ⟨(wa_6 _ (List.mem_of_getElem? (i := 21) (by decide +kernel))), (List.forall_mem_cons.mpr ⟨(wa_6 _ (List.mem_of_getElem? (i := 22) (by decide +kernel))), (List.forall_mem_cons.mpr ⟨(wa_1 _ (List.mem_of_getElem? (i := 14) (by decide +kernel))), (fun _ h => absurd h List.not_mem_nil)⟩)⟩)⟩)⟩)⟩)) rfl rfl rfl (by decide +kernel) ⟨Nat.le_of_ble_eq_true rfl, Nat.le_of_ble_eq_true rfl⟩) hT.h1 kX6 rfl hl.1 rfl (Nat.le_of_ble_eq_true rfl) dX6_wordToken_36 ⟨Nat.le_of_ble_eq_true rfl, Nat.le_of_ble_eq_true rfl⟩) hW (fun r_20 H locs hp_19 hW => ?_)
              rcases hp_19 with ⟨rfl, w_21⟩ | ⟨rfl, w_22⟩
              · skip
                refine m_if_eq (tgt := 44) hx hb dX6_wordToken_39 (by decide) (fun c_23 => ?_) (fun c_23 => ?_)
                · exact absurd c_23 (by decide)
                · skip
                  refine lv_iconst (v := nI 5) hx hb dX6_wordToken_42 (by decide) ?_
                  exact m_iret S hr hlk hW dX6_wordToken_43 ⟨rfl, (by rw [fWordT, if_neg (by rw [w_4]; exact fun z => by cases z), if_neg (by rw [w_10]; exact fun z => by cases z), if_neg (by rw [w_16]; exact fun z => by cases z), if_pos w_21])⟩
              · skip
                refine m_if_eq (tgt := 44) hx hb dX6_wordToken_39 (by decide) (fun c_24 => ?_) (fun c_24 => ?_)
                · skip
                  refine lv_aload_n hx hb dX6_wordToken_44 rfl (lv_at hl 0 rfl) ?_
                  refine va_ldcS hx hb hown hW.s5 dX6_wordToken_45 ?_
                  refine m_cip (m_rV S hW (c_X6_isWord l G ad sh V sz B q 5 (by first | assumption | omega) (by decide) (by first | assumption | omega)) (cwV 1 hts (gCall [.methodLink RX6 121 yX6_isWord, .instanceMethod yX6_isWord, .selects RX6 yX6_isWord yX6_isWord, .initialized RX6] (List.forall_mem_cons.mpr ⟨(wa_6 _ (List.mem_of_getElem? (i := 23) (by decide +kernel))), (List.forall_mem_cons.mpr ⟨(wa_6 _ (List.mem_of_getElem? (i := 20) (by decide +kernel))), (List.forall_mem_cons.mpr ⟨(wa_6 _ (List.mem_of_getElem? (i := 21) (by decide +kernel))), (List.forall_mem_cons.mpr ⟨(wa_6 _ (List.mem_of_getElem? (i := 22) (by decide +kernel))), (List.forall_mem_cons.mpr ⟨(wa_1 _ (List.mem_of_getElem? (i := 14) (by decide +kernel))), (fun _ h => absurd h List.not_mem_nil)⟩)⟩)⟩)⟩)⟩)) rfl rfl rfl (by decide +kernel) ⟨Nat.le_of_ble_eq_true rfl, Nat.le_of_ble_eq_true rfl⟩) hT.h1 kX6 rfl hl.1 rfl (Nat.le_of_ble_eq_true rfl) dX6_wordToken_47 ⟨Nat.le_of_ble_eq_true rfl, Nat.le_of_ble_eq_true rfl⟩) hW (fun r_26 H locs hp_25 hW => ?_)
                  rcases hp_25 with ⟨rfl, w_27⟩ | ⟨rfl, w_28⟩
                  · skip
                    refine m_if_eq (tgt := 56) hx hb dX6_wordToken_50 (by decide) (fun c_29 => ?_) (fun c_29 => ?_)
                    · exact absurd c_29 (by decide)
                    · skip
                      refine lv_bipush (v := nI 6) hx hb dX6_wordToken_53 (by decide) ?_
                      exact m_iret S hr hlk hW dX6_wordToken_55 ⟨rfl, (by rw [fWordT, if_neg (by rw [w_4]; exact fun z => by cases z), if_neg (by rw [w_10]; exact fun z => by cases z), if_neg (by rw [w_16]; exact fun z => by cases z), if_neg (by rw [w_22]; exact fun z => by cases z), if_pos w_27])⟩
                  · skip
                    refine m_if_eq (tgt := 56) hx hb dX6_wordToken_50 (by decide) (fun c_30 => ?_) (fun c_30 => ?_)
                    · skip
                      refine lv_aload_n hx hb dX6_wordToken_56 rfl (lv_at hl 0 rfl) ?_
                      refine va_ldcS hx hb hown hW.s6 dX6_wordToken_57 ?_
                      refine m_cip (m_rV S hW (c_X6_isWord l G ad sh V sz B q 6 (by first | assumption | omega) (by decide) (by first | assumption | omega)) (cwV 1 hts (gCall [.methodLink RX6 121 yX6_isWord, .instanceMethod yX6_isWord, .selects RX6 yX6_isWord yX6_isWord, .initialized RX6] (List.forall_mem_cons.mpr ⟨(wa_6 _ (List.mem_of_getElem? (i := 23) (by decide +kernel))), (List.forall_mem_cons.mpr ⟨(wa_6 _ (List.mem_of_getElem? (i := 20) (by decide +kernel))), (List.forall_mem_cons.mpr ⟨(wa_6 _ (List.mem_of_getElem? (i := 21) (by decide +kernel))), (List.forall_mem_cons.mpr ⟨(wa_6 _ (List.mem_of_getElem? (i := 22) (by decide +kernel))), (List.forall_mem_cons.mpr ⟨(wa_1 _ (List.mem_of_getElem? (i := 14) (by decide +kernel))), (fun _ h => absurd h List.not_mem_nil)⟩)⟩)⟩)⟩)⟩)) rfl rfl rfl (by decide +kernel) ⟨Nat.le_of_ble_eq_true rfl, Nat.le_of_ble_eq_true rfl⟩) hT.h1 kX6 rfl hl.1 rfl (Nat.le_of_ble_eq_true rfl) dX6_wordToken_59 ⟨Nat.le_of_ble_eq_true rfl, Nat.le_of_ble_eq_true rfl⟩) hW (fun r_32 H locs hp_31 hW => ?_)
                      rcases hp_31 with ⟨rfl, w_33⟩ | ⟨rfl, w_34⟩
                      · skip
                        refine m_if_eq (tgt := 68) hx hb dX6_wordToken_62 (by decide) (fun c_35 => ?_) (fun c_35 => ?_)
                        · exact absurd c_35 (by decide)
                        · skip
                          refine lv_bipush (v := nI 7) hx hb dX6_wordToken_65 (by decide) ?_
                          exact m_iret S hr hlk hW dX6_wordToken_67 ⟨rfl, (by rw [fWordT, if_neg (by rw [w_4]; exact fun z => by cases z), if_neg (by rw [w_10]; exact fun z => by cases z), if_neg (by rw [w_16]; exact fun z => by cases z), if_neg (by rw [w_22]; exact fun z => by cases z), if_neg (by rw [w_28]; exact fun z => by cases z), if_pos w_33])⟩
                      · skip
                        refine m_if_eq (tgt := 68) hx hb dX6_wordToken_62 (by decide) (fun c_36 => ?_) (fun c_36 => ?_)
                        · skip
                          refine lv_aload_n hx hb dX6_wordToken_68 rfl (lv_at hl 0 rfl) ?_
                          refine va_ldcS hx hb hown hW.s7 dX6_wordToken_69 ?_
                          refine m_cip (m_rV S hW (c_X6_isWord l G ad sh V sz B q 7 (by first | assumption | omega) (by decide) (by first | assumption | omega)) (cwV 1 hts (gCall [.methodLink RX6 121 yX6_isWord, .instanceMethod yX6_isWord, .selects RX6 yX6_isWord yX6_isWord, .initialized RX6] (List.forall_mem_cons.mpr ⟨(wa_6 _ (List.mem_of_getElem? (i := 23) (by decide +kernel))), (List.forall_mem_cons.mpr ⟨(wa_6 _ (List.mem_of_getElem? (i := 20) (by decide +kernel))), (List.forall_mem_cons.mpr ⟨(wa_6 _ (List.mem_of_getElem? (i := 21) (by decide +kernel))), (List.forall_mem_cons.mpr ⟨(wa_6 _ (List.mem_of_getElem? (i := 22) (by decide +kernel))), (List.forall_mem_cons.mpr ⟨(wa_1 _ (List.mem_of_getElem? (i := 14) (by decide +kernel))), (fun _ h => absurd h List.not_mem_nil)⟩)⟩)⟩)⟩)⟩)) rfl rfl rfl (by decide +kernel) ⟨Nat.le_of_ble_eq_true rfl, Nat.le_of_ble_eq_true rfl⟩) hT.h1 kX6 rfl hl.1 rfl (Nat.le_of_ble_eq_true rfl) dX6_wordToken_71 ⟨Nat.le_of_ble_eq_true rfl, Nat.le_of_ble_eq_true rfl⟩) hW (fun r_38 H locs hp_37 hW => ?_)
                          rcases hp_37 with ⟨rfl, w_39⟩ | ⟨rfl, w_40⟩
                          · skip
                            refine m_if_eq (tgt := 80) hx hb dX6_wordToken_74 (by decide) (fun c_41 => ?_) (fun c_41 => ?_)
                            · exact absurd c_41 (by decide)
                            · skip
                              refine lv_bipush (v := nI 8) hx hb dX6_wordToken_77 (by decide) ?_
                              exact m_iret S hr hlk hW dX6_wordToken_79 ⟨rfl, (by rw [fWordT, if_neg (by rw [w_4]; exact fun z => by cases z), if_neg (by rw [w_10]; exact fun z => by cases z), if_neg (by rw [w_16]; exact fun z => by cases z), if_neg (by rw [w_22]; exact fun z => by cases z), if_neg (by rw [w_28]; exact fun z => by cases z), if_neg (by rw [w_34]; exact fun z => by cases z), if_pos w_39])⟩
                          · skip
                            refine m_if_eq (tgt := 80) hx hb dX6_wordToken_74 (by decide) (fun c_42 => ?_) (fun c_42 => ?_)
                            · skip
                              refine lv_aload_n hx hb dX6_wordToken_80 rfl (lv_at hl 0 rfl) ?_
                              refine va_ldcS hx hb hown hW.s8 dX6_wordToken_81 ?_
                              refine m_cip (m_rV S hW (c_X6_isWord l G ad sh V sz B q 8 (by first | assumption | omega) (by decide) (by first | assumption | omega)) (cwV 1 hts (gCall [.methodLink RX6 121 yX6_isWord, .instanceMethod yX6_isWord, .selects RX6 yX6_isWord yX6_isWord, .initialized RX6] (List.forall_mem_cons.mpr ⟨(wa_6 _ (List.mem_of_getElem? (i := 23) (by decide +kernel))), (List.forall_mem_cons.mpr ⟨(wa_6 _ (List.mem_of_getElem? (i := 20) (by decide +kernel))), (List.forall_mem_cons.mpr ⟨(wa_6 _ (List.mem_of_getElem? (i := 21) (by decide +kernel))), (List.forall_mem_cons.mpr ⟨(wa_6 _ (List.mem_of_getElem? (i := 22) (by decide +kernel))), (List.forall_mem_cons.mpr ⟨(wa_1 _ (List.mem_of_getElem? (i := 14) (by decide +kernel))), (fun _ h => absurd h List.not_mem_nil)⟩)⟩)⟩)⟩)⟩)) rfl rfl rfl (by decide +kernel) ⟨Nat.le_of_ble_eq_true rfl, Nat.le_of_ble_eq_true rfl⟩) hT.h1 kX6 rfl hl.1 rfl (Nat.le_of_ble_eq_true rfl) dX6_wordToken_83 ⟨Nat.le_of_ble_eq_true rfl, Nat.le_of_ble_eq_true rfl⟩) hW (fun r_44 H locs hp_43 hW => ?_)
                              rcases hp_43 with ⟨rfl, w_45⟩ | ⟨rfl, w_46⟩
                              · skip
                                refine m_if_eq (tgt := 92) hx hb dX6_wordToken_86 (by decide) (fun c_47 => ?_) (fun c_47 => ?_)
                                · exact absurd c_47 (by decide)
                                · skip
                                  refine lv_bipush (v := nI 9) hx hb dX6_wordToken_89 (by decide) ?_
                                  exact m_iret S hr hlk hW dX6_wordToken_91 ⟨rfl, (by rw [fWordT, if_neg (by rw [w_4]; exact fun z => by cases z), if_neg (by rw [w_10]; exact fun z => by cases z), if_neg (by rw [w_16]; exact fun z => by cases z), if_neg (by rw [w_22]; exact fun z => by cases z), if_neg (by rw [w_28]; exact fun z => by cases z), if_neg (by rw [w_34]; exact fun z => by cases z), if_neg (by rw [w_40]; exact fun z => by cases z), if_pos w_45])⟩
                              · skip
                                refine m_if_eq (tgt := 92) hx hb dX6_wordToken_86 (by decide) (fun c_48 => ?_) (fun c_48 => ?_)
                                · skip
                                  refine lv_aload_n hx hb dX6_wordToken_92 rfl (lv_at hl 0 rfl) ?_
                                  refine va_ldcS hx hb hown hW.s9 dX6_wordToken_93 ?_
                                  refine m_cip (m_rV S hW (c_X6_isWord l G ad sh V sz B q 9 (by first | assumption | omega) (by decide) (by first | assumption | omega)) (cwV 1 hts (gCall [.methodLink RX6 121 yX6_isWord, .instanceMethod yX6_isWord, .selects RX6 yX6_isWord yX6_isWord, .initialized RX6] (List.forall_mem_cons.mpr ⟨(wa_6 _ (List.mem_of_getElem? (i := 23) (by decide +kernel))), (List.forall_mem_cons.mpr ⟨(wa_6 _ (List.mem_of_getElem? (i := 20) (by decide +kernel))), (List.forall_mem_cons.mpr ⟨(wa_6 _ (List.mem_of_getElem? (i := 21) (by decide +kernel))), (List.forall_mem_cons.mpr ⟨(wa_6 _ (List.mem_of_getElem? (i := 22) (by decide +kernel))), (List.forall_mem_cons.mpr ⟨(wa_1 _ (List.mem_of_getElem? (i := 14) (by decide +kernel))), (fun _ h => absurd h List.not_mem_nil)⟩)⟩)⟩)⟩)⟩)) rfl rfl rfl (by decide +kernel) ⟨Nat.le_of_ble_eq_true rfl, Nat.le_of_ble_eq_true rfl⟩) hT.h1 kX6 rfl hl.1 rfl (Nat.le_of_ble_eq_true rfl) dX6_wordToken_95 ⟨Nat.le_of_ble_eq_true rfl, Nat.le_of_ble_eq_true rfl⟩) hW (fun r_50 H locs hp_49 hW => ?_)
                                  rcases hp_49 with ⟨rfl, w_51⟩ | ⟨rfl, w_52⟩
                                  · skip
                                    refine m_if_eq (tgt := 104) hx hb dX6_wordToken_98 (by decide) (fun c_53 => ?_) (fun c_53 => ?_)
                                    · exact absurd c_53 (by decide)
                                    · skip
                                      refine lv_bipush (v := nI 10) hx hb dX6_wordToken_101 (by decide) ?_
                                      exact m_iret S hr hlk hW dX6_wordToken_103 ⟨rfl, (by rw [fWordT, if_neg (by rw [w_4]; exact fun z => by cases z), if_neg (by rw [w_10]; exact fun z => by cases z), if_neg (by rw [w_16]; exact fun z => by cases z), if_neg (by rw [w_22]; exact fun z => by cases z), if_neg (by rw [w_28]; exact fun z => by cases z), if_neg (by rw [w_34]; exact fun z => by cases z), if_neg (by rw [w_40]; exact fun z => by cases z), if_neg (by rw [w_46]; exact fun z => by cases z), if_pos w_51])⟩
                                  · skip
                                    refine m_if_eq (tgt := 104) hx hb dX6_wordToken_98 (by decide) (fun c_54 => ?_) (fun c_54 => ?_)
                                    · skip
                                      refine lv_aload_n hx hb dX6_wordToken_104 rfl (lv_at hl 0 rfl) ?_
                                      refine va_ldcS hx hb hown hW.s10 dX6_wordToken_105 ?_
                                      refine m_cip (m_rV S hW (c_X6_isWord l G ad sh V sz B q 10 (by first | assumption | omega) (by decide) (by first | assumption | omega)) (cwV 1 hts (gCall [.methodLink RX6 121 yX6_isWord, .instanceMethod yX6_isWord, .selects RX6 yX6_isWord yX6_isWord, .initialized RX6] (List.forall_mem_cons.mpr ⟨(wa_6 _ (List.mem_of_getElem? (i := 23) (by decide +kernel))), (List.forall_mem_cons.mpr ⟨(wa_6 _ (List.mem_of_getElem? (i := 20) (by decide +kernel))), (List.forall_mem_cons.mpr ⟨(wa_6 _ (List.mem_of_getElem? (i := 21) (by decide +kernel))), (List.forall_mem_cons.mpr ⟨(wa_6 _ (List.mem_of_getElem? (i := 22) (by decide +kernel))), (List.forall_mem_cons.mpr ⟨(wa_1 _ (List.mem_of_getElem? (i := 14) (by decide +kernel))), (fun _ h => absurd h List.not_mem_nil)⟩)⟩)⟩)⟩)⟩)) rfl rfl rfl (by decide +kernel) ⟨Nat.le_of_ble_eq_true rfl, Nat.le_of_ble_eq_true rfl⟩) hT.h1 kX6 rfl hl.1 rfl (Nat.le_of_ble_eq_true rfl) dX6_wordToken_107 ⟨Nat.le_of_ble_eq_true rfl, Nat.le_of_ble_eq_true rfl⟩) hW (fun r_56 H locs hp_55 hW => ?_)
                                      rcases hp_55 with ⟨rfl, w_57⟩ | ⟨rfl, w_58⟩
                                      · skip
                                        refine m_if_eq (tgt := 116) hx hb dX6_wordToken_110 (by decide) (fun c_59 => ?_) (fun c_59 => ?_)
                                        · exact absurd c_59 (by decide)
                                        · skip
                                          refine lv_bipush (v := nI 11) hx hb dX6_wordToken_113 (by decide) ?_
                                          exact m_iret S hr hlk hW dX6_wordToken_115 ⟨rfl, (by rw [fWordT, if_neg (by rw [w_4]; exact fun z => by cases z), if_neg (by rw [w_10]; exact fun z => by cases z), if_neg (by rw [w_16]; exact fun z => by cases z), if_neg (by rw [w_22]; exact fun z => by cases z), if_neg (by rw [w_28]; exact fun z => by cases z), if_neg (by rw [w_34]; exact fun z => by cases z), if_neg (by rw [w_40]; exact fun z => by cases z), if_neg (by rw [w_46]; exact fun z => by cases z), if_neg (by rw [w_52]; exact fun z => by cases z), if_pos w_57])⟩
                                      · skip
                                        refine m_if_eq (tgt := 116) hx hb dX6_wordToken_110 (by decide) (fun c_60 => ?_) (fun c_60 => ?_)
                                        · skip
                                          refine lv_aload_n hx hb dX6_wordToken_116 rfl (lv_at hl 0 rfl) ?_
                                          refine va_ldcS hx hb hown hW.s11 dX6_wordToken_117 ?_
                                          refine m_cip (m_rV S hW (c_X6_isWord l G ad sh V sz B q 11 (by first | assumption | omega) (by decide) (by first | assumption | omega)) (cwV 1 hts (gCall [.methodLink RX6 121 yX6_isWord, .instanceMethod yX6_isWord, .selects RX6 yX6_isWord yX6_isWord, .initialized RX6] (List.forall_mem_cons.mpr ⟨(wa_6 _ (List.mem_of_getElem? (i := 23) (by decide +kernel))), (List.forall_mem_cons.mpr ⟨(wa_6 _ (List.mem_of_getElem? (i := 20) (by decide +kernel))), (List.forall_mem_cons.mpr ⟨(wa_6 _ (List.mem_of_getElem? (i := 21) (by decide +kernel))), (List.forall_mem_cons.mpr ⟨(wa_6 _ (List.mem_of_getElem? (i := 22) (by decide +kernel))), (List.forall_mem_cons.mpr ⟨(wa_1 _ (List.mem_of_getElem? (i := 14) (by decide +kernel))), (fun _ h => absurd h List.not_mem_nil)⟩)⟩)⟩)⟩)⟩)) rfl rfl rfl (by decide +kernel) ⟨Nat.le_of_ble_eq_true rfl, Nat.le_of_ble_eq_true rfl⟩) hT.h1 kX6 rfl hl.1 rfl (Nat.le_of_ble_eq_true rfl) dX6_wordToken_119 ⟨Nat.le_of_ble_eq_true rfl, Nat.le_of_ble_eq_true rfl⟩) hW (fun r_62 H locs hp_61 hW => ?_)
                                          rcases hp_61 with ⟨rfl, w_63⟩ | ⟨rfl, w_64⟩
                                          · skip
                                            refine m_if_eq (tgt := 128) hx hb dX6_wordToken_122 (by decide) (fun c_65 => ?_) (fun c_65 => ?_)
                                            · exact absurd c_65 (by decide)
                                            · skip
                                              refine lv_bipush (v := nI 12) hx hb dX6_wordToken_125 (by decide) ?_
                                              exact m_iret S hr hlk hW dX6_wordToken_127 ⟨rfl, (by rw [fWordT, if_neg (by rw [w_4]; exact fun z => by cases z), if_neg (by rw [w_10]; exact fun z => by cases z), if_neg (by rw [w_16]; exact fun z => by cases z), if_neg (by rw [w_22]; exact fun z => by cases z), if_neg (by rw [w_28]; exact fun z => by cases z), if_neg (by rw [w_34]; exact fun z => by cases z), if_neg (by rw [w_40]; exact fun z => by cases z), if_neg (by rw [w_46]; exact fun z => by cases z), if_neg (by rw [w_52]; exact fun z => by cases z), if_neg (by rw [w_58]; exact fun z => by cases z), if_pos w_63])⟩
                                          · skip
                                            refine m_if_eq (tgt := 128) hx hb dX6_wordToken_122 (by decide) (fun c_66 => ?_) (fun c_66 => ?_)
                                            · skip
                                              refine lv_aload_n hx hb dX6_wordToken_128 rfl (lv_at hl 0 rfl) ?_
                                              refine va_ldcS hx hb hown hW.s12 dX6_wordToken_129 ?_
                                              refine m_cip (m_rV S hW (c_X6_isWord l G ad sh V sz B q 12 (by first | assumption | omega) (by decide) (by first | assumption | omega)) (cwV 1 hts (gCall [.methodLink RX6 121 yX6_isWord, .instanceMethod yX6_isWord, .selects RX6 yX6_isWord yX6_isWord, .initialized RX6] (List.forall_mem_cons.mpr ⟨(wa_6 _ (List.mem_of_getElem? (i := 23) (by decide +kernel))), (List.forall_mem_cons.mpr ⟨(wa_6 _ (List.mem_of_getElem? (i := 20) (by decide +kernel))), (List.forall_mem_cons.mpr ⟨(wa_6 _ (List.mem_of_getElem? (i := 21) (by decide +kernel))), (List.forall_mem_cons.mpr ⟨(wa_6 _ (List.mem_of_getElem? (i := 22) (by decide +kernel))), (List.forall_mem_cons.mpr ⟨(wa_1 _ (List.mem_of_getElem? (i := 14) (by decide +kernel))), (fun _ h => absurd h List.not_mem_nil)⟩)⟩)⟩)⟩)⟩)) rfl rfl rfl (by decide +kernel) ⟨Nat.le_of_ble_eq_true rfl, Nat.le_of_ble_eq_true rfl⟩) hT.h1 kX6 rfl hl.1 rfl (Nat.le_of_ble_eq_true rfl) dX6_wordToken_131 ⟨Nat.le_of_ble_eq_true rfl, Nat.le_of_ble_eq_true rfl⟩) hW (fun r_68 H locs hp_67 hW => ?_)
                                              rcases hp_67 with ⟨rfl, w_69⟩ | ⟨rfl, w_70⟩
                                              · skip
                                                refine m_if_eq (tgt := 142) hx hb dX6_wordToken_134 (by decide) (fun c_71 => ?_) (fun c_71 => ?_)
                                                · exact absurd c_71 (by decide)
                                                · skip
                                                  refine lv_bipush (v := nI 13) hx hb dX6_wordToken_137 (by decide) ?_
                                                  refine lv_goto (tgt := 143) hx hb dX6_wordToken_139 (by decide) ?_
                                                  exact m_iret S hr hlk hW dX6_wordToken_143 ⟨rfl, (by rw [fWordT, if_neg (by rw [w_4]; exact fun z => by cases z), if_neg (by rw [w_10]; exact fun z => by cases z), if_neg (by rw [w_16]; exact fun z => by cases z), if_neg (by rw [w_22]; exact fun z => by cases z), if_neg (by rw [w_28]; exact fun z => by cases z), if_neg (by rw [w_34]; exact fun z => by cases z), if_neg (by rw [w_40]; exact fun z => by cases z), if_neg (by rw [w_46]; exact fun z => by cases z), if_neg (by rw [w_52]; exact fun z => by cases z), if_neg (by rw [w_58]; exact fun z => by cases z), if_neg (by rw [w_64]; exact fun z => by cases z), if_pos w_69])⟩
                                              · skip
                                                refine m_if_eq (tgt := 142) hx hb dX6_wordToken_134 (by decide) (fun c_72 => ?_) (fun c_72 => ?_)
                                                · skip
                                                  refine lv_iconst (v := -1) hx hb dX6_wordToken_142 (by decide) ?_
                                                  exact m_iret S hr hlk hW dX6_wordToken_143 ⟨rfl, (by rw [fWordT, if_neg (by rw [w_4]; exact fun z => by cases z), if_neg (by rw [w_10]; exact fun z => by cases z), if_neg (by rw [w_16]; exact fun z => by cases z), if_neg (by rw [w_22]; exact fun z => by cases z), if_neg (by rw [w_28]; exact fun z => by cases z), if_neg (by rw [w_34]; exact fun z => by cases z), if_neg (by rw [w_40]; exact fun z => by cases z), if_neg (by rw [w_46]; exact fun z => by cases z), if_neg (by rw [w_52]; exact fun z => by cases z), if_neg (by rw [w_58]; exact fun z => by cases z), if_neg (by rw [w_64]; exact fun z => by cases z), if_neg (by rw [w_70]; exact fun z => by cases z)])⟩
                                                · exact absurd c_72 (by decide)
                                            · exact absurd c_66 (by decide)
                                        · exact absurd c_60 (by decide)
                                    · exact absurd c_54 (by decide)
                                · exact absurd c_48 (by decide)
                            · exact absurd c_42 (by decide)
                        · exact absurd c_36 (by decide)
                    · exact absurd c_30 (by decide)
                · exact absurd c_24 (by decide)
            · exact absurd c_18 (by decide)
        · exact absurd c_12 (by decide)
    · exact absurd c_6 (by decide)
