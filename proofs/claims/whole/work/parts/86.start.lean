/-! the world at the law's entry -/
def ngP : List Nat := [53, 97, 107, 118, 129, 141, 154, 167, 182, 199, 217, 233, 251]
def ngS (i : Nat) : String × Nat × String := mSl.getD i ("", 0, "")
def ngT (i : Nat) : Term := Term.string (ngS i).1 (ngS i).2.1
def ngF : List Cond := flatC (Jvm.Cond.and given_1 narrow_1)
def ngR : List Nat := [131, 203, 208, 209, 210, 211, 212, 213, 214, 215, 216, 217, 218]
theorem ng0 : ∀ i : Nat, i < 13 → mLen.getD i 0 < 2 ^ 31 := by decide +kernel
theorem ng1 : ∀ i : Nat, i < 13 → ngF[ngP.getD i 0]? = some (Cond.exactly (ngT i) "java/lang/String") := by decide +kernel
theorem ng2 : ∀ i : Nat, i < 13 → ngF[ngP.getD i 0 + 1]? = some (Cond.eq (.field (ngT i) "java/lang/String" "coder" "B") (.int 0)) := by decide +kernel
theorem ng3 : ∀ i : Nat, i < 13 → ngF[ngP.getD i 0 + 2]? = some (Cond.arrayOf (.field (ngT i) "java/lang/String" "value" "[B") .byte) := by decide +kernel
theorem ng4 : ∀ i : Nat, i < 13 → ngF[ngP.getD i 0 + 3]? = some (Cond.eq (.length (.field (ngT i) "java/lang/String" "value" "[B")) (.int (Int32.ofNat (mLen.getD i 0)))) := by decide +kernel
theorem ng5 : ∀ i : Nat, i < 13 → ∀ j : Nat, j < mLen.getD i 0 → ngF[ngP.getD i 0 + 4 + j]? = some (Cond.eq (.elem (.field (ngT i) "java/lang/String" "value" "[B") (.int (Int32.ofNat j))) (.int ((mByt.getD i []).getD j 0))) := by decide +kernel
theorem ng6 : ∀ j : Nat, j < 13 → ∀ i : Nat, i < j → ngF[ngP.getD j 0 + 4 + mLen.getD j 0 + i]? = some (Cond.not (Cond.eq (ngT i) (ngT j))) := by decide +kernel
theorem ng7 : ∀ i : Nat, i < 13 → tables_1_1[ngR.getD i 0]? = some (Cond.stringRef (ngS i).1 (ngS i).2.1 (ngS i).2.2) := by decide +kernel
theorem law_G {s : State} {b : Nat} (hts : ∀ w ∈ lw_tbl, w.before #[Value.ref b] s = true) (hgv : (Jvm.Cond.and given_1 narrow_1).before #[Value.ref b] s = true) : ∃ G : mG, va_K G.1 vwCl (mTy G) s ∧ mEnv G (fun q => s.heap.size ≤ q) s s.heap := by
  have hFL : ∀ w ∈ ngF, w.before #[Value.ref b] s = true := flat_of_before _ hgv
  have hA : ∀ a : Nat, a < s.heap.size → ¬ (fun q : Nat => s.heap.size ≤ q) a := fun a ha => Nat.not_le.mpr ha
  have hcl : ∀ k : Nat, ∃ p : ClassId × (Nat → Nat), ∀ q : vw_C, vwCl[k]? = some q → u_Kn s q.1 q.2.1 q.2.2 p.1 p.2 := by
    intro k
    have kn : ∀ (C : String) (T : u_T) (N n : Nat), (∀ w ∈ u_ws C T N, w ∈ lw_tbl) → Cond.instantiable C n ∈ lw_tbl → ∃ p : ClassId × (Nat → Nat), u_Kn s C T N p.1 p.2 := fun C T N n hin hi => by
      obtain ⟨c, i, h⟩ := u_known (n := n) hts hin (hts _ hi)
      exact ⟨(c, i), h⟩
    rcases (show k = 0 ∨ k = 1 ∨ k = 2 ∨ k = 3 ∨ k = 4 ∨ k = 5 ∨ k = 6 ∨ k = 7 ∨ k = 8 ∨ k = 9 ∨ k = 10 ∨ 11 ≤ k by omega) with rfl | rfl | rfl | rfl | rfl | rfl | rfl | rfl | rfl | rfl | rfl | h11
    · obtain ⟨p, h⟩ := kn RX0 TX0 1 1 wx_0 (tb_1 _ (List.mem_of_getElem? (i := 120) (by decide +kernel)))
      exact ⟨p, fun q hq => by rw [kX0] at hq; cases hq; exact h⟩
    · obtain ⟨p, h⟩ := kn RX1 TX1 5 5 wx_1 (tb_1 _ (List.mem_of_getElem? (i := 78) (by decide +kernel)))
      exact ⟨p, fun q hq => by rw [kX1] at hq; cases hq; exact h⟩
    · obtain ⟨p, h⟩ := kn RX2 TX2 2 2 wx_2 (tb_1 _ (List.mem_of_getElem? (i := 72) (by decide +kernel)))
      exact ⟨p, fun q hq => by rw [kX2] at hq; cases hq; exact h⟩
    · obtain ⟨p, h⟩ := kn RX3 TX3 3 3 wx_3 (tb_2 _ (List.mem_of_getElem? (i := 66) (by decide +kernel)))
      exact ⟨p, fun q hq => by rw [kX3] at hq; cases hq; exact h⟩
    · obtain ⟨p, h⟩ := kn RX4 TX4 10 10 wx_4 (tb_2 _ (List.mem_of_getElem? (i := 56) (by decide +kernel)))
      exact ⟨p, fun q hq => by rw [kX4] at hq; cases hq; exact h⟩
    · obtain ⟨p, h⟩ := kn RX5 TX5 3 3 wx_5 (tb_2 _ (List.mem_of_getElem? (i := 158) (by decide +kernel)))
      exact ⟨p, fun q hq => by rw [kX5] at hq; cases hq; exact h⟩
    · obtain ⟨p, h⟩ := kn RX6 TX6 11 11 wx_6 (tb_1 _ (List.mem_of_getElem? (i := 29) (by decide +kernel)))
      exact ⟨p, fun q hq => by rw [kX6] at hq; cases hq; exact h⟩
    · obtain ⟨p, h⟩ := kn RX7 TX7 5 5 wx_7 (tb_2 _ (List.mem_of_getElem? (i := 28) (by decide +kernel)))
      exact ⟨p, fun q hq => by rw [kX7] at hq; cases hq; exact h⟩
    · obtain ⟨p, h⟩ := kn RX8 TX8 4 4 wx_8 (tb_2 _ (List.mem_of_getElem? (i := 134) (by decide +kernel)))
      exact ⟨p, fun q hq => by rw [kX8] at hq; cases hq; exact h⟩
    · obtain ⟨p, h⟩ := kn RX10 TX10 10 10 wx_10 (tb_1 _ (List.mem_of_getElem? (i := 21) (by decide +kernel)))
      exact ⟨p, fun q hq => by rw [kX10] at hq; cases hq; exact h⟩
    · obtain ⟨p, h⟩ := kn RX11 TX11 38 38 wx_11 (tb_4 _ (List.mem_of_getElem? (i := 156) (by decide +kernel)))
      exact ⟨p, fun q hq => by rw [kX11] at hq; cases hq; exact h⟩
    · exact ⟨(0, fun _ => 0), fun q hq => by
        have h := (List.getElem?_eq_some_iff.mp hq).1
        have h2 : k < 11 := h
        omega⟩
  obtain ⟨fC, hfC⟩ := Classical.axiomOfChoice hcl
  obtain ⟨cI, kI, compI, hI1, hI2, hI3⟩ := Cond.arrayClass_spec (hts (.arrayClass .int) (tb_1 _ (List.mem_of_getElem? (i := 68) (by decide +kernel))))
  have hO : ∀ C : String, Cond.arrayOver (.object C) ∈ lw_tbl → ∃ cA : ClassId, ArrOfT s cA (.object C) ∧ va_RA s cA (.object C) := fun C hC => by
    obtain ⟨comp, c, k, h1, h2, h3, h4, h5⟩ := Cond.arrayOver_spec (hts _ hC)
    exact ⟨c, fun N z => ⟨(fun k h => by cases h), k, h3, comp, h4⟩, k, comp, h3, h4, h1, h5⟩
  have m1 : Cond.arrayOver (.object RX1) ∈ lw_tbl := (tb_2 _ (List.mem_of_getElem? (i := 62) (by decide +kernel)))
  have m3 : Cond.arrayOver (.object RX3) ∈ lw_tbl := (tb_2 _ (List.mem_of_getElem? (i := 64) (by decide +kernel)))
  have m5 : Cond.arrayOver (.object RX5) ∈ lw_tbl := (tb_1 _ (List.mem_of_getElem? (i := 130) (by decide +kernel)))
  have m7 : Cond.arrayOver (.object RX7) ∈ lw_tbl := (tb_1 _ (List.mem_of_getElem? (i := 70) (by decide +kernel)))
  obtain ⟨c1, a1⟩ := hO RX1 m1
  obtain ⟨c3, a3⟩ := hO RX3 m3
  obtain ⟨c5, a5⟩ := hO RX5 m5
  obtain ⟨c7, a7⟩ := hO RX7 m7
  obtain ⟨adK, adV, hS, hev⟩ := vk_Sof (args := #[Value.ref b]) (s := s) (N := 13) (tm := ngT) (len := mLen) (byt := mByt) (A := fun q => s.heap.size ≤ q) ng0 (fun i hi => hFL _ (List.mem_of_getElem? (ng1 i hi))) (fun i hi => hFL _ (List.mem_of_getElem? (ng2 i hi))) (fun i hi => hFL _ (List.mem_of_getElem? (ng3 i hi))) (fun i hi => hFL _ (List.mem_of_getElem? (ng4 i hi))) (fun i hi j hj => hFL _ (List.mem_of_getElem? (ng5 i hi j hj)))
    (fun i j hi hj hij => by
      rcases Nat.lt_or_gt_of_ne hij with h | h
      · exact Or.inl (hFL _ (List.mem_of_getElem? (ng6 j hj i h)))
      · exact Or.inr (hFL _ (List.mem_of_getElem? (ng6 i hi j h)))) hA
  refine ⟨((fun k => (fC k).1, fun k => (fC k).2), cI, (fun k => if k = 1 then c1 else if k = 3 then c3 else if k = 5 then c5 else c7), adK, adV), ⟨fun c q hq => hfC c q hq, fun k q hq => ?_⟩, ?_, hS, fun i q hq => ?_, va_Zof (hts _ (tb_1 _ (List.mem_of_getElem? (i := 145) (by decide +kernel)))) (hts _ (tb_1 _ (List.mem_of_getElem? (i := 6) (by decide +kernel)))) (va_eqt (hFL _ (List.mem_of_getElem? (i := 4) (by decide +kernel)))) hA, va_Zqof (hts _ (tb_1 _ (List.mem_of_getElem? (i := 161) (by decide +kernel)))) (hts _ (tb_1 _ (List.mem_of_getElem? (i := 8) (by decide +kernel)))) (hFL _ (List.mem_of_getElem? (i := 5) (by decide +kernel))) hA, ?_⟩
  · rcases (show k = 0 ∨ k = 1 ∨ k = 2 ∨ k = 3 ∨ k = 4 ∨ 5 ≤ k by omega) with rfl | rfl | rfl | rfl | rfl | h5
    · cases Option.some.inj hq
      exact ⟨fun N z => ⟨(fun k h => by cases h), kI, hI2, compI, hI3⟩, hI1⟩
    · cases Option.some.inj hq; exact a1
    · cases Option.some.inj hq; exact a3
    · cases Option.some.inj hq; exact a5
    · cases Option.some.inj hq; exact a7
    · have h := (List.getElem?_eq_some_iff.mp hq).1
      have h2 : k < 5 := h
      omega
  · exact (List.forall_mem_cons.mpr ⟨va_Nw.of rfl (hts _ (tb_1 _ (List.mem_of_getElem? (i := 30) (by decide +kernel)))), (List.forall_mem_cons.mpr ⟨va_Nw.of rfl (hts _ (tb_1 _ (List.mem_of_getElem? (i := 73) (by decide +kernel)))), (List.forall_mem_cons.mpr ⟨va_Nw.of rfl (hts _ (tb_1 _ (List.mem_of_getElem? (i := 79) (by decide +kernel)))), (List.forall_mem_cons.mpr ⟨va_Nw.of rfl (hts _ (tb_1 _ (List.mem_of_getElem? (i := 121) (by decide +kernel)))), (List.forall_mem_cons.mpr ⟨va_Nw.of rfl (hts _ (tb_2 _ (List.mem_of_getElem? (i := 12) (by decide +kernel)))), (List.forall_mem_cons.mpr ⟨va_Nw.of rfl (hts _ (tb_2 _ (List.mem_of_getElem? (i := 65) (by decide +kernel)))), (List.forall_mem_cons.mpr ⟨va_Nw.of rfl (hts _ (tb_2 _ (List.mem_of_getElem? (i := 67) (by decide +kernel)))), (List.forall_mem_cons.mpr ⟨va_Nw.of rfl (hts _ (tb_2 _ (List.mem_of_getElem? (i := 159) (by decide +kernel)))), (List.forall_mem_cons.mpr ⟨va_Nw.of rfl (hts _ (tb_3 _ (List.mem_of_getElem? (i := 14) (by decide +kernel)))), (List.forall_mem_cons.mpr ⟨va_Nw.of rfl (hts _ (tb_3 _ (List.mem_of_getElem? (i := 33) (by decide +kernel)))), (List.forall_mem_cons.mpr ⟨va_Nw.of rfl (hts _ (tb_3 _ (List.mem_of_getElem? (i := 66) (by decide +kernel)))), (List.forall_mem_cons.mpr ⟨va_Nw.of rfl (hts _ (tb_3 _ (List.mem_of_getElem? (i := 192) (by decide +kernel)))), (List.forall_mem_cons.mpr ⟨va_Nw.of rfl (hts _ (tb_3 _ (List.mem_of_getElem? (i := 222) (by decide +kernel)))), (List.forall_mem_cons.mpr ⟨va_Nw.of rfl (hts _ (tb_4 _ (List.mem_of_getElem? (i := 96) (by decide +kernel)))), (fun _ h => absurd h List.not_mem_nil)⟩)⟩)⟩)⟩)⟩)⟩)⟩)⟩)⟩)⟩)⟩)⟩)⟩)⟩)
  · have hi : i < 13 := (List.getElem?_eq_some_iff.mp hq).1
    have e : ngS i = q := by rw [ngS, List.getD, hq]; rfl
    have h1 := hts _ (tb_1 _ (List.mem_of_getElem? (ng7 i hi)))
    have h2 := hev i hi
    rw [ngT] at h2
    rw [e] at h1 h2
    exact vk_R.of h1 h2
  · exact List.forall_mem_cons.mpr ⟨va_AO.of (hts _ m1), List.forall_mem_cons.mpr ⟨va_AO.of (hts _ m3), List.forall_mem_cons.mpr ⟨va_AO.of (hts _ m5), List.forall_mem_cons.mpr ⟨va_AO.of (hts _ m7), fun _ h => absurd h List.not_mem_nil⟩⟩⟩⟩
