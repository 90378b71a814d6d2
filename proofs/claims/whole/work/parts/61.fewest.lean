/-! the fewest bites: both count the same -/
def CovL (sp c : Nat) (ps : List Nat) : Prop := ∀ b, c.testBit b = true → ∃ p ∈ ps, (shN sp p).testBit b = true
def Cov (sp c k : Nat) : Prop := ∃ ps : List Nat, ps.length = k ∧ (∀ p ∈ ps, p < 16) ∧ CovL sp c ps
theorem t1023 : ∀ k, k < 10 → (1023 : Nat).testBit k = true := by decide
theorem bit10 {c b : Nat} (hc : c < 1024) (h : c.testBit b = true) : b < 10 := by
  apply Decidable.byContradiction
  intro hb
  have : c.testBit b = false := Nat.testBit_lt_two_pow (Nat.lt_of_lt_of_le hc (Nat.pow_le_pow_right (show 0 < 2 by decide) (show 10 ≤ b by omega)))
  rw [this] at h
  cases h
theorem fRest_bit {c m b : Nat} (hc : c < 1024) : (fRest c m).testBit b = (c.testBit b && !m.testBit b) := by
  rw [fRest, Nat.testBit_and, Nat.testBit_xor, Nat.testBit_mod_two_pow (j := 10)]
  cases hb : c.testBit b with
  | false => rfl
  | true =>
    have h10 := bit10 hc hb
    simp [t1023 b h10, h10]
theorem rest_mk {c sp p b : Nat} (hc : c < 1024) : (fRest c (mkN sp c p)).testBit b = (c.testBit b && !(shN sp p).testBit b) := by
  rw [fRest_bit hc, mkN, Nat.testBit_and]
  cases c.testBit b <;> simp
theorem rest_eq {c sp p : Nat} (hc : c < 1024) : fRest c (mkN sp c p) = fRest c (shN sp p) := by
  apply Nat.eq_of_testBit_eq
  intro b
  rw [rest_mk hc, fRest_bit hc]
theorem fTake_sh {sp lo b : Nat} (hb : b < 7) : fTake sp lo b = shN sp (lo + 6 - b) := by
  rw [fTake, shN]
  by_cases h : b ≤ lo
  · rw [if_pos h, if_pos (by omega), show lo + 6 - b - 6 = lo - b by omega]
  · rw [if_neg h, if_neg (by omega), show 6 - (lo + 6 - b) = b - lo by omega]
theorem Cov_z {sp k : Nat} : Cov sp 0 k := ⟨List.replicate k 0, List.length_replicate, fun p hp => by rw [List.eq_of_mem_replicate hp]; decide, fun b hb => by rw [Nat.zero_testBit] at hb; cases hb⟩
theorem Cov_0 {sp c : Nat} : Cov sp c 0 ↔ c = 0 := by
  constructor
  · rintro ⟨ps, h1, -, h3⟩
    apply Nat.eq_of_testBit_eq
    intro b
    rw [Nat.zero_testBit]
    cases hb : c.testBit b with
    | false => rfl
    | true =>
      obtain ⟨p, hp, -⟩ := h3 b hb
      rw [List.length_eq_zero_iff.mp h1] at hp
      cases hp
  · rintro rfl
    exact Cov_z
theorem Cov_cons {sp c k p : Nat} (hc : c < 1024) (hp : p < 16) (h : Cov sp (fRest c (mkN sp c p)) k) : Cov sp c (k + 1) := by
  obtain ⟨ps, h1, h2, h3⟩ := h
  refine ⟨p :: ps, by rw [List.length_cons, h1], fun x hx => (List.mem_cons.mp hx).elim (fun e => by rw [e]; exact hp) (h2 x), fun b hb => ?_⟩
  cases hs : (shN sp p).testBit b with
  | true => exact ⟨p, List.mem_cons_self, hs⟩
  | false =>
    obtain ⟨x, hx, hxb⟩ := h3 b (by rw [rest_mk hc, hb, hs]; rfl)
    exact ⟨x, List.mem_cons_of_mem _ hx, hxb⟩
theorem Cov_low {sp c k lo : Nat} (hc : c < 1024) (hlo : c.testBit lo = true) (h : Cov sp c (k + 1)) : ∃ p, p < 16 ∧ (shN sp p).testBit lo = true ∧ Cov sp (fRest c (mkN sp c p)) k := by
  obtain ⟨ps, h1, h2, h3⟩ := h
  obtain ⟨p, hp, hpb⟩ := h3 lo hlo
  refine ⟨p, h2 p hp, hpb, ps.erase p, by rw [List.length_erase_of_mem hp, h1]; rfl, fun x hx => h2 x (List.mem_of_mem_erase hx), fun b hb => ?_⟩
  rw [rest_mk hc, Bool.and_eq_true] at hb
  obtain ⟨x, hx, hxb⟩ := h3 b hb.1
  have hne : x ≠ p := fun e => by
    rw [e] at hxb
    rw [hxb] at hb
    exact absurd hb.2 (by decide)
  exact ⟨x, (List.mem_erase_of_ne hne).mpr hx, hxb⟩
theorem Cov_n0 {sp c k : Nat} (h0 : c ≠ 0) (h : Cov sp c k) : k ≠ 0 := fun e => by
  rw [e] at h
  exact h0 (Cov_0.mp h)
/-- with some bit of the shape all can be taken -/
theorem Cov_all {sp c : Nat} (hsp : sp < 128) (h0 : sp ≠ 0) (hc : c < 1024) : Cov sp c 10 := by
  obtain ⟨a, ha⟩ : ∃ a, sp.testBit a = true := by
    apply Classical.byContradiction
    intro hn
    apply h0
    apply Nat.eq_of_testBit_eq
    intro b
    rw [Nat.zero_testBit]
    cases hb : sp.testBit b with
    | false => rfl
    | true => exact absurd ⟨b, hb⟩ hn
  have ha7 : a < 7 := by
    apply Decidable.byContradiction
    intro hb
    have : sp.testBit a = false := Nat.testBit_lt_two_pow (Nat.lt_of_lt_of_le hsp (Nat.pow_le_pow_right (show 0 < 2 by decide) (show 7 ≤ a by omega)))
    rw [this] at ha
    cases ha
  refine ⟨(List.range 10).map (fun b => b + 6 - a), by simp, fun p hp => ?_, fun b hb => ?_⟩
  · obtain ⟨b, h1, h2⟩ := List.mem_map.mp hp
    have := List.mem_range.mp h1
    omega
  · have h10 := bit10 hc hb
    refine ⟨b + 6 - a, List.mem_map.mpr ⟨b, List.mem_range.mpr h10, rfl⟩, ?_⟩
    rw [shN_bit, show b + 6 - (b + 6 - a) = a by omega, ha]
    simp
/-! as the class counts -/
theorem fewT_st (sp : Nat) {c : Nat} : ∀ {n : Nat}, c < n → fewT sp n c = fewT sp (c + 1) c
  | 0, h => by omega
  | n + 1, h => by
    by_cases hc : c = n
    · rw [hc]
    · rw [fewT]
      show (if c = n then _ else fewT sp n c) = _
      rw [if_neg hc]
      exact fewT_st sp (by omega)
theorem fewB_iff {sp c k : Nat} {t : Nat → Nat} (hk : k < 1023) : ∀ n, fewB sp c t n ≤ k ↔ ∃ b, b < n ∧ sp / 2 ^ b % 2 = 1 ∧ 1 + t (fRest c (fTake sp (fLow c) b)) ≤ k
  | 0 => by
    rw [fewB]
    constructor
    · intro h
      omega
    · rintro ⟨b, h, -⟩
      omega
  | n + 1 => by
    rw [fewB]
    have ih := fewB_iff (sp := sp) (c := c) (t := t) hk n
    by_cases h0 : sp / 2 ^ n % 2 = 0
    · rw [if_pos h0, ih]
      constructor
      · rintro ⟨b, h1, h2⟩
        exact ⟨b, by omega, h2⟩
      · rintro ⟨b, h1, h2, h3⟩
        by_cases hb : b = n
        · rw [hb] at h2
          omega
        · exact ⟨b, by omega, h2, h3⟩
    · rw [if_neg h0]
      constructor
      · intro h
        by_cases h1 : fewB sp c t n ≤ k
        · obtain ⟨b, g1, g2⟩ := ih.mp h1
          exact ⟨b, by omega, g2⟩
        · exact ⟨n, by omega, by omega, by omega⟩
      · rintro ⟨b, h1, h2, h3⟩
        by_cases hb : b = n
        · subst hb
          omega
        · have := ih.mpr ⟨b, by omega, h2, h3⟩
          omega
theorem few_cov {sp : Nat} (hsp : sp < 128) : ∀ n c, c < n → c < 1024 → ∀ k, k < 1023 → (Cov sp c k ↔ fewT sp (c + 1) c ≤ k)
  | 0, c, h, _, _, _ => by omega
  | n + 1, c, hn, hc, k, hk => by
    by_cases h0 : c = 0
    · subst h0
      rw [fewT_zero]
      exact ⟨fun _ => Nat.zero_le _, fun _ => Cov_z⟩
    · have e : fewT sp (c + 1) c = fewB sp c (fewT sp c) 7 := by
        rw [fewT]
        show (if c = c then (if c = 0 then 0 else fewB sp c (fewT sp c) 7) else _) = _
        rw [if_pos rfl, if_neg h0]
      obtain ⟨-, -, hlo, -⟩ := fLow_all c hc (by omega)
      have hl9 := fLow_lt c
      rw [e, fewB_iff hk]
      constructor
      · intro h
        obtain ⟨j, rfl⟩ : ∃ j, k = j + 1 := ⟨k - 1, by have := Cov_n0 h0 h; omega⟩
        obtain ⟨p, hp, hpb, hr⟩ := Cov_low hc hlo h
        rw [shN_bit, Bool.and_eq_true, decide_eq_true_eq] at hpb
        have hb7 : fLow c + 6 - p < 7 := by
          apply Decidable.byContradiction
          intro hb
          have : sp.testBit (fLow c + 6 - p) = false := Nat.testBit_lt_two_pow (Nat.lt_of_lt_of_le hsp (Nat.pow_le_pow_right (show 0 < 2 by decide) (show 7 ≤ fLow c + 6 - p by omega)))
          rw [this] at hpb
          exact absurd hpb.2 (by decide)
        have hpe : fTake sp (fLow c) (fLow c + 6 - p) = shN sp p := by rw [fTake_sh hb7, show fLow c + 6 - (fLow c + 6 - p) = p by omega]
        have hbit := (tb_mod sp (fLow c + 6 - p)).mp hpb.2
        have hlt := fRest_lt (c := c) hc (by omega) hbit
        rw [rest_eq hc, ← hpe] at hr
        have := (few_cov hsp n _ (by omega) (by omega) j (by omega)).mp hr
        refine ⟨_, hb7, hbit, ?_⟩
        rw [fewT_st sp hlt]
        omega
      · rintro ⟨b, h1, h2, h3⟩
        obtain ⟨j, rfl⟩ : ∃ j, k = j + 1 := ⟨k - 1, by omega⟩
        have hlt := fRest_lt (c := c) hc (by omega) h2
        rw [fewT_st sp hlt] at h3
        have := (few_cov hsp n (fRest c (fTake sp (fLow c) b)) (by omega) (by omega) j (by omega)).mpr (by omega)
        rw [fTake_sh h1, ← rest_eq hc] at this
        exact Cov_cons hc (by omega) this
/-! as the reference counts -/
def fwS (sp : Nat) (v : Int32) (c : Nat) : Prop := (v = -1 ∧ ∀ k, ¬ Cov sp c k) ∨ ∃ m, m ≤ c ∧ v = nI m ∧ ∀ k, Cov sp c k ↔ m ≤ k
theorem fwT_st (sp le : Nat) {c : Nat} : ∀ {n : Nat}, c < n → fwT sp le n c = fwT sp le (c + 1) c
  | 0, h => by omega
  | n + 1, h => by
    by_cases hc : c = n
    · rw [hc]
    · rw [fwT]
      show (if c = n then _ else fwT sp le n c) = _
      rw [if_neg hc]
      exact fwT_st sp le (by omega)
theorem fIn_rest {c le m : Nat} (hc : c < 1024) (h : fIn c le) : fIn (fRest c m) le := by
  apply Nat.eq_of_testBit_eq
  intro b
  have hb := congrArg (fun x => x.testBit b) h
  simp only [Nat.zero_testBit, Nat.testBit_and] at hb ⊢
  rw [fRest_bit hc]
  cases h1 : c.testBit b with
  | false => simp
  | true =>
    rw [h1] at hb
    simp at hb
    simp [hb]
/-- what the places so far tell -/
def fwQ (sp c : Nat) (t : Nat → Int32) (v : Int32) (n : Nat) : Prop := (v = -1 ∧ ∀ p, p < n → mkN sp c p ≠ 0 → t (fRest c (mkN sp c p)) = -1) ∨ ∃ m, m ≤ c ∧ v = nI m ∧ (∃ p r, p < n ∧ mkN sp c p ≠ 0 ∧ t (fRest c (mkN sp c p)) = nI r ∧ m = r + 1) ∧ ∀ p r, p < n → mkN sp c p ≠ 0 → r < 2 ^ 20 → t (fRest c (mkN sp c p)) = nI r → m ≤ r + 1
theorem fwP_q' {sp c : Nat} {t : Nat → Int32} (hc : c < 1024) (ht : ∀ p, mkN sp c p ≠ 0 → t (fRest c (mkN sp c p)) = -1 ∨ ∃ r, r ≤ fRest c (mkN sp c p) ∧ t (fRest c (mkN sp c p)) = nI r) : ∀ n, fwQ sp c t (fwP sp c t n) n
  | 0 => Or.inl ⟨rfl, fun p hp => absurd hp (by omega)⟩
  | n + 1 => by
    have ih := fwP_q' (sp := sp) hc ht n
    rw [fwP]
    by_cases hm : mkN sp c n = 0
    · have hcond : ¬ (¬ (if mkN sp c n = 0 then (-1 : Int32) else t (fRest c (mkN sp c n))) = -1 ∧ (fwP sp c t n = -1 ∨ (if mkN sp c n = 0 then (-1 : Int32) else t (fRest c (mkN sp c n))) + nI 1 < fwP sp c t n)) := fun z => z.1 (if_pos hm)
      rw [if_neg hcond]
      rcases ih with ⟨h1, h2⟩ | ⟨m, h1, h2, ⟨p, r, g1, g2, g3, g4⟩, h4⟩
      · exact Or.inl ⟨h1, fun p hp hpm => by
          by_cases hpn : p = n
          · rw [hpn] at hpm
            exact absurd hm hpm
          · exact h2 p (by omega) hpm⟩
      · exact Or.inr ⟨m, h1, h2, ⟨p, r, by omega, g2, g3, g4⟩, fun p r hp hpm hr he => by
          by_cases hpn : p = n
          · rw [hpn] at hpm
            exact absurd hm hpm
          · exact h4 p r (by omega) hpm hr he⟩
    · simp only [if_neg hm]
      have hlt := fRest_lt2 (sp := sp) (p := n) hc hm
      rcases ht n hm with hv | ⟨r, hr, hv⟩
      · rw [hv, if_neg (fun z => z.1 rfl)]
        rcases ih with ⟨h1, h2⟩ | ⟨m, h1, h2, ⟨p, r, g1, g2, g3, g4⟩, h4⟩
        · exact Or.inl ⟨h1, fun p hp hpm => by
            by_cases hpn : p = n
            · rw [hpn]
              exact hv
            · exact h2 p (by omega) hpm⟩
        · exact Or.inr ⟨m, h1, h2, ⟨p, r, by omega, g2, g3, g4⟩, fun p r hp hpm hr he => by
            by_cases hpn : p = n
            · rw [hpn, hv] at he
              exact absurd he.symm (m_nneg (by omega))
            · exact h4 p r (by omega) hpm hr he⟩
      · have hne : ¬ nI r = -1 := m_nneg (by omega)
        rw [hv, nI_add]
        rcases ih with ⟨h1, h2⟩ | ⟨m, h1, h2, ⟨p, r2, g1, g2, g3, g4⟩, h4⟩
        · rw [if_pos ⟨hne, Or.inl h1⟩]
          refine Or.inr ⟨r + 1, by omega, rfl, ⟨n, r, by omega, hm, hv, rfl⟩, fun p r2 hp hpm hr2 he => ?_⟩
          by_cases hpn : p = n
          · rw [hpn, hv] at he
            have := (nI_eq (by omega) (by omega)).mp he
            omega
          · have := h2 p (by omega) hpm
            rw [this] at he
            exact absurd he.symm (m_nneg (by omega))
        · rw [h2]
          by_cases hl : r + 1 < m
          · rw [if_pos ⟨hne, Or.inr ((nI_ltI (by omega) (by omega)).mpr hl)⟩]
            refine Or.inr ⟨r + 1, by omega, rfl, ⟨n, r, by omega, hm, hv, rfl⟩, fun p r2 hp hpm hr2 he => ?_⟩
            by_cases hpn : p = n
            · rw [hpn, hv] at he
              have := (nI_eq (by omega) (by omega)).mp he
              omega
            · have := h4 p r2 (by omega) hpm hr2 he
              omega
          · rw [if_neg (fun z => z.2.elim (fun y => absurd y (m_nneg (by omega))) (fun y => hl ((nI_ltI (by omega) (by omega)).mp y)))]
            refine Or.inr ⟨m, h1, rfl, ⟨p, r2, by omega, g2, g3, g4⟩, fun p r3 hp hpm hr3 he => ?_⟩
            by_cases hpn : p = n
            · rw [hpn, hv] at he
              have := (nI_eq (by omega) (by omega)).mp he
              omega
            · exact h4 p r3 (by omega) hpm hr3 he
theorem fw_cov {sp le : Nat} (hsp : sp < 128) : ∀ n c, c < n → c < 1024 → fIn c le → fwS sp (fwT sp le (c + 1) c) c
  | 0, c, h, _, _ => by omega
  | n + 1, c, hn, hc, hin => by
    by_cases h0 : c = 0
    · subst h0
      rw [fwT_zero]
      exact Or.inr ⟨0, Nat.le_refl _, rfl, fun k => ⟨fun _ => Nat.zero_le _, fun _ => Cov_z⟩⟩
    · have e : fwT sp le (c + 1) c = fwP sp c (fwT sp le c) 16 := by
        rw [fwT]
        show (if c = c then (if c = 0 then nI 0 else if fIn c le then fwP sp c (fwT sp le c) 16 else -1) else _) = _
        rw [if_pos rfl, if_neg h0, if_pos hin]
      have hS : ∀ p, mkN sp c p ≠ 0 → fRest c (mkN sp c p) < c ∧ fwS sp (fwT sp le c (fRest c (mkN sp c p))) (fRest c (mkN sp c p)) := fun p hp => by
        have hlt := fRest_lt2 (sp := sp) (p := p) hc hp
        refine ⟨hlt, ?_⟩
        rw [fwT_st sp le hlt]
        exact fw_cov hsp n _ (by omega) (by omega) (fIn_rest hc hin)
      have hq := fwP_q' (sp := sp) (t := fwT sp le c) hc (fun p hp => by
        obtain ⟨h1, h2⟩ := hS p hp
        rcases h2 with ⟨g, -⟩ | ⟨m, g1, g2, -⟩
        · exact Or.inl g
        · exact Or.inr ⟨m, g1, g2⟩) 16
      obtain ⟨-, -, hlo, -⟩ := fLow_all c hc (by omega)
      have hmk : ∀ p, (shN sp p).testBit (fLow c) = true → mkN sp c p ≠ 0 := fun p hp hz => by
        have := congrArg (fun x => x.testBit (fLow c)) hz
        simp only [mkN, Nat.testBit_and, Nat.zero_testBit, hp, hlo] at this
        exact absurd this (by decide)
      rw [e]
      rcases hq with ⟨h1, h2⟩ | ⟨m, h1, h2, ⟨p, r, g1, g2, g3, g4⟩, h4⟩
      · refine Or.inl ⟨h1, fun k hk => ?_⟩
        obtain ⟨j, rfl⟩ : ∃ j, k = j + 1 := ⟨k - 1, by have := Cov_n0 h0 hk; omega⟩
        obtain ⟨p, hp, hpb, hr⟩ := Cov_low hc hlo hk
        have hm := hmk p hpb
        have hv := h2 p hp hm
        have hlt := (hS p hm).1
        rcases (hS p hm).2 with ⟨-, g⟩ | ⟨m, g1, g2, -⟩
        · exact g j hr
        · rw [hv] at g2
          exact absurd g2.symm (m_nneg (by omega))
      · refine Or.inr ⟨m, h1, h2, fun k => ⟨fun hk => ?_, fun hk => ?_⟩⟩
        · obtain ⟨j, rfl⟩ : ∃ j, k = j + 1 := ⟨k - 1, by have := Cov_n0 h0 hk; omega⟩
          obtain ⟨p', hp, hpb, hr⟩ := Cov_low hc hlo hk
          have hm := hmk p' hpb
          have hlt := (hS p' hm).1
          rcases (hS p' hm).2 with ⟨-, g⟩ | ⟨m2, w1, w2, w3⟩
          · exact absurd hr (g j)
          · have := h4 p' m2 hp hm (by omega) w2
            have := (w3 j).mp hr
            omega
        · obtain ⟨j, rfl⟩ : ∃ j, k = j + 1 := ⟨k - 1, by omega⟩
          have hlt := (hS p g2).1
          rcases (hS p g2).2 with ⟨w1, -⟩ | ⟨m2, w1, w2, w3⟩
          · rw [g3] at w1
            exact absurd w1 (m_nneg (by omega))
          · rw [g3] at w2
            have : r = m2 := (nI_eq (by omega) (by omega)).mp w2
            exact Cov_cons hc g1 ((w3 j).mpr (by omega))
/-- both sides' counts are one -/
theorem few_eq {sp le : Nat} (hsp : sp < 128) (hle : le < 1024) : fwT sp le (le + 1) le = fFew sp le := by
  have hin : fIn le le := by
    apply Nat.eq_of_testBit_eq
    intro b
    rw [Nat.zero_testBit, Nat.testBit_and, Nat.testBit_xor, Nat.testBit_mod_two_pow (j := 10)]
    cases hb : le.testBit b with
    | false => rfl
    | true =>
      have h10 := bit10 hle hb
      simp [t1023 b h10, h10]
  rw [fFew]
  by_cases h0 : le = 0
  · rw [if_pos h0, h0, fwT_zero]
  · rw [if_neg h0]
    rcases fw_cov (le := le) hsp (le + 1) le (Nat.lt_succ_self _) hle hin with ⟨h1, h2⟩ | ⟨m, h1, h2, h3⟩
    · by_cases hs : sp = 0
      · rw [if_pos hs, h1]
      · exact absurd (Cov_all hsp hs hle) (h2 10)
    · by_cases hs : sp = 0
      · exfalso
        subst hs
        obtain ⟨ps, -, -, hp⟩ := (h3 m).mpr (Nat.le_refl _)
        apply h0
        apply Nat.eq_of_testBit_eq
        intro b
        rw [Nat.zero_testBit]
        cases hb : le.testBit b with
        | false => rfl
        | true =>
          obtain ⟨p, -, hpb⟩ := hp b hb
          rw [shN_bit, Nat.zero_testBit, Bool.and_false] at hpb
          cases hpb
      · rw [if_neg hs, h2]
        have hm10 := (h3 10).mp (Cov_all hsp hs hle)
        have hf := few_cov hsp (le + 1) le (Nat.lt_succ_self _) hle
        have a1 := (hf m (by omega)).mp ((h3 m).mpr (Nat.le_refl _))
        have a2 := (h3 _).mp ((hf (fewT sp (le + 1) le) (by omega)).mpr (Nat.le_refl _))
        rw [show m = fewT sp (le + 1) le by omega]
