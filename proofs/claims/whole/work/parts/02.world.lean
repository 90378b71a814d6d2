/-! THE WORLD AS NUMBERED OBJECTS: object i lies at the cell 'ad i', is of shape 'sh i'; 'V i k' is the int in its slot k (of a slot that holds a reference: which one, as the shape reads it) -/
abbrev mSh : Type := (Nat × List (Option (Int32 → Option Nat))) ⊕ (Nat × Bool) ⊕ (Nat × Nat × (Nat → Int32 → Option Nat))
/-- an object of class number ci -/
abbrev mO (ci : Nat) (ks : List (Option (Int32 → Option Nat))) : mSh := .inl (ci, ks)
/-- a row of n ints -/
abbrev mI (n : Nat) : mSh := .inr (.inl (n, true))
/-- a row of n ints of which nothing is said -/
abbrev mS (n : Nat) : mSh := .inr (.inl (n, false))
/-- a row of n references to objects of class ci -/
abbrev mR (ci n : Nat) (ch : Nat → Int32 → Option Nat) : mSh := .inr (.inr (ci, n, ch))
abbrev mG : Type := va_G × ClassId × (Nat → ClassId) × (Nat → Nat) × (Nat → Nat)
abbrev mV : Type := Nat → Nat → Int32
def mFs (ad : Nat → Nat) (v : Nat → Int32) : Nat → List (Option (Int32 → Option Nat)) → List Value
  | _, [] => []
  | k, none :: t => .int (v k) :: mFs ad v (k + 1) t
  | k, some g :: t => va_rf ((g (v k)).map ad) :: mFs ad v (k + 1) t
def mFv (ad : Nat → Nat) (x : Int32) (o : Option (Int32 → Option Nat)) : Value := match o with
  | none => .int x
  | some g => va_rf ((g x).map ad)
theorem mFs_get (ad : Nat → Nat) (v : Nat → Int32) : ∀ (ks : List (Option (Int32 → Option Nat))) (k0 k : Nat), (mFs ad v k0 ks)[k]? = (ks[k]?).map (fun o => mFv ad (v (k0 + k)) o)
  | [], k0, k => by simp [mFs]
  | none :: t, k0, k => by
    cases k with
    | zero => simp [mFs, mFv]
    | succ k =>
      have h := mFs_get ad v t (k0 + 1) k
      rw [show k0 + 1 + k = k0 + (k + 1) by omega] at h
      simpa [mFs] using h
  | some g :: t, k0, k => by
    cases k with
    | zero => simp [mFs, mFv]
    | succ k =>
      have h := mFs_get ad v t (k0 + 1) k
      rw [show k0 + 1 + k = k0 + (k + 1) by omega] at h
      simpa [mFs] using h
theorem mFs_len (ad : Nat → Nat) (v : Nat → Int32) : ∀ (ks : List (Option (Int32 → Option Nat))) (k0 : Nat), (mFs ad v k0 ks).length = ks.length
  | [], k0 => rfl
  | none :: t, k0 => by simp [mFs, mFs_len ad v t (k0 + 1)]
  | some g :: t, k0 => by simp [mFs, mFs_len ad v t (k0 + 1)]
theorem mFs_set {ad : Nat → Nat} {v v' : Nat → Int32} {ks ks' : List (Option (Int32 → Option Nat))} {k : Nat} {o : Option (Int32 → Option Nat)} {w : Value} (hk : ks'[k]? = some o) (hks : ∀ j, j ≠ k → ks'[j]? = ks[j]?) (hl : ks'.length = ks.length) (hw : w = mFv ad (v' k) o) (hv : ∀ j, j ≠ k → v' j = v j) : (mFs ad v 0 ks).set k w = mFs ad v' 0 ks' := by
  apply List.ext_getElem?
  intro j
  by_cases hj : j = k
  · subst hj
    have hlt : j < ks.length := by rw [← hl]; exact (List.getElem?_eq_some_iff.mp hk).1
    rw [List.getElem?_set_self (by rw [mFs_len]; exact hlt), mFs_get, hk]
    simp [hw]
  · rw [List.getElem?_set_ne (Ne.symm hj), mFs_get, mFs_get, hks j hj]
    simp only [Nat.zero_add]
    rw [hv j hj]
theorem mFs_ad {ad ad' : Nat → Nat} {v : Nat → Int32} {ks : List (Option (Int32 → Option Nat))} (h : ∀ (k : Nat) (g : Int32 → Option Nat) (r : Nat), ks[k]? = some (some g) → g (v k) = some r → ad' r = ad r) : mFs ad' v 0 ks = mFs ad v 0 ks := by
  apply List.ext_getElem?
  intro j
  rw [mFs_get, mFs_get]
  cases hj : ks[j]? with
  | none => rfl
  | some o =>
    cases o with
    | none => rfl
    | some g =>
      simp only [Nat.zero_add, Option.map_some, mFv]
      cases hg : g (v j) with
      | none => rfl
      | some r => simp only [Option.map_some]; rw [h j g r hj hg]
def mE (G : mG) (ad : Nat → Nat) (S : mSh) (v : Nat → Int32) : va_E := match S with
  | .inl (ci, ks) => .inr (ci, mFs ad v 0 ks)
  | .inr (.inl (n, _)) => .inl (G.2.1, n, .inl v)
  | .inr (.inr (ci, n, ch)) => .inl (G.2.2.1 ci, n, .inr (.inr (.inr (.inr (fun j => (ch j (v j)).map ad)))))
/-- whether a shape's ints are told -/
def mKn (S : mSh) : Bool := match S with
  | .inr (.inl (_, b)) => b
  | _ => true
def mAt (G : mG) (ad : Nat → Nat) (H : Heap) (i : Nat) (S : mSh) (v : Nat → Int32) : Prop := ∃ u : Nat → Int32, (mKn S = true → u = v) ∧ va_at G.1 vwCl (ad i, mE G ad S u) H
/-- r is referred to -/
def mRf (S : mSh) (v : Nat → Int32) (r : Nat) : Prop := match S with
  | .inl (_, ks) => ∃ (k : Nat) (g : Int32 → Option Nat), ks[k]? = some (some g) ∧ g (v k) = some r
  | .inr (.inl _) => False
  | .inr (.inr (_, _, ch)) => ∃ j : Nat, ch j (v j) = some r
def mW (G : mG) (ad : Nat → Nat) (sh : Nat → Option mSh) (V : mV) (H : Heap) : Prop :=
  (∀ (i : Nat) (S : mSh), sh i = some S → mAt G ad H i S (V i)) ∧ (∀ i j : Nat, sh i ≠ none → sh j ≠ none → ad i = ad j → i = j) ∧ (∀ (i : Nat) (S : mSh) (r : Nat), sh i = some S → mRf S (V i) r → sh r ≠ none)
def mTy (G : mG) : List (ClassId × FieldType) := [(G.2.1, .int), (G.2.2.1 1, .object RX1), (G.2.2.1 3, .object RX3), (G.2.2.1 5, .object RX5), (G.2.2.1 7, .object RX7)]
/-- links to private members of nest mates; String constants -/
def mNl : List (String × Nat × MethodName × String) := [("BiteFirst", 9, ⟨"BiteFirst$Tape", "<init>", "()V"⟩, "BiteFirst"), ("BiteFirst", 24, ⟨"BiteFirst$Fitting", "<init>", "()V"⟩, "BiteFirst"), ("BiteFirst$Fitting", 11, ⟨"BiteFirst$Eater", "<init>", "()V"⟩, "BiteFirst"), ("BiteFirst", 31, ⟨"BiteFirst$Cover", "<init>", "()V"⟩, "BiteFirst"), ("BiteFirst$Tape", 97, ⟨"BiteFirst", "within", "(III)Z"⟩, "BiteFirst"), ("BiteFirst$Scene", 31, ⟨"BiteFirst$Eater", "<init>", "()V"⟩, "BiteFirst"), ("BiteFirst$Scene", 32, ⟨"BiteFirst$Good", "<init>", "()V"⟩, "BiteFirst"), ("BiteFirst", 82, ⟨"BiteFirst$Sheet", "<init>", "()V"⟩, "BiteFirst"), ("BiteFirst$Scene", 50, ⟨"BiteFirst", "within", "(III)Z"⟩, "BiteFirst"), ("BiteFirst$Text", 28, ⟨"BiteFirst", "within", "(III)Z"⟩, "BiteFirst"), ("BiteFirst$Good", 28, ⟨"BiteFirst", "within", "(III)Z"⟩, "BiteFirst"), ("BiteFirst", 205, ⟨"BiteFirst$Thought", "tryOrders", "(IIII)V"⟩, "BiteFirst"), ("BiteFirst", 220, ⟨"BiteFirst$Thought", "tryDuel", "(LBiteFirst$Eater;LBiteFirst$Eater;I)I"⟩, "BiteFirst"), ("BiteFirst$Sheet", 22, ⟨"BiteFirst", "within", "(III)Z"⟩, "BiteFirst")]
def mSl : List (String × Nat × String) := [("BiteFirst", 42, "pays cells * 2 ; likes worth ; waits 0 ;"), ("BiteFirst$Tape", 119, "cells"), ("BiteFirst$Tape", 125, "worth"), ("BiteFirst$Tape", 127, "soft"), ("BiteFirst$Tape", 129, "more"), ("BiteFirst$Tape", 131, "left"), ("BiteFirst$Tape", 133, "day"), ("BiteFirst$Tape", 135, "pays"), ("BiteFirst$Tape", 137, "likes"), ("BiteFirst$Tape", 139, "waits"), ("BiteFirst$Tape", 141, "or"), ("BiteFirst$Tape", 143, "and"), ("BiteFirst$Tape", 145, "not")]
def mLen : List Nat := [40, 5, 5, 4, 4, 4, 3, 4, 5, 5, 2, 3, 3]
def mByt : List (List Int32) := [[112, 97, 121, 115, 32, 99, 101, 108, 108, 115, 32, 42, 32, 50, 32, 59, 32, 108, 105, 107, 101, 115, 32, 119, 111, 114, 116, 104, 32, 59, 32, 119, 97, 105, 116, 115, 32, 48, 32, 59], [99, 101, 108, 108, 115], [119, 111, 114, 116, 104], [115, 111, 102, 116], [109, 111, 114, 101], [108, 101, 102, 116], [100, 97, 121], [112, 97, 121, 115], [108, 105, 107, 101, 115], [119, 97, 105, 116, 115], [111, 114], [97, 110, 100], [110, 111, 116]]
/-- what is given of the launch, beside the tables' words -/
def mEnv (G : mG) (A : Nat → Prop) (U : State) (H : Heap) : Prop :=
  (∀ q : String × Nat × MethodName × String, q ∈ mNl → va_Nw (.methodLinkNest q.1 q.2.1 q.2.2.1 q.2.2.2) U) ∧ vk_S 13 mLen mByt G.2.2.2.1 G.2.2.2.2 A U H ∧ (∀ (i : Nat) (q : String × Nat × String), mSl[i]? = some q → vk_R q.1 q.2.1 q.2.2 (G.2.2.2.1 i) U) ∧ va_Z "java/lang/String" "COMPACT_STRINGS" "Z" (.int 1) A U H ∧ va_Zq "jdk/internal/util/Preconditions" "SIOOBE_FORMATTER" "Ljava/util/function/BiFunction;" A U H ∧ (∀ C : String, C ∈ [RX1, RX3, RX5, RX7] → va_AO C U)
theorem mEnv.calling {G : mG} {A : Nat → Prop} {U : State} {H : Heap} (h : mEnv G A U H) (g : JFrame) (mk : MethodId) (a : Array Value) : mEnv G A (U.calling g mk a) H :=
  ⟨fun q hq => va_Nw.same rfl (rfl : U.vm = (U.calling g mk a).vm) (h.1 q hq), h.2.1.moved (u := U) (U := U.calling g mk a) (Vm.Alike.refl U.vm), fun i q hq => vk_R.same (u := U) (U := U.calling g mk a) rfl (h.2.2.1 i q hq), h.2.2.2.1.moved (u := U) (U := U.calling g mk a) (Vm.Alike.refl U.vm), h.2.2.2.2.1.moved (u := U) (U := U.calling g mk a) (Vm.Alike.refl U.vm), fun C hC => va_AO.moved (u := U) (U := U.calling g mk a) (Vm.Alike.refl U.vm) (h.2.2.2.2.2 C hC)⟩
theorem mEnv.warm {G : mG} {A : Nat → Prop} {s U : State} {H : Heap} (hW : s.WarmedH U.vm) (h : mEnv G A s H) : mEnv G A U H :=
  ⟨fun q hq => va_Nw.warmM hW (h.1 q hq), h.2.1.moved hW.alike, fun i q hq => vk_R.warm hW (h.2.2.1 i q hq), h.2.2.2.1.moved hW.alike, h.2.2.2.2.1.moved hW.alike, fun C hC => va_AO.moved hW.alike (h.2.2.2.2.2 C hC)⟩
theorem mEnv.kept {G : mG} {A : Nat → Prop} {U : State} {H H1 : Heap} (h : mEnv G A U H) (hq : ∀ a : Nat, a < H.size → ¬ A a → H1[a]? = H[a]?) : mEnv G A U H1 :=
  ⟨h.1, h.2.1.kept hq, h.2.2.1, h.2.2.2.1.kept hq, h.2.2.2.2.1.kept hq, h.2.2.2.2.2⟩
theorem mEnv.narrow {G : mG} {A B : Nat → Prop} {U : State} {H : Heap} (h : mEnv G A U H) (hAB : ∀ q, B q → A q) : mEnv G B U H :=
  ⟨h.1, h.2.1.narrow hAB, h.2.2.1, h.2.2.2.1.narrow hAB, h.2.2.2.2.1.narrow hAB, h.2.2.2.2.2⟩
def mC (A : Nat → Prop) (H0 : Heap) (s : State) (G : mG) (ad : Nat → Nat) (sh : Nat → Option mSh) (V : mV) (H : Heap) (locs : List Loc) : Prop :=
  mW G ad sh V H ∧ (∀ i : Nat, sh i ≠ none → A (ad i)) ∧ va_S A H0 H locs ∧ va_K G.1 vwCl (mTy G) s ∧ (∀ q : Nat, H0.size ≤ q → A q) ∧ mEnv G A s H0
/-- an int is put -/
def mU (V : mV) (i k : Nat) (x : Int32) : mV := fun a b => if a = i ∧ b = k then x else V a b
theorem mU_eq (V : mV) (i k : Nat) (x : Int32) : mU V i k x i k = x := by simp [mU]
theorem mU_ne (V : mV) {i k a b : Nat} (x : Int32) (h : ¬ (a = i ∧ b = k)) : mU V i k x a b = V a b := by simp only [mU, if_neg h]
theorem mU_no (V : mV) {i k a : Nat} (x : Int32) (h : a ≠ i) : mU V i k x a = V a := by funext b; exact mU_ne V x (fun z => h z.1)
theorem mU_row (V : mV) (i k : Nat) (x : Int32) : mU V i k x i = upd (V i) k x := by
  funext b
  by_cases hb : b = k
  · subst hb; simp [mU, upd]
  · simp [mU, upd, hb]
theorem mU_self (V : mV) {i k : Nat} {x : Int32} (h : V i k = x) : mU V i k x = V := by
  funext a b
  by_cases hb : a = i ∧ b = k
  · obtain ⟨rfl, rfl⟩ := hb; simp [mU, h]
  · exact mU_ne V x hb
theorem mU_mU (V : mV) (i k : Nat) (x y : Int32) : mU (mU V i k x) i k y = mU V i k y := by
  funext a b
  by_cases hb : a = i ∧ b = k <;> simp [mU, hb]
theorem mW.at {G : mG} {ad : Nat → Nat} {sh : Nat → Option mSh} {V : mV} {H : Heap} (h : mW G ad sh V H) {i : Nat} {S : mSh} (hi : sh i = some S) (hk : mKn S = true) : va_P G.1 vwCl [(ad i, mE G ad S (V i))] H := by
  obtain ⟨u, h1, h2⟩ := h.1 i S hi
  obtain rfl := h1 hk
  intro k q hq
  cases k with
  | zero => cases hq; exact h2
  | succ k => simp at hq
theorem mW.put {G : mG} {ad : Nat → Nat} {sh sh' : Nat → Option mSh} {V V' : mV} {H H' : Heap} (h : mW G ad sh V H) {i : Nat} {S : mSh} (hi : sh i ≠ none) (hi' : sh' i = some S) (hsh : ∀ a, a ≠ i → sh' a = sh a) (hV : ∀ a, a ≠ i → V' a = V a) {u : Nat → Int32} (hu : mKn S = true → u = V' i) (hat : va_at G.1 vwCl (ad i, mE G ad S u) H') (oq : ∀ q : Nat, q ≠ ad i → H'[q]? = H[q]?) (hr : ∀ r, mRf S (V' i) r → sh r ≠ none) : mW G ad sh' V' H' := by
  have hn : ∀ a, sh' a ≠ none → sh a ≠ none := fun a ha => by
    by_cases hai : a = i
    · rw [hai]; exact hi
    · rw [← hsh a hai]; exact ha
  have hn' : ∀ a, sh a ≠ none → sh' a ≠ none := fun a ha => by
    by_cases hai : a = i
    · rw [hai, hi']; exact fun z => by cases z
    · rw [hsh a hai]; exact ha
  refine ⟨fun a Sa ha => ?_, fun a b ha hb hab => h.2.1 a b (hn a ha) (hn b hb) hab, fun a Sa r ha har => ?_⟩
  · by_cases hai : a = i
    · subst hai
      cases hi'.symm.trans ha
      exact ⟨u, hu, hat⟩
    · obtain ⟨w, h1, h2⟩ := h.1 a Sa (by rw [← hsh a hai]; exact ha)
      refine ⟨w, fun z => (h1 z).trans (by rw [hV a hai]), h2.kept (oq _ (fun z => hai (h.2.1 a i (hn a (by rw [ha]; exact fun z => by cases z)) hi z)))⟩
  · apply hn'
    by_cases hai : a = i
    · subst hai
      cases hi'.symm.trans ha
      exact hr r har
    · exact h.2.2 a Sa r (by rw [← hsh a hai]; exact ha) (by rw [← hV a hai]; exact har)
theorem mW.lt {G : mG} {ad : Nat → Nat} {sh : Nat → Option mSh} {V : mV} {H : Heap} (h : mW G ad sh V H) {i : Nat} (hi : sh i ≠ none) : ad i < H.size := by
  cases hs : sh i with
  | none => exact absurd hs hi
  | some S =>
    obtain ⟨u, -, h2⟩ := h.1 i S hs
    exact h2.lt
theorem mE_ad {G : mG} {ad ad' : Nat → Nat} {S : mSh} {v : Nat → Int32} (h : ∀ r, mRf S v r → ad' r = ad r) : mE G ad' S v = mE G ad S v := by
  match S, h with
  | .inl (ci, ks), h => 
    show (.inr (ci, mFs ad' v 0 ks) : va_E) = .inr (ci, mFs ad v 0 ks)
    rw [mFs_ad (fun k g r h1 h2 => h r ⟨k, g, h1, h2⟩)]
  | .inr (.inl (n, b)), h => rfl
  | .inr (.inr (ci, n, ch)), h =>
    show (.inl (G.2.2.1 ci, n, .inr (.inr (.inr (.inr (fun j => (ch j (v j)).map ad'))))) : va_E) = .inl (G.2.2.1 ci, n, .inr (.inr (.inr (.inr (fun j => (ch j (v j)).map ad)))))
    have hf : (fun j => (ch j (v j)).map ad') = (fun j => (ch j (v j)).map ad) := by
      funext j
      cases hj : ch j (v j) with
      | none => rfl
      | some r => simp only [Option.map_some]; rw [h r ⟨j, hj⟩]
    rw [hf]
theorem mRf_un {S : mSh} (hk : mKn S = false) (v : Nat → Int32) (r : Nat) : ¬ mRf S v r := by
  match S, hk with
  | .inl (ci, ks), hk => exact absurd hk (by simp [mKn])
  | .inr (.inl (n, b)), hk => exact fun z => z
  | .inr (.inr (ci, n, ch)), hk => exact absurd hk (by simp [mKn])
/-- a new object i comes at the cell q -/
theorem mW.new {G : mG} {ad : Nat → Nat} {sh : Nat → Option mSh} {V : mV} {H H' : Heap} (h : mW G ad sh V H) {i q : Nat} {S : mSh} {v : Nat → Int32} (hi : sh i = none) (hq : q = H.size) (hnr : ∀ r, mRf S v r → sh r ≠ none) (hat : va_at G.1 vwCl (q, mE G (va_up ad i q) S v) H') (oq : ∀ x : Nat, x < H.size → H'[x]? = H[x]?) : mW G (va_up ad i q) (va_up sh i (some S)) (va_up V i v) H' := by
  have hne : ∀ a, sh a ≠ none → a ≠ i := fun a ha z => ha (by rw [z]; exact hi)
  have had : ∀ a, a ≠ i → va_up ad i q a = ad a := fun a ha => by simp [va_up, ha]
  have hn : ∀ a, va_up sh i (some S) a ≠ none → a = i ∨ sh a ≠ none := fun a ha => by
    by_cases hai : a = i
    · exact Or.inl hai
    · exact Or.inr (by simpa [va_up, hai] using ha)
  have key : ∀ a, sh a ≠ none → va_up ad i q a < H.size := fun a ha => by rw [had a (hne a ha)]; exact h.lt ha
  have hself : va_up ad i q i = q := by simp [va_up]
  refine ⟨fun a Sa ha => ?_, fun a b ha hb hab => ?_, fun a Sa r ha har => ?_⟩
  · by_cases hai : a = i
    · subst hai
      have : Sa = S := by simpa [va_up] using ha.symm
      subst this
      refine ⟨v, fun _ => by simp [va_up], ?_⟩
      rw [hself]
      exact hat
    · have ha' : sh a = some Sa := by simpa [va_up, hai] using ha
      obtain ⟨w, h1, h2⟩ := h.1 a Sa ha'
      refine ⟨w, fun z => (h1 z).trans (by simp [va_up, hai]), ?_⟩
      rw [had a hai, mE_ad (ad := ad) (fun r hr => ?_)]
      · exact h2.kept (oq _ (h.lt (by rw [ha']; exact fun z => by cases z)))
      · cases hk : mKn Sa with
        | true =>
          rw [h1 hk] at hr
          exact had r (hne r (h.2.2 a Sa r ha' hr))
        | false => exact absurd hr (mRf_un hk w r)
  · rcases hn a ha with ha1 | ha1 <;> rcases hn b hb with hb1 | hb1
    · rw [ha1, hb1]
    · subst ha1
      have := key b hb1
      rw [← hab, hself] at this
      omega
    · subst hb1
      have := key a ha1
      rw [hab, hself] at this
      omega
    · rw [had a (hne a ha1), had b (hne b hb1)] at hab
      exact h.2.1 a b ha1 hb1 hab
  · have hle : ∀ x, sh x ≠ none → va_up sh i (some S) x ≠ none := fun x hx => by simp only [va_up, if_neg (hne x hx)]; exact hx
    by_cases hai : a = i
    · subst hai
      have : Sa = S := by simpa [va_up] using ha.symm
      subst this
      have e : va_up V a v a = v := by simp [va_up]
      rw [e] at har
      exact hle r (hnr r har)
    · have ha' : sh a = some Sa := by simpa [va_up, hai] using ha
      have e : va_up V i v a = V a := by simp [va_up, hai]
      rw [e] at har
      exact hle r (h.2.2 a Sa r ha' har)
theorem mC.at {A : Nat → Prop} {H0 : Heap} {s : State} {G : mG} {ad : Nat → Nat} {sh : Nat → Option mSh} {V : mV} {H : Heap} {locs : List Loc} (h : mC A H0 s G ad sh V H locs) {i : Nat} {S : mSh} (hi : sh i = some S) (hk : mKn S = true) : va_P G.1 vwCl [(ad i, mE G ad S (V i))] H := h.1.at hi hk
/-- what is scratch may be taken as known .. -/
theorem mC.learn {A : Nat → Prop} {H0 : Heap} {s : State} {G : mG} {ad : Nat → Nat} {sh : Nat → Option mSh} {V : mV} {H : Heap} {locs : List Loc} (h : mC A H0 s G ad sh V H locs) {i n : Nat} (hi : sh i = some (mS n)) : ∃ u : Nat → Int32, mC A H0 s G ad (va_up sh i (some (mI n))) (va_up V i u) H locs := by
  obtain ⟨u, -, h2⟩ := h.1.1 i _ hi
  have hne : sh i ≠ none := by rw [hi]; exact fun z => by cases z
  refine ⟨u, h.1.put (i := i) (S := mI n) hne (by simp [va_up]) (fun a ha => by simp [va_up, ha]) (fun a ha => by simp [va_up, ha]) (u := u) (fun _ => by simp [va_up]) h2 (fun q _ => rfl) (fun r hr => absurd hr (fun z => z)), fun a ha => ?_, h.2.2⟩
  by_cases hai : a = i
  · rw [hai]; exact h.2.1 i hne
  · exact h.2.1 a (by simpa [va_up, hai] using ha)
/-- .. and is forgotten again -/
theorem mC.forget {A : Nat → Prop} {H0 : Heap} {s : State} {G : mG} {ad : Nat → Nat} {sh sh' : Nat → Option mSh} {V V' : mV} {H : Heap} {locs : List Loc} (h : mC A H0 s G ad sh V H locs) {i n : Nat} (hi : sh i = some (mI n)) (hi' : sh' i = some (mS n)) (hsh : ∀ a, a ≠ i → sh' a = sh a) (hV : ∀ a, a ≠ i → V' a = V a) : mC A H0 s G ad sh' V' H locs := by
  obtain ⟨u, -, h2⟩ := h.1.1 i _ hi
  have hne : sh i ≠ none := by rw [hi]; exact fun z => by cases z
  refine ⟨h.1.put (i := i) (S := mS n) hne hi' hsh hV (u := u) (fun z => by cases z) h2 (fun q _ => rfl) (fun r hr => absurd hr (fun z => z)), fun a ha => ?_, h.2.2⟩
  by_cases hai : a = i
  · rw [hai]; exact h.2.1 i hne
  · exact h.2.1 a (by rw [← hsh a hai]; exact ha)
theorem mC.ne {A : Nat → Prop} {H0 : Heap} {s : State} {G : mG} {ad : Nat → Nat} {sh : Nat → Option mSh} {V : mV} {H : Heap} {locs : List Loc} (h : mC A H0 s G ad sh V H locs) {i r : Nat} {S : mSh} (hi : sh i = some S) (hr : mRf S (V i) r) : sh r ≠ none := h.1.2.2 i S r hi hr
