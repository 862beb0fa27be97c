/-! Roles: every cell of the heap by what it is for: (kind, index); addresses by ad -/
abbrev gI : Type := Nat → Nat → Option gE
abbrev gA : Type := Nat → Nat → Nat
def rup (I : gI) (k i : Nat) (e : gE) : gI := fun k' i' => if k' = k ∧ i' = i then some e else I k' i'
def aup (ad : gA) (k i q : Nat) : gA := fun k' i' => if k' = k ∧ i' = i then q else ad k' i'
theorem rup_s {I : gI} {k i : Nat} {e : gE} : rup I k i e k i = some e := by simp [rup]
theorem rup_k {I : gI} {k i k' : Nat} {e : gE} (h : k' ≠ k) : rup I k i e k' = I k' := by funext i'; simp [rup, h]
theorem rup_i {I : gI} {k i i' : Nat} {e : gE} (h : i' ≠ i) : rup I k i e k i' = I k i' := by simp [rup, h]
theorem rup_n {I : gI} {k i k' i' : Nat} {e : gE} (h : ¬ (k' = k ∧ i' = i)) : rup I k i e k' i' = I k' i' := by simp [rup, h]
theorem aup_s {ad : gA} {k i q : Nat} : aup ad k i q k i = q := by simp [aup]
theorem aup_k {ad : gA} {k i q k' : Nat} (h : k' ≠ k) : aup ad k i q k' = ad k' := by funext i'; simp [aup, h]
theorem aup_i {ad : gA} {k i q i' : Nat} (h : i' ≠ i) : aup ad k i q k i' = ad k i' := by simp [aup, h]
theorem aup_n {ad : gA} {k i q k' i' : Nat} (h : ¬ (k' = k ∧ i' = i)) : aup ad k i q k' i' = ad k' i' := by simp [aup, h]
/-- the heap holds the roles' entries, at different addresses -/
def Rp (I : gI) (ad : gA) (M : gH) : Prop := (∀ k i e, I k i = some e → M (ad k i) = some e) ∧ ∀ k i k' i', I k i ≠ none → I k' i' ≠ none → ad k i = ad k' i' → k = k' ∧ i = i'
theorem Rp.at {I : gI} {ad : gA} {M : gH} (h : Rp I ad M) {k i : Nat} {e : gE} (hi : I k i = some e) : M (ad k i) = some e := h.1 k i e hi
theorem Rp.ne {I : gI} {ad : gA} {M : gH} (h : Rp I ad M) {k i k' i' : Nat} {e e' : gE} (hi : I k i = some e) (hi' : I k' i' = some e') (hn : ¬ (k = k' ∧ i = i')) : ad k i ≠ ad k' i' := fun q => hn (h.2 k i k' i' (by rw [hi]; simp) (by rw [hi']; simp) q)
theorem Rp.up {I : gI} {ad : gA} {M : gH} (h : Rp I ad M) {k i : Nat} {e0 : gE} (hi : I k i = some e0) (e : gE) : Rp (rup I k i e) ad (gup M (ad k i) e) := by
  have hn : ∀ k' i', rup I k i e k' i' ≠ none → I k' i' ≠ none := by
    intro k' i' hx
    by_cases hq : k' = k ∧ i' = i
    · obtain ⟨rfl, rfl⟩ := hq
      rw [hi]; simp
    · rwa [rup_n hq] at hx
  refine ⟨fun k' i' e' he => ?_, fun k1 i1 k2 i2 h1 h2 hq => h.2 k1 i1 k2 i2 (hn _ _ h1) (hn _ _ h2) hq⟩
  by_cases hq : k' = k ∧ i' = i
  · obtain ⟨rfl, rfl⟩ := hq
    rw [rup_s] at he
    cases he
    exact gup_s
  · rw [rup_n hq] at he
    exact gup_t (h.ne he hi hq) (h.at he)
theorem Rp.new {I : gI} {ad : gA} {M : gH} (h : Rp I ad M) (k i : Nat) {q : Nat} (hq : M q = none) (e : gE) : Rp (rup I k i e) (aup ad k i q) (gup M q e) := by
  have hne : ∀ k' i', I k' i' ≠ none → ad k' i' ≠ q := by
    intro k' i' hx hz
    cases hv : I k' i' with
    | none => exact hx hv
    | some x =>
      have := h.at hv
      rw [hz, hq] at this
      cases this
  refine ⟨fun k' i' e' he => ?_, fun k1 i1 k2 i2 h1 h2 hz => ?_⟩
  · by_cases hx : k' = k ∧ i' = i
    · obtain ⟨rfl, rfl⟩ := hx
      rw [rup_s] at he
      cases he
      rw [aup_s]
      exact gup_s
    · rw [rup_n hx] at he
      rw [aup_n hx]
      exact gup_t (hne k' i' (by rw [he]; simp)) (h.at he)
  · by_cases x1 : k1 = k ∧ i1 = i <;> by_cases x2 : k2 = k ∧ i2 = i
    · exact ⟨x1.1.trans x2.1.symm, x1.2.trans x2.2.symm⟩
    · rw [rup_n x2] at h2
      rw [aup_n x2] at hz
      obtain ⟨rfl, rfl⟩ := x1
      rw [aup_s] at hz
      exact absurd hz.symm (hne k2 i2 h2)
    · rw [rup_n x1] at h1
      rw [aup_n x1] at hz
      obtain ⟨rfl, rfl⟩ := x2
      rw [aup_s] at hz
      exact absurd hz (hne k1 i1 h1)
    · rw [rup_n x1] at h1
      rw [rup_n x2] at h2
      rw [aup_n x1, aup_n x2] at hz
      exact h.2 k1 i1 k2 i2 h1 h2 hz
/-- other roles' entries at other addresses: a heap that keeps all roles' cells -/
theorem Rp.keep {I : gI} {ad : gA} {M M' : gH} (h : Rp I ad M) (hk : ∀ k i e, I k i = some e → M' (ad k i) = M (ad k i)) : Rp I ad M' := ⟨fun k i e he => by rw [hk k i e he]; exact h.at he, h.2⟩
theorem Rp.upa {I : gI} {ad : gA} {M : gH} (h : Rp I ad M) {k i a : Nat} {e0 : gE} (hi : I k i = some e0) (ha : ad k i = a) (e : gE) : Rp (rup I k i e) ad (gup M a e) := by
  subst ha
  exact h.up hi e
/-- a list by its roles: the list (kl, i), its data (kd, i) or the empty list's z -/
def RL (z : Nat) (I : gI) (ad : gA) (kl kd i : Nat) (xs : List Nat) : Prop := ∃ (mc : Int32) (d : Nat), I kl i = some (als d (nI xs.length) mc) ∧ ((xs = [] ∧ d = z) ∨ ∃ (cap : Nat) (g : Nat → Option Nat), d = ad kd i ∧ I kd i = some (ao cap g) ∧ xs.length ≤ cap ∧ cap ≤ 2 * xs.length + 10 ∧ 0 < cap ∧ (∀ j, j < cap → xs.length ≤ j → g j = none) ∧ ∀ (j : Nat) (h : j < xs.length), g j = some xs[j])
theorem RL.cong {z : Nat} {I I' : gI} {ad ad' : gA} {kl kd i : Nat} {xs : List Nat} (h : RL z I ad kl kd i xs) (h1 : I' kl i = I kl i) (h2 : I' kd i = I kd i) (h3 : ad' kd i = ad kd i) : RL z I' ad' kl kd i xs := by
  obtain ⟨mc, d, q1, q2⟩ := h
  refine ⟨mc, d, by rw [h1]; exact q1, ?_⟩
  rcases q2 with q2 | ⟨cap, g, q3, q4, q5⟩
  · exact Or.inl q2
  · exact Or.inr ⟨cap, g, by rw [h3]; exact q3, by rw [h2]; exact q4, q5⟩
/-- the list in the heap -/
theorem RL.LL {z : Nat} {I : gI} {ad : gA} {M : gH} {kl kd i : Nat} {xs : List Nat} (h : RL z I ad kl kd i xs) (hR : Rp I ad M) : ∃ d, LL z M (ad kl i) xs d ∧ (d = z ∨ (d = ad kd i ∧ I kd i ≠ none)) := by
  obtain ⟨mc, d, h1, h2⟩ := h
  refine ⟨d, ⟨mc, hR.at h1, ?_⟩, ?_⟩
  · rcases h2 with ⟨a, b⟩ | ⟨cap, g, h5, h3, h4⟩
    · exact Or.inl ⟨a, b⟩
    · subst h5
      exact Or.inr ⟨cap, g, hR.at h3, h4⟩
  · rcases h2 with ⟨a, b⟩ | ⟨cap, g, h5, h3, h4⟩
    · exact Or.inl b
    · exact Or.inr ⟨h5, by rw [h3]; simp⟩
/-- behind ArrayList.add: new roles of the list and its data; all other roles stay -/
theorem Rp.add {z : Nat} {I : gI} {ad : gA} {M M' : gH} {kl kd i e d : Nat} {xs : List Nat} {e0 : gE} (hR : Rp I ad M) (hz : M z = none) (h1 : I kl i = some e0) (hd : d = z ∨ (d = ad kd i ∧ I kd i ≠ none)) (hkk : kl ≠ kd) (hA : LA z M M' (ad kl i) xs d e) :
    ∃ (d' : Nat) (el ed : gE), Rp (rup (rup I kl i el) kd i ed) (aup ad kd i d') M' ∧ RL z (rup (rup I kl i el) kd i ed) (aup ad kd i d') kl kd i (xs ++ [e]) := by
  obtain ⟨d', ⟨mc, hL1, hL2⟩, hdd, hdz, hkeep, hnone⟩ := hA
  rcases hL2 with ⟨h9, -⟩ | ⟨cap, g, hL2, hrest⟩
  · simp at h9
  have hda : d' ≠ ad kl i := gneA hL2 hL1
  have hold : ∀ k' i' x, I k' i' = some x → ¬ (k' = kl ∧ i' = i) → ¬ (k' = kd ∧ i' = i) → M' (ad k' i') = some x ∧ ad k' i' ≠ d' := by
    intro k' i' x hx n1 n2
    have m1 := hR.at hx
    have a1 := hR.ne hx h1 n1
    have a2 : ad k' i' ≠ d := by
      rcases hd with b | ⟨b, h3⟩
      · rw [b]; exact gneN m1 hz
      · rw [b]
        intro q
        exact n2 (hR.2 k' i' kd i (by rw [hx]; simp) h3 q)
    refine ⟨hkeep _ _ m1 a1 a2, ?_⟩
    rcases hdd with rfl | hdd
    · exact a2
    · exact gneN m1 hdd
  have nk : ¬ (kl = kd ∧ i = i) := fun q => hkk q.1
  refine ⟨d', als d' (nI (xs ++ [e]).length) mc, ao cap g, ⟨?_, ?_⟩, ?_⟩
  · intro k' i' x hx
    by_cases q2 : k' = kd ∧ i' = i
    · obtain ⟨rfl, rfl⟩ := q2
      rw [rup_s] at hx
      cases hx
      rw [aup_s]
      exact hL2
    · rw [rup_n q2] at hx
      rw [aup_n q2]
      by_cases q1 : k' = kl ∧ i' = i
      · obtain ⟨rfl, rfl⟩ := q1
        rw [rup_s] at hx
        cases hx
        exact hL1
      · rw [rup_n q1] at hx
        exact (hold k' i' x hx q1 q2).1
  · have key : ∀ k' i', rup (rup I kl i (als d' (nI (xs ++ [e]).length) mc)) kd i (ao cap g) k' i' ≠ none → ¬ (k' = kd ∧ i' = i) → I k' i' ≠ none := by
      intro k' i' hx q2
      rw [rup_n q2] at hx
      by_cases q1 : k' = kl ∧ i' = i
      · obtain ⟨rfl, rfl⟩ := q1
        rw [h1]; simp
      · rwa [rup_n q1] at hx
    have far : ∀ k' i', I k' i' ≠ none → ¬ (k' = kd ∧ i' = i) → ad k' i' ≠ d' := by
      intro k' i' hx q2
      by_cases q1 : k' = kl ∧ i' = i
      · obtain ⟨rfl, rfl⟩ := q1
        exact Ne.symm hda
      · cases hv : I k' i' with
        | none => exact absurd hv hx
        | some x => exact (hold k' i' x hv q1 q2).2
    intro k1 i1 k2 i2 n1 n2 hq
    by_cases x1 : k1 = kd ∧ i1 = i <;> by_cases x2 : k2 = kd ∧ i2 = i
    · exact ⟨x1.1.trans x2.1.symm, x1.2.trans x2.2.symm⟩
    · rw [aup_n x2] at hq
      obtain ⟨rfl, rfl⟩ := x1
      rw [aup_s] at hq
      exact absurd hq.symm (far k2 i2 (key k2 i2 n2 x2) x2)
    · rw [aup_n x1] at hq
      obtain ⟨rfl, rfl⟩ := x2
      rw [aup_s] at hq
      exact absurd hq (far k1 i1 (key k1 i1 n1 x1) x1)
    · rw [aup_n x1, aup_n x2] at hq
      exact hR.2 k1 i1 k2 i2 (key k1 i1 n1 x1) (key k2 i2 n2 x2) hq
  · refine ⟨mc, d', ?_, Or.inr ⟨cap, g, aup_s.symm, rup_s, hrest⟩⟩
    rw [rup_n (fun q => hkk q.1), rup_s]
