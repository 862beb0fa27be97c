/-! Reaching, along edges; ranks -/
def RchN (E : Nat → Nat → Prop) : Nat → Nat → Nat → Prop
  | 0, a, b => a = b
  | n + 1, a, b => ∃ c, E a c ∧ RchN E n c b
def Rch (E : Nat → Nat → Prop) (a b : Nat) : Prop := ∃ n, RchN E n a b
section RC
variable {E E' : Nat → Nat → Prop} {a b c d : Nat}
theorem Rch.refl : Rch E a a := ⟨0, rfl⟩
theorem Rch.step (h : E a c) (h2 : Rch E c b) : Rch E a b := by
  obtain ⟨n, hn⟩ := h2
  exact ⟨n + 1, c, h, hn⟩
theorem RchN.trans : ∀ {n m : Nat} {a b c : Nat}, RchN E n a b → RchN E m b c → RchN E (n + m) a c
  | 0, m, a, b, c, h1, h2 => by cases h1; rw [Nat.zero_add]; exact h2
  | n + 1, m, a, b, c, ⟨d, hd, h1⟩, h2 => by rw [Nat.add_right_comm]; exact ⟨d, hd, RchN.trans h1 h2⟩
theorem Rch.trans (h1 : Rch E a b) (h2 : Rch E b c) : Rch E a c := by
  obtain ⟨n, hn⟩ := h1
  obtain ⟨m, hm⟩ := h2
  exact ⟨n + m, hn.trans hm⟩
theorem Rch.snoc (h1 : Rch E a b) (h2 : E b c) : Rch E a c := h1.trans (Rch.step h2 Rch.refl)
/-- what holds at the start and goes along edges holds at all that is reached -/
theorem Rch.ind {P : Nat → Prop} (h : Rch E a b) (h0 : P a) (hs : ∀ x y, P x → E x y → P y) : P b := by
  obtain ⟨n, hn⟩ := h
  induction n generalizing a with
  | zero => cases hn; exact h0
  | succ n ih =>
    obtain ⟨c, hc, hn⟩ := hn
    exact ih (hs a c h0 hc) hn
theorem Rch.mono (hE : ∀ x y, E x y → E' x y) (h : Rch E a b) : Rch E' a b := h.ind Rch.refl (fun _ _ p e => p.snoc (hE _ _ e))
theorem Rch.cong (hE : ∀ x y, E x y ↔ E' x y) : Rch E a b ↔ Rch E' a b := ⟨Rch.mono (fun x y h => (hE x y).mp h), Rch.mono (fun x y h => (hE x y).mpr h)⟩
/-- one edge more -/
theorem Rch.more (hE : ∀ x y, E' x y → E x y ∨ (x = c ∧ y = d)) (h : Rch E' a b) : Rch E a b ∨ (Rch E a c ∧ Rch E d b) := by
  refine h.ind (P := fun b => Rch E a b ∨ (Rch E a c ∧ Rch E d b)) (Or.inl Rch.refl) (fun x y p e => ?_)
  rcases hE x y e with e | ⟨rfl, rfl⟩
  · exact p.imp (fun q => q.snoc e) (fun q => ⟨q.1, q.2.snoc e⟩)
  · exact Or.inr ⟨p.elim id (fun q => q.1), Rch.refl⟩
def Acy (E : Nat → Nat → Prop) : Prop := ∀ x y, E x y → ¬ Rch E y x
theorem Acy.more (h : Acy E) (hE : ∀ x y, E' x y → E x y ∨ (x = c ∧ y = d)) (hn : ¬ Rch E d c) : Acy E' := by
  intro x y e r
  rcases r.more hE with r | ⟨r1, r2⟩
  · rcases hE x y e with e | ⟨rfl, rfl⟩
    · exact h x y e r
    · exact hn r
  · rcases hE x y e with e | ⟨rfl, rfl⟩
    · exact hn (r2.trans (Rch.step e r1))
    · exact hn r2
/-- how many are reached -/
noncomputable def rnk (E : Nat → Nat → Prop) (n a : Nat) : Nat := ((List.range n).filter (fun c => @decide (Rch E a c) (Classical.propDecidable _))).length
theorem flt_le {p q : Nat → Bool} : ∀ (xs : List Nat), (∀ x, p x = true → q x = true) → (xs.filter p).length ≤ (xs.filter q).length
  | [], _ => Nat.le_refl _
  | x :: xs, h => by
    have := flt_le xs h
    by_cases hp : p x = true
    · rw [List.filter_cons_of_pos hp, List.filter_cons_of_pos (h x hp)]
      simpa using this
    · rw [List.filter_cons_of_neg hp]
      by_cases hq : q x = true
      · rw [List.filter_cons_of_pos hq]
        exact Nat.le_succ_of_le this
      · rw [List.filter_cons_of_neg hq]
        exact this
theorem flt_lt {p q : Nat → Bool} {y : Nat} : ∀ (xs : List Nat), (∀ x, p x = true → q x = true) → y ∈ xs → q y = true → ¬ p y = true → (xs.filter p).length < (xs.filter q).length
  | [], _, hy, _, _ => absurd hy (by simp)
  | x :: xs, h, hy, hq, hp => by
    rcases List.mem_cons.mp hy with rfl | hy
    · rw [List.filter_cons_of_neg hp, List.filter_cons_of_pos hq]
      exact Nat.lt_succ_of_le (flt_le xs h)
    · have := flt_lt xs h hy hq hp
      by_cases hpx : p x = true
      · rw [List.filter_cons_of_pos hpx, List.filter_cons_of_pos (h x hpx)]
        simpa using this
      · rw [List.filter_cons_of_neg hpx]
        by_cases hqx : q x = true
        · rw [List.filter_cons_of_pos hqx]
          exact Nat.lt_succ_of_lt this
        · rw [List.filter_cons_of_neg hqx]
          exact this
theorem rnk_le {n : Nat} : rnk E n a ≤ n := by
  unfold rnk
  exact Nat.le_trans (List.length_filter_le _ _) (by simp)
theorem rnk_lt {n : Nat} (h : Acy E) (ha : a < n) (e : E a b) : rnk E n b < rnk E n a := by
  unfold rnk
  refine flt_lt (y := a) (List.range n) (fun x hx => ?_) (List.mem_range.mpr ha) (@decide_eq_true _ (Classical.propDecidable _) Rch.refl) (fun hx => ?_)
  · exact @decide_eq_true _ (Classical.propDecidable _) (Rch.step e (@of_decide_eq_true _ (Classical.propDecidable _) hx))
  · exact h a b e (@of_decide_eq_true _ (Classical.propDecidable _) hx)
end RC
/-- edges of the cells: from a cell to what is placed in it -/
def EdP (nP : Nat) (pl : Nat → PlR) (a b : Nat) : Prop := ∃ p, p < nP ∧ (pl p).cell = a ∧ (pl p).of = b
abbrev Ed (Q : CS) : Nat → Nat → Prop := EdP Q.nP Q.pl
/-- the lists of the cells; the places -/
def WL (Q : CS) : Prop := (∀ c, c < Q.nC → (Q.ce c).ss = (List.range Q.nS).filter (fun s => decide ((Q.sh s).cell = c)) ∧ (Q.ce c).ps = (List.range Q.nP).filter (fun p => decide ((Q.pl p).cell = c))) ∧ (∀ p, p < Q.nP → (Q.pl p).cell < Q.nC ∧ (Q.pl p).of < Q.nC ∧ (Q.pl p).turn < 8 ∧ (1 ≤ (Q.pl p).cols ∧ (Q.pl p).cols ≤ 20) ∧ (1 ≤ (Q.pl p).rows ∧ (Q.pl p).rows ≤ 20) ∧ nearB (Q.pl p).x ∧ nearB (Q.pl p).y ∧ nearB (Q.pl p).dx ∧ nearB (Q.pl p).dy) ∧ Acy (Ed Q)
section WLs
variable {Q : CS} {c p s : Nat}
theorem WL.ps (h : WL Q) (hc : c < Q.nC) : p ∈ (Q.ce c).ps ↔ p < Q.nP ∧ (Q.pl p).cell = c := by
  rw [(h.1 c hc).2]
  simp
theorem WL.ss (h : WL Q) (hc : c < Q.nC) : s ∈ (Q.ce c).ss ↔ s < Q.nS ∧ (Q.sh s).cell = c := by
  rw [(h.1 c hc).1]
  simp
theorem WL.ed (h : WL Q) (hc : c < Q.nC) {e : Nat} : Ed Q c e ↔ ∃ p, p ∈ (Q.ce c).ps ∧ (Q.pl p).of = e := by
  constructor
  · rintro ⟨p, h1, h2, h3⟩
    exact ⟨p, (h.ps hc).mpr ⟨h1, h2⟩, h3⟩
  · rintro ⟨p, h1, h3⟩
    obtain ⟨h1, h2⟩ := (h.ps hc).mp h1
    exact ⟨p, h1, h2, h3⟩
end WLs
