/-! New objects and lists that grow -/
theorem ceO_c {ad ad' : gA} {c : Nat} {r : CeR} (h1 : ad' 13 c = ad 13 c) (h2 : ad' 15 c = ad 15 c) (h3 : ad' 17 c = ad 17 c) : ceO ad c r = ceO ad' c r := by rw [ceO, ceO, h1, h2, h3]
theorem shO_c {ad ad' : gA} {c : Nat} {r : ShR} (h1 : ad' 19 c = ad 19 c) (h2 : ad' 20 c = ad 20 c) (h3 : ad' 21 c = ad 21 c) (h4 : ad' 22 c = ad 22 c) (h5 : ad' 23 c = ad 23 c) : shO ad c r = shO ad' c r := by rw [shO, shO, h1, h2, h3, h4, h5]
theorem plO_c {ad ad' : gA} {c : Nat} {r : PlR} (h1 : ad' 12 r.of = ad 12 r.of) (h2 : ad' 25 c = ad 25 c) : plO ad c r = plO ad' c r := by rw [plO, plO, h1, h2]
theorem flO_c {ad ad' : gA} {c : Nat} {r : FlR} (h : ∀ k, 4 ≤ k → k ≤ 10 → ad' k c = ad k c) : flO ad c r = flO ad' c r := by rw [flO, flO, h 4 (by decide) (by decide), h 5 (by decide) (by decide), h 6 (by decide) (by decide), h 7 (by decide) (by decide), h 8 (by decide) (by decide), h 9 (by decide) (by decide), h 10 (by decide) (by decide)]
theorem stO_c {ad ad' : gA} {L : Int32} (h : ∀ k i, k < 12 → k ≠ 2 → ad' k i = ad k i) : stO ad L = stO ad' L := by rw [stO, stO, h 1 0 (by decide) (by decide), h 1 1 (by decide) (by decide), h 1 2 (by decide) (by decide), h 3 0 (by decide) (by decide), h 3 1 (by decide) (by decide), h 3 2 (by decide) (by decide), h 11 0 (by decide) (by decide)]
theorem fls_c {ad ad' : gA} {f : Nat → Option Nat} (h : ∀ i s, f i = some s → ad' 18 s = ad 18 s) : ash 3000 (fun j => (f j).map (ad 18)) = ash 3000 (fun j => (f j).map (ad' 18)) := by
  have : (fun j => (f j).map (ad 18)) = fun j => (f j).map (ad' 18) := by
    funext j
    cases hj : f j with
    | none => rfl
    | some s => simp [h j s hj]
  rw [this]
theorem map_c {ad ad' : gA} {k : Nat} {xs : List Nat} (h : ∀ s ∈ xs, ad' k s = ad k s) : xs.map (ad k) = xs.map (ad' k) := List.map_congr_left (fun s hs => (h s hs).symm)
/-- the roles that a state uses -/
def used (nC nS nP : Nat) (k i : Nat) : Prop := (12 ≤ k → k ≤ 17 → i < nC) ∧ (18 ≤ k → k ≤ 23 → i < nS) ∧ (24 ≤ k → k ≤ 25 → i < nP)
/-- what the class's records point to is there -/
def WT (nC nS nP : Nat) (ce : Nat → CeR) (pl : Nat → PlR) (fl : Nat → FlR) : Prop := (∀ p, p < nP → (pl p).of < nC) ∧ (∀ j, j < 3 → ∀ i s, (fl j).sh i = some s → s < nS) ∧ ∀ c, c < nC → (∀ s ∈ (ce c).ss, s < nS) ∧ ∀ p ∈ (ce c).ps, p < nP
section GRW
variable {z : Nat} {ad : gA} {L : Int32} {nC nS nP : Nat} {ce : Nat → CeR} {sh : Nat → ShR} {pl : Nat → PlR} {fl : Nat → FlR} {sb : BxR} {I : gI} {ad' : gA} {I' : gI}
theorem CQ.agree (h : CQ z ad L nC nS nP ce sh pl fl sb I) (hT : WT nC nS nP ce pl fl) (hI : ∀ k i, used nC nS nP k i → I' k i = I k i) (hA : ∀ k i, used nC nS nP k i → ad' k i = ad k i) : CQ z ad' L nC nS nP ce sh pl fl sb I' := by
  refine ⟨?_, ?_, ?_, ?_, ?_, ?_, ?_, ?_, ?_, ?_, ?_, ?_, ?_, ?_, ?_, ?_, ?_, ?_, ?_, ?_, ?_, ?_, ?_, ?_, ?_⟩
  · exact (hI 0 _ (by refine ⟨?_, ?_, ?_⟩ <;> intro q1 q2 <;> omega)).trans ((h.st).trans (congrArg some (stO_c (fun k i h1 h2 => (hA k i ⟨by omega, by omega, by omega⟩)))))
  · rw [← map_c (fun s hs => hA 12 s ⟨fun _ _ => List.mem_range.mp hs, by omega, by omega⟩)]
    exact (h.lc).cong (hI 1 _ (by refine ⟨?_, ?_, ?_⟩ <;> intro q1 q2 <;> omega)) (hI 2 _ (by refine ⟨?_, ?_, ?_⟩ <;> intro q1 q2 <;> omega)) (hA 2 _ (by refine ⟨?_, ?_, ?_⟩ <;> intro q1 q2 <;> omega))
  · rw [← map_c (fun s hs => hA 18 s ⟨by omega, fun _ _ => List.mem_range.mp hs, by omega⟩)]
    exact (h.ls).cong (hI 1 _ (by refine ⟨?_, ?_, ?_⟩ <;> intro q1 q2 <;> omega)) (hI 2 _ (by refine ⟨?_, ?_, ?_⟩ <;> intro q1 q2 <;> omega)) (hA 2 _ (by refine ⟨?_, ?_, ?_⟩ <;> intro q1 q2 <;> omega))
  · rw [← map_c (fun s hs => hA 24 s ⟨by omega, by omega, fun _ _ => List.mem_range.mp hs⟩)]
    exact (h.lp).cong (hI 1 _ (by refine ⟨?_, ?_, ?_⟩ <;> intro q1 q2 <;> omega)) (hI 2 _ (by refine ⟨?_, ?_, ?_⟩ <;> intro q1 q2 <;> omega)) (hA 2 _ (by refine ⟨?_, ?_, ?_⟩ <;> intro q1 q2 <;> omega))
  · intro c hc
    exact (hI 12 _ (by refine ⟨?_, ?_, ?_⟩ <;> intro q1 q2 <;> omega)).trans ((h.ce c hc).trans (congrArg some (ceO_c (hA 13 c (by refine ⟨?_, ?_, ?_⟩ <;> intro q1 q2 <;> omega)) (hA 15 c (by refine ⟨?_, ?_, ?_⟩ <;> intro q1 q2 <;> omega)) (hA 17 c (by refine ⟨?_, ?_, ?_⟩ <;> intro q1 q2 <;> omega)))))
  · intro c hc
    rw [← map_c (fun s hs => hA 18 s ⟨by omega, fun _ _ => (hT.2.2 c hc).1 s hs, by omega⟩)]
    exact (h.ces c hc).cong (hI 13 _ (by refine ⟨?_, ?_, ?_⟩ <;> intro q1 q2 <;> omega)) (hI 14 _ (by refine ⟨?_, ?_, ?_⟩ <;> intro q1 q2 <;> omega)) (hA 14 _ (by refine ⟨?_, ?_, ?_⟩ <;> intro q1 q2 <;> omega))
  · intro c hc
    rw [← map_c (fun s hs => hA 24 s ⟨by omega, by omega, fun _ _ => (hT.2.2 c hc).2 s hs⟩)]
    exact (h.cep c hc).cong (hI 15 _ (by refine ⟨?_, ?_, ?_⟩ <;> intro q1 q2 <;> omega)) (hI 16 _ (by refine ⟨?_, ?_, ?_⟩ <;> intro q1 q2 <;> omega)) (hA 16 _ (by refine ⟨?_, ?_, ?_⟩ <;> intro q1 q2 <;> omega))
  · intro c hc
    exact (hI 17 _ (by refine ⟨?_, ?_, ?_⟩ <;> intro q1 q2 <;> omega)).trans (h.ceb c hc)
  · intro c hc
    exact (hI 18 _ (by refine ⟨?_, ?_, ?_⟩ <;> intro q1 q2 <;> omega)).trans ((h.sh c hc).trans (congrArg some (shO_c (hA 19 c (by refine ⟨?_, ?_, ?_⟩ <;> intro q1 q2 <;> omega)) (hA 20 c (by refine ⟨?_, ?_, ?_⟩ <;> intro q1 q2 <;> omega)) (hA 21 c (by refine ⟨?_, ?_, ?_⟩ <;> intro q1 q2 <;> omega)) (hA 22 c (by refine ⟨?_, ?_, ?_⟩ <;> intro q1 q2 <;> omega)) (hA 23 c (by refine ⟨?_, ?_, ?_⟩ <;> intro q1 q2 <;> omega)))))
  · intro c hc
    exact (hI 19 _ (by refine ⟨?_, ?_, ?_⟩ <;> intro q1 q2 <;> omega)).trans (h.shx c hc)
  · intro c hc
    exact (hI 20 _ (by refine ⟨?_, ?_, ?_⟩ <;> intro q1 q2 <;> omega)).trans (h.shy c hc)
  · intro c hc
    exact (hI 21 _ (by refine ⟨?_, ?_, ?_⟩ <;> intro q1 q2 <;> omega)).trans (h.shb c hc)
  · intro c hc
    exact (hI 22 _ (by refine ⟨?_, ?_, ?_⟩ <;> intro q1 q2 <;> omega)).trans (h.shf c hc)
  · intro c hc
    exact (hI 23 _ (by refine ⟨?_, ?_, ?_⟩ <;> intro q1 q2 <;> omega)).trans (h.sht c hc)
  · intro c hc
    exact (hI 24 _ (by refine ⟨?_, ?_, ?_⟩ <;> intro q1 q2 <;> omega)).trans ((h.pl c hc).trans (congrArg some (plO_c (hA 12 _ (by have := hT.1 c hc; refine ⟨?_, ?_, ?_⟩ <;> intro q1 q2 <;> omega)) (hA 25 c (by refine ⟨?_, ?_, ?_⟩ <;> intro q1 q2 <;> omega)))))
  · intro c hc
    exact (hI 25 _ (by refine ⟨?_, ?_, ?_⟩ <;> intro q1 q2 <;> omega)).trans (h.plb c hc)
  · intro c hc
    exact (hI 3 _ (by refine ⟨?_, ?_, ?_⟩ <;> intro q1 q2 <;> omega)).trans ((h.fl c hc).trans (congrArg some (flO_c (fun k h1 h2 => hA k c ⟨by omega, by omega, by omega⟩))))
  · intro c hc
    exact (hI 4 _ (by refine ⟨?_, ?_, ?_⟩ <;> intro q1 q2 <;> omega)).trans ((h.fls c hc).trans (congrArg some (fls_c (fun i s hs => hA 18 s ⟨by omega, fun _ _ => hT.2.1 c hc i s hs, by omega⟩))))
  · intro c hc
    exact (hI 5 _ (by refine ⟨?_, ?_, ?_⟩ <;> intro q1 q2 <;> omega)).trans (h.flc c hc)
  · intro c hc
    exact (hI 6 _ (by refine ⟨?_, ?_, ?_⟩ <;> intro q1 q2 <;> omega)).trans (h.flt c hc)
  · intro c hc
    exact (hI 7 _ (by refine ⟨?_, ?_, ?_⟩ <;> intro q1 q2 <;> omega)).trans (h.flx c hc)
  · intro c hc
    exact (hI 8 _ (by refine ⟨?_, ?_, ?_⟩ <;> intro q1 q2 <;> omega)).trans (h.fly c hc)
  · intro c hc
    exact (hI 9 _ (by refine ⟨?_, ?_, ?_⟩ <;> intro q1 q2 <;> omega)).trans (h.flo c hc)
  · intro c hc
    exact (hI 10 _ (by refine ⟨?_, ?_, ?_⟩ <;> intro q1 q2 <;> omega)).trans (h.flp c hc)
  · exact (hI 11 _ (by refine ⟨?_, ?_, ?_⟩ <;> intro q1 q2 <;> omega)).trans (h.sb)
theorem CQ.addC (h : CQ z ad L nC nS nP ce sh pl fl sb I) (r : CeR) (n1 : I 12 nC = some (ceO ad nC r)) (n2 : RL z I ad 13 14 nC (r.ss.map (ad 18))) (n3 : RL z I ad 15 16 nC (r.ps.map (ad 24))) (n4 : I 17 nC = some (BxR.e r.bx)) (hL : RL z I' ad' 1 2 0 ((List.range (nC + 1)).map (ad' 12))) (hI : ∀ k j, ¬ (k = 1 ∧ j = 0) → ¬ (k = 2 ∧ j = 0) → I' k j = I k j) (hA : ∀ k j, ¬ (k = 2 ∧ j = 0) → ad' k j = ad k j) : CQ z ad' L (nC + 1) nS nP (va_up ce nC r) sh pl fl sb I' := by
  have hA' : ∀ k i, ¬ k = 2 → ad' k i = ad k i := fun k i hk => hA k i (fun q => hk q.1)
  refine ⟨?_, ?_, ?_, ?_, ?_, ?_, ?_, ?_, ?_, ?_, ?_, ?_, ?_, ?_, ?_, ?_, ?_, ?_, ?_, ?_, ?_, ?_, ?_, ?_, ?_⟩
  · exact (hI 0 _ (fun q => absurd q.1 (by decide)) (fun q => absurd q.1 (by decide))).trans ((h.st).trans (congrArg some (stO_c (fun k i h1 h2 => hA' k i (by omega)))))
  · exact hL
  · rw [← map_c (ad := ad) (fun s hs => hA' 18 s (by decide))]
    exact (h.ls).cong (hI 1 _ (fun q => absurd q.2 (by first | decide | omega)) (fun q => absurd q.1 (by decide))) (hI 2 _ (fun q => absurd q.1 (by decide)) (fun q => absurd q.2 (by first | decide | omega))) (hA 2 _ (fun q => absurd q.2 (by first | decide | omega)))
  · rw [← map_c (ad := ad) (fun s hs => hA' 24 s (by decide))]
    exact (h.lp).cong (hI 1 _ (fun q => absurd q.2 (by first | decide | omega)) (fun q => absurd q.1 (by decide))) (hI 2 _ (fun q => absurd q.1 (by decide)) (fun q => absurd q.2 (by first | decide | omega))) (hA 2 _ (fun q => absurd q.2 (by first | decide | omega)))
  · intro c hc
    by_cases q : c = nC
    · subst q
      rw [va_up_s]
      exact (hI 12 _ (fun q => absurd q.1 (by decide)) (fun q => absurd q.1 (by decide))).trans (n1.trans (congrArg some (ceO_c (hA' 13 _ (by decide)) (hA' 15 _ (by decide)) (hA' 17 _ (by decide)))))
    · rw [va_up_n q]
      exact (hI 12 _ (fun q => absurd q.1 (by decide)) (fun q => absurd q.1 (by decide))).trans ((h.ce c (by omega)).trans (congrArg some (ceO_c (hA' 13 _ (by decide)) (hA' 15 _ (by decide)) (hA' 17 _ (by decide)))))
  · intro c hc
    by_cases q : c = nC
    · subst q
      rw [va_up_s]
      rw [← map_c (ad := ad) (fun s hs => hA' 18 s (by decide))]
      exact n2.cong (hI 13 _ (fun q => absurd q.1 (by decide)) (fun q => absurd q.1 (by decide))) (hI 14 _ (fun q => absurd q.1 (by decide)) (fun q => absurd q.1 (by decide))) (hA 14 _ (fun q => absurd q.1 (by decide)))
    · rw [va_up_n q]
      rw [← map_c (ad := ad) (fun s hs => hA' 18 s (by decide))]
      exact (h.ces c (by omega)).cong (hI 13 _ (fun q => absurd q.1 (by decide)) (fun q => absurd q.1 (by decide))) (hI 14 _ (fun q => absurd q.1 (by decide)) (fun q => absurd q.1 (by decide))) (hA 14 _ (fun q => absurd q.1 (by decide)))
  · intro c hc
    by_cases q : c = nC
    · subst q
      rw [va_up_s]
      rw [← map_c (ad := ad) (fun s hs => hA' 24 s (by decide))]
      exact n3.cong (hI 15 _ (fun q => absurd q.1 (by decide)) (fun q => absurd q.1 (by decide))) (hI 16 _ (fun q => absurd q.1 (by decide)) (fun q => absurd q.1 (by decide))) (hA 16 _ (fun q => absurd q.1 (by decide)))
    · rw [va_up_n q]
      rw [← map_c (ad := ad) (fun s hs => hA' 24 s (by decide))]
      exact (h.cep c (by omega)).cong (hI 15 _ (fun q => absurd q.1 (by decide)) (fun q => absurd q.1 (by decide))) (hI 16 _ (fun q => absurd q.1 (by decide)) (fun q => absurd q.1 (by decide))) (hA 16 _ (fun q => absurd q.1 (by decide)))
  · intro c hc
    by_cases q : c = nC
    · subst q
      rw [va_up_s]
      exact (hI 17 _ (fun q => absurd q.1 (by decide)) (fun q => absurd q.1 (by decide))).trans (n4.trans (rfl))
    · rw [va_up_n q]
      exact (hI 17 _ (fun q => absurd q.1 (by decide)) (fun q => absurd q.1 (by decide))).trans ((h.ceb c (by omega)).trans (rfl))
  · intro c hc
    exact (hI 18 _ (fun q => absurd q.1 (by decide)) (fun q => absurd q.1 (by decide))).trans ((h.sh c hc).trans (congrArg some (shO_c (hA' 19 _ (by decide)) (hA' 20 _ (by decide)) (hA' 21 _ (by decide)) (hA' 22 _ (by decide)) (hA' 23 _ (by decide)))))
  · intro c hc
    exact (hI 19 _ (fun q => absurd q.1 (by decide)) (fun q => absurd q.1 (by decide))).trans (h.shx c hc)
  · intro c hc
    exact (hI 20 _ (fun q => absurd q.1 (by decide)) (fun q => absurd q.1 (by decide))).trans (h.shy c hc)
  · intro c hc
    exact (hI 21 _ (fun q => absurd q.1 (by decide)) (fun q => absurd q.1 (by decide))).trans (h.shb c hc)
  · intro c hc
    exact (hI 22 _ (fun q => absurd q.1 (by decide)) (fun q => absurd q.1 (by decide))).trans (h.shf c hc)
  · intro c hc
    exact (hI 23 _ (fun q => absurd q.1 (by decide)) (fun q => absurd q.1 (by decide))).trans (h.sht c hc)
  · intro c hc
    exact (hI 24 _ (fun q => absurd q.1 (by decide)) (fun q => absurd q.1 (by decide))).trans ((h.pl c hc).trans (congrArg some (plO_c (hA' 12 _ (by decide)) (hA' 25 _ (by decide)))))
  · intro c hc
    exact (hI 25 _ (fun q => absurd q.1 (by decide)) (fun q => absurd q.1 (by decide))).trans (h.plb c hc)
  · intro c hc
    exact (hI 3 _ (fun q => absurd q.1 (by decide)) (fun q => absurd q.1 (by decide))).trans ((h.fl c hc).trans (congrArg some (flO_c (fun k h1 h2 => hA' k _ (by omega)))))
  · intro c hc
    exact (hI 4 _ (fun q => absurd q.1 (by decide)) (fun q => absurd q.1 (by decide))).trans ((h.fls c hc).trans (congrArg some (fls_c (fun i s hs => hA' 18 s (by decide)))))
  · intro c hc
    exact (hI 5 _ (fun q => absurd q.1 (by decide)) (fun q => absurd q.1 (by decide))).trans (h.flc c hc)
  · intro c hc
    exact (hI 6 _ (fun q => absurd q.1 (by decide)) (fun q => absurd q.1 (by decide))).trans (h.flt c hc)
  · intro c hc
    exact (hI 7 _ (fun q => absurd q.1 (by decide)) (fun q => absurd q.1 (by decide))).trans (h.flx c hc)
  · intro c hc
    exact (hI 8 _ (fun q => absurd q.1 (by decide)) (fun q => absurd q.1 (by decide))).trans (h.fly c hc)
  · intro c hc
    exact (hI 9 _ (fun q => absurd q.1 (by decide)) (fun q => absurd q.1 (by decide))).trans (h.flo c hc)
  · intro c hc
    exact (hI 10 _ (fun q => absurd q.1 (by decide)) (fun q => absurd q.1 (by decide))).trans (h.flp c hc)
  · exact (hI 11 _ (fun q => absurd q.1 (by decide)) (fun q => absurd q.1 (by decide))).trans (h.sb)
theorem CQ.addS (h : CQ z ad L nC nS nP ce sh pl fl sb I) (r : ShR) (n1 : I 18 nS = some (shO ad nS r)) (n2 : I 19 nS = some (al 24 r.xs)) (n3 : I 20 nS = some (al 24 r.ys)) (n4 : I 21 nS = some (BxR.e r.bx)) (n5 : I 22 nS = some (ai 8 r.fi)) (n6 : I 23 nS = some (ai 8 r.st)) (hL : RL z I' ad' 1 2 1 ((List.range (nS + 1)).map (ad' 18))) (hI : ∀ k j, ¬ (k = 1 ∧ j = 1) → ¬ (k = 2 ∧ j = 1) → I' k j = I k j) (hA : ∀ k j, ¬ (k = 2 ∧ j = 1) → ad' k j = ad k j) : CQ z ad' L nC (nS + 1) nP ce (va_up sh nS r) pl fl sb I' := by
  have hA' : ∀ k i, ¬ k = 2 → ad' k i = ad k i := fun k i hk => hA k i (fun q => hk q.1)
  refine ⟨?_, ?_, ?_, ?_, ?_, ?_, ?_, ?_, ?_, ?_, ?_, ?_, ?_, ?_, ?_, ?_, ?_, ?_, ?_, ?_, ?_, ?_, ?_, ?_, ?_⟩
  · exact (hI 0 _ (fun q => absurd q.1 (by decide)) (fun q => absurd q.1 (by decide))).trans ((h.st).trans (congrArg some (stO_c (fun k i h1 h2 => hA' k i (by omega)))))
  · rw [← map_c (ad := ad) (fun s hs => hA' 12 s (by decide))]
    exact (h.lc).cong (hI 1 _ (fun q => absurd q.2 (by first | decide | omega)) (fun q => absurd q.1 (by decide))) (hI 2 _ (fun q => absurd q.1 (by decide)) (fun q => absurd q.2 (by first | decide | omega))) (hA 2 _ (fun q => absurd q.2 (by first | decide | omega)))
  · exact hL
  · rw [← map_c (ad := ad) (fun s hs => hA' 24 s (by decide))]
    exact (h.lp).cong (hI 1 _ (fun q => absurd q.2 (by first | decide | omega)) (fun q => absurd q.1 (by decide))) (hI 2 _ (fun q => absurd q.1 (by decide)) (fun q => absurd q.2 (by first | decide | omega))) (hA 2 _ (fun q => absurd q.2 (by first | decide | omega)))
  · intro c hc
    exact (hI 12 _ (fun q => absurd q.1 (by decide)) (fun q => absurd q.1 (by decide))).trans ((h.ce c hc).trans (congrArg some (ceO_c (hA' 13 _ (by decide)) (hA' 15 _ (by decide)) (hA' 17 _ (by decide)))))
  · intro c hc
    rw [← map_c (ad := ad) (fun s hs => hA' 18 s (by decide))]
    exact (h.ces c hc).cong (hI 13 _ (fun q => absurd q.1 (by decide)) (fun q => absurd q.1 (by decide))) (hI 14 _ (fun q => absurd q.1 (by decide)) (fun q => absurd q.1 (by decide))) (hA 14 _ (fun q => absurd q.1 (by decide)))
  · intro c hc
    rw [← map_c (ad := ad) (fun s hs => hA' 24 s (by decide))]
    exact (h.cep c hc).cong (hI 15 _ (fun q => absurd q.1 (by decide)) (fun q => absurd q.1 (by decide))) (hI 16 _ (fun q => absurd q.1 (by decide)) (fun q => absurd q.1 (by decide))) (hA 16 _ (fun q => absurd q.1 (by decide)))
  · intro c hc
    exact (hI 17 _ (fun q => absurd q.1 (by decide)) (fun q => absurd q.1 (by decide))).trans (h.ceb c hc)
  · intro c hc
    by_cases q : c = nS
    · subst q
      rw [va_up_s]
      exact (hI 18 _ (fun q => absurd q.1 (by decide)) (fun q => absurd q.1 (by decide))).trans (n1.trans (congrArg some (shO_c (hA' 19 _ (by decide)) (hA' 20 _ (by decide)) (hA' 21 _ (by decide)) (hA' 22 _ (by decide)) (hA' 23 _ (by decide)))))
    · rw [va_up_n q]
      exact (hI 18 _ (fun q => absurd q.1 (by decide)) (fun q => absurd q.1 (by decide))).trans ((h.sh c (by omega)).trans (congrArg some (shO_c (hA' 19 _ (by decide)) (hA' 20 _ (by decide)) (hA' 21 _ (by decide)) (hA' 22 _ (by decide)) (hA' 23 _ (by decide)))))
  · intro c hc
    by_cases q : c = nS
    · subst q
      rw [va_up_s]
      exact (hI 19 _ (fun q => absurd q.1 (by decide)) (fun q => absurd q.1 (by decide))).trans (n2.trans (rfl))
    · rw [va_up_n q]
      exact (hI 19 _ (fun q => absurd q.1 (by decide)) (fun q => absurd q.1 (by decide))).trans ((h.shx c (by omega)).trans (rfl))
  · intro c hc
    by_cases q : c = nS
    · subst q
      rw [va_up_s]
      exact (hI 20 _ (fun q => absurd q.1 (by decide)) (fun q => absurd q.1 (by decide))).trans (n3.trans (rfl))
    · rw [va_up_n q]
      exact (hI 20 _ (fun q => absurd q.1 (by decide)) (fun q => absurd q.1 (by decide))).trans ((h.shy c (by omega)).trans (rfl))
  · intro c hc
    by_cases q : c = nS
    · subst q
      rw [va_up_s]
      exact (hI 21 _ (fun q => absurd q.1 (by decide)) (fun q => absurd q.1 (by decide))).trans (n4.trans (rfl))
    · rw [va_up_n q]
      exact (hI 21 _ (fun q => absurd q.1 (by decide)) (fun q => absurd q.1 (by decide))).trans ((h.shb c (by omega)).trans (rfl))
  · intro c hc
    by_cases q : c = nS
    · subst q
      rw [va_up_s]
      exact (hI 22 _ (fun q => absurd q.1 (by decide)) (fun q => absurd q.1 (by decide))).trans (n5.trans (rfl))
    · rw [va_up_n q]
      exact (hI 22 _ (fun q => absurd q.1 (by decide)) (fun q => absurd q.1 (by decide))).trans ((h.shf c (by omega)).trans (rfl))
  · intro c hc
    by_cases q : c = nS
    · subst q
      rw [va_up_s]
      exact (hI 23 _ (fun q => absurd q.1 (by decide)) (fun q => absurd q.1 (by decide))).trans (n6.trans (rfl))
    · rw [va_up_n q]
      exact (hI 23 _ (fun q => absurd q.1 (by decide)) (fun q => absurd q.1 (by decide))).trans ((h.sht c (by omega)).trans (rfl))
  · intro c hc
    exact (hI 24 _ (fun q => absurd q.1 (by decide)) (fun q => absurd q.1 (by decide))).trans ((h.pl c hc).trans (congrArg some (plO_c (hA' 12 _ (by decide)) (hA' 25 _ (by decide)))))
  · intro c hc
    exact (hI 25 _ (fun q => absurd q.1 (by decide)) (fun q => absurd q.1 (by decide))).trans (h.plb c hc)
  · intro c hc
    exact (hI 3 _ (fun q => absurd q.1 (by decide)) (fun q => absurd q.1 (by decide))).trans ((h.fl c hc).trans (congrArg some (flO_c (fun k h1 h2 => hA' k _ (by omega)))))
  · intro c hc
    exact (hI 4 _ (fun q => absurd q.1 (by decide)) (fun q => absurd q.1 (by decide))).trans ((h.fls c hc).trans (congrArg some (fls_c (fun i s hs => hA' 18 s (by decide)))))
  · intro c hc
    exact (hI 5 _ (fun q => absurd q.1 (by decide)) (fun q => absurd q.1 (by decide))).trans (h.flc c hc)
  · intro c hc
    exact (hI 6 _ (fun q => absurd q.1 (by decide)) (fun q => absurd q.1 (by decide))).trans (h.flt c hc)
  · intro c hc
    exact (hI 7 _ (fun q => absurd q.1 (by decide)) (fun q => absurd q.1 (by decide))).trans (h.flx c hc)
  · intro c hc
    exact (hI 8 _ (fun q => absurd q.1 (by decide)) (fun q => absurd q.1 (by decide))).trans (h.fly c hc)
  · intro c hc
    exact (hI 9 _ (fun q => absurd q.1 (by decide)) (fun q => absurd q.1 (by decide))).trans (h.flo c hc)
  · intro c hc
    exact (hI 10 _ (fun q => absurd q.1 (by decide)) (fun q => absurd q.1 (by decide))).trans (h.flp c hc)
  · exact (hI 11 _ (fun q => absurd q.1 (by decide)) (fun q => absurd q.1 (by decide))).trans (h.sb)
theorem CQ.addP (h : CQ z ad L nC nS nP ce sh pl fl sb I) (r : PlR) (n1 : I 24 nP = some (plO ad nP r)) (n2 : I 25 nP = some (BxR.e r.bx)) (hL : RL z I' ad' 1 2 2 ((List.range (nP + 1)).map (ad' 24))) (hI : ∀ k j, ¬ (k = 1 ∧ j = 2) → ¬ (k = 2 ∧ j = 2) → I' k j = I k j) (hA : ∀ k j, ¬ (k = 2 ∧ j = 2) → ad' k j = ad k j) : CQ z ad' L nC nS (nP + 1) ce sh (va_up pl nP r) fl sb I' := by
  have hA' : ∀ k i, ¬ k = 2 → ad' k i = ad k i := fun k i hk => hA k i (fun q => hk q.1)
  refine ⟨?_, ?_, ?_, ?_, ?_, ?_, ?_, ?_, ?_, ?_, ?_, ?_, ?_, ?_, ?_, ?_, ?_, ?_, ?_, ?_, ?_, ?_, ?_, ?_, ?_⟩
  · exact (hI 0 _ (fun q => absurd q.1 (by decide)) (fun q => absurd q.1 (by decide))).trans ((h.st).trans (congrArg some (stO_c (fun k i h1 h2 => hA' k i (by omega)))))
  · rw [← map_c (ad := ad) (fun s hs => hA' 12 s (by decide))]
    exact (h.lc).cong (hI 1 _ (fun q => absurd q.2 (by first | decide | omega)) (fun q => absurd q.1 (by decide))) (hI 2 _ (fun q => absurd q.1 (by decide)) (fun q => absurd q.2 (by first | decide | omega))) (hA 2 _ (fun q => absurd q.2 (by first | decide | omega)))
  · rw [← map_c (ad := ad) (fun s hs => hA' 18 s (by decide))]
    exact (h.ls).cong (hI 1 _ (fun q => absurd q.2 (by first | decide | omega)) (fun q => absurd q.1 (by decide))) (hI 2 _ (fun q => absurd q.1 (by decide)) (fun q => absurd q.2 (by first | decide | omega))) (hA 2 _ (fun q => absurd q.2 (by first | decide | omega)))
  · exact hL
  · intro c hc
    exact (hI 12 _ (fun q => absurd q.1 (by decide)) (fun q => absurd q.1 (by decide))).trans ((h.ce c hc).trans (congrArg some (ceO_c (hA' 13 _ (by decide)) (hA' 15 _ (by decide)) (hA' 17 _ (by decide)))))
  · intro c hc
    rw [← map_c (ad := ad) (fun s hs => hA' 18 s (by decide))]
    exact (h.ces c hc).cong (hI 13 _ (fun q => absurd q.1 (by decide)) (fun q => absurd q.1 (by decide))) (hI 14 _ (fun q => absurd q.1 (by decide)) (fun q => absurd q.1 (by decide))) (hA 14 _ (fun q => absurd q.1 (by decide)))
  · intro c hc
    rw [← map_c (ad := ad) (fun s hs => hA' 24 s (by decide))]
    exact (h.cep c hc).cong (hI 15 _ (fun q => absurd q.1 (by decide)) (fun q => absurd q.1 (by decide))) (hI 16 _ (fun q => absurd q.1 (by decide)) (fun q => absurd q.1 (by decide))) (hA 16 _ (fun q => absurd q.1 (by decide)))
  · intro c hc
    exact (hI 17 _ (fun q => absurd q.1 (by decide)) (fun q => absurd q.1 (by decide))).trans (h.ceb c hc)
  · intro c hc
    exact (hI 18 _ (fun q => absurd q.1 (by decide)) (fun q => absurd q.1 (by decide))).trans ((h.sh c hc).trans (congrArg some (shO_c (hA' 19 _ (by decide)) (hA' 20 _ (by decide)) (hA' 21 _ (by decide)) (hA' 22 _ (by decide)) (hA' 23 _ (by decide)))))
  · intro c hc
    exact (hI 19 _ (fun q => absurd q.1 (by decide)) (fun q => absurd q.1 (by decide))).trans (h.shx c hc)
  · intro c hc
    exact (hI 20 _ (fun q => absurd q.1 (by decide)) (fun q => absurd q.1 (by decide))).trans (h.shy c hc)
  · intro c hc
    exact (hI 21 _ (fun q => absurd q.1 (by decide)) (fun q => absurd q.1 (by decide))).trans (h.shb c hc)
  · intro c hc
    exact (hI 22 _ (fun q => absurd q.1 (by decide)) (fun q => absurd q.1 (by decide))).trans (h.shf c hc)
  · intro c hc
    exact (hI 23 _ (fun q => absurd q.1 (by decide)) (fun q => absurd q.1 (by decide))).trans (h.sht c hc)
  · intro c hc
    by_cases q : c = nP
    · subst q
      rw [va_up_s]
      exact (hI 24 _ (fun q => absurd q.1 (by decide)) (fun q => absurd q.1 (by decide))).trans (n1.trans (congrArg some (plO_c (hA' 12 _ (by decide)) (hA' 25 _ (by decide)))))
    · rw [va_up_n q]
      exact (hI 24 _ (fun q => absurd q.1 (by decide)) (fun q => absurd q.1 (by decide))).trans ((h.pl c (by omega)).trans (congrArg some (plO_c (hA' 12 _ (by decide)) (hA' 25 _ (by decide)))))
  · intro c hc
    by_cases q : c = nP
    · subst q
      rw [va_up_s]
      exact (hI 25 _ (fun q => absurd q.1 (by decide)) (fun q => absurd q.1 (by decide))).trans (n2.trans (rfl))
    · rw [va_up_n q]
      exact (hI 25 _ (fun q => absurd q.1 (by decide)) (fun q => absurd q.1 (by decide))).trans ((h.plb c (by omega)).trans (rfl))
  · intro c hc
    exact (hI 3 _ (fun q => absurd q.1 (by decide)) (fun q => absurd q.1 (by decide))).trans ((h.fl c hc).trans (congrArg some (flO_c (fun k h1 h2 => hA' k _ (by omega)))))
  · intro c hc
    exact (hI 4 _ (fun q => absurd q.1 (by decide)) (fun q => absurd q.1 (by decide))).trans ((h.fls c hc).trans (congrArg some (fls_c (fun i s hs => hA' 18 s (by decide)))))
  · intro c hc
    exact (hI 5 _ (fun q => absurd q.1 (by decide)) (fun q => absurd q.1 (by decide))).trans (h.flc c hc)
  · intro c hc
    exact (hI 6 _ (fun q => absurd q.1 (by decide)) (fun q => absurd q.1 (by decide))).trans (h.flt c hc)
  · intro c hc
    exact (hI 7 _ (fun q => absurd q.1 (by decide)) (fun q => absurd q.1 (by decide))).trans (h.flx c hc)
  · intro c hc
    exact (hI 8 _ (fun q => absurd q.1 (by decide)) (fun q => absurd q.1 (by decide))).trans (h.fly c hc)
  · intro c hc
    exact (hI 9 _ (fun q => absurd q.1 (by decide)) (fun q => absurd q.1 (by decide))).trans (h.flo c hc)
  · intro c hc
    exact (hI 10 _ (fun q => absurd q.1 (by decide)) (fun q => absurd q.1 (by decide))).trans (h.flp c hc)
  · exact (hI 11 _ (fun q => absurd q.1 (by decide)) (fun q => absurd q.1 (by decide))).trans (h.sb)
theorem CQ.addCS (h : CQ z ad L nC nS nP ce sh pl fl sb I) {i : Nat} (hi : i < nC) (xs : List Nat) (hL : RL z I' ad' 13 14 i (xs.map (ad' 18))) (hI : ∀ k j, ¬ (k = 13 ∧ j = i) → ¬ (k = 14 ∧ j = i) → I' k j = I k j) (hA : ∀ k j, ¬ (k = 14 ∧ j = i) → ad' k j = ad k j) : CQ z ad' L nC nS nP (va_up ce i ((ce i).set_ss xs)) sh pl fl sb I' := by
  have hA' : ∀ k i, ¬ k = 14 → ad' k i = ad k i := fun k i hk => hA k i (fun q => hk q.1)
  refine ⟨?_, ?_, ?_, ?_, ?_, ?_, ?_, ?_, ?_, ?_, ?_, ?_, ?_, ?_, ?_, ?_, ?_, ?_, ?_, ?_, ?_, ?_, ?_, ?_, ?_⟩
  · exact (hI 0 _ (fun q => absurd q.1 (by decide)) (fun q => absurd q.1 (by decide))).trans ((h.st).trans (congrArg some (stO_c (fun k i h1 h2 => hA' k i (by omega)))))
  · rw [← map_c (ad := ad) (fun s hs => hA' 12 s (by decide))]
    exact (h.lc).cong (hI 1 _ (fun q => absurd q.1 (by decide)) (fun q => absurd q.1 (by decide))) (hI 2 _ (fun q => absurd q.1 (by decide)) (fun q => absurd q.1 (by decide))) (hA 2 _ (fun q => absurd q.1 (by decide)))
  · rw [← map_c (ad := ad) (fun s hs => hA' 18 s (by decide))]
    exact (h.ls).cong (hI 1 _ (fun q => absurd q.1 (by decide)) (fun q => absurd q.1 (by decide))) (hI 2 _ (fun q => absurd q.1 (by decide)) (fun q => absurd q.1 (by decide))) (hA 2 _ (fun q => absurd q.1 (by decide)))
  · rw [← map_c (ad := ad) (fun s hs => hA' 24 s (by decide))]
    exact (h.lp).cong (hI 1 _ (fun q => absurd q.1 (by decide)) (fun q => absurd q.1 (by decide))) (hI 2 _ (fun q => absurd q.1 (by decide)) (fun q => absurd q.1 (by decide))) (hA 2 _ (fun q => absurd q.1 (by decide)))
  · intro c hc
    exact (hI 12 _ (fun q => absurd q.1 (by decide)) (fun q => absurd q.1 (by decide))).trans ((h.ce c hc).trans ((congrArg some (va_up_p (g := ce) (j := i) (v := ((ce i).set_ss xs)) (fun r => ceO ad c r) rfl c).symm).trans (congrArg some (ceO_c (hA' 13 _ (by decide)) (hA' 15 _ (by decide)) (hA' 17 _ (by decide))))))
  · intro c hc
    by_cases q : c = i
    · subst q
      rw [va_up_s]
      exact hL
    · rw [va_up_n q]
      rw [← map_c (ad := ad) (fun s hs => hA' 18 s (by decide))]
      exact (h.ces c hc).cong (hI 13 _ (fun w => q w.2) (fun w => q w.2)) (hI 14 _ (fun w => q w.2) (fun w => q w.2)) (hA 14 _ (fun w => q w.2))
  · intro c hc
    rw [va_up_p (g := ce) (j := i) (v := ((ce i).set_ss xs)) CeR.ps rfl c]
    rw [← map_c (ad := ad) (fun s hs => hA' 24 s (by decide))]
    exact (h.cep c hc).cong (hI 15 _ (fun q => absurd q.1 (by decide)) (fun q => absurd q.1 (by decide))) (hI 16 _ (fun q => absurd q.1 (by decide)) (fun q => absurd q.1 (by decide))) (hA 16 _ (fun q => absurd q.1 (by decide)))
  · intro c hc
    exact (hI 17 _ (fun q => absurd q.1 (by decide)) (fun q => absurd q.1 (by decide))).trans ((h.ceb c hc).trans (congrArg (fun x => some (BxR.e x)) (va_up_p (g := ce) (j := i) (v := ((ce i).set_ss xs)) CeR.bx rfl c).symm))
  · intro c hc
    exact (hI 18 _ (fun q => absurd q.1 (by decide)) (fun q => absurd q.1 (by decide))).trans ((h.sh c hc).trans (congrArg some (shO_c (hA' 19 _ (by decide)) (hA' 20 _ (by decide)) (hA' 21 _ (by decide)) (hA' 22 _ (by decide)) (hA' 23 _ (by decide)))))
  · intro c hc
    exact (hI 19 _ (fun q => absurd q.1 (by decide)) (fun q => absurd q.1 (by decide))).trans (h.shx c hc)
  · intro c hc
    exact (hI 20 _ (fun q => absurd q.1 (by decide)) (fun q => absurd q.1 (by decide))).trans (h.shy c hc)
  · intro c hc
    exact (hI 21 _ (fun q => absurd q.1 (by decide)) (fun q => absurd q.1 (by decide))).trans (h.shb c hc)
  · intro c hc
    exact (hI 22 _ (fun q => absurd q.1 (by decide)) (fun q => absurd q.1 (by decide))).trans (h.shf c hc)
  · intro c hc
    exact (hI 23 _ (fun q => absurd q.1 (by decide)) (fun q => absurd q.1 (by decide))).trans (h.sht c hc)
  · intro c hc
    exact (hI 24 _ (fun q => absurd q.1 (by decide)) (fun q => absurd q.1 (by decide))).trans ((h.pl c hc).trans (congrArg some (plO_c (hA' 12 _ (by decide)) (hA' 25 _ (by decide)))))
  · intro c hc
    exact (hI 25 _ (fun q => absurd q.1 (by decide)) (fun q => absurd q.1 (by decide))).trans (h.plb c hc)
  · intro c hc
    exact (hI 3 _ (fun q => absurd q.1 (by decide)) (fun q => absurd q.1 (by decide))).trans ((h.fl c hc).trans (congrArg some (flO_c (fun k h1 h2 => hA' k _ (by omega)))))
  · intro c hc
    exact (hI 4 _ (fun q => absurd q.1 (by decide)) (fun q => absurd q.1 (by decide))).trans ((h.fls c hc).trans (congrArg some (fls_c (fun i s hs => hA' 18 s (by decide)))))
  · intro c hc
    exact (hI 5 _ (fun q => absurd q.1 (by decide)) (fun q => absurd q.1 (by decide))).trans (h.flc c hc)
  · intro c hc
    exact (hI 6 _ (fun q => absurd q.1 (by decide)) (fun q => absurd q.1 (by decide))).trans (h.flt c hc)
  · intro c hc
    exact (hI 7 _ (fun q => absurd q.1 (by decide)) (fun q => absurd q.1 (by decide))).trans (h.flx c hc)
  · intro c hc
    exact (hI 8 _ (fun q => absurd q.1 (by decide)) (fun q => absurd q.1 (by decide))).trans (h.fly c hc)
  · intro c hc
    exact (hI 9 _ (fun q => absurd q.1 (by decide)) (fun q => absurd q.1 (by decide))).trans (h.flo c hc)
  · intro c hc
    exact (hI 10 _ (fun q => absurd q.1 (by decide)) (fun q => absurd q.1 (by decide))).trans (h.flp c hc)
  · exact (hI 11 _ (fun q => absurd q.1 (by decide)) (fun q => absurd q.1 (by decide))).trans (h.sb)
theorem CQ.addCP (h : CQ z ad L nC nS nP ce sh pl fl sb I) {i : Nat} (hi : i < nC) (xs : List Nat) (hL : RL z I' ad' 15 16 i (xs.map (ad' 24))) (hI : ∀ k j, ¬ (k = 15 ∧ j = i) → ¬ (k = 16 ∧ j = i) → I' k j = I k j) (hA : ∀ k j, ¬ (k = 16 ∧ j = i) → ad' k j = ad k j) : CQ z ad' L nC nS nP (va_up ce i ((ce i).set_ps xs)) sh pl fl sb I' := by
  have hA' : ∀ k i, ¬ k = 16 → ad' k i = ad k i := fun k i hk => hA k i (fun q => hk q.1)
  refine ⟨?_, ?_, ?_, ?_, ?_, ?_, ?_, ?_, ?_, ?_, ?_, ?_, ?_, ?_, ?_, ?_, ?_, ?_, ?_, ?_, ?_, ?_, ?_, ?_, ?_⟩
  · exact (hI 0 _ (fun q => absurd q.1 (by decide)) (fun q => absurd q.1 (by decide))).trans ((h.st).trans (congrArg some (stO_c (fun k i h1 h2 => hA' k i (by omega)))))
  · rw [← map_c (ad := ad) (fun s hs => hA' 12 s (by decide))]
    exact (h.lc).cong (hI 1 _ (fun q => absurd q.1 (by decide)) (fun q => absurd q.1 (by decide))) (hI 2 _ (fun q => absurd q.1 (by decide)) (fun q => absurd q.1 (by decide))) (hA 2 _ (fun q => absurd q.1 (by decide)))
  · rw [← map_c (ad := ad) (fun s hs => hA' 18 s (by decide))]
    exact (h.ls).cong (hI 1 _ (fun q => absurd q.1 (by decide)) (fun q => absurd q.1 (by decide))) (hI 2 _ (fun q => absurd q.1 (by decide)) (fun q => absurd q.1 (by decide))) (hA 2 _ (fun q => absurd q.1 (by decide)))
  · rw [← map_c (ad := ad) (fun s hs => hA' 24 s (by decide))]
    exact (h.lp).cong (hI 1 _ (fun q => absurd q.1 (by decide)) (fun q => absurd q.1 (by decide))) (hI 2 _ (fun q => absurd q.1 (by decide)) (fun q => absurd q.1 (by decide))) (hA 2 _ (fun q => absurd q.1 (by decide)))
  · intro c hc
    exact (hI 12 _ (fun q => absurd q.1 (by decide)) (fun q => absurd q.1 (by decide))).trans ((h.ce c hc).trans ((congrArg some (va_up_p (g := ce) (j := i) (v := ((ce i).set_ps xs)) (fun r => ceO ad c r) rfl c).symm).trans (congrArg some (ceO_c (hA' 13 _ (by decide)) (hA' 15 _ (by decide)) (hA' 17 _ (by decide))))))
  · intro c hc
    rw [va_up_p (g := ce) (j := i) (v := ((ce i).set_ps xs)) CeR.ss rfl c]
    rw [← map_c (ad := ad) (fun s hs => hA' 18 s (by decide))]
    exact (h.ces c hc).cong (hI 13 _ (fun q => absurd q.1 (by decide)) (fun q => absurd q.1 (by decide))) (hI 14 _ (fun q => absurd q.1 (by decide)) (fun q => absurd q.1 (by decide))) (hA 14 _ (fun q => absurd q.1 (by decide)))
  · intro c hc
    by_cases q : c = i
    · subst q
      rw [va_up_s]
      exact hL
    · rw [va_up_n q]
      rw [← map_c (ad := ad) (fun s hs => hA' 24 s (by decide))]
      exact (h.cep c hc).cong (hI 15 _ (fun w => q w.2) (fun w => q w.2)) (hI 16 _ (fun w => q w.2) (fun w => q w.2)) (hA 16 _ (fun w => q w.2))
  · intro c hc
    exact (hI 17 _ (fun q => absurd q.1 (by decide)) (fun q => absurd q.1 (by decide))).trans ((h.ceb c hc).trans (congrArg (fun x => some (BxR.e x)) (va_up_p (g := ce) (j := i) (v := ((ce i).set_ps xs)) CeR.bx rfl c).symm))
  · intro c hc
    exact (hI 18 _ (fun q => absurd q.1 (by decide)) (fun q => absurd q.1 (by decide))).trans ((h.sh c hc).trans (congrArg some (shO_c (hA' 19 _ (by decide)) (hA' 20 _ (by decide)) (hA' 21 _ (by decide)) (hA' 22 _ (by decide)) (hA' 23 _ (by decide)))))
  · intro c hc
    exact (hI 19 _ (fun q => absurd q.1 (by decide)) (fun q => absurd q.1 (by decide))).trans (h.shx c hc)
  · intro c hc
    exact (hI 20 _ (fun q => absurd q.1 (by decide)) (fun q => absurd q.1 (by decide))).trans (h.shy c hc)
  · intro c hc
    exact (hI 21 _ (fun q => absurd q.1 (by decide)) (fun q => absurd q.1 (by decide))).trans (h.shb c hc)
  · intro c hc
    exact (hI 22 _ (fun q => absurd q.1 (by decide)) (fun q => absurd q.1 (by decide))).trans (h.shf c hc)
  · intro c hc
    exact (hI 23 _ (fun q => absurd q.1 (by decide)) (fun q => absurd q.1 (by decide))).trans (h.sht c hc)
  · intro c hc
    exact (hI 24 _ (fun q => absurd q.1 (by decide)) (fun q => absurd q.1 (by decide))).trans ((h.pl c hc).trans (congrArg some (plO_c (hA' 12 _ (by decide)) (hA' 25 _ (by decide)))))
  · intro c hc
    exact (hI 25 _ (fun q => absurd q.1 (by decide)) (fun q => absurd q.1 (by decide))).trans (h.plb c hc)
  · intro c hc
    exact (hI 3 _ (fun q => absurd q.1 (by decide)) (fun q => absurd q.1 (by decide))).trans ((h.fl c hc).trans (congrArg some (flO_c (fun k h1 h2 => hA' k _ (by omega)))))
  · intro c hc
    exact (hI 4 _ (fun q => absurd q.1 (by decide)) (fun q => absurd q.1 (by decide))).trans ((h.fls c hc).trans (congrArg some (fls_c (fun i s hs => hA' 18 s (by decide)))))
  · intro c hc
    exact (hI 5 _ (fun q => absurd q.1 (by decide)) (fun q => absurd q.1 (by decide))).trans (h.flc c hc)
  · intro c hc
    exact (hI 6 _ (fun q => absurd q.1 (by decide)) (fun q => absurd q.1 (by decide))).trans (h.flt c hc)
  · intro c hc
    exact (hI 7 _ (fun q => absurd q.1 (by decide)) (fun q => absurd q.1 (by decide))).trans (h.flx c hc)
  · intro c hc
    exact (hI 8 _ (fun q => absurd q.1 (by decide)) (fun q => absurd q.1 (by decide))).trans (h.fly c hc)
  · intro c hc
    exact (hI 9 _ (fun q => absurd q.1 (by decide)) (fun q => absurd q.1 (by decide))).trans (h.flo c hc)
  · intro c hc
    exact (hI 10 _ (fun q => absurd q.1 (by decide)) (fun q => absurd q.1 (by decide))).trans (h.flp c hc)
  · exact (hI 11 _ (fun q => absurd q.1 (by decide)) (fun q => absurd q.1 (by decide))).trans (h.sb)
end GRW
