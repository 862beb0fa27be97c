/-! What the class's state keeps -/
/-- the index of the k-th corner in an order that begins at f -/
def oix (n f : Nat) (s : Int32) (k : Nat) : Nat := if s = 1 then (f + k) % n else (f + n - k) % n
/-- orders that may be taken -/
def alw (r : ShR) (f : Nat) (s : Int32) : Prop := (0 < r.w ∧ ((f = 0 ∧ s = 1) ∨ (f = r.cnt - 1 ∧ s = -1))) ∨ (¬ 0 < r.w ∧ f < r.cnt ∧ (s = 1 ∨ s = -1))
def cX (r : ShR) (t f : Nat) (s : Int32) (k : Nat) : Int := (tX t (r.xs (oix r.cnt f s k)) (r.ys (oix r.cnt f s k))).toInt
def cY (r : ShR) (t f : Nat) (s : Int32) (k : Nat) : Int := (tY t (r.xs (oix r.cnt f s k)) (r.ys (oix r.cnt f s k))).toInt
/-- one row of points comes before another, or is the same -/
def lexLe (n : Nat) (a b c d : Nat → Int) : Prop := (∀ k, k < n → a k = c k ∧ b k = d k) ∨ ∃ k, k < n ∧ (∀ j, j < k → a j = c j ∧ b j = d j) ∧ (a k < c k ∨ (a k = c k ∧ b k < d k))
def OrdOk (r : ShR) (t : Nat) : Prop := r.st t = 0 ∨ ∃ f, f < r.cnt ∧ r.fi t = nI f ∧ alw r f (r.st t) ∧ ∀ f' s', alw r f' s' → lexLe r.cnt (cX r t f (r.st t)) (cY r t f (r.st t)) (cX r t f' s') (cY r t f' s')
def WF (Q : CS) : Prop := WB Q ∧ WTQ Q ∧ WL Q ∧ WX Q ∧ WSC Q ∧ (∀ s, s < Q.nS → WPt (Q.sh s)) ∧ (∀ s, s < Q.nS → (Q.sh s).drop = 0 ∨ (Q.sh s).drop = 1) ∧ (∀ x, (Q.ce x).seen = 0 ∨ (Q.ce x).seen = 1) ∧ (∀ x, (Q.ce x).meas = 0 ∨ (Q.ce x).meas = 1) ∧ WFl Q.nS Q.sh (Q.fl 0) ∧ (∀ s, s < Q.nS → (Q.sh s).ends = 0 ∨ (Q.sh s).ends = 1) ∧ ∀ s, s < Q.nS → ∀ t, t < 8 → OrdOk (Q.sh s) t
section WFs
variable {Q : CS}
theorem WF.wb (h : WF Q) : WB Q := h.1
theorem WF.wt (h : WF Q) : WTQ Q := h.2.1
theorem WF.wl (h : WF Q) : WL Q := h.2.2.1
theorem WF.wx (h : WF Q) : WX Q := h.2.2.2.1
theorem WF.wc (h : WF Q) : WSC Q := h.2.2.2.2.1
theorem WF.wp (h : WF Q) : ∀ s, s < Q.nS → WPt (Q.sh s) := h.2.2.2.2.2.1
theorem WF.dr (h : WF Q) : ∀ s, s < Q.nS → (Q.sh s).drop = 0 ∨ (Q.sh s).drop = 1 := h.2.2.2.2.2.2.1
theorem WF.se (h : WF Q) : ∀ x, (Q.ce x).seen = 0 ∨ (Q.ce x).seen = 1 := h.2.2.2.2.2.2.2.1
theorem WF.me (h : WF Q) : ∀ x, (Q.ce x).meas = 0 ∨ (Q.ce x).meas = 1 := h.2.2.2.2.2.2.2.2.1
theorem WF.fl (h : WF Q) : WFl Q.nS Q.sh (Q.fl 0) := h.2.2.2.2.2.2.2.2.2.1
theorem WF.en (h : WF Q) : ∀ s, s < Q.nS → (Q.sh s).ends = 0 ∨ (Q.sh s).ends = 1 := h.2.2.2.2.2.2.2.2.2.2.1
theorem WF.oo (h : WF Q) : ∀ s, s < Q.nS → ∀ t, t < 8 → OrdOk (Q.sh s) t := h.2.2.2.2.2.2.2.2.2.2.2
theorem WF.sc (h : WF Q) : ∀ s, s < Q.nS → (Q.sh s).cnt ≤ 24 := fun s hs => (h.wx s hs).1
/-- other flags, sizes and boxes -/
theorem WF.ms (h : WF Q) {m : Nat → Int32} {sz : Nat → Nat} {b pb : Nat → BxR} (hm : ∀ x, m x = 0 ∨ m x = 1) : WF (msQ Q m sz b pb) := ⟨h.wb, h.wt, h.wl, h.wx, h.wc, h.wp, h.dr, h.se, hm, h.fl, h.en, h.oo⟩
theorem WF.sn (h : WF Q) {σ : Nat → Int32} (hm : ∀ x, σ x = 0 ∨ σ x = 1) : WF (Q.set_ce (snc Q.ce σ)) := ⟨h.wb, h.wt, h.wl, h.wx, h.wc, h.wp, h.dr, hm, h.me, h.fl, h.en, h.oo⟩
theorem WF.sb (h : WF Q) (b : BxR) : WF (Q.set_sb b) := h
/-- another row of flat shapes: not the hand -/
theorem WF.f1 (h : WF Q) {j : Nat} (hj : j ≠ 0) {r : FlR} (hr : ∀ i s, r.sh i = some s → s < Q.nS) : WF (Q.set_fl (va_up Q.fl j r)) := by
  refine ⟨h.wb, ⟨h.wt.1, fun i hi => ?_, h.wt.2.2⟩, h.wl, h.wx, h.wc, h.wp, h.dr, h.se, h.me, ?_, h.en, h.oo⟩
  · by_cases e : i = j
    · subst e
      show ∀ i' s, (va_up Q.fl i r i).sh i' = some s → s < Q.nS
      rw [va_up_s]
      exact hr
    · show ∀ i' s, (va_up Q.fl j r i).sh i' = some s → s < Q.nS
      rw [va_up_n e]
      exact h.wt.2.1 i hi
  · show WFl Q.nS Q.sh (va_up Q.fl j r 0)
    rw [va_up_n (Ne.symm hj)]
    exact h.fl
/-- the hand -/
theorem WF.f0 (h : WF Q) {r : FlR} {ts : List It} (hr : ∀ i s, r.sh i = some s → s < Q.nS) (hc : cLs Q r ts) (hl : ts.length ≤ 3000) (hok : ItOk Q ts) : WF (Q.set_fl (va_up Q.fl 0 r)) := by
  refine ⟨h.wb, ⟨h.wt.1, fun i hi => ?_, h.wt.2.2⟩, h.wl, h.wx, h.wc, h.wp, h.dr, h.se, h.me, ?_, h.en, h.oo⟩
  · by_cases e : i = 0
    · subst e
      exact hr
    · show ∀ i' s, (va_up Q.fl 0 r i).sh i' = some s → s < Q.nS
      rw [va_up_n e]
      exact h.wt.2.1 i hi
  · show WFl Q.nS Q.sh r
    refine ⟨by rw [hc.1]; exact hl, fun i hi => ?_⟩
    have hi : i < ts.length := by rw [hc.1] at hi; exact hi
    obtain ⟨g1, g2, g3, -⟩ := hc.2 i hi
    have e : r.s i = ts[i].1 := by show (r.sh i).getD 0 = _; rw [g1]; rfl
    obtain ⟨o1, o2⟩ := hok _ (List.getElem_mem hi)
    exact ⟨by rw [g1, e], by rw [e]; exact o1, by rw [e, g2]; exact Nat.le_refl _, by rw [g3]; exact o2⟩
theorem WF.addC (h : WF Q) (hn : Q.nC < 20) : WF Q.addC := by
  have hce : ∀ c, c < Q.nC → va_up Q.ce Q.nC r0C c = Q.ce c := fun c hc => va_up_n (by omega)
  have hbc : ∀ c, c < Q.nC + 1 → (va_up Q.ce Q.nC r0C c).ss.length ≤ 120 ∧ (va_up Q.ce Q.nC r0C c).ps.length ≤ 80 ∧ (∀ s ∈ (va_up Q.ce Q.nC r0C c).ss, s < Q.nS) ∧ (∀ p ∈ (va_up Q.ce Q.nC r0C c).ps, p < Q.nP) := by
    intro c hc
    by_cases e : c = Q.nC
    · subst e
      rw [va_up_s]
      exact ⟨by decide, by decide, fun s hs => absurd hs List.not_mem_nil, fun s hs => absurd hs List.not_mem_nil⟩
    · rw [va_up_n e]
      exact h.wb.2.2.2 c (by omega)
  refine ⟨⟨by show Q.nC + 1 ≤ 20; omega, h.wb.2.1, h.wb.2.2.1, hbc⟩, ⟨fun p hp => Nat.lt_succ_of_lt (h.wt.1 p hp), h.wt.2.1, fun c hc => ⟨(hbc c hc).2.2.1, (hbc c hc).2.2.2⟩⟩, ⟨fun c hc => ?_, fun p hp => ?_, h.wl.2.2⟩, h.wx, fun s hs => Nat.lt_succ_of_lt (h.wc s hs), h.wp, h.dr, fun x => ?_, fun x => ?_, h.fl, h.en, h.oo⟩
  · show (va_up Q.ce Q.nC r0C c).ss = _ ∧ (va_up Q.ce Q.nC r0C c).ps = _
    by_cases e : c = Q.nC
    · subst e
      rw [va_up_s]
      constructor
      · symm
        rw [List.filter_eq_nil_iff]
        intro s hs
        have := h.wc s (List.mem_range.mp hs)
        have : (Q.sh s).cell ≠ Q.nC := by omega
        simpa using this
      · symm
        rw [List.filter_eq_nil_iff]
        intro s hs
        have := (h.wl.2.1 s (List.mem_range.mp hs)).1
        have : (Q.pl s).cell ≠ Q.nC := by omega
        simpa using this
    · rw [va_up_n e]
      have hc : c < Q.nC + 1 := hc
      exact h.wl.1 c (by omega)
  · obtain ⟨a1, a2, a3⟩ := h.wl.2.1 p hp
    exact ⟨Nat.lt_succ_of_lt a1, Nat.lt_succ_of_lt a2, a3⟩
  · show (va_up Q.ce Q.nC r0C x).seen = 0 ∨ (va_up Q.ce Q.nC r0C x).seen = 1
    unfold va_up
    split
    · exact Or.inl rfl
    · exact h.se x
  · show (va_up Q.ce Q.nC r0C x).meas = 0 ∨ (va_up Q.ce Q.nC r0C x).meas = 1
    unfold va_up
    split
    · exact Or.inl rfl
    · exact h.me x
theorem HB_0 {r : ShR} (h : r.cnt = 0) : ∀ x y, ¬ SPt r x y := by
  intro x y hp
  rcases hp with ⟨-, k, h1, h2, -⟩ | ⟨-, k, h1, -⟩ <;> omega
theorem on_n {r : ShR} {lay : Int32} (h : r.cnt ≤ 1) : ¬ onB r lay = true := by
  intro q
  have := ((onB_iff (r := r) (by omega)).mp (onB_lay.mp q).1).2
  split at this <;> omega
theorem WF.addS (h : WF Q) (hn : Q.nS < 120) {c : Nat} (hc : c < Q.nC) {v : Int32} {w : Int64} {e : Int32} (hw : w = 0 ∨ wideB w) (he : e = 0 ∨ e = 1) : WF (Q.addS c (r0S c v w e)) := by
  have hsh : ∀ s, s < Q.nS → va_up Q.sh Q.nS (r0S c v w e) s = Q.sh s := fun s hs => va_up_n (by omega)
  have hce : ∀ x, (va_up Q.ce c ((Q.ce c).set_ss ((Q.ce c).ss ++ [Q.nS])) x).ps = (Q.ce x).ps ∧ (va_up Q.ce c ((Q.ce c).set_ss ((Q.ce c).ss ++ [Q.nS])) x).seen = (Q.ce x).seen ∧ (va_up Q.ce c ((Q.ce c).set_ss ((Q.ce c).ss ++ [Q.nS])) x).meas = (Q.ce x).meas := by
    intro x
    unfold va_up
    split
    · subst_vars; exact ⟨rfl, rfl, rfl⟩
    · exact ⟨rfl, rfl, rfl⟩
  have hss : ∀ x, x < Q.nC → (va_up Q.ce c ((Q.ce c).set_ss ((Q.ce c).ss ++ [Q.nS])) x).ss = (List.range (Q.nS + 1)).filter (fun s => decide ((va_up Q.sh Q.nS (r0S c v w e) s).cell = x)) := by
    intro x hx
    rw [List.range_succ, List.filter_append]
    have h1 : (List.range Q.nS).filter (fun s => decide ((va_up Q.sh Q.nS (r0S c v w e) s).cell = x)) = (List.range Q.nS).filter (fun s => decide ((Q.sh s).cell = x)) := List.filter_congr (fun s hs => by rw [hsh s (List.mem_range.mp hs)])
    rw [h1, ← (h.wl.1 x hx).1]
    by_cases q : x = c
    · subst q
      rw [va_up_s, List.filter_cons_of_pos (by rw [va_up_s]; simp)]
      rfl
    · rw [va_up_n q, List.filter_cons_of_neg (by rw [va_up_s]; simpa using Ne.symm q)]
      simp
  have hlen : ∀ x, x < Q.nC → (va_up Q.ce c ((Q.ce c).set_ss ((Q.ce c).ss ++ [Q.nS])) x).ss.length ≤ 120 := by
    intro x hx
    rw [hss x hx]
    exact Nat.le_trans (List.length_filter_le _ _) (by rw [List.length_range]; omega)
  have hmem : ∀ x, x < Q.nC → ∀ s ∈ (va_up Q.ce c ((Q.ce c).set_ss ((Q.ce c).ss ++ [Q.nS])) x).ss, s < Q.nS + 1 := by
    intro x hx s hs
    rw [hss x hx] at hs
    exact List.mem_range.mp (List.mem_filter.mp hs).1
  have gen : ∀ (P : ShR → Prop), (∀ s, s < Q.nS → P (Q.sh s)) → P (r0S c v w e) → ∀ s, s < Q.nS + 1 → P (va_up Q.sh Q.nS (r0S c v w e) s) := by
    intro P h1 h2 s hs
    by_cases q : s = Q.nS
    · subst q; rw [va_up_s]; exact h2
    · rw [va_up_n q]; exact h1 s (by omega)
  refine ⟨⟨h.wb.1, by show Q.nS + 1 ≤ 120; omega, h.wb.2.2.1, fun x hx => ⟨hlen x hx, ?_, hmem x hx, ?_⟩⟩, ⟨h.wt.1, fun j hj i s hs => Nat.lt_succ_of_lt (h.wt.2.1 j hj i s hs), fun x hx => ⟨hmem x hx, ?_⟩⟩, ⟨fun x hx => ⟨hss x hx, ?_⟩, h.wl.2.1, h.wl.2.2⟩, ?_, ?_, ?_, ?_, fun x => ?_, fun x => ?_, ?_, ?_, ?_⟩
  · show (va_up Q.ce c _ x).ps.length ≤ 80
    rw [(hce x).1]
    exact (h.wb.2.2.2 x hx).2.1
  · show ∀ p ∈ (va_up Q.ce c _ x).ps, p < Q.nP
    rw [(hce x).1]
    exact (h.wb.2.2.2 x hx).2.2.2
  · show ∀ p ∈ (va_up Q.ce c _ x).ps, p < Q.nP
    rw [(hce x).1]
    exact (h.wb.2.2.2 x hx).2.2.2
  · show (va_up Q.ce c _ x).ps = _
    rw [(hce x).1]
    exact (h.wl.1 x hx).2
  · refine gen (fun r => r.cnt ≤ 24 ∧ HB r.bx (SPt r) ∧ PB (SPt r) 1010000 ∧ ∀ lay, onB r lay = true → ∃ x y, SPt r x y) h.wx ⟨show (0 : Nat) ≤ 24 by decide, Or.inl ⟨rfl, HB_0 rfl⟩, fun x y hp => absurd hp (HB_0 rfl x y), fun lay hq => absurd hq (on_n (show (0 : Nat) ≤ 1 by decide))⟩
  · exact gen (fun r => r.cell < Q.nC) h.wc hc
  · exact gen WPt h.wp ⟨fun k hk => absurd hk (Nat.not_lt_zero k), hw, fun _ k _ hk => absurd hk (Nat.not_lt_zero k)⟩
  · exact gen (fun r => r.drop = 0 ∨ r.drop = 1) h.dr (Or.inl rfl)
  · show (va_up Q.ce c _ x).seen = 0 ∨ (va_up Q.ce c _ x).seen = 1
    rw [(hce x).2.1]
    exact h.se x
  · show (va_up Q.ce c _ x).meas = 0 ∨ (va_up Q.ce c _ x).meas = 1
    rw [(hce x).2.2]
    exact h.me x
  · refine ⟨h.fl.1, fun i hi => ?_⟩
    obtain ⟨a1, a2, a3, a4⟩ := h.fl.2 i hi
    refine ⟨a1, Nat.lt_succ_of_lt a2, ?_, a4⟩
    show (Q.fl 0).cor i ≤ (va_up Q.sh Q.nS (r0S c v w e) ((Q.fl 0).s i)).cnt
    rw [hsh _ a2]
    exact a3
  · exact gen (fun r => r.ends = 0 ∨ r.ends = 1) h.en he
  · exact gen (fun r => ∀ t, t < 8 → OrdOk r t) h.oo (fun t _ => Or.inl rfl)
/-- a shape that is changed where it stands -/
theorem WF.setS (h : WF Q) {s : Nat} (hs : s < Q.nS) {r : ShR} (hcell : r.cell = (Q.sh s).cell) (hx : r.cnt ≤ 24 ∧ HB r.bx (SPt r) ∧ PB (SPt r) 1010000 ∧ ∀ lay, onB r lay = true → ∃ x y, SPt r x y) (hp : WPt r) (hd : r.drop = 0 ∨ r.drop = 1) (hc : (Q.sh s).cnt ≤ r.cnt) (he : r.ends = 0 ∨ r.ends = 1) (ho : ∀ t, t < 8 → OrdOk r t) : WF (Q.set_sh (va_up Q.sh s r)) := by
  have gen : ∀ (P : ShR → Prop), (∀ s, s < Q.nS → P (Q.sh s)) → P r → ∀ x, x < Q.nS → P (va_up Q.sh s r x) := by
    intro P h1 h2 x hx
    by_cases q : x = s
    · subst q; rw [va_up_s]; exact h2
    · rw [va_up_n q]; exact h1 x hx
  have hcel : ∀ x, (va_up Q.sh s r x).cell = (Q.sh x).cell := by
    intro x
    unfold va_up
    split
    · subst_vars; exact hcell
    · rfl
  refine ⟨h.wb, h.wt, ⟨fun x hx => ⟨?_, (h.wl.1 x hx).2⟩, h.wl.2.1, h.wl.2.2⟩, gen (fun r => r.cnt ≤ 24 ∧ HB r.bx (SPt r) ∧ PB (SPt r) 1010000 ∧ ∀ lay, onB r lay = true → ∃ x y, SPt r x y) h.wx hx, gen (fun r => r.cell < Q.nC) h.wc (by rw [hcell]; exact h.wc s hs), gen WPt h.wp hp, gen (fun r => r.drop = 0 ∨ r.drop = 1) h.dr hd, h.se, h.me, ⟨h.fl.1, fun i hi => ?_⟩, gen (fun r => r.ends = 0 ∨ r.ends = 1) h.en he, gen (fun r => ∀ t, t < 8 → OrdOk r t) h.oo ho⟩
  · show (Q.ce x).ss = (List.range Q.nS).filter (fun y => decide ((va_up Q.sh s r y).cell = x))
    rw [(h.wl.1 x hx).1]
    exact List.filter_congr (fun y _ => by rw [hcel y])
  · obtain ⟨a1, a2, a3, a4⟩ := h.fl.2 i hi
    refine ⟨a1, a2, ?_, a4⟩
    show (Q.fl 0).cor i ≤ (va_up Q.sh s r ((Q.fl 0).s i)).cnt
    by_cases q : (Q.fl 0).s i = s
    · rw [q, va_up_s]
      rw [q] at a3
      omega
    · rw [va_up_n q]
      exact a3
theorem WF.drop (h : WF Q) {s : Nat} (hs : s < Q.nS) : WF (Q.set_sh (va_up Q.sh s ((Q.sh s).set_drop 1))) := by
  obtain ⟨a1, a2, a3, a4⟩ := h.wx s hs
  refine h.setS hs rfl ⟨a1, a2, a3, fun lay hq => ?_⟩ (h.wp s hs) (Or.inr rfl) (Nat.le_refl _) (h.en s hs) (h.oo s hs)
  have := ((onB_iff (r := (Q.sh s).set_drop 1) a1).mp (onB_lay.mp hq).1).1
  exact absurd this (by show ¬ (1 : Int32) = 0; decide)
/-- a piece's own box -/
def pq (r : ShR) (k : Nat) : BxR := (jmin (pAx r k) (pBx r k) - pCx r k, jmin (pAy r k) (pBy r k) - pCy r k, jmax (pAx r k) (pBx r k) + pCx r k, jmax (pAy r k) (pBy r k) + pCy r k, 0)
theorem i16 {u v : Int} : u = v ↔ u = v := Iff.rfl
theorem pq_h {r : ShR} {k : Nat} (hw : WPt r) (hp : 0 < r.w) (h1 : 1 ≤ k) (h2 : k < r.cnt) : HB (pq r k) (PcP r k) ∧ PB (PcP r k) 1010000 := by
  obtain ⟨sx, sy, hd, a1, a2, a3, a4⟩ := pc_dir hw hp h1 h2
  have hwd : wideB r.w := by
    rcases hw.2.1 with q | q
    · rw [q] at hp; exact absurd hp (by decide)
    · exact q
  have b1 := (bf_i (k := k) hwd).2
  have b2 := (bh_i (k := k) hwd).2
  have hh := half_i hwd
  have n1 := near_i (hw.1 k h2).1
  have n2 := near_i (hw.1 k h2).2
  have n3 := near_i (hw.1 (k - 1) (by omega)).1
  have n4 := near_i (hw.1 (k - 1) (by omega)).2
  have hc : 0 ≤ (pCx r k).toInt ∧ (pCx r k).toInt ≤ 500 ∧ 0 ≤ (pCy r k).toInt ∧ (pCy r k).toInt ≤ 500 := by
    rcases hd with ⟨-, -, -, -, q1, q2⟩ | ⟨-, -, -, -, q1, q2⟩ <;> rw [q1, q2] <;> omega
  have hA : -1000500 ≤ (pAx r k).toInt ∧ (pAx r k).toInt ≤ 1000500 ∧ -1000500 ≤ (pAy r k).toInt ∧ (pAy r k).toInt ≤ 1000500 ∧ -1000500 ≤ (pBx r k).toInt ∧ (pBx r k).toInt ≤ 1000500 ∧ -1000500 ≤ (pBy r k).toInt ∧ (pBy r k).toInt ≤ 1000500 := by
    rw [a1, a2, a3, a4]
    clear a1 a2 a3 a4 hw hh hc
    rcases hd with ⟨q1, q2, -, -, -, -⟩ | ⟨q1, q2, -, -, -, -⟩ <;> rw [q2] <;> rcases q1 with q1 | q1 <;> rw [q1] <;> omega
  clear a1 a2 a3 a4 hw hd n1 n2 n3 n4 b1 b2 hh
  have g1 : (jmin (pAx r k) (pBx r k) - pCx r k).toInt = min (pAx r k).toInt (pBx r k).toInt - (pCx r k).toInt := by rw [t_sub (by rw [t_min]; omega) (by rw [t_min]; omega), t_min]
  have g2 : (jmin (pAy r k) (pBy r k) - pCy r k).toInt = min (pAy r k).toInt (pBy r k).toInt - (pCy r k).toInt := by rw [t_sub (by rw [t_min]; omega) (by rw [t_min]; omega), t_min]
  have g3 : (jmax (pAx r k) (pBx r k) + pCx r k).toInt = max (pAx r k).toInt (pBx r k).toInt + (pCx r k).toInt := by rw [t_add (by rw [t_max]; omega) (by rw [t_max]; omega), t_max]
  have g4 : (jmax (pAy r k) (pBy r k) + pCy r k).toInt = max (pAy r k).toInt (pBy r k).toInt + (pCy r k).toInt := by rw [t_add (by rw [t_max]; omega) (by rw [t_max]; omega), t_max]
  have hm : ∀ x y, PcP r k x y → (min (pAx r k).toInt (pBx r k).toInt - (pCx r k).toInt ≤ x ∧ x ≤ max (pAx r k).toInt (pBx r k).toInt + (pCx r k).toInt) ∧ min (pAy r k).toInt (pBy r k).toInt - (pCy r k).toInt ≤ y ∧ y ≤ max (pAy r k).toInt (pBy r k).toInt + (pCy r k).toInt := by
    rintro x y ⟨e, f, he, hf, h8⟩
    rcases he with rfl | rfl <;> rcases hf with rfl | rfl <;> rcases h8 with ⟨rfl, rfl⟩ | ⟨rfl, rfl⟩ <;> omega
  refine ⟨Or.inr ⟨rfl, ?_⟩, fun x y hp => ?_⟩
  · show (∀ x y, PcP r k x y → (jmin (pAx r k) (pBx r k) - pCx r k).toInt ≤ x ∧ x ≤ (jmax (pAx r k) (pBx r k) + pCx r k).toInt ∧ (jmin (pAy r k) (pBy r k) - pCy r k).toInt ≤ y ∧ y ≤ (jmax (pAy r k) (pBy r k) + pCy r k).toInt) ∧ (∃ y, PcP r k (jmin (pAx r k) (pBx r k) - pCx r k).toInt y) ∧ (∃ y, PcP r k (jmax (pAx r k) (pBx r k) + pCx r k).toInt y) ∧ (∃ x, PcP r k x (jmin (pAy r k) (pBy r k) - pCy r k).toInt) ∧ ∃ x, PcP r k x (jmax (pAy r k) (pBy r k) + pCy r k).toInt
    rw [g1, g2, g3, g4]
    refine ⟨fun x y hp => by have := hm x y hp; omega, ?_, ?_, ?_, ?_⟩
    · rcases Int.le_total (pAx r k).toInt (pBx r k).toInt with q | q
      · exact ⟨_, -1, 1, Or.inr rfl, Or.inl rfl, Or.inl ⟨by omega, rfl⟩⟩
      · exact ⟨_, -1, 1, Or.inr rfl, Or.inl rfl, Or.inr ⟨by omega, rfl⟩⟩
    · rcases Int.le_total (pAx r k).toInt (pBx r k).toInt with q | q
      · exact ⟨_, 1, 1, Or.inl rfl, Or.inl rfl, Or.inr ⟨by omega, rfl⟩⟩
      · exact ⟨_, 1, 1, Or.inl rfl, Or.inl rfl, Or.inl ⟨by omega, rfl⟩⟩
    · rcases Int.le_total (pAy r k).toInt (pBy r k).toInt with q | q
      · exact ⟨_, 1, -1, Or.inl rfl, Or.inr rfl, Or.inl ⟨rfl, by omega⟩⟩
      · exact ⟨_, 1, -1, Or.inl rfl, Or.inr rfl, Or.inr ⟨rfl, by omega⟩⟩
    · rcases Int.le_total (pAy r k).toInt (pBy r k).toInt with q | q
      · exact ⟨_, 1, 1, Or.inl rfl, Or.inl rfl, Or.inr ⟨rfl, by omega⟩⟩
      · exact ⟨_, 1, 1, Or.inl rfl, Or.inl rfl, Or.inl ⟨rfl, by omega⟩⟩
  · have := hm x y hp
    omega
theorem mpc_h {r : ShR} {b : BxR} (hw : WPt r) (hp : 0 < r.w) (hb : b.n = 1) : ∀ n, n < r.cnt → HB (mpc r b n) (fun x y => ∃ k, 1 ≤ k ∧ k < n + 1 ∧ PcP r k x y)
  | 0, _ => Or.inl ⟨hb, fun x y ⟨k, h1, h2, _⟩ => by omega⟩
  | n + 1, hn => by
    have h1 := mpc_h hw hp hb n (by omega)
    have h2 := (pq_h hw hp (Nat.succ_le_succ (Nat.zero_le n)) hn).1
    refine (h1.hold h2 rfl).cong (fun x y => ⟨?_, ?_⟩)
    · rintro (⟨k, g1, g2, g3⟩ | g3)
      · exact ⟨k, g1, by omega, g3⟩
      · exact ⟨n + 1, by omega, by omega, g3⟩
    · rintro ⟨k, g1, g2, g3⟩
      rcases (show k < n + 1 ∨ k = n + 1 by omega) with q | rfl
      · exact Or.inl ⟨k, g1, q, g3⟩
      · exact Or.inr g3
theorem WF.addCorner (h : WF Q) {s : Nat} (hs : s < Q.nS) (hc : (Q.sh s).cnt < 24) {x y : Int64} (hx : nearB x) (hy : nearB y) (ht : takesB (Q.sh s) x y) : WF (Q.set_sh (va_up Q.sh s (addR (Q.sh s) x y))) := by
  obtain ⟨w1, w2, w3, w4⟩ := h.wx s hs
  obtain ⟨p1, p2, p3⟩ := h.wp s hs
  have hne : ∀ k, k < (Q.sh s).cnt + 1 → nearB (va_up (Q.sh s).xs (Q.sh s).cnt x k) ∧ nearB (va_up (Q.sh s).ys (Q.sh s).cnt y k) := by
    intro k hk
    by_cases q : k = (Q.sh s).cnt
    · subst q
      rw [va_up_s, va_up_s]
      exact ⟨hx, hy⟩
    · rw [va_up_n q, va_up_n q]
      exact p1 k (by omega)
  have hst : ∀ t, t < 8 → (addR (Q.sh s) x y).st t = 0 := by
    intro t ht
    have : (addR (Q.sh s) x y).st = fun j => if j < 8 then 0 else (Q.sh s).st j := by unfold addR; dsimp only; split <;> rfl
    rw [this]
    exact if_pos ht
  by_cases hw : 0 < (Q.sh s).w
  · generalize hq : ((((Q.sh s).set_xs (va_up (Q.sh s).xs (Q.sh s).cnt x)).set_ys (va_up (Q.sh s).ys (Q.sh s).cnt y)).set_cnt ((Q.sh s).cnt + 1)).set_st (fun j => if j < 8 then 0 else (Q.sh s).st j) = q
    have he : addR (Q.sh s) x y = q.set_bx (mpc q (bclear (Q.sh s).bx) (Q.sh s).cnt) := by rw [← hq]; exact if_pos hw
    have qw : q.w = (Q.sh s).w := by rw [← hq]
    have qc : q.cnt = (Q.sh s).cnt + 1 := by rw [← hq]
    have qx : q.xs = va_up (Q.sh s).xs (Q.sh s).cnt x := by rw [← hq]
    have qy : q.ys = va_up (Q.sh s).ys (Q.sh s).cnt y := by rw [← hq]
    have qe : q.ends = (Q.sh s).ends := by rw [← hq]
    have qd : q.drop = (Q.sh s).drop := by rw [← hq]
    have ql : q.cell = (Q.sh s).cell := by rw [← hq]
    have hq0 : 0 < q.w := by rw [qw]; exact hw
    have hqp : WPt q := by
      refine ⟨fun k hk => by rw [qx, qy]; exact hne k (by omega), by rw [qw]; exact p2, fun _ k g1 g2 => ?_⟩
      rw [qx, qy]
      by_cases e : k = (Q.sh s).cnt
      · subst e
        rw [va_up_s, va_up_s, va_up_n (by omega), va_up_n (by omega)]
        exact (tk_p (by omega) hw).mp ht
      · rw [va_up_n e, va_up_n e, va_up_n (by omega), va_up_n (by omega)]
        exact p3 hw k g1 (by omega)
    have hb := mpc_h (b := bclear (Q.sh s).bx) hqp hq0 rfl (Q.sh s).cnt (by omega)
    have hS : ∀ a b, SPt (addR (Q.sh s) x y) a b ↔ ∃ k, 1 ≤ k ∧ k < (Q.sh s).cnt + 1 ∧ PcP q k a b := by
      intro a b
      rw [he]
      constructor
      · rintro (⟨-, k, g1, g2, g3⟩ | ⟨g1, -⟩)
        · exact ⟨k, g1, by have : k < q.cnt := g2; omega, g3⟩
        · exact absurd hq0 g1
      · rintro ⟨k, g1, g2, g3⟩
        exact Or.inl ⟨hq0, k, g1, by show k < q.cnt; omega, g3⟩
    refine h.setS hs (by rw [he]; exact ql) ⟨by rw [addR_cnt]; omega, ?_, fun a b hp => ?_, fun lay hon => ?_⟩ (by rw [he]; exact hqp) (by rw [addR_drop]; exact h.dr s hs) (by rw [addR_cnt]; omega) (by rw [addR_ends]; exact h.en s hs) (fun t ht => Or.inl (hst t ht))
    · have : (addR (Q.sh s) x y).bx = mpc q (bclear (Q.sh s).bx) (Q.sh s).cnt := by rw [he]
      rw [this]
      exact hb.cong (fun a b => (hS a b).symm)
    · obtain ⟨k, g1, g2, g3⟩ := (hS a b).mp hp
      exact (pq_h hqp hq0 g1 (by omega)).2 a b g3
    · have hcn := ((onB_iff (r := addR (Q.sh s) x y) (by rw [addR_cnt]; omega)).mp (onB_lay.mp hon).1).2
      rw [addR_w, if_pos hw, addR_cnt] at hcn
      exact ⟨_, _, (hS _ _).mpr ⟨1, by omega, by omega, 1, 1, Or.inl rfl, Or.inl rfl, Or.inl ⟨rfl, rfl⟩⟩⟩
  · have hbx : (addR (Q.sh s) x y).bx = bhold (Q.sh s).bx x y x y := by unfold addR; dsimp only; rw [if_neg hw]
    have hS : ∀ a b, SPt (addR (Q.sh s) x y) a b ↔ SPt (Q.sh s) a b ∨ (a = x.toInt ∧ b = y.toInt) := by
      intro a b
      unfold SPt
      rw [addR_w, addR_cnt, addR_xs, addR_ys]
      constructor
      · rintro (⟨g, -⟩ | ⟨-, k, g1, g2, g3⟩)
        · exact absurd g hw
        · by_cases e : k = (Q.sh s).cnt
          · subst e
            rw [va_up_s] at g2 g3
            exact Or.inr ⟨g2, g3⟩
          · rw [va_up_n e] at g2 g3
            exact Or.inl (Or.inr ⟨hw, k, by omega, g2, g3⟩)
      · rintro ((⟨g, -⟩ | ⟨-, k, g1, g2, g3⟩) | ⟨g2, g3⟩)
        · exact absurd g hw
        · exact Or.inr ⟨hw, k, by omega, by rw [va_up_n (by omega)]; exact g2, by rw [va_up_n (by omega)]; exact g3⟩
        · exact Or.inr ⟨hw, (Q.sh s).cnt, by omega, by rw [va_up_s]; exact g2, by rw [va_up_s]; exact g3⟩
    refine h.setS hs addR_cell ⟨by rw [addR_cnt]; omega, ?_, fun a b hp => ?_, fun lay hon => ?_⟩ ⟨fun k hk => ?_, by rw [addR_w]; exact p2, fun g => absurd (addR_w ▸ g) hw⟩ (by rw [addR_drop]; exact h.dr s hs) (by rw [addR_cnt]; omega) (by rw [addR_ends]; exact h.en s hs) (fun t ht => Or.inl (hst t ht))
    · rw [hbx]
      exact (w2.bpt1 x y).cong (fun a b => (hS a b).symm)
    · rcases (hS a b).mp hp with g | ⟨rfl, rfl⟩
      · exact w3 a b g
      · have n1 := near_i hx
        have n2 := near_i hy
        omega
    · exact ⟨_, _, (hS _ _).mpr (Or.inr ⟨rfl, rfl⟩)⟩
    · rw [addR_xs, addR_ys]
      rw [addR_cnt] at hk
      exact hne k hk
/-- a place that is changed where it stands -/
theorem WF.array (h : WF Q) {p a b : Nat} {u v : Int64} (hp : p < Q.nP) (ha : 1 ≤ a ∧ a ≤ 20) (hb : 1 ≤ b ∧ b ≤ 20) (hu : nearB u) (hv : nearB v) : WF (Q.set_pl (va_up Q.pl p (((((Q.pl p).set_cols a).set_rows b).set_dx u).set_dy v))) := by
  have hco : ∀ x, (va_up Q.pl p (((((Q.pl p).set_cols a).set_rows b).set_dx u).set_dy v) x).cell = (Q.pl x).cell ∧ (va_up Q.pl p (((((Q.pl p).set_cols a).set_rows b).set_dx u).set_dy v) x).of = (Q.pl x).of := by
    intro x
    unfold va_up
    split
    · subst_vars; exact ⟨rfl, rfl⟩
    · exact ⟨rfl, rfl⟩
  have hed : ∀ x y, Ed Q x y ↔ EdP Q.nP (va_up Q.pl p (((((Q.pl p).set_cols a).set_rows b).set_dx u).set_dy v)) x y := by
    intro x y
    unfold Ed EdP
    refine exists_congr fun q => ?_
    rw [(hco q).1, (hco q).2]
  refine ⟨h.wb, ⟨fun q hq => ?_, h.wt.2⟩, ⟨fun x hx => ⟨(h.wl.1 x hx).1, ?_⟩, fun q hq => ?_, fun x y e r => ?_⟩, h.wx, h.wc, h.wp, h.dr, h.se, h.me, h.fl, h.en, h.oo⟩
  · show (va_up Q.pl p _ q).of < Q.nC
    rw [(hco q).2]
    exact h.wt.1 q hq
  · show (Q.ce x).ps = (List.range Q.nP).filter (fun q => decide ((va_up Q.pl p _ q).cell = x))
    rw [(h.wl.1 x hx).2]
    exact List.filter_congr (fun y _ => by rw [(hco y).1])
  · by_cases e : q = p
    · subst e
      obtain ⟨a1, a2, a3, a4, a5, a6, a7, a8, a9⟩ := h.wl.2.1 q hq
      show (va_up Q.pl q _ q).cell < Q.nC ∧ (va_up Q.pl q _ q).of < Q.nC ∧ (va_up Q.pl q _ q).turn < 8 ∧ (1 ≤ (va_up Q.pl q _ q).cols ∧ (va_up Q.pl q _ q).cols ≤ 20) ∧ (1 ≤ (va_up Q.pl q _ q).rows ∧ (va_up Q.pl q _ q).rows ≤ 20) ∧ nearB (va_up Q.pl q _ q).x ∧ nearB (va_up Q.pl q _ q).y ∧ nearB (va_up Q.pl q _ q).dx ∧ nearB (va_up Q.pl q _ q).dy
      rw [va_up_s]
      exact ⟨a1, a2, a3, ha, hb, a6, a7, hu, hv⟩
    · show (va_up Q.pl p _ q).cell < Q.nC ∧ (va_up Q.pl p _ q).of < Q.nC ∧ (va_up Q.pl p _ q).turn < 8 ∧ (1 ≤ (va_up Q.pl p _ q).cols ∧ (va_up Q.pl p _ q).cols ≤ 20) ∧ (1 ≤ (va_up Q.pl p _ q).rows ∧ (va_up Q.pl p _ q).rows ≤ 20) ∧ nearB (va_up Q.pl p _ q).x ∧ nearB (va_up Q.pl p _ q).y ∧ nearB (va_up Q.pl p _ q).dx ∧ nearB (va_up Q.pl p _ q).dy
      rw [va_up_n e]
      exact h.wl.2.1 q hq
  · exact h.wl.2.2 x y ((hed x y).mpr e) ((Rch.cong hed).mpr r)
theorem WF.addP (h : WF Q) (hn : Q.nP < 80) {c o t : Nat} {x y : Int64} (hc : c < Q.nC) (ho : o < Q.nC) (ht : t < 8) (hx : nearB x) (hy : nearB y) (hr : ¬ Rch (Ed Q) o c) : WF (Q.addP c (r0P c o x y t)) := by
  have hpl : ∀ p, p < Q.nP → va_up Q.pl Q.nP (r0P c o x y t) p = Q.pl p := fun p hp => va_up_n (by omega)
  have hce : ∀ z, (va_up Q.ce c ((Q.ce c).set_ps ((Q.ce c).ps ++ [Q.nP])) z).ss = (Q.ce z).ss ∧ (va_up Q.ce c ((Q.ce c).set_ps ((Q.ce c).ps ++ [Q.nP])) z).seen = (Q.ce z).seen ∧ (va_up Q.ce c ((Q.ce c).set_ps ((Q.ce c).ps ++ [Q.nP])) z).meas = (Q.ce z).meas := by
    intro z
    unfold va_up
    split
    · subst_vars; exact ⟨rfl, rfl, rfl⟩
    · exact ⟨rfl, rfl, rfl⟩
  have hps : ∀ z, z < Q.nC → (va_up Q.ce c ((Q.ce c).set_ps ((Q.ce c).ps ++ [Q.nP])) z).ps = (List.range (Q.nP + 1)).filter (fun p => decide ((va_up Q.pl Q.nP (r0P c o x y t) p).cell = z)) := by
    intro z hz
    rw [List.range_succ, List.filter_append]
    have h1 : (List.range Q.nP).filter (fun p => decide ((va_up Q.pl Q.nP (r0P c o x y t) p).cell = z)) = (List.range Q.nP).filter (fun p => decide ((Q.pl p).cell = z)) := List.filter_congr (fun p hp => by rw [hpl p (List.mem_range.mp hp)])
    rw [h1, ← (h.wl.1 z hz).2]
    by_cases q : z = c
    · subst q
      rw [va_up_s, List.filter_cons_of_pos (by rw [va_up_s]; simp)]
      rfl
    · rw [va_up_n q, List.filter_cons_of_neg (by rw [va_up_s]; simpa using Ne.symm q)]
      simp
  have hmem : ∀ z, z < Q.nC → ∀ p ∈ (va_up Q.ce c ((Q.ce c).set_ps ((Q.ce c).ps ++ [Q.nP])) z).ps, p < Q.nP + 1 := by
    intro z hz p hp
    rw [hps z hz] at hp
    exact List.mem_range.mp (List.mem_filter.mp hp).1
  have gen : ∀ (P : PlR → Prop), (∀ p, p < Q.nP → P (Q.pl p)) → P (r0P c o x y t) → ∀ p, p < Q.nP + 1 → P (va_up Q.pl Q.nP (r0P c o x y t) p) := by
    intro P h1 h2 p hp
    by_cases q : p = Q.nP
    · subst q; rw [va_up_s]; exact h2
    · rw [va_up_n q]; exact h1 p (by omega)
  refine ⟨⟨h.wb.1, h.wb.2.1, by show Q.nP + 1 ≤ 80; omega, fun z hz => ⟨?_, ?_, ?_, hmem z hz⟩⟩, ⟨gen (fun r => r.of < Q.nC) h.wt.1 ho, h.wt.2.1, fun z hz => ⟨?_, hmem z hz⟩⟩, ⟨fun z hz => ⟨?_, hps z hz⟩, gen (fun r => r.cell < Q.nC ∧ r.of < Q.nC ∧ r.turn < 8 ∧ (1 ≤ r.cols ∧ r.cols ≤ 20) ∧ (1 ≤ r.rows ∧ r.rows ≤ 20) ∧ nearB r.x ∧ nearB r.y ∧ nearB r.dx ∧ nearB r.dy) h.wl.2.1 ⟨hc, ho, ht, ⟨show (1 : Nat) ≤ 1 by decide, show (1 : Nat) ≤ 20 by decide⟩, ⟨show (1 : Nat) ≤ 1 by decide, show (1 : Nat) ≤ 20 by decide⟩, hx, hy, show nearB 0 from ⟨by decide, by decide⟩, show nearB 0 from ⟨by decide, by decide⟩⟩, ?_⟩, h.wx, h.wc, h.wp, h.dr, fun z => ?_, fun z => ?_, h.fl, h.en, h.oo⟩
  · show (va_up Q.ce c _ z).ss.length ≤ 120
    rw [(hce z).1]
    exact (h.wb.2.2.2 z hz).1
  · show (va_up Q.ce c _ z).ps.length ≤ 80
    rw [hps z hz]
    exact Nat.le_trans (List.length_filter_le _ _) (by rw [List.length_range]; omega)
  · show ∀ s ∈ (va_up Q.ce c _ z).ss, s < Q.nS
    rw [(hce z).1]
    exact (h.wb.2.2.2 z hz).2.2.1
  · show ∀ s ∈ (va_up Q.ce c _ z).ss, s < Q.nS
    rw [(hce z).1]
    exact (h.wb.2.2.2 z hz).2.2.1
  · show (va_up Q.ce c _ z).ss = _
    rw [(hce z).1]
    exact (h.wl.1 z hz).1
  · refine h.wl.2.2.more (c := c) (d := o) (fun a b hab => ?_) hr
    obtain ⟨p, h1, h2, h3⟩ := hab
    have h1 : p < Q.nP + 1 := h1
    have h2 : (va_up Q.pl Q.nP (r0P c o x y t) p).cell = a := h2
    have h3 : (va_up Q.pl Q.nP (r0P c o x y t) p).of = b := h3
    by_cases q : p = Q.nP
    · subst q
      rw [va_up_s] at h2 h3
      exact Or.inr ⟨h2.symm, h3.symm⟩
    · rw [va_up_n q] at h2 h3
      exact Or.inl ⟨p, by omega, h2, h3⟩
  · show (va_up Q.ce c _ z).seen = 0 ∨ (va_up Q.ce c _ z).seen = 1
    rw [(hce z).2.1]
    exact h.se z
  · show (va_up Q.ce c _ z).meas = 0 ∨ (va_up Q.ce c _ z).meas = 1
    rw [(hce z).2.2]
    exact h.me z
end WFs
