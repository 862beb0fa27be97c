/-! Fresh cells, many at a time -/
def gl (M : gH) (L : List (Nat × gE)) : gH := L.foldl (fun M p => gup M p.1 p.2) M
def Fr (M : gH) : List (Nat × gE) → Prop
  | [] => True
  | p :: L => M p.1 = none ∧ Fr (gup M p.1 p.2) L
theorem gup_no {M : gH} {a b : Nat} {e : gE} : gup M a e b = none ↔ b ≠ a ∧ M b = none := by
  unfold gup
  by_cases h : b = a <;> simp [h]
theorem gl_pt : ∀ (L : List (Nat × gE)) (M M' : gH) (y : Nat), M y = M' y → gl M L y = gl M' L y
  | [], _, _, _, h => h
  | p :: L, M, M', y, h => gl_pt L (gup M p.1 p.2) (gup M' p.1 p.2) y (by unfold gup; rw [h])
theorem gl_no : ∀ (L : List (Nat × gE)) (M : gH) (y : Nat), gl M L y = none → M y = none
  | [], _, _, h => h
  | p :: L, M, y, h => (gup_no.mp (gl_no L (gup M p.1 p.2) y h)).2
theorem gl_x {M : gH} {x : Nat} {o o' : gE} {L : List (Nat × gE)} : gup (gl (gup M x o) L) x o' = gup (gl M L) x o' := by
  funext y
  by_cases h : y = x
  · simp [gup, h]
  · rw [gup_n h, gup_n h]
    exact gl_pt L _ _ y (gup_n h)
theorem gl_app {M : gH} {L L2 : List (Nat × gE)} : gl (gl M L) L2 = gl M (L ++ L2) := (List.foldl_append ..).symm
theorem Fr_x : ∀ (L : List (Nat × gE)) (M : gH) (x : Nat) (o : gE), Fr (gup M x o) L → Fr M L
  | [], _, _, _, _ => trivial
  | p :: L, M, x, o, h => by
    have h1 := gup_no.mp h.1
    refine ⟨h1.2, Fr_x L (gup M p.1 p.2) x o ?_⟩
    have : gup (gup M x o) p.1 p.2 = gup (gup M p.1 p.2) x o := by
      funext y
      by_cases q1 : y = x
      · rw [q1, gup_s, gup_n (Ne.symm h1.1), gup_s]
      · rw [gup_n (M := gup M p.1 p.2) q1]
        by_cases q2 : y = p.1
        · rw [q2, gup_s, gup_s]
        · rw [gup_n q2, gup_n q2, gup_n q1]
    rw [← this]
    exact h.2
theorem Fr_far : ∀ (L : List (Nat × gE)) (M : gH) (x : Nat), M x ≠ none → Fr M L → gl M L x = M x ∧ ∀ p ∈ L, p.1 ≠ x
  | [], _, _, _, _ => ⟨rfl, fun _ h => by cases h⟩
  | p :: L, M, x, hx, h => by
    have hpx : p.1 ≠ x := fun q => hx (q ▸ h.1)
    have e1 : gup M p.1 p.2 x = M x := gup_n (Ne.symm hpx)
    have := Fr_far L (gup M p.1 p.2) x (by rw [e1]; exact hx) h.2
    refine ⟨this.1.trans e1, fun q hq => ?_⟩
    rcases List.mem_cons.mp hq with rfl | hq
    · exact hpx
    · exact this.2 q hq
theorem gl_far : ∀ (L : List (Nat × gE)) (M : gH) (x : Nat), (∀ p ∈ L, p.1 ≠ x) → gl M L x = M x
  | [], _, _, _ => rfl
  | p :: L, M, x, h => (gl_far L (gup M p.1 p.2) x (fun q hq => h q (List.mem_cons_of_mem _ hq))).trans (gup_n (Ne.symm (h p List.mem_cons_self)))
theorem Fr_app : ∀ (L L2 : List (Nat × gE)) (M : gH), Fr M L → Fr (gl M L) L2 → Fr M (L ++ L2)
  | [], _, _, _, h2 => h2
  | p :: L, L2, M, h, h2 => ⟨h.1, Fr_app L L2 (gup M p.1 p.2) h.2 h2⟩
theorem Fr_move {M : gH} {x : Nat} {o o' : gE} {L : List (Nat × gE)} (hx : M x = none) (h : Fr (gup M x o) L) : Fr M (L ++ [(x, o')]) := by
  refine Fr_app L _ M (Fr_x L M x o h) ⟨?_, trivial⟩
  have := (Fr_far L (gup M x o) x (by rw [gup_s]; simp) h).2
  rw [gl_far L M x this]
  exact hx
def rups (I : gI) (E : List (Nat × Nat × Nat × gE)) : gI := E.foldl (fun I t => rup I t.1 t.2.1 t.2.2.2) I
def aups (ad : gA) (E : List (Nat × Nat × Nat × gE)) : gA := E.foldl (fun ad t => aup ad t.1 t.2.1 t.2.2.1) ad
def eL (E : List (Nat × Nat × Nat × gE)) : List (Nat × gE) := E.map (fun t => (t.2.2.1, t.2.2.2))
theorem Rp.many : ∀ (E : List (Nat × Nat × Nat × gE)) {I : gI} {ad : gA} {M : gH}, Rp I ad M → Fr M (eL E) → Rp (rups I E) (aups ad E) (gl M (eL E))
  | [], _, _, _, h, _ => h
  | t :: E, I, ad, M, h, hf => Rp.many E (h.new t.1 t.2.1 hf.1 t.2.2.2) hf.2
theorem rups_n : ∀ (E : List (Nat × Nat × Nat × gE)) {I : gI} {k i : Nat}, (∀ t ∈ E, ¬ (k = t.1 ∧ i = t.2.1)) → rups I E k i = I k i
  | [], _, _, _, _ => rfl
  | t :: E, I, k, i, h => (rups_n E (I := rup I t.1 t.2.1 t.2.2.2) (fun q hq => h q (List.mem_cons_of_mem _ hq))).trans (rup_n (h t List.mem_cons_self))
theorem aups_n : ∀ (E : List (Nat × Nat × Nat × gE)) {ad : gA} {k i : Nat}, (∀ t ∈ E, ¬ (k = t.1 ∧ i = t.2.1)) → aups ad E k i = ad k i
  | [], _, _, _, _ => rfl
  | t :: E, ad, k, i, h => (aups_n E (ad := aup ad t.1 t.2.1 t.2.2.1) (fun q hq => h q (List.mem_cons_of_mem _ hq))).trans (aup_n (h t List.mem_cons_self))
theorem fl_HA {X : gH} {q a : Nat} {fr fl o : gE} {L : List (Nat × gE)} (hq : X q = none) (ha : X a = some o) (hF : Fr (gup X q fr) L) : gl X (L ++ [(q, fl)]) a = some o := by
  refine (gl_far (L ++ [(q, fl)]) X a (fun p hp => ?_)).trans ha
  have hqa : q ≠ a := fun e => by rw [e, ha] at hq; cases hq
  rcases List.mem_append.mp hp with hp | hp
  · exact (Fr_far L (gup X q fr) a (by rw [gup_t (Ne.symm hqa) ha]; simp) hF).2 p hp
  · rw [List.mem_singleton.mp hp]; exact hqa
theorem Fr_x2 {K : gH} {a q : Nat} {o fr fl : gE} {L : List (Nat × gE)} (hq : gup K a o q = none) (hF : Fr (gup (gup K a o) q fr) L) : Fr K (L ++ [(q, fl)]) := by
  have h1 := gup_no.mp hq
  refine Fr_move (o := fr) h1.2 (Fr_x L _ a o ?_)
  have : gup (gup K a o) q fr = gup (gup K q fr) a o := by
    funext y
    by_cases q1 : y = q
    · rw [q1, gup_s, gup_n h1.1, gup_s]
    · rw [gup_n (M := gup K a o) q1]
      by_cases q2 : y = a
      · rw [q2, gup_s, gup_s]
      · rw [gup_n q2, gup_n q2, gup_n q1]
  rw [← this]
  exact hF
