/-! New objects in the heap that holds the state; added to their lists -/
theorem mix_aup {ad dd : gA} {k i q : Nat} (h1 : k ≠ 2) (h2 : k ≠ 14) (h3 : k ≠ 16) : aup (mix ad dd) k i q = mix (aup ad k i q) dd := by
  funext k' i'
  by_cases h : k' = k ∧ i' = i
  · obtain ⟨rfl, rfl⟩ := h
    rw [aup_s, mix_n h1 h2 h3, aup_s]
  · rw [aup_n h]
    unfold mix
    rw [aup_n h]
theorem mix_aups : ∀ (E : List (Nat × Nat × Nat × gE)) {ad dd : gA}, (∀ t ∈ E, t.1 ≠ 2 ∧ t.1 ≠ 14 ∧ t.1 ≠ 16) → aups (mix ad dd) E = mix (aups ad E) dd
  | [], _, _, _ => rfl
  | t :: E, ad, dd, h => by
    have ht := h t List.mem_cons_self
    show aups (aup (mix ad dd) t.1 t.2.1 t.2.2.1) E = mix (aups (aup ad t.1 t.2.1 t.2.2.1) E) dd
    rw [mix_aup ht.1 ht.2.1 ht.2.2]
    exact mix_aups E (fun q hq => h q (List.mem_cons_of_mem _ hq))
theorem mix_dd {ad dd : gA} {k i q : Nat} (h : k = 2 ∨ k = 14 ∨ k = 16) : aup (mix ad dd) k i q = mix ad (aup dd k i q) := by
  funext k' i'
  by_cases hh : k' = k ∧ i' = i
  · obtain ⟨rfl, rfl⟩ := hh
    rw [aup_s]
    rcases h with rfl | rfl | rfl <;> simp [mix, aup]
  · rw [aup_n hh]
    unfold mix
    split
    · subst_vars
      rw [aup_n hh]
    · split
      · subst_vars
        rw [aup_n hh]
      · split
        · subst_vars
          rw [aup_n hh]
        · rfl
theorem MQm.agree {ad ad' : gA} {N : MS} {I I' : gI} (h : MQm ad N I) (h1 : ∀ k, 30 ≤ k → I' k 0 = I k 0) (h2 : ∀ k, 30 ≤ k → ad' k 0 = ad k 0) : MQm ad' N I' := by
  refine ⟨?_, fun f hf => (h1 _ (by omega)).trans (h.2.1 f hf), fun f hf => (h1 _ (by omega)).trans (h.2.2.1 f hf), fun f hf => (h1 _ (by omega)).trans (h.2.2.2.1 f hf), (h1 _ (by omega)).trans h.2.2.2.2⟩
  rw [h1 _ (by omega), h.1]
  simp only [mdO]
  simp only [h2 _ (show (30 : Nat) ≤ 103 by decide), h2 _ (show (30 : Nat) ≤ 104 by decide), h2 _ (show (30 : Nat) ≤ 105 by decide), h2 _ (show (30 : Nat) ≤ 106 by decide), h2 _ (show (30 : Nat) ≤ 107 by decide), h2 _ (show (30 : Nat) ≤ 108 by decide), h2 _ (show (30 : Nat) ≤ 109 by decide), h2 _ (show (30 : Nat) ≤ 110 by decide), h2 _ (show (30 : Nat) ≤ 112 by decide), h2 _ (show (30 : Nat) ≤ 113 by decide), h2 _ (show (30 : Nat) ≤ 114 by decide), h2 _ (show (30 : Nat) ≤ 115 by decide), h2 _ (show (30 : Nat) ≤ 116 by decide), h2 _ (show (30 : Nat) ≤ 117 by decide), h2 _ (show (30 : Nat) ≤ 118 by decide), h2 _ (show (30 : Nat) ≤ 119 by decide), h2 _ (show (30 : Nat) ≤ 120 by decide), h2 _ (show (30 : Nat) ≤ 122 by decide), h2 _ (show (30 : Nat) ≤ 123 by decide), h2 _ (show (30 : Nat) ≤ 124 by decide), h2 _ (show (30 : Nat) ≤ 125 by decide), h2 _ (show (30 : Nat) ≤ 127 by decide), h2 _ (show (30 : Nat) ≤ 128 by decide), h2 _ (show (30 : Nat) ≤ 129 by decide), h2 _ (show (30 : Nat) ≤ 130 by decide), h2 _ (show (30 : Nat) ≤ 131 by decide), h2 _ (show (30 : Nat) ≤ 132 by decide), h2 _ (show (30 : Nat) ≤ 141 by decide), h2 _ (show (30 : Nat) ≤ 142 by decide), h2 _ (show (30 : Nat) ≤ 143 by decide)]
abbrev WTQ (Q : CS) : Prop := WT Q.nC Q.nS Q.nP Q.ce Q.pl Q.fl
def HSC (z : Nat) (ad : gA) (Q : CS) (N : MS) (r : CeR) (M : gH) : Prop := ∃ (dd : gA) (I : gI), Rp I (mix ad dd) M ∧ CQ z (mix ad dd) Q.L Q.nC Q.nS Q.nP Q.ce Q.sh Q.pl Q.fl Q.sb I ∧ MQm (mix ad dd) N I ∧ I 12 Q.nC = some (ceO (mix ad dd) Q.nC r) ∧ RL z I (mix ad dd) 13 14 Q.nC (r.ss.map (mix ad dd 18)) ∧ RL z I (mix ad dd) 15 16 Q.nC (r.ps.map (mix ad dd 24)) ∧ I 17 Q.nC = some (BxR.e r.bx)
theorem HS.newCell {z : Nat} {ad : gA} {Q : CS} {N : MS} {M : gH} (hS : HS z ad Q N M) (hT : WTQ Q) {q q1 q2 q3 : Nat} (hq : M q = none) (hF : Fr (gup M q (.inr (1, [.null, .null, .int 0, .int 0, .int 0, .null]))) [(q1, als z 0 0), (q2, als z 0 0), (q3, bx 0 0 0 0 1)]) : ∃ ad' : gA, ad' 12 Q.nC = q ∧ (∀ k i, used Q.nC Q.nS Q.nP k i → ad' k i = ad k i) ∧ HSC z ad' Q N ([], [], 0, 0, 0, (0, 0, 0, 0, 1)) (gup (gl (gup M q (.inr (1, [.null, .null, .int 0, .int 0, .int 0, .null]))) [(q1, als z 0 0), (q2, als z 0 0), (q3, bx 0 0 0 0 1)]) q (.inr (1, [.ref q1, .ref q2, .int 0, .int 0, .int 0, .ref q3]))) := by
  obtain ⟨dd, I, hR, hC, hM⟩ := hS
  have hR2 := hR.many [(13, Q.nC, q1, als z 0 0), (15, Q.nC, q2, als z 0 0), (17, Q.nC, q3, bx 0 0 0 0 1), (12, Q.nC, q, .inr (1, [.ref q1, .ref q2, .int 0, .int 0, .int 0, .ref q3]))] (Fr_move (o' := .inr (1, [.ref q1, .ref q2, .int 0, .int 0, .int 0, .ref q3])) hq hF)
  have hni : ∀ k i, used Q.nC Q.nS Q.nP k i → ∀ t ∈ ([(13, Q.nC, q1, als z 0 0), (15, Q.nC, q2, als z 0 0), (17, Q.nC, q3, bx 0 0 0 0 1), (12, Q.nC, q, .inr (1, [.ref q1, .ref q2, .int 0, .int 0, .int 0, .ref q3]))] : List (Nat × Nat × Nat × gE)), ¬ (k = t.1 ∧ i = t.2.1) := by
    intro k i hu t ht
    simp only [List.mem_cons, List.not_mem_nil, or_false] at ht
    unfold used at hu
    rcases ht with rfl | rfl | rfl | rfl <;> intro w <;> obtain ⟨w1, w2⟩ := w <;> simp only at w1 w2 <;> omega
  have hA : ∀ k i, used Q.nC Q.nS Q.nP k i → aups ad [(13, Q.nC, q1, als z 0 0), (15, Q.nC, q2, als z 0 0), (17, Q.nC, q3, bx 0 0 0 0 1), (12, Q.nC, q, .inr (1, [.ref q1, .ref q2, .int 0, .int 0, .int 0, .ref q3]))] k i = ad k i := fun k i hu => aups_n _ (hni k i hu)
  have hI : ∀ k i, used Q.nC Q.nS Q.nP k i → rups I [(13, Q.nC, q1, als z 0 0), (15, Q.nC, q2, als z 0 0), (17, Q.nC, q3, bx 0 0 0 0 1), (12, Q.nC, q, .inr (1, [.ref q1, .ref q2, .int 0, .int 0, .int 0, .ref q3]))] k i = I k i := fun k i hu => rups_n _ (hni k i hu)
  have hmx : aups (mix ad dd) [(13, Q.nC, q1, als z 0 0), (15, Q.nC, q2, als z 0 0), (17, Q.nC, q3, bx 0 0 0 0 1), (12, Q.nC, q, .inr (1, [.ref q1, .ref q2, .int 0, .int 0, .int 0, .ref q3]))] = mix (aups ad [(13, Q.nC, q1, als z 0 0), (15, Q.nC, q2, als z 0 0), (17, Q.nC, q3, bx 0 0 0 0 1), (12, Q.nC, q, .inr (1, [.ref q1, .ref q2, .int 0, .int 0, .int 0, .ref q3]))]) dd := mix_aups _ (by simp)
  rw [gl_end]
  refine ⟨aups ad [(13, Q.nC, q1, als z 0 0), (15, Q.nC, q2, als z 0 0), (17, Q.nC, q3, bx 0 0 0 0 1), (12, Q.nC, q, .inr (1, [.ref q1, .ref q2, .int 0, .int 0, .int 0, .ref q3]))], by simp [aups, aup], hA, dd, rups I [(13, Q.nC, q1, als z 0 0), (15, Q.nC, q2, als z 0 0), (17, Q.nC, q3, bx 0 0 0 0 1), (12, Q.nC, q, .inr (1, [.ref q1, .ref q2, .int 0, .int 0, .int 0, .ref q3]))], hmx ▸ hR2, ?_, ?_, ?_, ?_, ?_, ?_⟩
  · refine hC.agree hT hI (fun k i hu => ?_)
    unfold mix
    rw [hA k i hu]
  · exact hM.agree (fun k hk => hI k 0 ⟨by omega, by omega, by omega⟩) (fun k hk => by unfold mix; rw [hA k 0 ⟨by omega, by omega, by omega⟩])
  · simp [rups, rup, aups, aup, mix]; rfl
  · exact ⟨0, z, by simp [rups, rup]; rfl, Or.inl ⟨rfl, rfl⟩⟩
  · exact ⟨0, z, by simp [rups, rup]; rfl, Or.inl ⟨rfl, rfl⟩⟩
  · simp [rups, rup]
def HSS (z : Nat) (ad : gA) (Q : CS) (N : MS) (r : ShR) (M : gH) : Prop := ∃ (dd : gA) (I : gI), Rp I (mix ad dd) M ∧ CQ z (mix ad dd) Q.L Q.nC Q.nS Q.nP Q.ce Q.sh Q.pl Q.fl Q.sb I ∧ MQm (mix ad dd) N I ∧ I 18 Q.nS = some (shO (mix ad dd) Q.nS r) ∧ I 19 Q.nS = some (al 24 r.xs) ∧ I 20 Q.nS = some (al 24 r.ys) ∧ I 21 Q.nS = some (BxR.e r.bx) ∧ I 22 Q.nS = some (ai 8 r.fi) ∧ I 23 Q.nS = some (ai 8 r.st)
theorem HS.newShape {z : Nat} {ad : gA} {Q : CS} {N : MS} {M : gH} (hS : HS z ad Q N M) (hT : WTQ Q) (cell : Nat) {layer : Int32} {w : Int64} {ends : Int32} {q q1 q2 q3 q4 q5 : Nat} (hq : M q = none) (hF : Fr (gup M q (.inr (4, [.int 0, .long 0, .int 0, .null, .null, .int 0, .int 0, .null, .null, .null]))) [(q1, al 24 (fun _ => 0)), (q2, al 24 (fun _ => 0)), (q3, bx 0 0 0 0 1), (q4, ai 8 (fun _ => 0)), (q5, ai 8 (fun _ => 0))]) : ∃ ad' : gA, ad' 18 Q.nS = q ∧ (∀ k i, used Q.nC Q.nS Q.nP k i → ad' k i = ad k i) ∧ HSS z ad' Q N (cell, layer, w, ends, fun _ => 0, fun _ => 0, 0, 0, (0, 0, 0, 0, 1), fun _ => 0, fun _ => 0) (gup (gl (gup M q (.inr (4, [.int 0, .long 0, .int 0, .null, .null, .int 0, .int 0, .null, .null, .null]))) [(q1, al 24 (fun _ => 0)), (q2, al 24 (fun _ => 0)), (q3, bx 0 0 0 0 1), (q4, ai 8 (fun _ => 0)), (q5, ai 8 (fun _ => 0))]) q (.inr (4, [.int layer, .long w, .int ends, .ref q1, .ref q2, .int 0, .int 0, .ref q3, .ref q4, .ref q5]))) := by
  obtain ⟨dd, I, hR, hC, hM⟩ := hS
  have hR2 := hR.many [(19, Q.nS, q1, al 24 (fun _ => 0)), (20, Q.nS, q2, al 24 (fun _ => 0)), (21, Q.nS, q3, bx 0 0 0 0 1), (22, Q.nS, q4, ai 8 (fun _ => 0)), (23, Q.nS, q5, ai 8 (fun _ => 0)), (18, Q.nS, q, .inr (4, [.int layer, .long w, .int ends, .ref q1, .ref q2, .int 0, .int 0, .ref q3, .ref q4, .ref q5]))] (Fr_move (o' := .inr (4, [.int layer, .long w, .int ends, .ref q1, .ref q2, .int 0, .int 0, .ref q3, .ref q4, .ref q5])) hq hF)
  have hni : ∀ k i, used Q.nC Q.nS Q.nP k i → ∀ t ∈ ([(19, Q.nS, q1, al 24 (fun _ => 0)), (20, Q.nS, q2, al 24 (fun _ => 0)), (21, Q.nS, q3, bx 0 0 0 0 1), (22, Q.nS, q4, ai 8 (fun _ => 0)), (23, Q.nS, q5, ai 8 (fun _ => 0)), (18, Q.nS, q, .inr (4, [.int layer, .long w, .int ends, .ref q1, .ref q2, .int 0, .int 0, .ref q3, .ref q4, .ref q5]))] : List (Nat × Nat × Nat × gE)), ¬ (k = t.1 ∧ i = t.2.1) := by
    intro k i hu t ht
    simp only [List.mem_cons, List.not_mem_nil, or_false] at ht
    unfold used at hu
    rcases ht with rfl | rfl | rfl | rfl | rfl | rfl <;> intro w <;> obtain ⟨w1, w2⟩ := w <;> simp only at w1 w2 <;> omega
  have hA : ∀ k i, used Q.nC Q.nS Q.nP k i → aups ad [(19, Q.nS, q1, al 24 (fun _ => 0)), (20, Q.nS, q2, al 24 (fun _ => 0)), (21, Q.nS, q3, bx 0 0 0 0 1), (22, Q.nS, q4, ai 8 (fun _ => 0)), (23, Q.nS, q5, ai 8 (fun _ => 0)), (18, Q.nS, q, .inr (4, [.int layer, .long w, .int ends, .ref q1, .ref q2, .int 0, .int 0, .ref q3, .ref q4, .ref q5]))] k i = ad k i := fun k i hu => aups_n _ (hni k i hu)
  have hI : ∀ k i, used Q.nC Q.nS Q.nP k i → rups I [(19, Q.nS, q1, al 24 (fun _ => 0)), (20, Q.nS, q2, al 24 (fun _ => 0)), (21, Q.nS, q3, bx 0 0 0 0 1), (22, Q.nS, q4, ai 8 (fun _ => 0)), (23, Q.nS, q5, ai 8 (fun _ => 0)), (18, Q.nS, q, .inr (4, [.int layer, .long w, .int ends, .ref q1, .ref q2, .int 0, .int 0, .ref q3, .ref q4, .ref q5]))] k i = I k i := fun k i hu => rups_n _ (hni k i hu)
  have hmx : aups (mix ad dd) [(19, Q.nS, q1, al 24 (fun _ => 0)), (20, Q.nS, q2, al 24 (fun _ => 0)), (21, Q.nS, q3, bx 0 0 0 0 1), (22, Q.nS, q4, ai 8 (fun _ => 0)), (23, Q.nS, q5, ai 8 (fun _ => 0)), (18, Q.nS, q, .inr (4, [.int layer, .long w, .int ends, .ref q1, .ref q2, .int 0, .int 0, .ref q3, .ref q4, .ref q5]))] = mix (aups ad [(19, Q.nS, q1, al 24 (fun _ => 0)), (20, Q.nS, q2, al 24 (fun _ => 0)), (21, Q.nS, q3, bx 0 0 0 0 1), (22, Q.nS, q4, ai 8 (fun _ => 0)), (23, Q.nS, q5, ai 8 (fun _ => 0)), (18, Q.nS, q, .inr (4, [.int layer, .long w, .int ends, .ref q1, .ref q2, .int 0, .int 0, .ref q3, .ref q4, .ref q5]))]) dd := mix_aups _ (by simp)
  rw [gl_end]
  refine ⟨aups ad [(19, Q.nS, q1, al 24 (fun _ => 0)), (20, Q.nS, q2, al 24 (fun _ => 0)), (21, Q.nS, q3, bx 0 0 0 0 1), (22, Q.nS, q4, ai 8 (fun _ => 0)), (23, Q.nS, q5, ai 8 (fun _ => 0)), (18, Q.nS, q, .inr (4, [.int layer, .long w, .int ends, .ref q1, .ref q2, .int 0, .int 0, .ref q3, .ref q4, .ref q5]))], by simp [aups, aup], hA, dd, rups I [(19, Q.nS, q1, al 24 (fun _ => 0)), (20, Q.nS, q2, al 24 (fun _ => 0)), (21, Q.nS, q3, bx 0 0 0 0 1), (22, Q.nS, q4, ai 8 (fun _ => 0)), (23, Q.nS, q5, ai 8 (fun _ => 0)), (18, Q.nS, q, .inr (4, [.int layer, .long w, .int ends, .ref q1, .ref q2, .int 0, .int 0, .ref q3, .ref q4, .ref q5]))], hmx ▸ hR2, ?_, ?_, ?_, ?_, ?_, ?_, ?_, ?_⟩
  · refine hC.agree hT hI (fun k i hu => ?_)
    unfold mix
    rw [hA k i hu]
  · exact hM.agree (fun k hk => hI k 0 ⟨by omega, by omega, by omega⟩) (fun k hk => by unfold mix; rw [hA k 0 ⟨by omega, by omega, by omega⟩])
  · simp [rups, rup, aups, aup, mix]; rfl
  · simp [rups, rup]
  · simp [rups, rup]
  · simp [rups, rup]
  · simp [rups, rup]
  · simp [rups, rup]
def HSP (z : Nat) (ad : gA) (Q : CS) (N : MS) (r : PlR) (M : gH) : Prop := ∃ (dd : gA) (I : gI), Rp I (mix ad dd) M ∧ CQ z (mix ad dd) Q.L Q.nC Q.nS Q.nP Q.ce Q.sh Q.pl Q.fl Q.sb I ∧ MQm (mix ad dd) N I ∧ I 24 Q.nP = some (plO (mix ad dd) Q.nP r) ∧ I 25 Q.nP = some (BxR.e r.bx)
theorem HS.newPlace {z : Nat} {ad : gA} {Q : CS} {N : MS} {M : gH} (hS : HS z ad Q N M) (hT : WTQ Q) (cell : Nat) {of : Nat} {x y : Int64} {turn : Nat} {q q1 : Nat} (hq : M q = none) (hF : Fr (gup M q (.inr (3, [.null, .long 0, .long 0, .int 0, .null, .int 0, .int 0, .long 0, .long 0]))) [(q1, bx 0 0 0 0 1)]) : ∃ ad' : gA, ad' 24 Q.nP = q ∧ (∀ k i, used Q.nC Q.nS Q.nP k i → ad' k i = ad k i) ∧ HSP z ad' Q N (cell, of, x, y, turn, (0, 0, 0, 0, 1), 1, 1, 0, 0) (gup (gl (gup M q (.inr (3, [.null, .long 0, .long 0, .int 0, .null, .int 0, .int 0, .long 0, .long 0]))) [(q1, bx 0 0 0 0 1)]) q (.inr (3, [.ref (ad 12 of), .long x, .long y, .int (nI turn), .ref q1, .int 1, .int 1, .long 0, .long 0]))) := by
  obtain ⟨dd, I, hR, hC, hM⟩ := hS
  have hR2 := hR.many [(25, Q.nP, q1, bx 0 0 0 0 1), (24, Q.nP, q, .inr (3, [.ref (ad 12 of), .long x, .long y, .int (nI turn), .ref q1, .int 1, .int 1, .long 0, .long 0]))] (Fr_move (o' := .inr (3, [.ref (ad 12 of), .long x, .long y, .int (nI turn), .ref q1, .int 1, .int 1, .long 0, .long 0])) hq hF)
  have hni : ∀ k i, used Q.nC Q.nS Q.nP k i → ∀ t ∈ ([(25, Q.nP, q1, bx 0 0 0 0 1), (24, Q.nP, q, .inr (3, [.ref (ad 12 of), .long x, .long y, .int (nI turn), .ref q1, .int 1, .int 1, .long 0, .long 0]))] : List (Nat × Nat × Nat × gE)), ¬ (k = t.1 ∧ i = t.2.1) := by
    intro k i hu t ht
    simp only [List.mem_cons, List.not_mem_nil, or_false] at ht
    unfold used at hu
    rcases ht with rfl | rfl <;> intro w <;> obtain ⟨w1, w2⟩ := w <;> simp only at w1 w2 <;> omega
  have hA : ∀ k i, used Q.nC Q.nS Q.nP k i → aups ad [(25, Q.nP, q1, bx 0 0 0 0 1), (24, Q.nP, q, .inr (3, [.ref (ad 12 of), .long x, .long y, .int (nI turn), .ref q1, .int 1, .int 1, .long 0, .long 0]))] k i = ad k i := fun k i hu => aups_n _ (hni k i hu)
  have hI : ∀ k i, used Q.nC Q.nS Q.nP k i → rups I [(25, Q.nP, q1, bx 0 0 0 0 1), (24, Q.nP, q, .inr (3, [.ref (ad 12 of), .long x, .long y, .int (nI turn), .ref q1, .int 1, .int 1, .long 0, .long 0]))] k i = I k i := fun k i hu => rups_n _ (hni k i hu)
  have hmx : aups (mix ad dd) [(25, Q.nP, q1, bx 0 0 0 0 1), (24, Q.nP, q, .inr (3, [.ref (ad 12 of), .long x, .long y, .int (nI turn), .ref q1, .int 1, .int 1, .long 0, .long 0]))] = mix (aups ad [(25, Q.nP, q1, bx 0 0 0 0 1), (24, Q.nP, q, .inr (3, [.ref (ad 12 of), .long x, .long y, .int (nI turn), .ref q1, .int 1, .int 1, .long 0, .long 0]))]) dd := mix_aups _ (by simp)
  rw [gl_end]
  refine ⟨aups ad [(25, Q.nP, q1, bx 0 0 0 0 1), (24, Q.nP, q, .inr (3, [.ref (ad 12 of), .long x, .long y, .int (nI turn), .ref q1, .int 1, .int 1, .long 0, .long 0]))], by simp [aups, aup], hA, dd, rups I [(25, Q.nP, q1, bx 0 0 0 0 1), (24, Q.nP, q, .inr (3, [.ref (ad 12 of), .long x, .long y, .int (nI turn), .ref q1, .int 1, .int 1, .long 0, .long 0]))], hmx ▸ hR2, ?_, ?_, ?_, ?_⟩
  · refine hC.agree hT hI (fun k i hu => ?_)
    unfold mix
    rw [hA k i hu]
  · exact hM.agree (fun k hk => hI k 0 ⟨by omega, by omega, by omega⟩) (fun k hk => by unfold mix; rw [hA k 0 ⟨by omega, by omega, by omega⟩])
  · simp [rups, rup, aups, aup, mix]; rfl
  · simp [rups, rup]
section ADDS
variable {l : Launch} {D : gD} {s0 : State} {z : Nat} {ad : gA} {Q : CS} {N : MS} {M : gH}
theorem range_map {f : Nat → Nat} {n : Nat} : (List.range n).map f ++ [f n] = (List.range (n + 1)).map f := by
  rw [List.range_succ, List.map_append]
  rfl
theorem k_addC (h0 : g_0 l D s0) (hz : gz s0 z) (hMz : M z = none) {r : CeR} (hC : HSC z ad Q N r M) (hb : Q.nC < 200) : Ct l D s0 y_AL_add_0 (Cond.code y_AL_add_0 b_AL_add_0 2 (some .boolean)) (rk 6 1 1000) [.ref (ad 1 0), .ref (ad 12 Q.nC)] M (fS (some (.int 1)) (HS z ad ((Q.set_nC (Q.nC + 1)).set_ce (va_up Q.ce Q.nC r)) N)) := by
  obtain ⟨dd, I, hR, hQ, hM, n1, n2, n3, n4⟩ := hC
  obtain ⟨d, hLL, hd⟩ := hQ.lc.LL hR
  have hcell := hQ.lc
  obtain ⟨mc0, d0, hl1, -⟩ := hcell
  refine Ct.mono (k_AL_add h0 hz hMz hLL (by simp; omega) (hR.at n1) gFit13 (by decide) (fun x hx => ?_)) (fun r' M' hr => ⟨hr.1, ?_⟩)
  · obtain ⟨c, hc, rfl⟩ := List.mem_map.mp hx
    exact ⟨_, _, hR.at (hQ.ce c (List.mem_range.mp hc)), gFit13, by decide⟩
  · obtain ⟨d', el, ed, hR', hRL'⟩ := hR.add hMz hl1 hd (by decide) hr.2
    rw [show aup (mix ad dd) 2 0 d' = mix ad (aup dd 2 0 d') from mix_dd (Or.inl rfl)] at hR' hRL'
    rw [show (List.range Q.nC).map (mix ad dd 12) ++ [ad 12 Q.nC] = (List.range (Q.nC + 1)).map (mix ad dd 12) from range_map (f := mix ad dd 12) (n := Q.nC)] at hRL'
    refine ⟨aup dd 2 0 d', _, hR', hQ.addC r n1 n2 n3 n4 hRL' (fun k j q1 q2 => ?_) (fun k j q => ?_), hM.agree (fun k hk => ?_) (fun k hk => ?_)⟩
    · rw [rup_n q2, rup_n q1]
    · rw [← mix_dd (Or.inl rfl), aup_n q]
    · rw [rup_n (fun q => by omega), rup_n (fun q => by omega)]
    · rw [← mix_dd (Or.inl rfl), aup_n (fun q => by omega)]
theorem k_addS (h0 : g_0 l D s0) (hz : gz s0 z) (hMz : M z = none) {r : ShR} (hC : HSS z ad Q N r M) (hb : Q.nS < 200) : Ct l D s0 y_AL_add_0 (Cond.code y_AL_add_0 b_AL_add_0 2 (some .boolean)) (rk 6 1 1000) [.ref (ad 1 1), .ref (ad 18 Q.nS)] M (fS (some (.int 1)) (HS z ad ((Q.set_nS (Q.nS + 1)).set_sh (va_up Q.sh Q.nS r)) N)) := by
  obtain ⟨dd, I, hR, hQ, hM, n1, n2, n3, n4, n5, n6⟩ := hC
  obtain ⟨d, hLL, hd⟩ := hQ.ls.LL hR
  have hcell := hQ.ls
  obtain ⟨mc0, d0, hl1, -⟩ := hcell
  refine Ct.mono (k_AL_add h0 hz hMz hLL (by simp; omega) (hR.at n1) gFit43 (by decide) (fun x hx => ?_)) (fun r' M' hr => ⟨hr.1, ?_⟩)
  · obtain ⟨c, hc, rfl⟩ := List.mem_map.mp hx
    exact ⟨_, _, hR.at (hQ.sh c (List.mem_range.mp hc)), gFit43, by decide⟩
  · obtain ⟨d', el, ed, hR', hRL'⟩ := hR.add hMz hl1 hd (by decide) hr.2
    rw [show aup (mix ad dd) 2 1 d' = mix ad (aup dd 2 1 d') from mix_dd (Or.inl rfl)] at hR' hRL'
    rw [show (List.range Q.nS).map (mix ad dd 18) ++ [ad 18 Q.nS] = (List.range (Q.nS + 1)).map (mix ad dd 18) from range_map (f := mix ad dd 18) (n := Q.nS)] at hRL'
    refine ⟨aup dd 2 1 d', _, hR', hQ.addS r n1 n2 n3 n4 n5 n6 hRL' (fun k j q1 q2 => ?_) (fun k j q => ?_), hM.agree (fun k hk => ?_) (fun k hk => ?_)⟩
    · rw [rup_n q2, rup_n q1]
    · rw [← mix_dd (Or.inl rfl), aup_n q]
    · rw [rup_n (fun q => by omega), rup_n (fun q => by omega)]
    · rw [← mix_dd (Or.inl rfl), aup_n (fun q => by omega)]
theorem k_addP (h0 : g_0 l D s0) (hz : gz s0 z) (hMz : M z = none) {r : PlR} (hC : HSP z ad Q N r M) (hb : Q.nP < 200) : Ct l D s0 y_AL_add_0 (Cond.code y_AL_add_0 b_AL_add_0 2 (some .boolean)) (rk 6 1 1000) [.ref (ad 1 2), .ref (ad 24 Q.nP)] M (fS (some (.int 1)) (HS z ad ((Q.set_nP (Q.nP + 1)).set_pl (va_up Q.pl Q.nP r)) N)) := by
  obtain ⟨dd, I, hR, hQ, hM, n1, n2⟩ := hC
  obtain ⟨d, hLL, hd⟩ := hQ.lp.LL hR
  have hcell := hQ.lp
  obtain ⟨mc0, d0, hl1, -⟩ := hcell
  refine Ct.mono (k_AL_add h0 hz hMz hLL (by simp; omega) (hR.at n1) gFit33 (by decide) (fun x hx => ?_)) (fun r' M' hr => ⟨hr.1, ?_⟩)
  · obtain ⟨c, hc, rfl⟩ := List.mem_map.mp hx
    exact ⟨_, _, hR.at (hQ.pl c (List.mem_range.mp hc)), gFit33, by decide⟩
  · obtain ⟨d', el, ed, hR', hRL'⟩ := hR.add hMz hl1 hd (by decide) hr.2
    rw [show aup (mix ad dd) 2 2 d' = mix ad (aup dd 2 2 d') from mix_dd (Or.inl rfl)] at hR' hRL'
    rw [show (List.range Q.nP).map (mix ad dd 24) ++ [ad 24 Q.nP] = (List.range (Q.nP + 1)).map (mix ad dd 24) from range_map (f := mix ad dd 24) (n := Q.nP)] at hRL'
    refine ⟨aup dd 2 2 d', _, hR', hQ.addP r n1 n2 hRL' (fun k j q1 q2 => ?_) (fun k j q => ?_), hM.agree (fun k hk => ?_) (fun k hk => ?_)⟩
    · rw [rup_n q2, rup_n q1]
    · rw [← mix_dd (Or.inl rfl), aup_n q]
    · rw [rup_n (fun q => by omega), rup_n (fun q => by omega)]
    · rw [← mix_dd (Or.inl rfl), aup_n (fun q => by omega)]
theorem k_addCS (h0 : g_0 l D s0) (hz : gz s0 z) (hMz : M z = none) (hS : HS z ad Q N M) {c s : Nat} (hc : c < Q.nC) (hs : s < Q.nS) (hm : ∀ s ∈ (Q.ce c).ss, s < Q.nS) (hb : (Q.ce c).ss.length < 200) : Ct l D s0 y_AL_add_0 (Cond.code y_AL_add_0 b_AL_add_0 2 (some .boolean)) (rk 6 1 1000) [.ref (ad 13 c), .ref (ad 18 s)] M (fS (some (.int 1)) (HS z ad (Q.set_ce (va_up Q.ce c ((Q.ce c).set_ss ((Q.ce c).ss ++ [s])))) N)) := by
  obtain ⟨dd, I, hR, hQ, hM⟩ := hS
  obtain ⟨d, hLL, hd⟩ := (hQ.ces c hc).LL hR
  obtain ⟨mc0, d0, hl1, -⟩ := hQ.ces c hc
  refine Ct.mono (k_AL_add h0 hz hMz hLL (by simp; omega) (hR.at (hQ.sh s hs)) gFit43 (by decide) (fun x hx => ?_)) (fun r' M' hr => ⟨hr.1, ?_⟩)
  · obtain ⟨c', hc', rfl⟩ := List.mem_map.mp hx
    exact ⟨_, _, hR.at (hQ.sh c' (hm c' hc')), gFit43, by decide⟩
  · obtain ⟨d', el, ed, hR', hRL'⟩ := hR.add hMz hl1 hd (by decide) hr.2
    rw [show aup (mix ad dd) 14 c d' = mix ad (aup dd 14 c d') from mix_dd (by decide)] at hR' hRL'
    rw [show (Q.ce c).ss.map (mix ad dd 18) ++ [ad 18 s] = ((Q.ce c).ss ++ [s]).map (mix ad dd 18) by rw [List.map_append]; rfl] at hRL'
    refine ⟨aup dd 14 c d', _, hR', hQ.addCS hc _ hRL' (fun k j q1 q2 => ?_) (fun k j q => ?_), hM.agree (fun k hk => ?_) (fun k hk => ?_)⟩
    · rw [rup_n q2, rup_n q1]
    · rw [← mix_dd (by decide), aup_n q]
    · rw [rup_n (fun q => by omega), rup_n (fun q => by omega)]
    · rw [← mix_dd (by decide), aup_n (fun q => by omega)]
theorem k_addCP (h0 : g_0 l D s0) (hz : gz s0 z) (hMz : M z = none) (hS : HS z ad Q N M) {c s : Nat} (hc : c < Q.nC) (hs : s < Q.nP) (hm : ∀ s ∈ (Q.ce c).ps, s < Q.nP) (hb : (Q.ce c).ps.length < 200) : Ct l D s0 y_AL_add_0 (Cond.code y_AL_add_0 b_AL_add_0 2 (some .boolean)) (rk 6 1 1000) [.ref (ad 15 c), .ref (ad 24 s)] M (fS (some (.int 1)) (HS z ad (Q.set_ce (va_up Q.ce c ((Q.ce c).set_ps ((Q.ce c).ps ++ [s])))) N)) := by
  obtain ⟨dd, I, hR, hQ, hM⟩ := hS
  obtain ⟨d, hLL, hd⟩ := (hQ.cep c hc).LL hR
  obtain ⟨mc0, d0, hl1, -⟩ := hQ.cep c hc
  refine Ct.mono (k_AL_add h0 hz hMz hLL (by simp; omega) (hR.at (hQ.pl s hs)) gFit33 (by decide) (fun x hx => ?_)) (fun r' M' hr => ⟨hr.1, ?_⟩)
  · obtain ⟨c', hc', rfl⟩ := List.mem_map.mp hx
    exact ⟨_, _, hR.at (hQ.pl c' (hm c' hc')), gFit33, by decide⟩
  · obtain ⟨d', el, ed, hR', hRL'⟩ := hR.add hMz hl1 hd (by decide) hr.2
    rw [show aup (mix ad dd) 16 c d' = mix ad (aup dd 16 c d') from mix_dd (by decide)] at hR' hRL'
    rw [show (Q.ce c).ps.map (mix ad dd 24) ++ [ad 24 s] = ((Q.ce c).ps ++ [s]).map (mix ad dd 24) by rw [List.map_append]; rfl] at hRL'
    refine ⟨aup dd 16 c d', _, hR', hQ.addCP hc _ hRL' (fun k j q1 q2 => ?_) (fun k j q => ?_), hM.agree (fun k hk => ?_) (fun k hk => ?_)⟩
    · rw [rup_n q2, rup_n q1]
    · rw [← mix_dd (by decide), aup_n q]
    · rw [rup_n (fun q => by omega), rup_n (fun q => by omega)]
    · rw [← mix_dd (by decide), aup_n (fun q => by omega)]
end ADDS
