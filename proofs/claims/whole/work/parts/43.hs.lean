/-! The heap that holds the class and the model -/
def MQm (ad : gA) (N : MS) (I : gI) : Prop := I 30 0 = some (mdO ad N) ∧ (∀ f, mK f = 0 → I (100 + f) 0 = some (ai (mL f) (N.i f))) ∧ (∀ f, mK f = 1 → I (100 + f) 0 = some (al (mL f) (N.l f))) ∧ (∀ f, mK f = 2 → I (100 + f) 0 = some (ab (mL f) (N.i f))) ∧ I 70 0 = some (al 1 N.out)
/-- the lists' data lie anywhere -/
def mix (ad : gA) (dd : gA) : gA := fun k i => if k = 2 then dd 2 i else if k = 14 then dd 14 i else if k = 16 then dd 16 i else ad k i
theorem mix_n {ad dd : gA} {k i : Nat} (h1 : k ≠ 2) (h2 : k ≠ 14) (h3 : k ≠ 16) : mix ad dd k i = ad k i := by simp [mix, h1, h2, h3]
def HS (z : Nat) (ad : gA) (Q : CS) (N : MS) (M : gH) : Prop := ∃ (dd : gA) (I : gI), Rp I (mix ad dd) M ∧ CQ z (mix ad dd) Q.L Q.nC Q.nS Q.nP Q.ce Q.sh Q.pl Q.fl Q.sb I ∧ MQm (mix ad dd) N I
section HSs
variable {z : Nat} {ad : gA} {Q : CS} {N : MS} {M : gH} {c : Nat}
theorem HS.st (h : HS z ad Q N M) : M (ad 0 0) = some (stO ad Q.L) := by
  obtain ⟨dd, I, hR, hC, hM⟩ := h
  exact hR.at hC.st
theorem HS.lc (h : HS z ad Q N M) : ∃ (mc : Int32) (d : Nat), M (ad 1 0) = some (als d (nI ((List.range Q.nC).map (ad 12)).length) mc) ∧ (((List.range Q.nC).map (ad 12)) ≠ [] → ∃ (cap : Nat) (g : Nat → Option Nat), M d = some (ao cap g) ∧ ((List.range Q.nC).map (ad 12)).length ≤ cap ∧ cap ≤ 2 * ((List.range Q.nC).map (ad 12)).length + 10 ∧ ∀ (j : Nat) (h : j < ((List.range Q.nC).map (ad 12)).length), g j = some ((List.range Q.nC).map (ad 12))[j]) := by
  obtain ⟨dd, I, hR, hC, hM⟩ := h
  obtain ⟨mc, d, q1, q2⟩ := hC.lc
  refine ⟨mc, d, hR.at q1, fun hne => ?_⟩
  rcases q2 with q2 | ⟨cap, g, q3, q4, q5, q6, q7, q8, q9⟩
  · exact absurd q2.1 hne
  · exact ⟨cap, g, by rw [q3]; exact hR.at q4, q5, q6, q9⟩
theorem HS.ls (h : HS z ad Q N M) : ∃ (mc : Int32) (d : Nat), M (ad 1 1) = some (als d (nI ((List.range Q.nS).map (ad 18)).length) mc) ∧ (((List.range Q.nS).map (ad 18)) ≠ [] → ∃ (cap : Nat) (g : Nat → Option Nat), M d = some (ao cap g) ∧ ((List.range Q.nS).map (ad 18)).length ≤ cap ∧ cap ≤ 2 * ((List.range Q.nS).map (ad 18)).length + 10 ∧ ∀ (j : Nat) (h : j < ((List.range Q.nS).map (ad 18)).length), g j = some ((List.range Q.nS).map (ad 18))[j]) := by
  obtain ⟨dd, I, hR, hC, hM⟩ := h
  obtain ⟨mc, d, q1, q2⟩ := hC.ls
  refine ⟨mc, d, hR.at q1, fun hne => ?_⟩
  rcases q2 with q2 | ⟨cap, g, q3, q4, q5, q6, q7, q8, q9⟩
  · exact absurd q2.1 hne
  · exact ⟨cap, g, by rw [q3]; exact hR.at q4, q5, q6, q9⟩
theorem HS.lp (h : HS z ad Q N M) : ∃ (mc : Int32) (d : Nat), M (ad 1 2) = some (als d (nI ((List.range Q.nP).map (ad 24)).length) mc) ∧ (((List.range Q.nP).map (ad 24)) ≠ [] → ∃ (cap : Nat) (g : Nat → Option Nat), M d = some (ao cap g) ∧ ((List.range Q.nP).map (ad 24)).length ≤ cap ∧ cap ≤ 2 * ((List.range Q.nP).map (ad 24)).length + 10 ∧ ∀ (j : Nat) (h : j < ((List.range Q.nP).map (ad 24)).length), g j = some ((List.range Q.nP).map (ad 24))[j]) := by
  obtain ⟨dd, I, hR, hC, hM⟩ := h
  obtain ⟨mc, d, q1, q2⟩ := hC.lp
  refine ⟨mc, d, hR.at q1, fun hne => ?_⟩
  rcases q2 with q2 | ⟨cap, g, q3, q4, q5, q6, q7, q8, q9⟩
  · exact absurd q2.1 hne
  · exact ⟨cap, g, by rw [q3]; exact hR.at q4, q5, q6, q9⟩
theorem HS.ce (h : HS z ad Q N M) (hc : c < Q.nC) : M (ad 12 c) = some (ceO ad c (Q.ce c)) := by
  obtain ⟨dd, I, hR, hC, hM⟩ := h
  exact hR.at (hC.ce c hc)
theorem HS.ces (h : HS z ad Q N M) (hc : c < Q.nC) : ∃ (mc : Int32) (d : Nat), M (ad 13 c) = some (als d (nI ((Q.ce c).ss.map (ad 18)).length) mc) ∧ (((Q.ce c).ss.map (ad 18)) ≠ [] → ∃ (cap : Nat) (g : Nat → Option Nat), M d = some (ao cap g) ∧ ((Q.ce c).ss.map (ad 18)).length ≤ cap ∧ cap ≤ 2 * ((Q.ce c).ss.map (ad 18)).length + 10 ∧ ∀ (j : Nat) (h : j < ((Q.ce c).ss.map (ad 18)).length), g j = some ((Q.ce c).ss.map (ad 18))[j]) := by
  obtain ⟨dd, I, hR, hC, hM⟩ := h
  obtain ⟨mc, d, q1, q2⟩ := hC.ces c hc
  refine ⟨mc, d, hR.at q1, fun hne => ?_⟩
  rcases q2 with q2 | ⟨cap, g, q3, q4, q5, q6, q7, q8, q9⟩
  · exact absurd q2.1 hne
  · exact ⟨cap, g, by rw [q3]; exact hR.at q4, q5, q6, q9⟩
theorem HS.cep (h : HS z ad Q N M) (hc : c < Q.nC) : ∃ (mc : Int32) (d : Nat), M (ad 15 c) = some (als d (nI ((Q.ce c).ps.map (ad 24)).length) mc) ∧ (((Q.ce c).ps.map (ad 24)) ≠ [] → ∃ (cap : Nat) (g : Nat → Option Nat), M d = some (ao cap g) ∧ ((Q.ce c).ps.map (ad 24)).length ≤ cap ∧ cap ≤ 2 * ((Q.ce c).ps.map (ad 24)).length + 10 ∧ ∀ (j : Nat) (h : j < ((Q.ce c).ps.map (ad 24)).length), g j = some ((Q.ce c).ps.map (ad 24))[j]) := by
  obtain ⟨dd, I, hR, hC, hM⟩ := h
  obtain ⟨mc, d, q1, q2⟩ := hC.cep c hc
  refine ⟨mc, d, hR.at q1, fun hne => ?_⟩
  rcases q2 with q2 | ⟨cap, g, q3, q4, q5, q6, q7, q8, q9⟩
  · exact absurd q2.1 hne
  · exact ⟨cap, g, by rw [q3]; exact hR.at q4, q5, q6, q9⟩
theorem HS.ceb (h : HS z ad Q N M) (hc : c < Q.nC) : M (ad 17 c) = some (Q.ce c).bx.e := by
  obtain ⟨dd, I, hR, hC, hM⟩ := h
  exact hR.at (hC.ceb c hc)
theorem HS.sh (h : HS z ad Q N M) (hc : c < Q.nS) : M (ad 18 c) = some (shO ad c (Q.sh c)) := by
  obtain ⟨dd, I, hR, hC, hM⟩ := h
  exact hR.at (hC.sh c hc)
theorem HS.shx (h : HS z ad Q N M) (hc : c < Q.nS) : M (ad 19 c) = some (al 24 (Q.sh c).xs) := by
  obtain ⟨dd, I, hR, hC, hM⟩ := h
  exact hR.at (hC.shx c hc)
theorem HS.shy (h : HS z ad Q N M) (hc : c < Q.nS) : M (ad 20 c) = some (al 24 (Q.sh c).ys) := by
  obtain ⟨dd, I, hR, hC, hM⟩ := h
  exact hR.at (hC.shy c hc)
theorem HS.shb (h : HS z ad Q N M) (hc : c < Q.nS) : M (ad 21 c) = some (Q.sh c).bx.e := by
  obtain ⟨dd, I, hR, hC, hM⟩ := h
  exact hR.at (hC.shb c hc)
theorem HS.shf (h : HS z ad Q N M) (hc : c < Q.nS) : M (ad 22 c) = some (ai 8 (Q.sh c).fi) := by
  obtain ⟨dd, I, hR, hC, hM⟩ := h
  exact hR.at (hC.shf c hc)
theorem HS.sht (h : HS z ad Q N M) (hc : c < Q.nS) : M (ad 23 c) = some (ai 8 (Q.sh c).st) := by
  obtain ⟨dd, I, hR, hC, hM⟩ := h
  exact hR.at (hC.sht c hc)
theorem HS.pl (h : HS z ad Q N M) (hc : c < Q.nP) : M (ad 24 c) = some (plO ad c (Q.pl c)) := by
  obtain ⟨dd, I, hR, hC, hM⟩ := h
  exact hR.at (hC.pl c hc)
theorem HS.plb (h : HS z ad Q N M) (hc : c < Q.nP) : M (ad 25 c) = some (Q.pl c).bx.e := by
  obtain ⟨dd, I, hR, hC, hM⟩ := h
  exact hR.at (hC.plb c hc)
theorem HS.fl (h : HS z ad Q N M) (hc : c < 3) : M (ad 3 c) = some (flO ad c (Q.fl c)) := by
  obtain ⟨dd, I, hR, hC, hM⟩ := h
  exact hR.at (hC.fl c hc)
theorem HS.fls (h : HS z ad Q N M) (hc : c < 3) : M (ad 4 c) = some (ash 3000 (fun j => ((Q.fl c).sh j).map (ad 18))) := by
  obtain ⟨dd, I, hR, hC, hM⟩ := h
  exact hR.at (hC.fls c hc)
theorem HS.flc (h : HS z ad Q N M) (hc : c < 3) : M (ad 5 c) = some (ain 3000 (Q.fl c).cor) := by
  obtain ⟨dd, I, hR, hC, hM⟩ := h
  exact hR.at (hC.flc c hc)
theorem HS.flt (h : HS z ad Q N M) (hc : c < 3) : M (ad 6 c) = some (ain 3000 (Q.fl c).tu) := by
  obtain ⟨dd, I, hR, hC, hM⟩ := h
  exact hR.at (hC.flt c hc)
theorem HS.flx (h : HS z ad Q N M) (hc : c < 3) : M (ad 7 c) = some (al 3000 (Q.fl c).xs) := by
  obtain ⟨dd, I, hR, hC, hM⟩ := h
  exact hR.at (hC.flx c hc)
theorem HS.fly (h : HS z ad Q N M) (hc : c < 3) : M (ad 8 c) = some (al 3000 (Q.fl c).ys) := by
  obtain ⟨dd, I, hR, hC, hM⟩ := h
  exact hR.at (hC.fly c hc)
theorem HS.flo (h : HS z ad Q N M) (hc : c < 3) : M (ad 9 c) = some (ain 3000 (Q.fl c).ord) := by
  obtain ⟨dd, I, hR, hC, hM⟩ := h
  exact hR.at (hC.flo c hc)
theorem HS.flp (h : HS z ad Q N M) (hc : c < 3) : M (ad 10 c) = some (ain 3000 (Q.fl c).spa) := by
  obtain ⟨dd, I, hR, hC, hM⟩ := h
  exact hR.at (hC.flp c hc)
theorem HS.sb (h : HS z ad Q N M) : M (ad 11 0) = some Q.sb.e := by
  obtain ⟨dd, I, hR, hC, hM⟩ := h
  exact hR.at hC.sb
theorem HS.lcO (h : HS z ad Q N M) : ∃ fs : List Value, M (ad 1 0) = some (.inr (7, fs)) := by
  obtain ⟨mc, d, h1, -⟩ := h.lc
  exact ⟨_, h1⟩
theorem HS.lsO (h : HS z ad Q N M) : ∃ fs : List Value, M (ad 1 1) = some (.inr (7, fs)) := by
  obtain ⟨mc, d, h1, -⟩ := h.ls
  exact ⟨_, h1⟩
theorem HS.lpO (h : HS z ad Q N M) : ∃ fs : List Value, M (ad 1 2) = some (.inr (7, fs)) := by
  obtain ⟨mc, d, h1, -⟩ := h.lp
  exact ⟨_, h1⟩
theorem HS.cesO (h : HS z ad Q N M) (hc : c < Q.nC) : ∃ fs : List Value, M (ad 13 c) = some (.inr (7, fs)) := by
  obtain ⟨mc, d, h1, -⟩ := h.ces hc
  exact ⟨_, h1⟩
theorem HS.cepO (h : HS z ad Q N M) (hc : c < Q.nC) : ∃ fs : List Value, M (ad 15 c) = some (.inr (7, fs)) := by
  obtain ⟨mc, d, h1, -⟩ := h.cep hc
  exact ⟨_, h1⟩
theorem HS.mo (h : HS z ad Q N M) : M (ad 30 0) = some (mdO ad N) := by
  obtain ⟨dd, I, hR, hC, hM⟩ := h
  exact hR.at hM.1
theorem HS.out (h : HS z ad Q N M) : M (ad 70 0) = some (al 1 N.out) := by
  obtain ⟨dd, I, hR, hC, hM⟩ := h
  exact hR.at hM.2.2.2.2
theorem HS.a3 (h : HS z ad Q N M) : M (ad 103 0) = some (ai 120 (N.i 3)) := by
  obtain ⟨dd, I, hR, hC, hM⟩ := h
  exact hR.at (hM.2.1 3 rfl)
theorem HS.a4 (h : HS z ad Q N M) : M (ad 104 0) = some (ai 120 (N.i 4)) := by
  obtain ⟨dd, I, hR, hC, hM⟩ := h
  exact hR.at (hM.2.1 4 rfl)
theorem HS.a5 (h : HS z ad Q N M) : M (ad 105 0) = some (al 120 (N.l 5)) := by
  obtain ⟨dd, I, hR, hC, hM⟩ := h
  exact hR.at (hM.2.2.1 5 rfl)
theorem HS.a6 (h : HS z ad Q N M) : M (ad 106 0) = some (ai 120 (N.i 6)) := by
  obtain ⟨dd, I, hR, hC, hM⟩ := h
  exact hR.at (hM.2.1 6 rfl)
theorem HS.a7 (h : HS z ad Q N M) : M (ad 107 0) = some (ai 120 (N.i 7)) := by
  obtain ⟨dd, I, hR, hC, hM⟩ := h
  exact hR.at (hM.2.1 7 rfl)
theorem HS.a8 (h : HS z ad Q N M) : M (ad 108 0) = some (ab 120 (N.i 8)) := by
  obtain ⟨dd, I, hR, hC, hM⟩ := h
  exact hR.at (hM.2.2.2.1 8 rfl)
theorem HS.a9 (h : HS z ad Q N M) : M (ad 109 0) = some (al 2880 (N.l 9)) := by
  obtain ⟨dd, I, hR, hC, hM⟩ := h
  exact hR.at (hM.2.2.1 9 rfl)
theorem HS.a10 (h : HS z ad Q N M) : M (ad 110 0) = some (al 2880 (N.l 10)) := by
  obtain ⟨dd, I, hR, hC, hM⟩ := h
  exact hR.at (hM.2.2.1 10 rfl)
theorem HS.a12 (h : HS z ad Q N M) : M (ad 112 0) = some (ai 80 (N.i 12)) := by
  obtain ⟨dd, I, hR, hC, hM⟩ := h
  exact hR.at (hM.2.1 12 rfl)
theorem HS.a13 (h : HS z ad Q N M) : M (ad 113 0) = some (ai 80 (N.i 13)) := by
  obtain ⟨dd, I, hR, hC, hM⟩ := h
  exact hR.at (hM.2.1 13 rfl)
theorem HS.a14 (h : HS z ad Q N M) : M (ad 114 0) = some (al 80 (N.l 14)) := by
  obtain ⟨dd, I, hR, hC, hM⟩ := h
  exact hR.at (hM.2.2.1 14 rfl)
theorem HS.a15 (h : HS z ad Q N M) : M (ad 115 0) = some (al 80 (N.l 15)) := by
  obtain ⟨dd, I, hR, hC, hM⟩ := h
  exact hR.at (hM.2.2.1 15 rfl)
theorem HS.a16 (h : HS z ad Q N M) : M (ad 116 0) = some (ai 80 (N.i 16)) := by
  obtain ⟨dd, I, hR, hC, hM⟩ := h
  exact hR.at (hM.2.1 16 rfl)
theorem HS.a17 (h : HS z ad Q N M) : M (ad 117 0) = some (ai 80 (N.i 17)) := by
  obtain ⟨dd, I, hR, hC, hM⟩ := h
  exact hR.at (hM.2.1 17 rfl)
theorem HS.a18 (h : HS z ad Q N M) : M (ad 118 0) = some (ai 80 (N.i 18)) := by
  obtain ⟨dd, I, hR, hC, hM⟩ := h
  exact hR.at (hM.2.1 18 rfl)
theorem HS.a19 (h : HS z ad Q N M) : M (ad 119 0) = some (al 80 (N.l 19)) := by
  obtain ⟨dd, I, hR, hC, hM⟩ := h
  exact hR.at (hM.2.2.1 19 rfl)
theorem HS.a20 (h : HS z ad Q N M) : M (ad 120 0) = some (al 80 (N.l 20)) := by
  obtain ⟨dd, I, hR, hC, hM⟩ := h
  exact hR.at (hM.2.2.1 20 rfl)
theorem HS.a22 (h : HS z ad Q N M) : M (ad 122 0) = some (al 216000 (N.l 22)) := by
  obtain ⟨dd, I, hR, hC, hM⟩ := h
  exact hR.at (hM.2.2.1 22 rfl)
theorem HS.a23 (h : HS z ad Q N M) : M (ad 123 0) = some (al 216000 (N.l 23)) := by
  obtain ⟨dd, I, hR, hC, hM⟩ := h
  exact hR.at (hM.2.2.1 23 rfl)
theorem HS.a24 (h : HS z ad Q N M) : M (ad 124 0) = some (ai 9000 (N.i 24)) := by
  obtain ⟨dd, I, hR, hC, hM⟩ := h
  exact hR.at (hM.2.1 24 rfl)
theorem HS.a25 (h : HS z ad Q N M) : M (ad 125 0) = some (ai 9000 (N.i 25)) := by
  obtain ⟨dd, I, hR, hC, hM⟩ := h
  exact hR.at (hM.2.1 25 rfl)
theorem HS.a27 (h : HS z ad Q N M) : M (ad 127 0) = some (ab 20 (N.i 27)) := by
  obtain ⟨dd, I, hR, hC, hM⟩ := h
  exact hR.at (hM.2.2.2.1 27 rfl)
theorem HS.a28 (h : HS z ad Q N M) : M (ad 128 0) = some (al 20 (N.l 28)) := by
  obtain ⟨dd, I, hR, hC, hM⟩ := h
  exact hR.at (hM.2.2.1 28 rfl)
theorem HS.a29 (h : HS z ad Q N M) : M (ad 129 0) = some (ai 22 (N.i 29)) := by
  obtain ⟨dd, I, hR, hC, hM⟩ := h
  exact hR.at (hM.2.1 29 rfl)
theorem HS.a30 (h : HS z ad Q N M) : M (ad 130 0) = some (ai 22 (N.i 30)) := by
  obtain ⟨dd, I, hR, hC, hM⟩ := h
  exact hR.at (hM.2.1 30 rfl)
theorem HS.a31 (h : HS z ad Q N M) : M (ad 131 0) = some (ai 22 (N.i 31)) := by
  obtain ⟨dd, I, hR, hC, hM⟩ := h
  exact hR.at (hM.2.1 31 rfl)
theorem HS.a32 (h : HS z ad Q N M) : M (ad 132 0) = some (ai 22 (N.i 32)) := by
  obtain ⟨dd, I, hR, hC, hM⟩ := h
  exact hR.at (hM.2.1 32 rfl)
theorem HS.a41 (h : HS z ad Q N M) : M (ad 141 0) = some (al 80 (N.l 41)) := by
  obtain ⟨dd, I, hR, hC, hM⟩ := h
  exact hR.at (hM.2.2.1 41 rfl)
theorem HS.a42 (h : HS z ad Q N M) : M (ad 142 0) = some (ab 20 (N.i 42)) := by
  obtain ⟨dd, I, hR, hC, hM⟩ := h
  exact hR.at (hM.2.2.2.1 42 rfl)
theorem HS.a43 (h : HS z ad Q N M) : M (ad 143 0) = some (ab 3000 (N.i 43)) := by
  obtain ⟨dd, I, hR, hC, hM⟩ := h
  exact hR.at (hM.2.2.2.1 43 rfl)
theorem MQm.cong {I I' : gI} (h : MQm ad N I) (h1 : ∀ k, 30 ≤ k → I' k 0 = I k 0) : MQm ad N I' := ⟨(h1 _ (by omega)).trans h.1, fun f hf => (h1 _ (by omega)).trans (h.2.1 f hf), fun f hf => (h1 _ (by omega)).trans (h.2.2.1 f hf), fun f hf => (h1 _ (by omega)).trans (h.2.2.2.1 f hf), (h1 _ (by omega)).trans h.2.2.2.2⟩
theorem HS.set_ce (h : HS z ad Q N M) {i : Nat} (hi : i < Q.nC) (r : CeR) (h1 : r.ss = (Q.ce i).ss) (h2 : r.ps = (Q.ce i).ps) (h3 : r.bx = (Q.ce i).bx) : HS z ad (Q.set_ce (va_up Q.ce i r)) N (gup M (ad 12 i) (ceO ad i r)) := by
  obtain ⟨dd, I, hR, hC, hM⟩ := h
  exact ⟨dd, _, hR.up (hC.ce i hi) _, hC.set_ce hi r h1 h2 h3, hM.cong (fun k hk => rup_n (fun q => by omega))⟩
theorem HS.set_ceb (h : HS z ad Q N M) {i : Nat} (hi : i < Q.nC) (b : BxR) : HS z ad (Q.set_ce (va_up Q.ce i ((Q.ce i).set_bx b))) N (gup M (ad 17 i) (BxR.e b)) := by
  obtain ⟨dd, I, hR, hC, hM⟩ := h
  exact ⟨dd, _, hR.up (hC.ceb i hi) _, hC.set_ceb hi b, hM.cong (fun k hk => rup_n (fun q => by omega))⟩
theorem HS.set_sh (h : HS z ad Q N M) {i : Nat} (hi : i < Q.nS) (r : ShR) (h1 : r.xs = (Q.sh i).xs) (h2 : r.ys = (Q.sh i).ys) (h3 : r.bx = (Q.sh i).bx) (h4 : r.fi = (Q.sh i).fi) (h5 : r.st = (Q.sh i).st) : HS z ad (Q.set_sh (va_up Q.sh i r)) N (gup M (ad 18 i) (shO ad i r)) := by
  obtain ⟨dd, I, hR, hC, hM⟩ := h
  exact ⟨dd, _, hR.up (hC.sh i hi) _, hC.set_sh hi r h1 h2 h3 h4 h5, hM.cong (fun k hk => rup_n (fun q => by omega))⟩
theorem HS.set_shx (h : HS z ad Q N M) {i : Nat} (hi : i < Q.nS) (v : Nat → Int64) : HS z ad (Q.set_sh (va_up Q.sh i ((Q.sh i).set_xs v))) N (gup M (ad 19 i) (al 24 v)) := by
  obtain ⟨dd, I, hR, hC, hM⟩ := h
  exact ⟨dd, _, hR.up (hC.shx i hi) _, hC.set_shx hi v, hM.cong (fun k hk => rup_n (fun q => by omega))⟩
theorem HS.set_shy (h : HS z ad Q N M) {i : Nat} (hi : i < Q.nS) (v : Nat → Int64) : HS z ad (Q.set_sh (va_up Q.sh i ((Q.sh i).set_ys v))) N (gup M (ad 20 i) (al 24 v)) := by
  obtain ⟨dd, I, hR, hC, hM⟩ := h
  exact ⟨dd, _, hR.up (hC.shy i hi) _, hC.set_shy hi v, hM.cong (fun k hk => rup_n (fun q => by omega))⟩
theorem HS.set_shb (h : HS z ad Q N M) {i : Nat} (hi : i < Q.nS) (v : BxR) : HS z ad (Q.set_sh (va_up Q.sh i ((Q.sh i).set_bx v))) N (gup M (ad 21 i) (BxR.e v)) := by
  obtain ⟨dd, I, hR, hC, hM⟩ := h
  exact ⟨dd, _, hR.up (hC.shb i hi) _, hC.set_shb hi v, hM.cong (fun k hk => rup_n (fun q => by omega))⟩
theorem HS.set_shf (h : HS z ad Q N M) {i : Nat} (hi : i < Q.nS) (v : Nat → Int32) : HS z ad (Q.set_sh (va_up Q.sh i ((Q.sh i).set_fi v))) N (gup M (ad 22 i) (ai 8 v)) := by
  obtain ⟨dd, I, hR, hC, hM⟩ := h
  exact ⟨dd, _, hR.up (hC.shf i hi) _, hC.set_shf hi v, hM.cong (fun k hk => rup_n (fun q => by omega))⟩
theorem HS.set_sht (h : HS z ad Q N M) {i : Nat} (hi : i < Q.nS) (v : Nat → Int32) : HS z ad (Q.set_sh (va_up Q.sh i ((Q.sh i).set_st v))) N (gup M (ad 23 i) (ai 8 v)) := by
  obtain ⟨dd, I, hR, hC, hM⟩ := h
  exact ⟨dd, _, hR.up (hC.sht i hi) _, hC.set_sht hi v, hM.cong (fun k hk => rup_n (fun q => by omega))⟩
theorem HS.set_pl (h : HS z ad Q N M) {i : Nat} (hi : i < Q.nP) (r : PlR) (h1 : r.bx = (Q.pl i).bx) : HS z ad (Q.set_pl (va_up Q.pl i r)) N (gup M (ad 24 i) (plO ad i r)) := by
  obtain ⟨dd, I, hR, hC, hM⟩ := h
  exact ⟨dd, _, hR.up (hC.pl i hi) _, hC.set_pl hi r h1, hM.cong (fun k hk => rup_n (fun q => by omega))⟩
theorem HS.set_plb (h : HS z ad Q N M) {i : Nat} (hi : i < Q.nP) (v : BxR) : HS z ad (Q.set_pl (va_up Q.pl i ((Q.pl i).set_bx v))) N (gup M (ad 25 i) (BxR.e v)) := by
  obtain ⟨dd, I, hR, hC, hM⟩ := h
  exact ⟨dd, _, hR.up (hC.plb i hi) _, hC.set_plb hi v, hM.cong (fun k hk => rup_n (fun q => by omega))⟩
theorem HS.set_fl (h : HS z ad Q N M) {i : Nat} (hi : i < 3) (r : FlR) (h1 : r.sh = (Q.fl i).sh) (h2 : r.cor = (Q.fl i).cor) (h3 : r.tu = (Q.fl i).tu) (h4 : r.xs = (Q.fl i).xs) (h5 : r.ys = (Q.fl i).ys) (h6 : r.ord = (Q.fl i).ord) (h7 : r.spa = (Q.fl i).spa) : HS z ad (Q.set_fl (va_up Q.fl i r)) N (gup M (ad 3 i) (flO ad i r)) := by
  obtain ⟨dd, I, hR, hC, hM⟩ := h
  exact ⟨dd, _, hR.up (hC.fl i hi) _, hC.set_fl hi r h1 h2 h3 h4 h5 h6 h7, hM.cong (fun k hk => rup_n (fun q => by omega))⟩
theorem HS.set_fls (h : HS z ad Q N M) {i : Nat} (hi : i < 3) (v : Nat → Option Nat) : HS z ad (Q.set_fl (va_up Q.fl i ((Q.fl i).set_sh v))) N (gup M (ad 4 i) (ash 3000 (fun j => (v j).map (ad 18)))) := by
  obtain ⟨dd, I, hR, hC, hM⟩ := h
  exact ⟨dd, _, hR.up (hC.fls i hi) _, hC.set_fls hi v, hM.cong (fun k hk => rup_n (fun q => by omega))⟩
theorem HS.set_flc (h : HS z ad Q N M) {i : Nat} (hi : i < 3) (v : Nat → Nat) : HS z ad (Q.set_fl (va_up Q.fl i ((Q.fl i).set_cor v))) N (gup M (ad 5 i) (ain 3000 v)) := by
  obtain ⟨dd, I, hR, hC, hM⟩ := h
  exact ⟨dd, _, hR.up (hC.flc i hi) _, hC.set_flc hi v, hM.cong (fun k hk => rup_n (fun q => by omega))⟩
theorem HS.set_flt (h : HS z ad Q N M) {i : Nat} (hi : i < 3) (v : Nat → Nat) : HS z ad (Q.set_fl (va_up Q.fl i ((Q.fl i).set_tu v))) N (gup M (ad 6 i) (ain 3000 v)) := by
  obtain ⟨dd, I, hR, hC, hM⟩ := h
  exact ⟨dd, _, hR.up (hC.flt i hi) _, hC.set_flt hi v, hM.cong (fun k hk => rup_n (fun q => by omega))⟩
theorem HS.set_flx (h : HS z ad Q N M) {i : Nat} (hi : i < 3) (v : Nat → Int64) : HS z ad (Q.set_fl (va_up Q.fl i ((Q.fl i).set_xs v))) N (gup M (ad 7 i) (al 3000 v)) := by
  obtain ⟨dd, I, hR, hC, hM⟩ := h
  exact ⟨dd, _, hR.up (hC.flx i hi) _, hC.set_flx hi v, hM.cong (fun k hk => rup_n (fun q => by omega))⟩
theorem HS.set_fly (h : HS z ad Q N M) {i : Nat} (hi : i < 3) (v : Nat → Int64) : HS z ad (Q.set_fl (va_up Q.fl i ((Q.fl i).set_ys v))) N (gup M (ad 8 i) (al 3000 v)) := by
  obtain ⟨dd, I, hR, hC, hM⟩ := h
  exact ⟨dd, _, hR.up (hC.fly i hi) _, hC.set_fly hi v, hM.cong (fun k hk => rup_n (fun q => by omega))⟩
theorem HS.set_flo (h : HS z ad Q N M) {i : Nat} (hi : i < 3) (v : Nat → Nat) : HS z ad (Q.set_fl (va_up Q.fl i ((Q.fl i).set_ord v))) N (gup M (ad 9 i) (ain 3000 v)) := by
  obtain ⟨dd, I, hR, hC, hM⟩ := h
  exact ⟨dd, _, hR.up (hC.flo i hi) _, hC.set_flo hi v, hM.cong (fun k hk => rup_n (fun q => by omega))⟩
theorem HS.set_flp (h : HS z ad Q N M) {i : Nat} (hi : i < 3) (v : Nat → Nat) : HS z ad (Q.set_fl (va_up Q.fl i ((Q.fl i).set_spa v))) N (gup M (ad 10 i) (ain 3000 v)) := by
  obtain ⟨dd, I, hR, hC, hM⟩ := h
  exact ⟨dd, _, hR.up (hC.flp i hi) _, hC.set_flp hi v, hM.cong (fun k hk => rup_n (fun q => by omega))⟩
theorem HS.set_sb (h : HS z ad Q N M) (b : BxR) : HS z ad (Q.set_sb b) N (gup M (ad 11 0) (BxR.e b)) := by
  obtain ⟨dd, I, hR, hC, hM⟩ := h
  exact ⟨dd, _, hR.up hC.sb _, hC.set_sb b, hM.cong (fun k hk => rup_n (fun q => by omega))⟩
theorem HS.set_mo (h : HS z ad Q N M) (N' : MS) (h1 : N'.i = N.i) (h2 : N'.l = N.l) (h3 : N'.out = N.out) : HS z ad Q N' (gup M (ad 30 0) (mdO ad N')) := by
  obtain ⟨dd, I, hR, hC, hM⟩ := h
  refine ⟨dd, _, hR.up hM.1 _, hC.cong (fun k i hk => rup_n (fun q => by omega)), rup_s, fun f hf => ?_, fun f hf => ?_, fun f hf => ?_, ?_⟩
  · rw [rup_n (fun q => by omega), h1]; exact hM.2.1 f hf
  · rw [rup_n (fun q => by omega), h2]; exact hM.2.2.1 f hf
  · rw [rup_n (fun q => by omega), h1]; exact hM.2.2.2.1 f hf
  · rw [rup_n (fun q => by omega), h3]; exact hM.2.2.2.2
theorem HS.set_mi (h : HS z ad Q N M) (f : Nat) (hf : mK f = 0) (g : Nat → Int32) : HS z ad Q (N.set_i (va_up N.i f g)) (gup M (ad (100 + f) 0) (ai (mL f) g)) := by
  obtain ⟨dd, I, hR, hC, hM⟩ := h
  rw [show ad (100 + f) 0 = mix ad dd (100 + f) 0 from (mix_n (by omega) (by omega) (by omega)).symm]
  refine ⟨dd, _, hR.up (hM.2.1 f hf) _, hC.cong (fun k i hk => rup_n (fun q => by omega)), (rup_n (fun q => by omega)).trans hM.1, fun f' hf' => ?_, fun f' hf' => ?_, fun f' hf' => ?_, (rup_n (fun q => by omega)).trans hM.2.2.2.2⟩
  · by_cases q : f' = f
    · subst q
      exact rup_s.trans (congrArg (fun x => some (ai (mL f') x)) va_up_s.symm)
    · exact (rup_n (fun w => q (by omega))).trans ((hM.2.1 f' hf').trans (congrArg (fun x => some (ai (mL f') x)) (va_up_n q).symm))
  · have q : f' ≠ f := by
      intro e9
      subst e9
      rw [hf] at hf'
      cases hf'
    exact (rup_n (fun w => q (by omega))).trans ((hM.2.2.1 f' hf').trans rfl)
  · have q : f' ≠ f := by
      intro e9
      subst e9
      rw [hf] at hf'
      cases hf'
    exact (rup_n (fun w => q (by omega))).trans ((hM.2.2.2.1 f' hf').trans (congrArg (fun x => some (ab (mL f') x)) (va_up_n q).symm))
theorem HS.set_ml (h : HS z ad Q N M) (f : Nat) (hf : mK f = 1) (g : Nat → Int64) : HS z ad Q (N.set_l (va_up N.l f g)) (gup M (ad (100 + f) 0) (al (mL f) g)) := by
  obtain ⟨dd, I, hR, hC, hM⟩ := h
  rw [show ad (100 + f) 0 = mix ad dd (100 + f) 0 from (mix_n (by omega) (by omega) (by omega)).symm]
  refine ⟨dd, _, hR.up (hM.2.2.1 f hf) _, hC.cong (fun k i hk => rup_n (fun q => by omega)), (rup_n (fun q => by omega)).trans hM.1, fun f' hf' => ?_, fun f' hf' => ?_, fun f' hf' => ?_, (rup_n (fun q => by omega)).trans hM.2.2.2.2⟩
  · have q : f' ≠ f := by
      intro e9
      subst e9
      rw [hf] at hf'
      cases hf'
    exact (rup_n (fun w => q (by omega))).trans ((hM.2.1 f' hf').trans rfl)
  · by_cases q : f' = f
    · subst q
      exact rup_s.trans (congrArg (fun x => some (al (mL f') x)) va_up_s.symm)
    · exact (rup_n (fun w => q (by omega))).trans ((hM.2.2.1 f' hf').trans (congrArg (fun x => some (al (mL f') x)) (va_up_n q).symm))
  · have q : f' ≠ f := by
      intro e9
      subst e9
      rw [hf] at hf'
      cases hf'
    exact (rup_n (fun w => q (by omega))).trans ((hM.2.2.2.1 f' hf').trans rfl)
theorem HS.set_mb (h : HS z ad Q N M) (f : Nat) (hf : mK f = 2) (g : Nat → Int32) : HS z ad Q (N.set_i (va_up N.i f g)) (gup M (ad (100 + f) 0) (ab (mL f) g)) := by
  obtain ⟨dd, I, hR, hC, hM⟩ := h
  rw [show ad (100 + f) 0 = mix ad dd (100 + f) 0 from (mix_n (by omega) (by omega) (by omega)).symm]
  refine ⟨dd, _, hR.up (hM.2.2.2.1 f hf) _, hC.cong (fun k i hk => rup_n (fun q => by omega)), (rup_n (fun q => by omega)).trans hM.1, fun f' hf' => ?_, fun f' hf' => ?_, fun f' hf' => ?_, (rup_n (fun q => by omega)).trans hM.2.2.2.2⟩
  · have q : f' ≠ f := by
      intro e9
      subst e9
      rw [hf] at hf'
      cases hf'
    exact (rup_n (fun w => q (by omega))).trans ((hM.2.1 f' hf').trans (congrArg (fun x => some (ai (mL f') x)) (va_up_n q).symm))
  · have q : f' ≠ f := by
      intro e9
      subst e9
      rw [hf] at hf'
      cases hf'
    exact (rup_n (fun w => q (by omega))).trans ((hM.2.2.1 f' hf').trans rfl)
  · by_cases q : f' = f
    · subst q
      exact rup_s.trans (congrArg (fun x => some (ab (mL f') x)) va_up_s.symm)
    · exact (rup_n (fun w => q (by omega))).trans ((hM.2.2.2.1 f' hf').trans (congrArg (fun x => some (ab (mL f') x)) (va_up_n q).symm))
theorem HS.set_out (h : HS z ad Q N M) (g : Nat → Int64) : HS z ad Q (N.set_out g) (gup M (ad 70 0) (al 1 g)) := by
  obtain ⟨dd, I, hR, hC, hM⟩ := h
  refine ⟨dd, _, hR.up hM.2.2.2.2 _, hC.cong (fun k i hk => rup_n (fun q => by omega)), (rup_n (fun q => by omega)).trans hM.1, fun f hf => ?_, fun f hf => ?_, fun f hf => ?_, rup_s⟩
  · exact (rup_n (fun q => by omega)).trans (hM.2.1 f hf)
  · exact (rup_n (fun q => by omega)).trans (hM.2.2.1 f hf)
  · exact (rup_n (fun q => by omega)).trans (hM.2.2.2.1 f hf)
theorem ri_gen {Z : gZ} {pc cl sl : Nat} {ls : List (Nat × Value)} {st : List Value} {P : gH → Prop} (hp : P M) (k : ∀ M, P M → G Z pc ls st M cl sl) : G Z pc ls st M cl sl := k M hp
end HSs
