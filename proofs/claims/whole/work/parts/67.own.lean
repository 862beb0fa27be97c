/-! own: a cell's shapes laid flat by the model -/
abbrev It : Type := Nat × Nat × Int64 × Int64
/-- the model's row for a flat shape -/
def fIt (Q : CS) (N : MS) (set i : Nat) (t : It) : Prop := N.i 24 (3000 * set + i) = nI t.1 ∧ N.i 25 (3000 * set + i) = nI (Q.sh t.1).cnt ∧ ∀ k, k < (Q.sh t.1).cnt → N.l 22 (72000 * set + 24 * i + k) = t.2.2.1 + tX t.2.1 ((Q.sh t.1).xs k) ((Q.sh t.1).ys k) ∧ N.l 23 (72000 * set + 24 * i + k) = t.2.2.2 + tY t.2.1 ((Q.sh t.1).xs k) ((Q.sh t.1).ys k)
def fLs (Q : CS) (N : MS) (set : Nat) (ts : List It) : Prop := ∀ (i : Nat) (h : i < ts.length), fIt Q N set i ts[i]
/-- all but the set's rows, px and py, is left -/
def NO (set : Nat) (N N' : MS) : Prop := NE N N' ∧ (N'.depth = N.depth ∧ N'.any = N.any ∧ N'.x0 = N.x0 ∧ N'.y0 = N.y0 ∧ N'.x1 = N.x1 ∧ N'.y1 = N.y1) ∧ (∀ f, 26 ≤ f → N'.i f = N.i f ∧ N'.l f = N.l f) ∧ (∀ j, j < 3000 * set ∨ 3000 * set + 3000 ≤ j → N'.i 24 j = N.i 24 j ∧ N'.i 25 j = N.i 25 j) ∧ ∀ j, j < 72000 * set ∨ 72000 * set + 72000 ≤ j → N'.l 22 j = N.l 22 j ∧ N'.l 23 j = N.l 23 j
section NOs
variable {set : Nat} {N N1 N2 : MS}
theorem NO.refl : NO set N N := ⟨NE.rfl, ⟨rfl, rfl, rfl, rfl, rfl, rfl⟩, fun _ _ => ⟨rfl, rfl⟩, fun _ _ => ⟨rfl, rfl⟩, fun _ _ => ⟨rfl, rfl⟩⟩
theorem NO.trans (h : NO set N N1) (h2 : NO set N1 N2) : NO set N N2 := by
  obtain ⟨a1, ⟨a2, a3, a4, a5, a6, a7⟩, a8, a9, a10⟩ := h
  obtain ⟨b1, ⟨b2, b3, b4, b5, b6, b7⟩, b8, b9, b10⟩ := h2
  exact ⟨a1.trans b1, ⟨b2.trans a2, b3.trans a3, b4.trans a4, b5.trans a5, b6.trans a6, b7.trans a7⟩, fun f hf => ⟨(b8 f hf).1.trans (a8 f hf).1, (b8 f hf).2.trans (a8 f hf).2⟩, fun j hj => ⟨(b9 j hj).1.trans (a9 j hj).1, (b9 j hj).2.trans (a9 j hj).2⟩, fun j hj => ⟨(b10 j hj).1.trans (a10 j hj).1, (b10 j hj).2.trans (a10 j hj).2⟩⟩
theorem NO.pp (a b : Int64) : NO set N ((N.set_px a).set_py b) := ⟨NE.rfl, ⟨rfl, rfl, rfl, rfl, rfl, rfl⟩, fun _ _ => ⟨rfl, rfl⟩, fun _ _ => ⟨rfl, rfl⟩, fun _ _ => ⟨rfl, rfl⟩⟩
theorem NO.i24 {j : Nat} {v : Int32} (h1 : 3000 * set ≤ j) (h2 : j < 3000 * set + 3000) : NO set N (N.set_i (va_up N.i 24 (va_up (N.i 24) j v))) := ⟨NE.i 24 (by decide) _, ⟨rfl, rfl, rfl, rfl, rfl, rfl⟩, fun f hf => ⟨va_up_n (by omega), rfl⟩, fun q hq => ⟨va_up_n (g := N.i 24) (by omega), rfl⟩, fun _ _ => ⟨rfl, rfl⟩⟩
theorem NO.i25 {j : Nat} {v : Int32} (h1 : 3000 * set ≤ j) (h2 : j < 3000 * set + 3000) : NO set N (N.set_i (va_up N.i 25 (va_up (N.i 25) j v))) := ⟨NE.i 25 (by decide) _, ⟨rfl, rfl, rfl, rfl, rfl, rfl⟩, fun f hf => ⟨va_up_n (by omega), rfl⟩, fun q hq => ⟨rfl, va_up_n (g := N.i 25) (by omega)⟩, fun _ _ => ⟨rfl, rfl⟩⟩
theorem NO.l22 {j : Nat} {v : Int64} (h1 : 72000 * set ≤ j) (h2 : j < 72000 * set + 72000) : NO set N (N.set_l (va_up N.l 22 (va_up (N.l 22) j v))) := ⟨NE.l 22 (by decide) _, ⟨rfl, rfl, rfl, rfl, rfl, rfl⟩, fun f hf => ⟨rfl, va_up_n (by omega)⟩, fun _ _ => ⟨rfl, rfl⟩, fun q hq => ⟨va_up_n (g := N.l 22) (by omega), rfl⟩⟩
theorem NO.l23 {j : Nat} {v : Int64} (h1 : 72000 * set ≤ j) (h2 : j < 72000 * set + 72000) : NO set N (N.set_l (va_up N.l 23 (va_up (N.l 23) j v))) := ⟨NE.l 23 (by decide) _, ⟨rfl, rfl, rfl, rfl, rfl, rfl⟩, fun f hf => ⟨rfl, va_up_n (by omega)⟩, fun _ _ => ⟨rfl, rfl⟩, fun q hq => ⟨rfl, va_up_n (g := N.l 23) (by omega)⟩⟩
end NOs
theorem onB_lay {r : ShR} {lay : Int32} : onB r lay = true ↔ onB r (-1) = true ∧ (lay = -1 ∨ lay = r.layer) := by
  unfold onB
  rw [decide_eq_true_iff, decide_eq_true_iff]
  unfold son
  by_cases h : r.drop = 0 ∧ (if 0 < r.w then 2 else 3) ≤ nI r.cnt
  · by_cases h2 : lay = -1 ∨ lay = r.layer
    · rw [if_pos ⟨h.1, h.2, h2⟩, if_pos ⟨h.1, h.2, Or.inl rfl⟩]
      exact ⟨fun _ => ⟨rfl, h2⟩, fun _ => rfl⟩
    · rw [if_neg (fun q => h2 q.2.2), if_pos ⟨h.1, h.2, Or.inl rfl⟩]
      exact ⟨fun q => absurd q (by decide), fun q => absurd q.2 h2⟩
  · rw [if_neg (fun q => h ⟨q.1, q.2.1⟩), if_neg (fun q => h ⟨q.1, q.2.1⟩)]
    exact ⟨fun q => absurd q (by decide), fun q => absurd q.1 (by decide)⟩
section OWN
variable {l : Launch} {D : gD} {s0 : State} {M : gH} {z : Nat} {ad : gA} {Q Qc : CS} {N : MS} {lay : Int32}
/-- a cell's own shapes, as flat ones -/
abbrev ownL (Q : CS) (lay : Int32) (c : Nat) (t : Nat × Int64 × Int64) : List It := ((Q.ce c).ss.filter (fun s => onB (Q.sh s) lay)).map (fun s => (s, t))
theorem fLs_cong {N' : MS} {set : Nat} {ts : List It} (h : fLs Q N set ts) (h1 : ∀ i, i < ts.length → N'.i 24 (3000 * set + i) = N.i 24 (3000 * set + i) ∧ N'.i 25 (3000 * set + i) = N.i 25 (3000 * set + i)) (h2 : ∀ i k, i < ts.length → k < 24 → N'.l 22 (72000 * set + 24 * i + k) = N.l 22 (72000 * set + 24 * i + k) ∧ N'.l 23 (72000 * set + 24 * i + k) = N.l 23 (72000 * set + 24 * i + k)) (hc : ∀ (i : Nat) (h : i < ts.length), (Q.sh ts[i].1).cnt ≤ 24) : fLs Q N' set ts := by
  intro i hi
  obtain ⟨a1, a2, a3⟩ := h i hi
  refine ⟨(h1 i hi).1.trans a1, (h1 i hi).2.trans a2, fun k hk => ?_⟩
  have := hc i hi
  exact ⟨(h2 i k hi (by omega)).1.trans (a3 k hk).1, (h2 i k hi (by omega)).2.trans (a3 k hk).2⟩
theorem fLs_snoc {set : Nat} {ts : List It} {t : It} (h : fLs Q N set ts) (ht : fIt Q N set ts.length t) : fLs Q N set (ts ++ [t]) := by
  intro i hi
  rw [List.length_append, List.length_singleton] at hi
  rcases (show i < ts.length ∨ i = ts.length by omega) with q | rfl
  · rw [List.getElem_append_left q]
    exact h i q
  · rw [List.getElem_append_right (Nat.le_refl _)]
    simpa using ht
/-- items of shapes that are there -/
def ItOk (Q : CS) (ts : List It) : Prop := ∀ t, t ∈ ts → t.1 < Q.nS ∧ t.2.1 < 8
theorem k_mown (h0 : g_0 l D s0) (hS : HS z ad Qc N M) (hm : MR0 Q N) (hW : WB Q) (hL : WL Q) (hX : WX Q) (hC : WSC Q) {set d c : Nat} (hset : set < 3) (hd : d < 22) (hN : N.depth = nI d) (hc : c < Q.nC) (h29 : N.i 29 d = nI c) {st : Nat → Nat × Nat × Nat} (hst : StK Q N st d) {ts : List It} (hts : fLs Q N set ts) (hok : ItOk Q ts) (hlen : ts.length + ((Q.ce c).ss.filter (fun s => onB (Q.sh s) lay)).length ≤ 3000) : Ct l D s0 y_Md_own (Cond.code y_Md_own b_Md_own 7 (some .int)) (rk 3 0 0) [.ref (ad 30 0), .int (nI set), .int (nI ts.length), .int lay] M (fS (some (.int (nI (ts ++ ownL Q lay c (cmpS Q.pl st d)).length))) (fun M' => ∃ N', HS z ad Qc N' M' ∧ NO set N N' ∧ fLs Q N' set (ts ++ ownL Q lay c (cmpS Q.pl st d)))) := by
  have hb1 := hW.1
  have hb2 := hW.2.1
  have hss : (Q.ce c).ss.filter (fun s => onB (Q.sh s) lay) = (List.range Q.nS).filter (fun s => onB (Q.sh s) lay && decide ((Q.sh s).cell = c)) := by rw [(hL.1 c hc).1, List.filter_filter]
  have hown : ownL Q lay c (cmpS Q.pl st d) = ((List.range Q.nS).filter (fun s => onB (Q.sh s) lay && decide ((Q.sh s).cell = c))).map (fun s => (s, cmpS Q.pl st d)) := by
    show List.map _ _ = _
    rw [hss]
  rw [hown]
  rw [hss] at hlen
  have hm0 := hm
  refine Ct.of h0 (by decide +kernel) rfl fun X hX h => ?_
  obtain ⟨p_, l', e_, R_, s_, m_, ar_, be_, me_, c_⟩ := X
  obtain rfl : l' = l := hX
  have LS : ∀ (q i : Nat), i + q = Q.nS → ∀ (M : gH) (N1 : MS), HS z ad Qc N1 M → NO set N N1 → fLs Q N1 set (ts ++ ((List.range i).filter (fun s => onB (Q.sh s) lay && decide ((Q.sh s).cell = c))).map (fun s => (s, cmpS Q.pl st d))) → G (gzz D s0 (p_, l', e_, R_, s_, m_, ar_, be_, me_, c_) (rk 3 0 0) (fS (some (.int (nI (ts ++ ((List.range Q.nS).filter (fun s => onB (Q.sh s) lay && decide ((Q.sh s).cell = c))).map (fun s => (s, cmpS Q.pl st d))).length))) (fun M' => ∃ N', HS z ad Qc N' M' ∧ NO set N N' ∧ fLs Q N' set (ts ++ ((List.range Q.nS).filter (fun s => onB (Q.sh s) lay && decide ((Q.sh s).cell = c))).map (fun s => (s, cmpS Q.pl st d))))) 7) 6 [(0, .ref (ad 30 0)), (1, .int (nI set)), (3, .int lay), (4, .int (nI (ts ++ ((List.range i).filter (fun s => onB (Q.sh s) lay && decide ((Q.sh s).cell = c))).map (fun s => (s, cmpS Q.pl st d))).length)), (5, .int (nI i))] [] M 0 0 := by
    intro q
    induction q with
    | zero =>
      intro i hi M N1 hS hno hf
      obtain rfl : i = Q.nS := by omega
      have hm := hm.ne hno.1
      refine ri_iload h d_Md_own_6 rfl ?_
      refine ri_aload_n h d_Md_own_8 rfl ?_
      refine ri_get h d_Md_own_9 fl_Md_118 (by first | assumption | exact hS.mo | exact gup_s) (by first | exact congrArg (fun x => some (Value.int (nI x))) hm.ns | rfl) ?_
      first | refine ri_icmpN_ge h 201 d_Md_own_12 (by decide) (by omega) (by omega) (fun c_12 => ?_) (fun c_12 => ?_) | refine ri_icmp_ge h 201 d_Md_own_12 (by decide) (fun c_12 => ?_) (fun c_12 => ?_)
      · first
        | (exfalso; first | exact absurd c_12 (by decide) | omega)
        | (refine ri_iload h d_Md_own_201 rfl ?_
           refine ri_ireturn h d_Md_own_203 (Nat.le_of_ble_eq_true rfl) (Nat.le_of_ble_eq_true rfl) ?_
           exact ⟨rfl, N1, hS, hno, hf⟩)
      · first
        | (exfalso; first | exact absurd c_12 (by decide) | omega)
        | (omega)
    | succ q ih =>
      intro i hi M N1 hS hno hf
      have hiS : i < Q.nS := by omega
      have hiC := hC i hiS
      have hi24 := (hX i hiS).1
      have hm := hm.ne hno.1
      have hN1 : N1.depth = nI d := hno.2.1.1.trans hN
      have h291 : N1.i 29 d = nI c := by rw [(hno.2.2.1 29 (by omega)).1]; exact h29
      have hst1 : StK Q N1 st d := fun j hj => by rw [(hno.2.2.1 30 (by omega)).1, (hno.2.2.1 31 (by omega)).1, (hno.2.2.1 32 (by omega)).1]; exact hst j hj
      have hrs : (List.range (i + 1)).filter (fun s => onB (Q.sh s) lay && decide ((Q.sh s).cell = c)) = (List.range i).filter (fun s => onB (Q.sh s) lay && decide ((Q.sh s).cell = c)) ++ [i].filter (fun s => onB (Q.sh s) lay && decide ((Q.sh s).cell = c)) := by rw [List.range_succ, List.filter_append]
      have hle : ((List.range (i + 1)).filter (fun s => onB (Q.sh s) lay && decide ((Q.sh s).cell = c))).length ≤ ((List.range Q.nS).filter (fun s => onB (Q.sh s) lay && decide ((Q.sh s).cell = c))).length := by
        refine List.Sublist.length_le (List.Sublist.filter _ ?_)
        exact List.range_sublist.mpr (by omega)
      have SKIP : ∀ (hno' : [i].filter (fun s => onB (Q.sh s) lay && decide ((Q.sh s).cell = c)) = []), G (gzz D s0 (p_, l', e_, R_, s_, m_, ar_, be_, me_, c_) (rk 3 0 0) (fS (some (.int (nI (ts ++ ((List.range Q.nS).filter (fun s => onB (Q.sh s) lay && decide ((Q.sh s).cell = c))).map (fun s => (s, cmpS Q.pl st d))).length))) (fun M' => ∃ N', HS z ad Qc N' M' ∧ NO set N N' ∧ fLs Q N' set (ts ++ ((List.range Q.nS).filter (fun s => onB (Q.sh s) lay && decide ((Q.sh s).cell = c))).map (fun s => (s, cmpS Q.pl st d))))) 7) 195 [(0, .ref (ad 30 0)), (1, .int (nI set)), (3, .int lay), (4, .int (nI (ts ++ ((List.range i).filter (fun s => onB (Q.sh s) lay && decide ((Q.sh s).cell = c))).map (fun s => (s, cmpS Q.pl st d))).length)), (5, .int (nI i))] [] M 0 0 := by
        intro hno'
        rw [hno', List.append_nil] at hrs
        first | refine ri_iincN h d_Md_own_195 rfl (Nat.le_of_ble_eq_true rfl) ?_ | refine ri_iinc h _ d_Md_own_195 rfl rfl (Nat.le_of_ble_eq_true rfl) ?_
        refine ri_goto h 6 d_Md_own_198 (by decide) ?_
        exact ri_ls [(0, .ref (ad 30 0)), (1, .int (nI set)), (3, .int lay), (4, .int (nI (ts ++ ((List.range (i + 1)).filter (fun s => onB (Q.sh s) lay && decide ((Q.sh s).cell = c))).map (fun s => (s, cmpS Q.pl st d))).length)), (5, .int (nI (i + 1)))] ⟨rfl, rfl, rfl, by rw [hrs]; rfl, rfl, trivial⟩ (ih (i + 1) (by omega) M N1 hS hno (by rw [hrs]; exact hf))
      have TAKE : ∀ (hyes : [i].filter (fun s => onB (Q.sh s) lay && decide ((Q.sh s).cell = c)) = [i]), G (gzz D s0 (p_, l', e_, R_, s_, m_, ar_, be_, me_, c_) (rk 3 0 0) (fS (some (.int (nI (ts ++ ((List.range Q.nS).filter (fun s => onB (Q.sh s) lay && decide ((Q.sh s).cell = c))).map (fun s => (s, cmpS Q.pl st d))).length))) (fun M' => ∃ N', HS z ad Qc N' M' ∧ NO set N N' ∧ fLs Q N' set (ts ++ ((List.range Q.nS).filter (fun s => onB (Q.sh s) lay && decide ((Q.sh s).cell = c))).map (fun s => (s, cmpS Q.pl st d))))) 7) 62 [(0, .ref (ad 30 0)), (1, .int (nI set)), (3, .int lay), (4, .int (nI (ts ++ ((List.range i).filter (fun s => onB (Q.sh s) lay && decide ((Q.sh s).cell = c))).map (fun s => (s, cmpS Q.pl st d))).length)), (5, .int (nI i))] [] M 0 0 := by
        intro hyes
        rw [hyes] at hrs
        rw [hrs, List.length_append, List.length_singleton] at hle
        generalize hT : ts ++ ((List.range i).filter (fun s => onB (Q.sh s) lay && decide ((Q.sh s).cell = c))).map (fun s => (s, cmpS Q.pl st d)) = T at hf ih ⊢
        have hTl : T.length < 3000 := by
          rw [← hT, List.length_append, List.length_map]
          omega
        have hTc : ∀ (j : Nat) (h : j < T.length), (Q.sh T[j].1).cnt ≤ 24 := by
          intro j hj
          refine (hX _ ?_).1
          have hmem : T[j] ∈ T := List.getElem_mem hj
          generalize T[j] = w at hmem
          rw [← hT] at hmem
          rcases List.mem_append.mp hmem with h | h
          · exact (hok _ h).1
          · obtain ⟨s, h1, rfl⟩ := List.mem_map.mp h
            have := List.mem_range.mp (List.mem_filter.mp h1).1
            show s < Q.nS
            omega
        have LK : ∀ (q k : Nat), k + q = (Q.sh i).cnt → ∀ (M : gH) (N2 : MS), HS z ad Qc N2 M → NO set N N2 → fLs Q N2 set T → N2.i 24 (3000 * set + T.length) = nI i → N2.i 25 (3000 * set + T.length) = nI (Q.sh i).cnt → (∀ k', k' < k → N2.l 22 (72000 * set + 24 * T.length + k') = (cmpS Q.pl st d).2.1 + tX (cmpS Q.pl st d).1 ((Q.sh i).xs k') ((Q.sh i).ys k') ∧ N2.l 23 (72000 * set + 24 * T.length + k') = (cmpS Q.pl st d).2.2 + tY (cmpS Q.pl st d).1 ((Q.sh i).xs k') ((Q.sh i).ys k')) → G (gzz D s0 (p_, l', e_, R_, s_, m_, ar_, be_, me_, c_) (rk 3 0 0) (fS (some (.int (nI (ts ++ ((List.range Q.nS).filter (fun s => onB (Q.sh s) lay && decide ((Q.sh s).cell = c))).map (fun s => (s, cmpS Q.pl st d))).length))) (fun M' => ∃ N', HS z ad Qc N' M' ∧ NO set N N' ∧ fLs Q N' set (ts ++ ((List.range Q.nS).filter (fun s => onB (Q.sh s) lay && decide ((Q.sh s).cell = c))).map (fun s => (s, cmpS Q.pl st d))))) 7) 100 [(0, .ref (ad 30 0)), (1, .int (nI set)), (3, .int lay), (4, .int (nI T.length)), (5, .int (nI i)), (6, .int (nI k))] [] M 0 0 := by
          intro q
          induction q with
          | zero =>
            intro k hk M N2 hS hno2 hf2 g1 g2 g3
            have hm := hm0.ne hno2.1
            refine ri_iload h d_Md_own_100 rfl ?_
            refine ri_aload_n h d_Md_own_102 rfl ?_
            refine ri_get h d_Md_own_103 fl_Md_23 (by first | assumption | exact hS.mo | exact gup_s) (by rfl) ?_
            refine ri_iload h d_Md_own_106 rfl ?_
            refine ri_ialdE h _ d_Md_own_108 (by first | assumption | exact hS.a7) (by first | rfl | assumption) (by first | assumption | omega) (by first | decide | omega) (by first | assumption | exact hm.i7 (by first | assumption | omega) | rfl) ?_
            first | refine ri_icmpN_ge h 192 d_Md_own_109 (by decide) (by omega) (by omega) (fun c_109 => ?_) (fun c_109 => ?_) | refine ri_icmp_ge h 192 d_Md_own_109 (by decide) (fun c_109 => ?_) (fun c_109 => ?_)
            · first
              | (exfalso; first | exact absurd c_109 (by decide) | omega)
              | (first | refine ri_iincN h d_Md_own_192 rfl (Nat.le_of_ble_eq_true rfl) ?_ | refine ri_iinc h _ d_Md_own_192 rfl rfl (Nat.le_of_ble_eq_true rfl) ?_
                 first | refine ri_iincN h d_Md_own_195 rfl (Nat.le_of_ble_eq_true rfl) ?_ | refine ri_iinc h _ d_Md_own_195 rfl rfl (Nat.le_of_ble_eq_true rfl) ?_
                 refine ri_goto h 6 d_Md_own_198 (by decide) ?_
                 exact ri_ls [(0, .ref (ad 30 0)), (1, .int (nI set)), (3, .int lay), (4, .int (nI (ts ++ ((List.range (i + 1)).filter (fun s => onB (Q.sh s) lay && decide ((Q.sh s).cell = c))).map (fun s => (s, cmpS Q.pl st d))).length)), (5, .int (nI (i + 1)))] ⟨rfl, rfl, rfl, by rw [hrs, List.map_append, ← List.append_assoc, hT, List.length_append]; rfl, rfl, trivial⟩ (ih (i + 1) (by omega) M N2 hS hno2 (by rw [hrs, List.map_append, ← List.append_assoc, hT]; exact fLs_snoc hf2 ⟨g1, g2, fun k' hk' => g3 k' (by have : k' < (Q.sh i).cnt := hk'; omega)⟩)))
            · first
              | (exfalso; first | exact absurd c_109 (by decide) | omega)
              | (omega)
          | succ q ihk =>
            intro k hk M N2 hS hno2 hf2 g1 g2 g3
            have hm := hm0.ne hno2.1
            have hN2 : N2.depth = nI d := hno2.2.1.1.trans hN
            have hst2 : StK Q N2 st d := fun j hj => by rw [(hno2.2.2.1 30 (by omega)).1, (hno2.2.2.1 31 (by omega)).1, (hno2.2.2.1 32 (by omega)).1]; exact hst j hj
            have hk24 : k < (Q.sh i).cnt := by omega
            refine ri_iload h d_Md_own_100 rfl ?_
            refine ri_aload_n h d_Md_own_102 rfl ?_
            refine ri_get h d_Md_own_103 fl_Md_23 (by first | assumption | exact hS.mo | exact gup_s) (by rfl) ?_
            refine ri_iload h d_Md_own_106 rfl ?_
            refine ri_ialdE h _ d_Md_own_108 (by first | assumption | exact hS.a7) (by first | rfl | assumption) (by first | assumption | omega) (by first | decide | omega) (by first | assumption | exact hm.i7 (by first | assumption | omega) | rfl) ?_
            first | refine ri_icmpN_ge h 192 d_Md_own_109 (by decide) (by omega) (by omega) (fun c_109 => ?_) (fun c_109 => ?_) | refine ri_icmp_ge h 192 d_Md_own_109 (by decide) (fun c_109 => ?_) (fun c_109 => ?_)
            · omega
            · refine ri_aload_n h d_Md_own_112 rfl ?_
              refine ri_aload_n h d_Md_own_113 rfl ?_
              refine ri_get h d_Md_own_114 fl_Md_30 (by first | assumption | exact hS.mo | exact gup_s) (by rfl) ?_
              refine ri_bipushN h 24 d_Md_own_117 rfl ?_
              refine ri_iload h d_Md_own_119 rfl ?_
              first | refine ri_imulN h d_Md_own_121 ?_ | refine ri_imul h d_Md_own_121 ?_
              refine ri_iload h d_Md_own_122 rfl ?_
              first | refine ri_iaddN h d_Md_own_124 ?_ | refine ri_iadd h d_Md_own_124 ?_
              refine ri_laldE h _ d_Md_own_125 (by first | assumption | exact hS.a9) (by first | rfl | assumption) (by first | assumption | omega) (by first | decide | omega) (by first | assumption | exact hm.i9 (by first | assumption | omega) (by first | assumption | omega) | rfl) ?_
              refine ri_aload_n h d_Md_own_126 rfl ?_
              refine ri_get h d_Md_own_127 fl_Md_33 (by first | assumption | exact hS.mo | exact gup_s) (by rfl) ?_
              refine ri_bipushN h 24 d_Md_own_130 rfl ?_
              refine ri_iload h d_Md_own_132 rfl ?_
              first | refine ri_imulN h d_Md_own_134 ?_ | refine ri_imul h d_Md_own_134 ?_
              refine ri_iload h d_Md_own_135 rfl ?_
              first | refine ri_iaddN h d_Md_own_137 ?_ | refine ri_iadd h d_Md_own_137 ?_
              refine ri_laldE h _ d_Md_own_138 (by first | assumption | exact hS.a10) (by first | rfl | assumption) (by first | assumption | omega) (by first | decide | omega) (by first | assumption | exact hm.i10 (by first | assumption | omega) (by first | assumption | omega) | rfl) ?_
              refine ri_dV0_2 (r := (gR6, gT6, 44)) h d_Md_own_139 cv_Md_168 (by first | exact hS.lcO | exact hS.lsO | exact hS.lpO | exact hS.cesO (by first | assumption | omega) | exact hS.cepO (by first | assumption | omega) | exact ⟨_, (by first | assumption | exact hS.st | exact hS.mo | exact hS.out | exact hS.sb | exact hS.ce (by first | assumption | omega) | exact hS.ceb (by first | assumption | omega) | exact hS.sh (by first | assumption | omega) | exact hS.shb (by first | assumption | omega) | exact hS.pl (by first | assumption | omega) | exact hS.plb (by first | assumption | omega) | exact hS.fl (by first | assumption | omega) | exact gup_s | (refine gup_t (by assumption) ?_; first | assumption | exact gup_s | (refine gup_t (by assumption) ?_; first | assumption | exact gup_s | (refine gup_t (by assumption) ?_; first | assumption | exact gup_s))))⟩) rfl (k_mcarry h0 hS hm hW hL (by omega) hN2 hst2) (Nat.le_of_ble_eq_true rfl) (Nat.le_of_ble_eq_true rfl) (Nat.le_of_ble_eq_true rfl) (Nat.le_of_ble_eq_true rfl) (Nat.le_of_ble_eq_true rfl) (fun M hS => ?_)
              refine ri_aload_n h d_Md_own_142 rfl ?_
              refine ri_get h d_Md_own_143 fl_Md_64 (by first | assumption | exact hS.mo | exact gup_s) (by rfl) ?_
              refine ri_ldcN h 72000 d_Md_own_146 kc_Md_172 rfl ?_
              refine ri_iload_n h d_Md_own_148 rfl ?_
              first | refine ri_imulN h d_Md_own_149 ?_ | refine ri_imul h d_Md_own_149 ?_
              refine ri_bipushN h 24 d_Md_own_150 rfl ?_
              refine ri_iload h d_Md_own_152 rfl ?_
              first | refine ri_imulN h d_Md_own_154 ?_ | refine ri_imul h d_Md_own_154 ?_
              first | refine ri_iaddN h d_Md_own_155 ?_ | refine ri_iadd h d_Md_own_155 ?_
              refine ri_iload h d_Md_own_156 rfl ?_
              first | refine ri_iaddN h d_Md_own_158 ?_ | refine ri_iadd h d_Md_own_158 ?_
              refine ri_aload_n h d_Md_own_159 rfl ?_
              refine ri_get h d_Md_own_160 fl_Md_158 (by first | assumption | exact hS.mo | exact gup_s) (by rfl) ?_
              refine ri_last h _ d_Md_own_163 (by first | assumption | exact hS.a22) (by first | rfl | assumption) (by first | assumption | omega) (by first | decide | omega) ?_
              refine ri_gH (hS.set_ml 22 rfl _) (fun M hS => ?_)
              refine ri_aload_n h d_Md_own_164 rfl ?_
              refine ri_get h d_Md_own_165 fl_Md_67 (by first | assumption | exact hS.mo | exact gup_s) (by rfl) ?_
              refine ri_ldcN h 72000 d_Md_own_168 kc_Md_172 rfl ?_
              refine ri_iload_n h d_Md_own_170 rfl ?_
              first | refine ri_imulN h d_Md_own_171 ?_ | refine ri_imul h d_Md_own_171 ?_
              refine ri_bipushN h 24 d_Md_own_172 rfl ?_
              refine ri_iload h d_Md_own_174 rfl ?_
              first | refine ri_imulN h d_Md_own_176 ?_ | refine ri_imul h d_Md_own_176 ?_
              first | refine ri_iaddN h d_Md_own_177 ?_ | refine ri_iadd h d_Md_own_177 ?_
              refine ri_iload h d_Md_own_178 rfl ?_
              first | refine ri_iaddN h d_Md_own_180 ?_ | refine ri_iadd h d_Md_own_180 ?_
              refine ri_aload_n h d_Md_own_181 rfl ?_
              refine ri_get h d_Md_own_182 fl_Md_162 (by first | assumption | exact hS.mo | exact gup_s) (by rfl) ?_
              refine ri_last h _ d_Md_own_185 (by first | assumption | exact hS.a23) (by first | rfl | assumption) (by first | assumption | omega) (by first | decide | omega) ?_
              refine ri_gH (hS.set_ml 23 rfl _) (fun M hS => ?_)
              first | refine ri_iincN h d_Md_own_186 rfl (Nat.le_of_ble_eq_true rfl) ?_ | refine ri_iinc h _ d_Md_own_186 rfl rfl (Nat.le_of_ble_eq_true rfl) ?_
              refine ri_goto h 100 d_Md_own_189 (by decide) ?_
              refine ri_ls [(0, .ref (ad 30 0)), (1, .int (nI set)), (3, .int lay), (4, .int (nI T.length)), (5, .int (nI i)), (6, .int (nI (k + 1)))] ⟨rfl, rfl, rfl, rfl, rfl, rfl, trivial⟩ (ihk (k + 1) (by omega) M _ hS (((hno2.trans (NO.pp _ _)).trans (NO.l22 (j := 72000 * set + 24 * T.length + k) (by omega) (by omega))).trans (NO.l23 (j := 72000 * set + 24 * T.length + k) (by omega) (by omega))) (fLs_cong hf2 (fun _ _ => ⟨rfl, rfl⟩) (fun i' k' h1 h2 => ⟨va_up_n (g := N2.l 22) (by omega), va_up_n (g := N2.l 23) (by omega)⟩) hTc) g1 g2 (fun k' hk' => ?_))
              rcases (show k' < k ∨ k' = k by omega) with w | rfl
              · exact ⟨(va_up_n (g := N2.l 22) (by omega)).trans (g3 k' w).1, (va_up_n (g := N2.l 23) (by omega)).trans (g3 k' w).2⟩
              · exact ⟨va_up_s (g := N2.l 22), va_up_s (g := N2.l 23)⟩
        refine ri_aload_n h d_Md_own_62 rfl ?_
        refine ri_get h d_Md_own_63 fl_Md_70 (by first | assumption | exact hS.mo | exact gup_s) (by rfl) ?_
        refine ri_sipushN h 3000 d_Md_own_66 rfl ?_
        refine ri_iload_n h d_Md_own_69 rfl ?_
        first | refine ri_imulN h d_Md_own_70 ?_ | refine ri_imul h d_Md_own_70 ?_
        refine ri_iload h d_Md_own_71 rfl ?_
        first | refine ri_iaddN h d_Md_own_73 ?_ | refine ri_iadd h d_Md_own_73 ?_
        refine ri_iload h d_Md_own_74 rfl ?_
        refine ri_iast h _ d_Md_own_76 (by first | assumption | exact hS.a24) (by first | rfl | assumption) (by first | assumption | omega) (by first | decide | omega) ?_
        refine ri_gH (hS.set_mi 24 rfl _) (fun M hS => ?_)
        refine ri_aload_n h d_Md_own_77 rfl ?_
        refine ri_get h d_Md_own_78 fl_Md_73 (by first | assumption | exact hS.mo | exact gup_s) (by rfl) ?_
        refine ri_sipushN h 3000 d_Md_own_81 rfl ?_
        refine ri_iload_n h d_Md_own_84 rfl ?_
        first | refine ri_imulN h d_Md_own_85 ?_ | refine ri_imul h d_Md_own_85 ?_
        refine ri_iload h d_Md_own_86 rfl ?_
        first | refine ri_iaddN h d_Md_own_88 ?_ | refine ri_iadd h d_Md_own_88 ?_
        refine ri_aload_n h d_Md_own_89 rfl ?_
        refine ri_get h d_Md_own_90 fl_Md_23 (by first | assumption | exact hS.mo | exact gup_s) (by rfl) ?_
        refine ri_iload h d_Md_own_93 rfl ?_
        refine ri_ialdE h _ d_Md_own_95 (by first | assumption | exact hS.a7) (by first | rfl | assumption) (by first | assumption | omega) (by first | decide | omega) (by first | assumption | exact hm.i7 (by first | assumption | omega) | rfl) ?_
        refine ri_iast h _ d_Md_own_96 (by first | assumption | exact hS.a25) (by first | rfl | assumption) (by first | assumption | omega) (by first | decide | omega) ?_
        refine ri_gH (hS.set_mi 25 rfl _) (fun M hS => ?_)
        refine ri_iconstN h 0 d_Md_own_97 rfl ?_
        refine ri_istore h d_Md_own_98 (Nat.le_of_ble_eq_true rfl) ?_
        refine ri_ls [(0, .ref (ad 30 0)), (1, .int (nI set)), (3, .int lay), (4, .int (nI T.length)), (5, .int (nI i)), (6, .int (nI 0))] ⟨rfl, rfl, rfl, rfl, rfl, rfl, trivial⟩ (LK (Q.sh i).cnt 0 (by omega) M _ hS ((hno.trans (NO.i24 (j := 3000 * set + T.length) (by omega) (by omega))).trans (NO.i25 (j := 3000 * set + T.length) (by omega) (by omega))) (fLs_cong hf (fun i' h1 => ⟨va_up_n (g := N1.i 24) (by omega), va_up_n (g := N1.i 25) (by omega)⟩) (fun _ _ _ _ => ⟨rfl, rfl⟩) hTc) (va_up_s (g := N1.i 24)) (va_up_s (g := N1.i 25)) (fun k' hk' => by omega))
      refine ri_iload h d_Md_own_6 rfl ?_
      refine ri_aload_n h d_Md_own_8 rfl ?_
      refine ri_get h d_Md_own_9 fl_Md_118 (by first | assumption | exact hS.mo | exact gup_s) (by first | exact congrArg (fun x => some (Value.int (nI x))) hm.ns | rfl) ?_
      first | refine ri_icmpN_ge h 201 d_Md_own_12 (by decide) (by omega) (by omega) (fun c_12 => ?_) (fun c_12 => ?_) | refine ri_icmp_ge h 201 d_Md_own_12 (by decide) (fun c_12 => ?_) (fun c_12 => ?_)
      · omega
      · refine ri_aload_n h d_Md_own_15 rfl ?_
        refine ri_get h d_Md_own_16 fl_Md_7 (by first | assumption | exact hS.mo | exact gup_s) (by rfl) ?_
        refine ri_iload h d_Md_own_19 rfl ?_
        refine ri_ialdE h _ d_Md_own_21 (by first | assumption | exact hS.a3) (by first | rfl | assumption) (by first | assumption | omega) (by first | decide | omega) (by first | assumption | exact hm.i3 (by first | assumption | omega) | rfl) ?_
        refine ri_aload_n h d_Md_own_22 rfl ?_
        refine ri_get h d_Md_own_23 fl_Md_82 (by first | assumption | exact hS.mo | exact gup_s) (by rfl) ?_
        refine ri_aload_n h d_Md_own_26 rfl ?_
        refine ri_get h d_Md_own_27 fl_Md_165 hS.mo (v := .int (nI d)) (congrArg (fun x => some (Value.int x)) hN1) ?_
        refine ri_ialdE h d d_Md_own_30 hS.a29 rfl (by omega) (by decide) h291 ?_
        first | refine ri_icmpN_ne h 195 d_Md_own_31 (by decide) (by omega) (by omega) (fun c_31 => ?_) (fun c_31 => ?_) | refine ri_icmp_ne h 195 d_Md_own_31 (by decide) (fun c_31 => ?_) (fun c_31 => ?_)
        · refine ri_ls [(0, .ref (ad 30 0)), (1, .int (nI set)), (3, .int lay), (4, .int (nI (ts ++ ((List.range i).filter (fun s => onB (Q.sh s) lay && decide ((Q.sh s).cell = c))).map (fun s => (s, cmpS Q.pl st d))).length)), (5, .int (nI i))] ⟨rfl, rfl, rfl, rfl, rfl, trivial⟩ (SKIP ?_)
          rw [List.filter_cons_of_neg (p := fun s => onB (Q.sh s) lay && decide ((Q.sh s).cell = c)) (a := i)]
          · rfl
          · intro hq
            rw [Bool.and_eq_true, decide_eq_true_iff, onB_lay] at hq
            first | exact c_31 hq.2 | exact absurd (hq.1.1.symm.trans c_40) (by decide) | exact hq.1.2.elim c_45 (fun e => c_56 e.symm)
        · refine ri_aload_n h d_Md_own_34 rfl ?_
          refine ri_iload h d_Md_own_35 rfl ?_
          refine ri_cVv_1 (r := (gR6, gT6, 44)) h d_Md_own_37 cv_Md_155 (by first | exact hS.lcO | exact hS.lsO | exact hS.lpO | exact hS.cesO (by first | assumption | omega) | exact hS.cepO (by first | assumption | omega) | exact ⟨_, (by first | assumption | exact hS.st | exact hS.mo | exact hS.out | exact hS.sb | exact hS.ce (by first | assumption | omega) | exact hS.ceb (by first | assumption | omega) | exact hS.sh (by first | assumption | omega) | exact hS.shb (by first | assumption | omega) | exact hS.pl (by first | assumption | omega) | exact hS.plb (by first | assumption | omega) | exact hS.fl (by first | assumption | omega) | exact gup_s | (refine gup_t (by assumption) ?_; first | assumption | exact gup_s | (refine gup_t (by assumption) ?_; first | assumption | exact gup_s | (refine gup_t (by assumption) ?_; first | assumption | exact gup_s))))⟩) rfl (k_mempty h0 hS hm hW hiS hi24) (Nat.le_of_ble_eq_true rfl) (Nat.le_of_ble_eq_true rfl) (Nat.le_of_ble_eq_true rfl) (Nat.le_of_ble_eq_true rfl) (Nat.le_of_ble_eq_true rfl) ?_
          first | refine ri_ifB_ne h 195 d_Md_own_40 (by decide) (fun c_40 => ?_) (fun c_40 => ?_) | refine ri_ifN_ne h 195 d_Md_own_40 (by decide) (by omega) (fun c_40 => ?_) (fun c_40 => ?_) | refine ri_if_ne h 195 d_Md_own_40 (by decide) (fun c_40 => ?_) (fun c_40 => ?_)
          · refine ri_ls [(0, .ref (ad 30 0)), (1, .int (nI set)), (3, .int lay), (4, .int (nI (ts ++ ((List.range i).filter (fun s => onB (Q.sh s) lay && decide ((Q.sh s).cell = c))).map (fun s => (s, cmpS Q.pl st d))).length)), (5, .int (nI i))] ⟨rfl, rfl, rfl, rfl, rfl, trivial⟩ (SKIP ?_)
            rw [List.filter_cons_of_neg (p := fun s => onB (Q.sh s) lay && decide ((Q.sh s).cell = c)) (a := i)]
            · rfl
            · intro hq
              rw [Bool.and_eq_true, decide_eq_true_iff, onB_lay] at hq
              first | exact c_31 hq.2 | exact absurd (hq.1.1.symm.trans c_40) (by decide) | exact hq.1.2.elim c_45 (fun e => c_56 e.symm)
          · refine ri_iload_n h d_Md_own_43 rfl ?_
            refine ri_iconst h (-1) d_Md_own_44 rfl ?_
            refine ri_icmp_eq h 62 d_Md_own_45 (by decide) (fun c_45 => ?_) (fun c_45 => ?_)
            · refine ri_ls [(0, .ref (ad 30 0)), (1, .int (nI set)), (3, .int lay), (4, .int (nI (ts ++ ((List.range i).filter (fun s => onB (Q.sh s) lay && decide ((Q.sh s).cell = c))).map (fun s => (s, cmpS Q.pl st d))).length)), (5, .int (nI i))] ⟨rfl, rfl, rfl, rfl, rfl, trivial⟩ (TAKE ?_)
              rw [List.filter_cons_of_pos (p := fun s => onB (Q.sh s) lay && decide ((Q.sh s).cell = c)) (a := i)]
              · rfl
              · rw [Bool.and_eq_true, decide_eq_true_iff, onB_lay]
                exact ⟨⟨by simpa using c_40, by first | exact Or.inl c_45 | exact Or.inr c_56.symm⟩, c_31⟩
            · refine ri_aload_n h d_Md_own_48 rfl ?_
              refine ri_get h d_Md_own_49 fl_Md_13 (by first | assumption | exact hS.mo | exact gup_s) (by rfl) ?_
              refine ri_iload h d_Md_own_52 rfl ?_
              refine ri_ialdE h _ d_Md_own_54 (by first | assumption | exact hS.a4) (by first | rfl | assumption) (by first | assumption | omega) (by first | decide | omega) (by first | assumption | exact hm.i4 (by first | assumption | omega) | rfl) ?_
              refine ri_iload_n h d_Md_own_55 rfl ?_
              refine ri_icmp_eq h 62 d_Md_own_56 (by decide) (fun c_56 => ?_) (fun c_56 => ?_)
              · refine ri_ls [(0, .ref (ad 30 0)), (1, .int (nI set)), (3, .int lay), (4, .int (nI (ts ++ ((List.range i).filter (fun s => onB (Q.sh s) lay && decide ((Q.sh s).cell = c))).map (fun s => (s, cmpS Q.pl st d))).length)), (5, .int (nI i))] ⟨rfl, rfl, rfl, rfl, rfl, trivial⟩ (TAKE ?_)
                rw [List.filter_cons_of_pos (p := fun s => onB (Q.sh s) lay && decide ((Q.sh s).cell = c)) (a := i)]
                · rfl
                · rw [Bool.and_eq_true, decide_eq_true_iff, onB_lay]
                  exact ⟨⟨by simpa using c_40, by first | exact Or.inl c_45 | exact Or.inr c_56.symm⟩, c_31⟩
              · refine ri_goto h 195 d_Md_own_59 (by decide) ?_
                refine ri_ls [(0, .ref (ad 30 0)), (1, .int (nI set)), (3, .int lay), (4, .int (nI (ts ++ ((List.range i).filter (fun s => onB (Q.sh s) lay && decide ((Q.sh s).cell = c))).map (fun s => (s, cmpS Q.pl st d))).length)), (5, .int (nI i))] ⟨rfl, rfl, rfl, rfl, rfl, trivial⟩ (SKIP ?_)
                rw [List.filter_cons_of_neg (p := fun s => onB (Q.sh s) lay && decide ((Q.sh s).cell = c)) (a := i)]
                · rfl
                · intro hq
                  rw [Bool.and_eq_true, decide_eq_true_iff, onB_lay] at hq
                  first | exact c_31 hq.2 | exact absurd (hq.1.1.symm.trans c_40) (by decide) | exact hq.1.2.elim c_45 (fun e => c_56 e.symm)
  refine ri_iload_n h d_Md_own_0 rfl ?_
  refine ri_istore h d_Md_own_1 (Nat.le_of_ble_eq_true rfl) ?_
  refine ri_iconstN h 0 d_Md_own_3 rfl ?_
  refine ri_istore h d_Md_own_4 (Nat.le_of_ble_eq_true rfl) ?_
  exact ri_ls [(0, .ref (ad 30 0)), (1, .int (nI set)), (3, .int lay), (4, .int (nI (ts ++ ((List.range 0).filter (fun s => onB (Q.sh s) lay && decide ((Q.sh s).cell = c))).map (fun s => (s, cmpS Q.pl st d))).length)), (5, .int (nI 0))] ⟨rfl, rfl, rfl, (by simp; rfl), rfl, trivial⟩ (LS Q.nS 0 (by omega) M N hS NO.refl (by simpa using hts))
end OWN
