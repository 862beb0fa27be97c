/-! hasSameShapes -/
noncomputable def mks : List (List Int) → Int64
  | [] => 0
  | K :: l => mkK K + mks l
theorem mks_snoc (K : List Int) : ∀ l, mks (l ++ [K]) = mks l + mkK K
  | [] => by show mkK K + 0 = 0 + mkK K; rw [Int64.add_comm]
  | a :: l => by
    show mkK a + mks (l ++ [K]) = mkK a + mks l + mkK K
    rw [mks_snoc K l, Int64.add_assoc]
theorem mks_perm {a b : List (List Int)} (h : a.Perm b) : mks a = mks b := by
  induction h with
  | nil => rfl
  | cons x _ ih => show mkK x + _ = mkK x + _; rw [ih]
  | swap x y l => show mkK y + (mkK x + mks l) = mkK x + (mkK y + mks l); rw [← Int64.add_assoc, ← Int64.add_assoc, Int64.add_comm (mkK y)]
  | trans _ _ h1 h2 => exact h1.trans h2
abbrev i0 : It := (0, 0, 0, 0)
def FG (Q : CS) (r : FlR) (zs : List It) : Prop := r.cnt = zs.length ∧ FO Q r (fun i => zs.getD i i0) ∧ (sl r.ord 0 r.cnt).Perm (List.range r.cnt) ∧ (r.srt = 0 ∨ (r.srt = 1 ∧ (sl r.ord 0 r.cnt).Pairwise (fun x y => kle Q (fun i => zs.getD i i0) x y = true))) ∧ r.mark = mks (zs.map (key Q)) ∧ ∀ i s, r.sh i = some s → s < Q.nS
theorem map_getD {α β : Type} (f : α → β) (d : α) (l : List α) : (List.range l.length).map (fun i => f (l.getD i d)) = l.map f := by
  refine List.ext_getElem (by simp) (fun i h1 h2 => ?_)
  have h3 : i < l.length := by simpa using h2
  simp [List.getD_eq_getElem?_getD, List.getElem?_eq_getElem h3]
section SAM
variable {l : Launch} {D : gD} {s0 : State} {M : gH} {z : Nat} {ad : gA} {Q : CS} {N : MS}
theorem FG.op {r : FlR} {zs : List It} (h : FG Q r zs) (g : Nat → FlR) : FG (Q.set_fl g) r zs := h
theorem srt_eq {z1 z2 : List It} {o1 o2 : Nat → Nat} (h1 : (sl o1 0 z1.length).Perm (List.range z1.length)) (h2 : (sl o2 0 z2.length).Perm (List.range z2.length)) (s1 : (sl o1 0 z1.length).Pairwise (fun x y => kle Q (fun i => z1.getD i i0) x y = true)) (s2 : (sl o2 0 z2.length).Pairwise (fun x y => kle Q (fun i => z2.getD i i0) x y = true)) : (z1.map (key Q)).Perm (z2.map (key Q)) ↔ (sl o1 0 z1.length).map (fun i => key Q (z1.getD i i0)) = (sl o2 0 z2.length).map (fun i => key Q (z2.getD i i0)) := by
  have p1 := h1.map (fun i => key Q (z1.getD i i0))
  rw [map_getD (key Q) i0 z1] at p1
  have p2 := h2.map (fun i => key Q (z2.getD i i0))
  rw [map_getD (key Q) i0 z2] at p2
  constructor
  · intro h
    refine List.Perm.eq_of_pairwise (le := leK) (fun a b _ _ => leK.anti) ?_ ?_ (p1.trans (h.trans p2.symm))
    · rw [List.pairwise_map]
      exact s1.imp (fun h => decide_eq_true_iff.mp h)
    · rw [List.pairwise_map]
      exact s2.imp (fun h => decide_eq_true_iff.mp h)
  · intro h
    exact p1.symm.trans (h ▸ p2)
theorem sl_map_eq {o1 o2 : Nat → Nat} {f g : Nat → List Int} {n : Nat} : (sl o1 0 n).map f = (sl o2 0 n).map g ↔ ∀ i, i < n → f (o1 i) = g (o2 i) := by
  unfold sl
  rw [List.map_map, List.map_map, List.map_inj_left]
  constructor
  · intro h i hi
    exact h i (List.mem_range'_1.mpr ⟨by omega, by omega⟩)
  · intro h i hi
    exact h i (by have := (List.mem_range'_1.mp hi).2; omega)
theorem k_same (h0 : g_0 l D s0) (hS : HS z ad Q N M) {z1 z2 : List It} (hg1 : FG Q (Q.fl 1) z1) (hg2 : FG Q (Q.fl 2) z2) {bb : Int32} (hbb : (bb = 1 ∧ (z1.map (key Q)).Perm (z2.map (key Q))) ∨ (bb = 0 ∧ ¬ (z1.map (key Q)).Perm (z2.map (key Q)))) : Ct l D s0 y_Fl_hasSameShapes (Cond.code y_Fl_hasSameShapes b_Fl_hasSameShapes 3 (some .boolean)) (rk 5 0 0) [.ref (ad 3 1), .ref (ad 3 2)] M (fS (some (.int bb)) (fun M' => ∃ g, HS z ad (Q.set_fl g) N M' ∧ g 0 = Q.fl 0 ∧ FG Q (g 1) z1 ∧ FG Q (g 2) z2)) := by
  have hB : narrow .boolean (.int bb) = .int bb := by rcases hbb with ⟨rfl, -⟩ | ⟨rfl, -⟩ <;> rfl
  generalize hr1 : Q.fl 1 = r1 at hg1
  generalize hr2 : Q.fl 2 = r2 at hg2
  obtain ⟨c1, f1, p1, s1, m1, b1⟩ := id hg1
  obtain ⟨c2, f2, p2, s2, m2, b2⟩ := id hg2
  have l1 := f1.1.1
  have l2 := f2.1.1
  have hj1 : 1 < 3 := by decide
  have hj2 : 2 < 3 := by decide
  have hno : ¬ (z1.map (key Q)).Perm (z2.map (key Q)) → bb = 0 := fun hn => by
    rcases hbb with ⟨-, hp⟩ | ⟨e, -⟩
    · exact absurd hp hn
    · exact e
  have hyes : (z1.map (key Q)).Perm (z2.map (key Q)) → bb = 1 := fun hn => by
    rcases hbb with ⟨e, -⟩ | ⟨-, hp⟩
    · exact e
    · exact absurd hn hp
  refine Ct.of h0 (by decide +kernel) rfl fun X hX h => ?_
  obtain ⟨p_, l', e_, R_, s_, m_, ar_, be_, me_, c_⟩ := X
  obtain rfl : l' = l := hX
  have J23 : bb = 0 → G (gzz D s0 (p_, l', e_, R_, s_, m_, ar_, be_, me_, c_) (rk 5 0 0) (fS (some (.int bb)) (fun M' => ∃ g, HS z ad (Q.set_fl g) N M' ∧ g 0 = Q.fl 0 ∧ FG Q (g 1) z1 ∧ FG Q (g 2) z2)) 3) 23 [] [] M 0 0 := by
    intro e
    subst e
    refine ri_iconst h 0 d_Fl_hasSameShapes_23 rfl ?_
    refine ri_zreturn h d_Fl_hasSameShapes_24 (Nat.le_of_ble_eq_true rfl) (Nat.le_of_ble_eq_true rfl) (by first | rfl | assumption) ?_
    exact ⟨rfl, Q.fl, hS, rfl, by rw [hr1]; exact hg1, by rw [hr2]; exact hg2⟩
  refine ri_aload_n h d_Fl_hasSameShapes_0 rfl ?_
  refine ri_get h d_Fl_hasSameShapes_1 fl_Fl_37 (hS.fl_of hj1 hr1) (v := .int (nI r1.cnt)) rfl ?_
  refine ri_aload_n h d_Fl_hasSameShapes_4 rfl ?_
  refine ri_get h d_Fl_hasSameShapes_5 fl_Fl_37 (hS.fl_of hj2 hr2) (v := .int (nI r2.cnt)) rfl ?_
  first | refine ri_icmpN_ne h 23 d_Fl_hasSameShapes_8 (by decide) (by omega) (by omega) (fun c_8 => ?_) (fun c_8 => ?_) | refine ri_icmp_ne h 23 d_Fl_hasSameShapes_8 (by decide) (fun c_8 => ?_) (fun c_8 => ?_)
  · refine ri_ls [] trivial (J23 (hno (fun hp => c_8 ?_)))
    have := hp.length_eq
    rw [List.length_map, List.length_map] at this
    omega
  · have hcc : r1.cnt = r2.cnt := by omega
    refine ri_aload_n h d_Fl_hasSameShapes_11 rfl ?_
    refine ri_get h d_Fl_hasSameShapes_12 fl_Fl_126 (hS.fl_of hj1 hr1) (v := .long r1.mark) rfl ?_
    refine ri_aload_n h d_Fl_hasSameShapes_15 rfl ?_
    refine ri_get h d_Fl_hasSameShapes_16 fl_Fl_126 (hS.fl_of hj2 hr2) (v := .long r2.mark) rfl ?_
    refine ri_lcmp_eq h 25 d_Fl_hasSameShapes_19 d_Fl_hasSameShapes_20 (by decide) (fun c_19 => ?_) (fun c_19 => ?_)
    · refine ri_aload_n h d_Fl_hasSameShapes_25 rfl ?_
      refine ri_dV0_0 (r := (gR2, gT2, 11)) h d_Fl_hasSameShapes_26 cv_Fl_167 (by first | exact hS.lcO | exact hS.lsO | exact hS.lpO | exact hS.cesO (by first | assumption | omega) | exact hS.cepO (by first | assumption | omega) | exact ⟨_, (by first | assumption | exact hS.st | exact hS.mo | exact hS.out | exact hS.sb | exact hS.ce (by first | assumption | omega) | exact hS.ceb (by first | assumption | omega) | exact hS.sh (by first | assumption | omega) | exact hS.shb (by first | assumption | omega) | exact hS.pl (by first | assumption | omega) | exact hS.plb (by first | assumption | omega) | exact hS.fl (by first | assumption | omega) | exact gup_s | (refine gup_t (by assumption) ?_; first | assumption | exact gup_s | (refine gup_t (by assumption) ?_; first | assumption | exact gup_s | (refine gup_t (by assumption) ?_; first | assumption | exact gup_s))))⟩) rfl (k_sort h0 hj1 hS hr1 f1 p1 s1) (Nat.le_of_ble_eq_true rfl) (Nat.le_of_ble_eq_true rfl) (Nat.le_of_ble_eq_true rfl) (Nat.le_of_ble_eq_true rfl) (Nat.le_of_ble_eq_true rfl) (fun M hS => ?_)
      obtain ⟨o1, q1, hS, hp1, hw1⟩ := hS
      have h2' : (Q.set_fl (va_up Q.fl 1 (((r1.set_ord o1).set_spa q1).set_srt 1))).fl 2 = r2 := Eq.trans (va_up_n (g := Q.fl) (j := 1) (v := ((r1.set_ord o1).set_spa q1).set_srt 1) (show (2 : Nat) ≠ 1 by decide)) hr2
      refine ri_aload_n h d_Fl_hasSameShapes_29 rfl ?_
      refine ri_dV0_0 (r := (gR2, gT2, 11)) h d_Fl_hasSameShapes_30 cv_Fl_167 (by first | exact hS.lcO | exact hS.lsO | exact hS.lpO | exact hS.cesO (by first | assumption | omega) | exact hS.cepO (by first | assumption | omega) | exact ⟨_, (by first | assumption | exact hS.st | exact hS.mo | exact hS.out | exact hS.sb | exact hS.ce (by first | assumption | omega) | exact hS.ceb (by first | assumption | omega) | exact hS.sh (by first | assumption | omega) | exact hS.shb (by first | assumption | omega) | exact hS.pl (by first | assumption | omega) | exact hS.plb (by first | assumption | omega) | exact hS.fl (by first | assumption | omega) | exact gup_s | (refine gup_t (by assumption) ?_; first | assumption | exact gup_s | (refine gup_t (by assumption) ?_; first | assumption | exact gup_s | (refine gup_t (by assumption) ?_; first | assumption | exact gup_s))))⟩) rfl (k_sort (w := fun i => z2.getD i i0) h0 hj2 hS h2' f2 p2 s2) (Nat.le_of_ble_eq_true rfl) (Nat.le_of_ble_eq_true rfl) (Nat.le_of_ble_eq_true rfl) (Nat.le_of_ble_eq_true rfl) (Nat.le_of_ble_eq_true rfl) (fun M hS => ?_)
      obtain ⟨o2, q2, hS, hp2, hw2⟩ := hS
      generalize hR1 : ((r1.set_ord o1).set_spa q1).set_srt 1 = R1 at *
      generalize hR2 : ((r2.set_ord o2).set_spa q2).set_srt 1 = R2 at *
      have hn1 : R1.cnt = r1.cnt := by rw [← hR1]
      have hn2 : R2.cnt = r2.cnt := by rw [← hR2]
      have ho1 : R1.ord = o1 := by rw [← hR1]
      have ho2 : R2.ord = o2 := by rw [← hR2]
      have hG1 : FG Q R1 z1 := by rw [← hR1]; exact ⟨c1, f1, hp1, Or.inr ⟨rfl, hw1⟩, m1, b1⟩
      have hG2 : FG Q R2 z2 := by rw [← hR2]; exact ⟨c2, f2, hp2, Or.inr ⟨rfl, hw2⟩, m2, b2⟩
      have hi1 := sl_idx hp1
      have hi2 := sl_idx hp2
      have hgf : HS z ad (Q.set_fl (va_up (va_up Q.fl 1 R1) 2 R2)) N M := hS
      clear hS
      generalize hg : va_up (va_up Q.fl 1 R1) 2 R2 = g at *
      have e0 : g 0 = Q.fl 0 := by rw [← hg, va_up_n (by decide), va_up_n (by decide)]
      have e1 : g 1 = R1 := by rw [← hg, va_up_n (by decide), va_up_s]
      have e2 : g 2 = R2 := by rw [← hg, va_up_s]
      have e1' : (Q.set_fl g).fl 1 = R1 := e1
      have e2' : (Q.set_fl g).fl 2 = R2 := e2
      have hS := hgf
      rw [c1] at hp1 hw1
      rw [c2] at hp2 hw2
      have hiff := srt_eq hp1 hp2 hw1 hw2
      rw [← c1, ← c2, ← hcc, sl_map_eq] at hiff
      have LP : ∀ (q i : Nat), i + q = r1.cnt → (∀ i', i' < i → key Q (z1.getD (o1 i') i0) = key Q (z2.getD (o2 i') i0)) → G (gzz D s0 (p_, l', e_, R_, s_, m_, ar_, be_, me_, c_) (rk 5 0 0) (fS (some (.int bb)) (fun M' => ∃ g, HS z ad (Q.set_fl g) N M' ∧ g 0 = Q.fl 0 ∧ FG Q (g 1) z1 ∧ FG Q (g 2) z2)) 3) 35 [(0, .ref (ad 3 1)), (1, .ref (ad 3 2)), (2, .int (nI i))] [] M 0 0 := by
        intro q
        induction q with
        | zero =>
          intro i hi hq
          have hb1 := hyes (hiff.mpr (fun i' h' => hq i' (by omega)))
          subst hb1
          refine ri_iload_n h d_Fl_hasSameShapes_35 rfl ?_
          refine ri_aload_n h d_Fl_hasSameShapes_36 rfl ?_
          refine ri_get h d_Fl_hasSameShapes_37 fl_Fl_37 (hS.fl_of hj1 e1') (v := .int (nI r1.cnt)) (congrArg (fun x => some (Value.int (nI x))) hn1) ?_
          first | refine ri_icmpN_ge h 71 d_Fl_hasSameShapes_40 (by decide) (by omega) (by omega) (fun c_40 => ?_) (fun c_40 => ?_) | refine ri_icmp_ge h 71 d_Fl_hasSameShapes_40 (by decide) (fun c_40 => ?_) (fun c_40 => ?_)
          · refine ri_iconst h 1 d_Fl_hasSameShapes_71 rfl ?_
            refine ri_zreturn h d_Fl_hasSameShapes_72 (Nat.le_of_ble_eq_true rfl) (Nat.le_of_ble_eq_true rfl) (by first | rfl | assumption) ?_
            exact ⟨rfl, g, hS, e0, by rw [e1]; exact hG1, by rw [e2]; exact hG2⟩
          · omega
        | succ q ih =>
          intro i hi hq
          have hir1 : i < r1.cnt := by omega
          have hir2 : i < r2.cnt := by omega
          have hi3 : i < 3000 := by omega
          refine ri_iload_n h d_Fl_hasSameShapes_35 rfl ?_
          refine ri_aload_n h d_Fl_hasSameShapes_36 rfl ?_
          refine ri_get h d_Fl_hasSameShapes_37 fl_Fl_37 (hS.fl_of hj1 e1') (v := .int (nI r1.cnt)) (congrArg (fun x => some (Value.int (nI x))) hn1) ?_
          first | refine ri_icmpN_ge h 71 d_Fl_hasSameShapes_40 (by decide) (by omega) (by omega) (fun c_40 => ?_) (fun c_40 => ?_) | refine ri_icmp_ge h 71 d_Fl_hasSameShapes_40 (by decide) (fun c_40 => ?_) (fun c_40 => ?_)
          · omega
          · refine ri_aload_n h d_Fl_hasSameShapes_43 rfl ?_
            refine ri_aload_n h d_Fl_hasSameShapes_44 rfl ?_
            refine ri_get h d_Fl_hasSameShapes_45 fl_Fl_31 (by first | assumption | exact hS.fl_of (by first | assumption | omega) (by assumption) | exact hS.fl (by first | assumption | omega) | exact gup_s) (by rfl) ?_
            refine ri_iload_n h d_Fl_hasSameShapes_48 rfl ?_
            refine ri_ialdE h _ d_Fl_hasSameShapes_49 (hS.flo_of hj1 e1') rfl hi3 (by decide) (v := nI (o1 i)) (by rw [ho1]) ?_
            refine ri_aload_n h d_Fl_hasSameShapes_50 rfl ?_
            refine ri_aload_n h d_Fl_hasSameShapes_51 rfl ?_
            refine ri_get h d_Fl_hasSameShapes_52 fl_Fl_31 (by first | assumption | exact hS.fl_of (by first | assumption | omega) (by assumption) | exact hS.fl (by first | assumption | omega) | exact gup_s) (by rfl) ?_
            refine ri_iload_n h d_Fl_hasSameShapes_55 rfl ?_
            refine ri_ialdE h _ d_Fl_hasSameShapes_56 (hS.flo_of hj2 e2') rfl hi3 (by decide) (v := nI (o2 i)) (by rw [ho2]) ?_
            refine ri_cVv_3 (r := (gR2, gT2, 11)) h d_Fl_hasSameShapes_57 cv_Fl_170 (by first | exact hS.lcO | exact hS.lsO | exact hS.lpO | exact hS.cesO (by first | assumption | omega) | exact hS.cepO (by first | assumption | omega) | exact ⟨_, (by first | assumption | exact hS.st | exact hS.mo | exact hS.out | exact hS.sb | exact hS.ce (by first | assumption | omega) | exact hS.ceb (by first | assumption | omega) | exact hS.sh (by first | assumption | omega) | exact hS.shb (by first | assumption | omega) | exact hS.pl (by first | assumption | omega) | exact hS.plb (by first | assumption | omega) | exact hS.fl (by first | assumption | omega) | exact gup_s | (refine gup_t (by assumption) ?_; first | assumption | exact gup_s | (refine gup_t (by assumption) ?_; first | assumption | exact gup_s | (refine gup_t (by assumption) ?_; first | assumption | exact gup_s))))⟩) rfl (k_cmp (w1 := fun i => z1.getD i i0) (w2 := fun i => z2.getD i i0) h0 hS hj1 hj2 e1' e2' hG1.2.1 hG2.2.1 (by rw [hn1]; exact hi1 i hir1) (by rw [hn2]; exact hi2 i hir2)) (Nat.le_of_ble_eq_true rfl) (Nat.le_of_ble_eq_true rfl) (Nat.le_of_ble_eq_true rfl) (Nat.le_of_ble_eq_true rfl) (Nat.le_of_ble_eq_true rfl) ?_
            by_cases hk : key Q (z1.getD (o1 i) i0) = key Q (z2.getD (o2 i) i0)
            · rw [show lcmp (key (Q.set_fl g) (z1.getD (o1 i) i0)) (key (Q.set_fl g) (z2.getD (o2 i) i0)) = 0 from (lcmp_0 _ _).mpr hk]
              refine ri_if_eq h 65 d_Fl_hasSameShapes_60 (by decide) (fun c_60 => ?_) (fun c_60 => ?_)
              · first | refine ri_iincN h d_Fl_hasSameShapes_65 rfl (Nat.le_of_ble_eq_true rfl) ?_ | refine ri_iinc h _ d_Fl_hasSameShapes_65 rfl rfl (Nat.le_of_ble_eq_true rfl) ?_
                refine ri_goto h 35 d_Fl_hasSameShapes_68 (by decide) ?_
                refine ri_ls [(0, .ref (ad 3 1)), (1, .ref (ad 3 2)), (2, .int (nI (i + 1)))] ⟨rfl, rfl, rfl, trivial⟩ (ih (i + 1) (by omega) (fun i' h' => ?_))
                rcases Nat.lt_or_eq_of_le (Nat.lt_succ_iff.mp h') with h' | rfl
                · exact hq i' h'
                · exact hk
              · exact absurd rfl c_60
            · have hb0 := hno (fun hp => hk (hiff.mp hp i hir1))
              have hk0 : ¬ lcmp (key (Q.set_fl g) (z1.getD (o1 i) i0)) (key (Q.set_fl g) (z2.getD (o2 i) i0)) = 0 := fun e => hk ((lcmp_0 _ _).mp e)
              subst hb0
              refine ri_if_eq h 65 d_Fl_hasSameShapes_60 (by decide) (fun c_60 => ?_) (fun c_60 => ?_)
              · contradiction
              · refine ri_iconst h 0 d_Fl_hasSameShapes_63 rfl ?_
                refine ri_zreturn h d_Fl_hasSameShapes_64 (Nat.le_of_ble_eq_true rfl) (Nat.le_of_ble_eq_true rfl) (by first | rfl | assumption) ?_
                exact ⟨rfl, g, hS, e0, by rw [e1]; exact hG1, by rw [e2]; exact hG2⟩
      refine ri_iconstN h 0 d_Fl_hasSameShapes_33 rfl ?_
      refine ri_istore_n h d_Fl_hasSameShapes_34 (Nat.le_of_ble_eq_true rfl) ?_
      exact ri_ls [(0, .ref (ad 3 1)), (1, .ref (ad 3 2)), (2, .int (nI 0))] ⟨rfl, rfl, rfl, trivial⟩ (LP r1.cnt 0 (by omega) (fun i' h' => by omega))
    · refine ri_ls [] trivial (J23 (hno (fun hp => c_19 ?_)))
      rw [m1, m2]
      exact mks_perm hp
end SAM
