/-! place: the model; at, refused -/
def zc (u : Nat → Int32) : Nat := ((List.range 20).filter (fun x => decide (u x = 0))).length
theorem zc_lt {u : Nat → Int32} {j : Nat} (hj : j < 20) (h0 : u j = 0) : zc (va_up u j (nI 1)) < zc u := by
  unfold zc
  refine flt_lt (y := j) (List.range 20) (fun x hx => ?_) (List.mem_range.mpr hj) (decide_eq_true h0) (fun hx => ?_)
  · have hx := of_decide_eq_true hx
    refine decide_eq_true ?_
    by_cases e : x = j
    · subst e; exact h0
    · rwa [va_up_n e] at hx
  · have hx := of_decide_eq_true hx
    rw [va_up_s] at hx
    exact absurd hx (by decide)
theorem i32_lt8 {t : Int32} (h : t ≤ nI 7) : t < 8 := by
  rw [Int32.lt_iff_toInt_lt]
  rw [Int32.le_iff_toInt_le] at h
  have e1 : (nI 7).toInt = 7 := by decide
  have e2 : (8 : Int32).toInt = 8 := by decide
  omega
section MPL
variable {l : Launch} {D : gD} {s0 : State} {M : gH} {z : Nat} {ad : gA} {Q Qc : CS} {N : MS}
def muI (E : Nat → Nat → Prop) (o : Nat) (u : Nat → Int32) : Prop := (∀ x, x < 20 → u x = 0 ∨ u x = 1) ∧ (∀ x, x < 20 → u x = 1 → Rch E o x) ∧ u o = 1
abbrev mhP (z : Nat) (ad : gA) (Q Qc : CS) (N : MS) (o c : Nat) : gR → gH → Prop := fun r M' => ∃ (b : Int32) (u : Nat → Int32), r = .inl (some (.int b)) ∧ HS z ad Qc (N.set_i (va_up N.i 27 u)) M' ∧ ((b = 1 ∧ Rch (Ed Q) o c) ∨ (b = 0 ∧ ¬ Rch (Ed Q) o c))
theorem k_mhas (h0 : g_0 l D s0) (hS : HS z ad Qc N M) (hm : MR Q N) (hW : WB Q) (hL : WL Q) {o c : Nat} (ho : o < Q.nC) (hc : c < Q.nC) : Ct l D s0 y_Md_has (Cond.code y_Md_has b_Md_has 5 (some .boolean)) (rk 1 0 0) [.ref (ad 30 0), .int (nI o), .int (nI c)] M (mhP z ad Q Qc N o c) := by
  have hb1 := hW.1
  have hb3 := hW.2.2.1
  have hnp := hm.np
  refine Ct.of h0 (by decide +kernel) rfl fun X hX h => ?_
  obtain ⟨p_, l', e_, R_, s_, m_, ar_, be_, me_, c_⟩ := X
  obtain rfl : l' = l := hX
  have X104 : ∀ (M : gH) (u : Nat → Int32), HS z ad Qc (N.set_i (va_up N.i 27 u)) M → muI (Ed Q) o u → (∀ p, p < Q.nP → u (Q.pl p).cell = 1 → u (Q.pl p).of = 1) → G (gzz D s0 (p_, l', e_, R_, s_, m_, ar_, be_, me_, c_) (rk 1 0 0) (mhP z ad Q Qc N o c) 5) 104 [(0, .ref (ad 30 0)), (2, .int (nI c))] [] M 0 0 := by
    intro M u hS hu hcl
    have h01 := hu.1 c (by omega)
    have hn : narrow .boolean (.int (u c)) = .int (u c) := by rcases h01 with e | e <;> rw [e] <;> rfl
    refine ri_aload_n h d_Md_has_104 rfl ?_
    refine ri_get h d_Md_has_105 fl_Md_76 (by first | assumption | exact hS.mo | exact gup_s) (by rfl) ?_
    refine ri_iload_n h d_Md_has_108 rfl ?_
    refine ri_zaldE h _ d_Md_has_109 (by first | assumption | exact hS.a27) (by first | rfl | assumption) (by first | assumption | omega) (by first | decide | omega) (by first | assumption | assumption | rfl) ?_
    refine ri_zreturn h d_Md_has_110 (Nat.le_of_ble_eq_true rfl) (Nat.le_of_ble_eq_true rfl) (by first | rfl | assumption) ?_
    exact ⟨u c, u, rfl, hS, h01.elim (fun e => Or.inr ⟨e, fun r => by have := (r.ind (P := fun x => x < Q.nC ∧ u x = 1) ⟨ho, hu.2.2⟩ (fun x y hx e => by obtain ⟨p, hp, rfl, rfl⟩ := e; exact ⟨(hL.2.1 p hp).2.1, hcl p hp hx.2⟩)).2; exact absurd (e.symm.trans this) (by decide)⟩) (fun e => Or.inl ⟨e, hu.2.1 c (by omega) e⟩)⟩
  have LO : ∀ (n : Nat) (M : gH) (u : Nat → Int32), zc u < n → HS z ad Qc (N.set_i (va_up N.i 27 u)) M → muI (Ed Q) o u → G (gzz D s0 (p_, l', e_, R_, s_, m_, ar_, be_, me_, c_) (rk 1 0 0) (mhP z ad Q Qc N o c) 5) 36 [(0, .ref (ad 30 0)), (1, .int (nI o)), (2, .int (nI c))] [] M 0 0 := by
    intro n
    induction n with
    | zero => intro M u hz; exact absurd hz (Nat.not_lt_zero _)
    | succ n ih =>
      intro M u hz hS hu
      have LI : ∀ (q p : Nat), p + q = Q.nP → ∀ (M : gH) (u' : Nat → Int32) (m : Nat), HS z ad Qc (N.set_i (va_up N.i 27 u')) M → muI (Ed Q) o u' → ((m = 0 ∧ u' = u ∧ ∀ p', p' < p → u (Q.pl p').cell = 1 → u (Q.pl p').of = 1) ∨ (m = 1 ∧ zc u' < zc u)) → G (gzz D s0 (p_, l', e_, R_, s_, m_, ar_, be_, me_, c_) (rk 1 0 0) (mhP z ad Q Qc N o c) 5) 41 [(0, .ref (ad 30 0)), (1, .int (nI o)), (2, .int (nI c)), (3, .int (nI m)), (4, .int (nI p))] [] M 0 0 := by
        intro q
        induction q with
        | zero =>
          intro p hp M u' m hS hu' hm'
          rcases hm' with ⟨rfl, eu, hcl⟩ | ⟨rfl, hlt⟩
          · refine ri_iload h d_Md_has_41 rfl ?_
            refine ri_aload_n h d_Md_has_43 rfl ?_
            refine ri_get h d_Md_has_44 fl_Md_148 (by first | assumption | exact hS.mo | exact gup_s) (by first | exact congrArg (fun x => some (Value.int (nI x))) hm.np | rfl) ?_
            first | refine ri_icmpN_ge h 101 d_Md_has_47 (by decide) (by omega) (by omega) (fun c_47 => ?_) (fun c_47 => ?_) | refine ri_icmp_ge h 101 d_Md_has_47 (by decide) (fun c_47 => ?_) (fun c_47 => ?_)
            · first
              | (exfalso; first | exact absurd c_47 (by decide) | omega)
              | (refine ri_goto h 32 d_Md_has_101 (by decide) ?_
                 refine ri_iload_n h d_Md_has_32 rfl ?_
                 first | refine ri_ifB_eq h 104 d_Md_has_33 (by decide) (fun c_33 => ?_) (fun c_33 => ?_) | refine ri_ifN_eq h 104 d_Md_has_33 (by decide) (by omega) (fun c_33 => ?_) (fun c_33 => ?_) | refine ri_if_eq h 104 d_Md_has_33 (by decide) (fun c_33 => ?_) (fun c_33 => ?_)
                 · first
                   | (exfalso; first | exact absurd c_33 (by decide) | omega)
                   | (exact ri_ls [(0, .ref (ad 30 0)), (2, .int (nI c))] ⟨rfl, rfl, trivial⟩ (X104 _ _ hS hu' (fun p' hp' => eu ▸ hcl p' (by omega))))
                 · first
                   | (exfalso; first | exact absurd c_33 (by decide) | omega)
                   | (omega))
            · omega
          · refine ri_iload h d_Md_has_41 rfl ?_
            refine ri_aload_n h d_Md_has_43 rfl ?_
            refine ri_get h d_Md_has_44 fl_Md_148 (by first | assumption | exact hS.mo | exact gup_s) (by first | exact congrArg (fun x => some (Value.int (nI x))) hm.np | rfl) ?_
            first | refine ri_icmpN_ge h 101 d_Md_has_47 (by decide) (by omega) (by omega) (fun c_47 => ?_) (fun c_47 => ?_) | refine ri_icmp_ge h 101 d_Md_has_47 (by decide) (fun c_47 => ?_) (fun c_47 => ?_)
            · first
              | (exfalso; first | exact absurd c_47 (by decide) | omega)
              | (refine ri_goto h 32 d_Md_has_101 (by decide) ?_
                 refine ri_iload_n h d_Md_has_32 rfl ?_
                 first | refine ri_ifB_eq h 104 d_Md_has_33 (by decide) (fun c_33 => ?_) (fun c_33 => ?_) | refine ri_ifN_eq h 104 d_Md_has_33 (by decide) (by omega) (fun c_33 => ?_) (fun c_33 => ?_) | refine ri_if_eq h 104 d_Md_has_33 (by decide) (fun c_33 => ?_) (fun c_33 => ?_)
                 · first
                   | (exfalso; first | exact absurd c_33 (by decide) | omega)
                   | (omega)
                 · first
                   | (exfalso; first | exact absurd c_33 (by decide) | omega)
                   | (exact ri_ls [(0, .ref (ad 30 0)), (1, .int (nI o)), (2, .int (nI c))] ⟨rfl, rfl, rfl, trivial⟩ (ih _ _ (by omega) hS hu')))
            · omega
        | succ q ihq =>
          intro p hp M u' m hS hu' hm'
          have hpP : p < Q.nP := by omega
          obtain ⟨hpc, hpo, -⟩ := hL.2.1 p hpP
          have hed : Ed Q (Q.pl p).cell (Q.pl p).of := ⟨p, hpP, rfl, rfl⟩
          have hpc20 : (Q.pl p).cell < 20 := by omega
          have hpo20 : (Q.pl p).of < 20 := by omega
          refine ri_iload h d_Md_has_41 rfl ?_
          refine ri_aload_n h d_Md_has_43 rfl ?_
          refine ri_get h d_Md_has_44 fl_Md_148 (by first | assumption | exact hS.mo | exact gup_s) (by first | exact congrArg (fun x => some (Value.int (nI x))) hm.np | rfl) ?_
          first | refine ri_icmpN_ge h 101 d_Md_has_47 (by decide) (by omega) (by omega) (fun c_47 => ?_) (fun c_47 => ?_) | refine ri_icmp_ge h 101 d_Md_has_47 (by decide) (fun c_47 => ?_) (fun c_47 => ?_)
          · omega
          · refine ri_aload_n h d_Md_has_50 rfl ?_
            refine ri_get h d_Md_has_51 fl_Md_76 (by first | assumption | exact hS.mo | exact gup_s) (by rfl) ?_
            refine ri_aload_n h d_Md_has_54 rfl ?_
            refine ri_get h d_Md_has_55 fl_Md_36 (by first | assumption | exact hS.mo | exact gup_s) (by rfl) ?_
            refine ri_iload h d_Md_has_58 rfl ?_
            refine ri_ialdE h _ d_Md_has_60 (by first | assumption | exact hS.a12) (by first | rfl | assumption) (by first | assumption | omega) (by first | decide | omega) (by first | assumption | exact hm.i12 (by first | assumption | omega) | rfl) ?_
            refine ri_zaldE h _ d_Md_has_61 (by first | assumption | exact hS.a27) (by first | rfl | assumption) (by first | assumption | omega) (by first | decide | omega) (by first | assumption | assumption | rfl) ?_
            first | refine ri_ifB_eq h 95 d_Md_has_62 (by decide) (fun c_62 => ?_) (fun c_62 => ?_) | refine ri_ifN_eq h 95 d_Md_has_62 (by decide) (by omega) (fun c_62 => ?_) (fun c_62 => ?_) | refine ri_if_eq h 95 d_Md_has_62 (by decide) (fun c_62 => ?_) (fun c_62 => ?_)
            · first | refine ri_iincN h d_Md_has_95 rfl (Nat.le_of_ble_eq_true rfl) ?_ | refine ri_iinc h _ d_Md_has_95 rfl rfl (Nat.le_of_ble_eq_true rfl) ?_
              refine ri_goto h 41 d_Md_has_98 (by decide) ?_
              refine ri_ls [(0, .ref (ad 30 0)), (1, .int (nI o)), (2, .int (nI c)), (3, .int (nI m)), (4, .int (nI (p + 1)))] ⟨rfl, rfl, rfl, rfl, rfl, trivial⟩ (ihq (p + 1) (by omega) _ u' m hS hu' (hm'.imp (fun w => ⟨w.1, w.2.1, fun p' hp' hx => ?_⟩) id))
              rcases (show p' < p ∨ p' = p by omega) with w2 | rfl
              · exact w.2.2 p' w2 hx
              · have w3 := w.2.1
                subst w3
                first | exact absurd (c_62.symm.trans hx) (by decide) | exact (hu'.1 _ hpo20).resolve_left c_77
            · refine ri_aload_n h d_Md_has_65 rfl ?_
              refine ri_get h d_Md_has_66 fl_Md_76 (by first | assumption | exact hS.mo | exact gup_s) (by rfl) ?_
              refine ri_aload_n h d_Md_has_69 rfl ?_
              refine ri_get h d_Md_has_70 fl_Md_39 (by first | assumption | exact hS.mo | exact gup_s) (by rfl) ?_
              refine ri_iload h d_Md_has_73 rfl ?_
              refine ri_ialdE h _ d_Md_has_75 (by first | assumption | exact hS.a13) (by first | rfl | assumption) (by first | assumption | omega) (by first | decide | omega) (by first | assumption | exact hm.i13 (by first | assumption | omega) | rfl) ?_
              refine ri_zaldE h _ d_Md_has_76 (by first | assumption | exact hS.a27) (by first | rfl | assumption) (by first | assumption | omega) (by first | decide | omega) (by first | assumption | assumption | rfl) ?_
              first | refine ri_ifB_ne h 95 d_Md_has_77 (by decide) (fun c_77 => ?_) (fun c_77 => ?_) | refine ri_ifN_ne h 95 d_Md_has_77 (by decide) (by omega) (fun c_77 => ?_) (fun c_77 => ?_) | refine ri_if_ne h 95 d_Md_has_77 (by decide) (fun c_77 => ?_) (fun c_77 => ?_)
              · first | refine ri_iincN h d_Md_has_95 rfl (Nat.le_of_ble_eq_true rfl) ?_ | refine ri_iinc h _ d_Md_has_95 rfl rfl (Nat.le_of_ble_eq_true rfl) ?_
                refine ri_goto h 41 d_Md_has_98 (by decide) ?_
                refine ri_ls [(0, .ref (ad 30 0)), (1, .int (nI o)), (2, .int (nI c)), (3, .int (nI m)), (4, .int (nI (p + 1)))] ⟨rfl, rfl, rfl, rfl, rfl, trivial⟩ (ihq (p + 1) (by omega) _ u' m hS hu' (hm'.imp (fun w => ⟨w.1, w.2.1, fun p' hp' hx => ?_⟩) id))
                rcases (show p' < p ∨ p' = p by omega) with w2 | rfl
                · exact w.2.2 p' w2 hx
                · have w3 := w.2.1
                  subst w3
                  first | exact absurd (c_62.symm.trans hx) (by decide) | exact (hu'.1 _ hpo20).resolve_left c_77
              · refine ri_aload_n h d_Md_has_80 rfl ?_
                refine ri_get h d_Md_has_81 fl_Md_76 (by first | assumption | exact hS.mo | exact gup_s) (by rfl) ?_
                refine ri_aload_n h d_Md_has_84 rfl ?_
                refine ri_get h d_Md_has_85 fl_Md_39 (by first | assumption | exact hS.mo | exact gup_s) (by rfl) ?_
                refine ri_iload h d_Md_has_88 rfl ?_
                refine ri_ialdE h _ d_Md_has_90 (by first | assumption | exact hS.a13) (by first | rfl | assumption) (by first | assumption | omega) (by first | decide | omega) (by first | assumption | exact hm.i13 (by first | assumption | omega) | rfl) ?_
                refine ri_iconstN h 1 d_Md_has_91 rfl ?_
                refine ri_zast h _ d_Md_has_92 (by first | assumption | exact hS.a27) (by first | rfl | assumption) (by first | assumption | omega) (by first | decide | omega) (by first | rfl | exact bI_n | assumption) ?_
                refine ri_gH (hS.set_mb 27 rfl _) (fun M hS => ?_)
                refine ri_iconstN h 1 d_Md_has_93 rfl ?_
                refine ri_istore_n h d_Md_has_94 (Nat.le_of_ble_eq_true rfl) ?_
                first | refine ri_iincN h d_Md_has_95 rfl (Nat.le_of_ble_eq_true rfl) ?_ | refine ri_iinc h _ d_Md_has_95 rfl rfl (Nat.le_of_ble_eq_true rfl) ?_
                refine ri_goto h 41 d_Md_has_98 (by decide) ?_
                refine ri_ls [(0, .ref (ad 30 0)), (1, .int (nI o)), (2, .int (nI c)), (3, .int (nI 1)), (4, .int (nI (p + 1)))] ⟨rfl, rfl, rfl, rfl, rfl, trivial⟩ (ihq (p + 1) (by omega) _ (va_up u' (Q.pl p).of (nI 1)) 1 (hS.cong rfl (congrArg (fun f => N.set_i f) va_up_u)) ⟨fun x hx => ?_, fun x hx h1 => ?_, ?_⟩ (Or.inr ⟨rfl, ?_⟩))
                · unfold va_up
                  split
                  · exact Or.inr rfl
                  · exact hu'.1 x hx
                · by_cases e : x = (Q.pl p).of
                  · subst e
                    exact (hu'.2.1 _ hpc20 ((hu'.1 _ hpc20).resolve_left c_62)).snoc hed
                  · rw [va_up_n e] at h1
                    exact hu'.2.1 x hx h1
                · unfold va_up
                  split
                  · rfl
                  · exact hu'.2.2
                · have w := zc_lt (u := u') hpo20 c_77
                  rcases hm' with ⟨-, w2, -⟩ | ⟨-, w2⟩
                  · rw [← w2]; exact w
                  · omega
      refine ri_iconstN h 0 d_Md_has_36 rfl ?_
      refine ri_istore_n h d_Md_has_37 (Nat.le_of_ble_eq_true rfl) ?_
      refine ri_iconstN h 0 d_Md_has_38 rfl ?_
      refine ri_istore h d_Md_has_39 (Nat.le_of_ble_eq_true rfl) ?_
      exact ri_ls [(0, .ref (ad 30 0)), (1, .int (nI o)), (2, .int (nI c)), (3, .int (nI 0)), (4, .int (nI 0))] ⟨rfl, rfl, rfl, rfl, rfl, trivial⟩ (LI Q.nP 0 (by omega) M u 0 hS hu (Or.inl ⟨rfl, rfl, fun p' hp' => by omega⟩))
  have L1 : ∀ (q i : Nat), i + q = 20 → ∀ (M : gH) (u : Nat → Int32), HS z ad Qc (N.set_i (va_up N.i 27 u)) M → (∀ x, x < i → u x = if x = o then 1 else 0) → G (gzz D s0 (p_, l', e_, R_, s_, m_, ar_, be_, me_, c_) (rk 1 0 0) (mhP z ad Q Qc N o c) 5) 2 [(0, .ref (ad 30 0)), (1, .int (nI o)), (2, .int (nI c)), (3, .int (nI i))] [] M 0 0 := by
    intro q
    induction q with
    | zero =>
      intro i hi M u hS hu
      have hi : i = 20 := by omega
      subst hi
      have hu' : muI (Ed Q) o u := by
        refine ⟨fun x hx => ?_, fun x hx h1 => ?_, ?_⟩
        · rw [hu x hx]
          split
          · exact Or.inr rfl
          · exact Or.inl rfl
        · rw [hu x hx] at h1
          split at h1
          · subst_vars; exact Rch.refl
          · exact absurd h1 (by decide)
        · rw [hu o (by omega), if_pos rfl]
      refine ri_iload_n h d_Md_has_2 rfl ?_
      refine ri_bipushN h 20 d_Md_has_3 rfl ?_
      first | refine ri_icmpN_ge h 30 d_Md_has_5 (by decide) (by omega) (by omega) (fun c_5 => ?_) (fun c_5 => ?_) | refine ri_icmp_ge h 30 d_Md_has_5 (by decide) (fun c_5 => ?_) (fun c_5 => ?_)
      · first
        | (exfalso; first | exact absurd c_5 (by decide) | omega)
        | (refine ri_iconstN h 1 d_Md_has_30 rfl ?_
           refine ri_istore_n h d_Md_has_31 (Nat.le_of_ble_eq_true rfl) ?_
           refine ri_iload_n h d_Md_has_32 rfl ?_
           first | refine ri_ifB_eq h 104 d_Md_has_33 (by decide) (fun c_33 => ?_) (fun c_33 => ?_) | refine ri_ifN_eq h 104 d_Md_has_33 (by decide) (by omega) (fun c_33 => ?_) (fun c_33 => ?_) | refine ri_if_eq h 104 d_Md_has_33 (by decide) (fun c_33 => ?_) (fun c_33 => ?_)
           · first
             | (exfalso; first | exact absurd c_33 (by decide) | omega)
             | (omega)
           · first
             | (exfalso; first | exact absurd c_33 (by decide) | omega)
             | (exact ri_ls [(0, .ref (ad 30 0)), (1, .int (nI o)), (2, .int (nI c))] ⟨rfl, rfl, rfl, trivial⟩ (LO _ _ u (Nat.lt_succ_self _) hS hu')))
      · omega
    | succ q ih =>
      intro i hi M u hS hu
      refine ri_iload_n h d_Md_has_2 rfl ?_
      refine ri_bipushN h 20 d_Md_has_3 rfl ?_
      first | refine ri_icmpN_ge h 30 d_Md_has_5 (by decide) (by omega) (by omega) (fun c_5 => ?_) (fun c_5 => ?_) | refine ri_icmp_ge h 30 d_Md_has_5 (by decide) (fun c_5 => ?_) (fun c_5 => ?_)
      · omega
      · refine ri_aload_n h d_Md_has_8 rfl ?_
        refine ri_get h d_Md_has_9 fl_Md_76 (by first | assumption | exact hS.mo | exact gup_s) (by rfl) ?_
        refine ri_iload_n h d_Md_has_12 rfl ?_
        refine ri_iload_n h d_Md_has_13 rfl ?_
        refine ri_iload_n h d_Md_has_14 rfl ?_
        first | refine ri_icmpN_ne h 22 d_Md_has_15 (by decide) (by omega) (by omega) (fun c_15 => ?_) (fun c_15 => ?_) | refine ri_icmp_ne h 22 d_Md_has_15 (by decide) (fun c_15 => ?_) (fun c_15 => ?_)
        · refine ri_iconstN h 0 d_Md_has_22 rfl ?_
          refine ri_zast h _ d_Md_has_23 (by first | assumption | exact hS.a27) (by first | rfl | assumption) (by first | assumption | omega) (by first | decide | omega) (by first | rfl | exact bI_n | assumption) ?_
          refine ri_gH (hS.set_mb 27 rfl _) (fun M hS => ?_)
          first | refine ri_iincN h d_Md_has_24 rfl (Nat.le_of_ble_eq_true rfl) ?_ | refine ri_iinc h _ d_Md_has_24 rfl rfl (Nat.le_of_ble_eq_true rfl) ?_
          refine ri_goto h 2 d_Md_has_27 (by decide) ?_
          refine ri_ls [(0, .ref (ad 30 0)), (1, .int (nI o)), (2, .int (nI c)), (3, .int (nI (i + 1)))] ⟨rfl, rfl, rfl, rfl, trivial⟩ (ih (i + 1) (by omega) _ _ (hS.cong rfl (congrArg (fun f => N.set_i f) va_up_u)) (fun x hx => ?_))
          unfold va_up
          split
          · rename_i e
            rw [e]
            first | (rw [if_pos c_15]; rfl) | (rw [if_neg c_15]; rfl)
          · exact hu x (by omega)
        · refine ri_iconstN h 1 d_Md_has_18 rfl ?_
          refine ri_goto h 23 d_Md_has_19 (by decide) ?_
          refine ri_zast h _ d_Md_has_23 (by first | assumption | exact hS.a27) (by first | rfl | assumption) (by first | assumption | omega) (by first | decide | omega) (by first | rfl | exact bI_n | assumption) ?_
          refine ri_gH (hS.set_mb 27 rfl _) (fun M hS => ?_)
          first | refine ri_iincN h d_Md_has_24 rfl (Nat.le_of_ble_eq_true rfl) ?_ | refine ri_iinc h _ d_Md_has_24 rfl rfl (Nat.le_of_ble_eq_true rfl) ?_
          refine ri_goto h 2 d_Md_has_27 (by decide) ?_
          refine ri_ls [(0, .ref (ad 30 0)), (1, .int (nI o)), (2, .int (nI c)), (3, .int (nI (i + 1)))] ⟨rfl, rfl, rfl, rfl, trivial⟩ (ih (i + 1) (by omega) _ _ (hS.cong rfl (congrArg (fun f => N.set_i f) va_up_u)) (fun x hx => ?_))
          unfold va_up
          split
          · rename_i e
            rw [e]
            first | (rw [if_pos c_15]; rfl) | (rw [if_neg c_15]; rfl)
          · exact hu x (by omega)
  refine ri_iconstN h 0 d_Md_has_0 rfl ?_
  refine ri_istore_n h d_Md_has_1 (Nat.le_of_ble_eq_true rfl) ?_
  exact ri_ls [(0, .ref (ad 30 0)), (1, .int (nI o)), (2, .int (nI c)), (3, .int (nI 0))] ⟨rfl, rfl, rfl, rfl, trivial⟩ (L1 20 0 (by omega) M (N.i 27) (hS.cong rfl (congrArg (fun f => N.set_i f) va_up_id.symm)) (fun x hx => by omega))
abbrev plN (N : MS) (c o : Int32) (x y : Int64) (t : Int32) : MS := (((((((((N.set_i (va_up N.i 12 (va_up (N.i 12) N.places c))).set_i (va_up (va_up N.i 12 (va_up (N.i 12) N.places c)) 13 (va_up (N.i 13) N.places o))).set_l (va_up N.l 14 (va_up (N.l 14) N.places x))).set_l (va_up (va_up N.l 14 (va_up (N.l 14) N.places x)) 15 (va_up (N.l 15) N.places y))).set_i (va_up (va_up (va_up N.i 12 (va_up (N.i 12) N.places c)) 13 (va_up (N.i 13) N.places o)) 16 (va_up (N.i 16) N.places t))).set_i (va_up (va_up (va_up (va_up N.i 12 (va_up (N.i 12) N.places c)) 13 (va_up (N.i 13) N.places o)) 16 (va_up (N.i 16) N.places t)) 17 (va_up (N.i 17) N.places 1))).set_i (va_up (va_up (va_up (va_up (va_up N.i 12 (va_up (N.i 12) N.places c)) 13 (va_up (N.i 13) N.places o)) 16 (va_up (N.i 16) N.places t)) 17 (va_up (N.i 17) N.places 1)) 18 (va_up (N.i 18) N.places 1))).set_l (va_up (va_up (va_up N.l 14 (va_up (N.l 14) N.places x)) 15 (va_up (N.l 15) N.places y)) 19 (va_up (N.l 19) N.places 0))).set_l (va_up (va_up (va_up (va_up N.l 14 (va_up (N.l 14) N.places x)) 15 (va_up (N.l 15) N.places y)) 19 (va_up (N.l 19) N.places 0)) 20 (va_up (N.l 20) N.places 0))).set_places (N.places + 1)
theorem MR.place (hm : MR Q N) (k : Nat) (u : Nat → Int32) (c o : Nat) (x y : Int64) (t : Nat) : MR (Q.addP c (r0P c o x y t)) (plN ((N.set_code k).set_i (va_up N.i 27 u)) (nI c) (nI o) x y (nI t)) := by
  have hnp := hm.np
  refine ⟨hm.la, hm.nc, hm.ns, congrArg (· + 1) hnp, hm.2.2.2.2.1, hm.2.2.2.2.2.1, ?_, hm.ha, hm.2.2.2.2.2.2.2.2⟩
  intro p hp
  have hp : p < Q.nP + 1 := hp
  show va_up (N.i 12) N.places (nI c) p = nI (va_up Q.pl Q.nP (r0P c o x y t) p).cell ∧ va_up (N.i 13) N.places (nI o) p = nI (va_up Q.pl Q.nP (r0P c o x y t) p).of ∧ va_up (N.l 14) N.places x p = (va_up Q.pl Q.nP (r0P c o x y t) p).x ∧ va_up (N.l 15) N.places y p = (va_up Q.pl Q.nP (r0P c o x y t) p).y ∧ va_up (N.i 16) N.places (nI t) p = nI (va_up Q.pl Q.nP (r0P c o x y t) p).turn ∧ va_up (N.i 17) N.places 1 p = nI (va_up Q.pl Q.nP (r0P c o x y t) p).cols ∧ va_up (N.i 18) N.places 1 p = nI (va_up Q.pl Q.nP (r0P c o x y t) p).rows ∧ va_up (N.l 19) N.places 0 p = (va_up Q.pl Q.nP (r0P c o x y t) p).dx ∧ va_up (N.l 20) N.places 0 p = (va_up Q.pl Q.nP (r0P c o x y t) p).dy
  rw [hnp]
  by_cases q : p = Q.nP
  · subst q
    simp only [va_up_s]
    exact ⟨trivial, trivial, trivial, trivial, trivial, rfl, rfl, trivial, trivial⟩
  · simp only [va_up_n q]
    exact hm.pls (show p < Q.nP by omega)
theorem k_mplace_no1 (h0 : g_0 l D s0) (hS : HS z ad Qc N M) (hm : MR Q N) (hW : WB Q) {p o : Int32} {x y : Int64} {t : Int32} (hn : ¬ ((∃ c, c < Q.nC ∧ p = nI c) ∧ ∃ c, c < Q.nC ∧ o = nI c)) : Ct l D s0 y_Md_place (Cond.code y_Md_place b_Md_place 8 (some .int)) rkM [.ref (ad 30 0), .int p, .int o, .long x, .long y, .int t] M (fM z ad Qc (some (.int 0)) (fun N' => N' = N.set_code 1)) := by
  refine Ct.of h0 (by decide +kernel) rfl fun X hX h => ?_
  obtain ⟨p_, l', e_, R_, s_, m_, ar_, be_, me_, c_⟩ := X
  obtain rfl : l' = l := hX
  refine ri_aload_n h d_Md_place_0 rfl ?_
  refine ri_aload_n h d_Md_place_1 rfl ?_
  refine ri_iload_n h d_Md_place_2 rfl ?_
  refine ri_cVv_1 (r := (gR6, gT6, 44)) h d_Md_place_3 cv_Md_121 (by first | exact hS.lcO | exact hS.lsO | exact hS.lpO | exact hS.cesO (by first | assumption | omega) | exact hS.cepO (by first | assumption | omega) | exact ⟨_, (by first | assumption | exact hS.st | exact hS.mo | exact hS.out | exact hS.sb | exact hS.ce (by first | assumption | omega) | exact hS.ceb (by first | assumption | omega) | exact hS.sh (by first | assumption | omega) | exact hS.shb (by first | assumption | omega) | exact hS.pl (by first | assumption | omega) | exact hS.plb (by first | assumption | omega) | exact hS.fl (by first | assumption | omega) | exact gup_s | (refine gup_t (by assumption) ?_; first | assumption | exact gup_s | (refine gup_t (by assumption) ?_; first | assumption | exact gup_s | (refine gup_t (by assumption) ?_; first | assumption | exact gup_s))))⟩) rfl (k_isCell h0 hS (by assumption) hW) (Nat.le_of_ble_eq_true rfl) (Nat.le_of_ble_eq_true rfl) (Nat.le_of_ble_eq_true rfl) (Nat.le_of_ble_eq_true rfl) (Nat.le_of_ble_eq_true rfl) ?_
  first | refine ri_ifB_eq h 17 d_Md_place_6 (by decide) (fun c_6 => ?_) (fun c_6 => ?_) | refine ri_ifN_eq h 17 d_Md_place_6 (by decide) (by omega) (fun c_6 => ?_) (fun c_6 => ?_) | refine ri_if_eq h 17 d_Md_place_6 (by decide) (fun c_6 => ?_) (fun c_6 => ?_)
  · first
    | (exfalso; first | exact absurd c_6 (by decide) | omega)
    | (refine ri_iconstN h 1 d_Md_place_17 rfl ?_
       refine ri_goto h 66 d_Md_place_18 (by decide) ?_
       refine ri_pm_code h d_Md_place_66 fl_Md_108 hS (fun M hS => ?_)
       refine ri_aload_n h d_Md_place_69 rfl ?_
       refine ri_get h d_Md_place_70 fl_Md_108 (by first | assumption | exact hS.mo | exact gup_s) (by rfl) ?_
       try dsimp only [MS.code, MS.set_code]
       first | refine ri_ifN_le h 78 d_Md_place_73 (by decide) (by omega) (fun c_73 => ?_) (fun c_73 => ?_) | refine ri_if_le h 78 d_Md_place_73 (by decide) (fun c_73 => ?_) (fun c_73 => ?_)
       · first
         | (exfalso; first | exact absurd c_73 (by decide) | omega)
         | (omega)
       · first
         | (exfalso; first | exact absurd c_73 (by decide) | omega)
         | (refine ri_iconstN h 0 d_Md_place_76 rfl ?_
            refine ri_ireturn h d_Md_place_77 (Nat.le_of_ble_eq_true rfl) (Nat.le_of_ble_eq_true rfl) ?_
            exact ⟨rfl, _, hS, rfl⟩))
  · first
    | (exfalso; first | exact absurd c_6 (by decide) | omega)
    | (refine ri_aload_n h d_Md_place_9 rfl ?_
       refine ri_iload_n h d_Md_place_10 rfl ?_
       refine ri_cVv_1 (r := (gR6, gT6, 44)) h d_Md_place_11 cv_Md_121 (by first | exact hS.lcO | exact hS.lsO | exact hS.lpO | exact hS.cesO (by first | assumption | omega) | exact hS.cepO (by first | assumption | omega) | exact ⟨_, (by first | assumption | exact hS.st | exact hS.mo | exact hS.out | exact hS.sb | exact hS.ce (by first | assumption | omega) | exact hS.ceb (by first | assumption | omega) | exact hS.sh (by first | assumption | omega) | exact hS.shb (by first | assumption | omega) | exact hS.pl (by first | assumption | omega) | exact hS.plb (by first | assumption | omega) | exact hS.fl (by first | assumption | omega) | exact gup_s | (refine gup_t (by assumption) ?_; first | assumption | exact gup_s | (refine gup_t (by assumption) ?_; first | assumption | exact gup_s | (refine gup_t (by assumption) ?_; first | assumption | exact gup_s))))⟩) rfl (k_isCell h0 hS (by assumption) hW) (Nat.le_of_ble_eq_true rfl) (Nat.le_of_ble_eq_true rfl) (Nat.le_of_ble_eq_true rfl) (Nat.le_of_ble_eq_true rfl) (Nat.le_of_ble_eq_true rfl) ?_
       first | refine ri_ifB_ne h 21 d_Md_place_14 (by decide) (fun c_14 => ?_) (fun c_14 => ?_) | refine ri_ifN_ne h 21 d_Md_place_14 (by decide) (by omega) (fun c_14 => ?_) (fun c_14 => ?_) | refine ri_if_ne h 21 d_Md_place_14 (by decide) (fun c_14 => ?_) (fun c_14 => ?_)
       · first
         | (exfalso; first | exact absurd c_14 (by decide) | omega)
         | (exact absurd ⟨c_6, c_14⟩ hn)
       · first
         | (exfalso; first | exact absurd c_14 (by decide) | omega)
         | (refine ri_iconstN h 1 d_Md_place_17 rfl ?_
            refine ri_goto h 66 d_Md_place_18 (by decide) ?_
            refine ri_pm_code h d_Md_place_66 fl_Md_108 hS (fun M hS => ?_)
            refine ri_aload_n h d_Md_place_69 rfl ?_
            refine ri_get h d_Md_place_70 fl_Md_108 (by first | assumption | exact hS.mo | exact gup_s) (by rfl) ?_
            try dsimp only [MS.code, MS.set_code]
            first | refine ri_ifN_le h 78 d_Md_place_73 (by decide) (by omega) (fun c_73 => ?_) (fun c_73 => ?_) | refine ri_if_le h 78 d_Md_place_73 (by decide) (fun c_73 => ?_) (fun c_73 => ?_)
            · first
              | (exfalso; first | exact absurd c_73 (by decide) | omega)
              | (omega)
            · first
              | (exfalso; first | exact absurd c_73 (by decide) | omega)
              | (refine ri_iconstN h 0 d_Md_place_76 rfl ?_
                 refine ri_ireturn h d_Md_place_77 (Nat.le_of_ble_eq_true rfl) (Nat.le_of_ble_eq_true rfl) ?_
                 exact ⟨rfl, _, hS, rfl⟩)))
theorem k_mplace_no2 (h0 : g_0 l D s0) (hS : HS z ad Qc N M) (hm : MR Q N) (hW : WB Q) {p o : Int32} {x y : Int64} {t : Int32} (hc : ∃ c, c < Q.nC ∧ p = nI c) (ho : ∃ c, c < Q.nC ∧ o = nI c) (hn : Q.nP = 80) : Ct l D s0 y_Md_place (Cond.code y_Md_place b_Md_place 8 (some .int)) rkM [.ref (ad 30 0), .int p, .int o, .long x, .long y, .int t] M (fM z ad Qc (some (.int 0)) (fun N' => N' = N.set_code 2)) := by
  refine Ct.of h0 (by decide +kernel) rfl fun X hX h => ?_
  obtain ⟨p_, l', e_, R_, s_, m_, ar_, be_, me_, c_⟩ := X
  obtain rfl : l' = l := hX
  refine ri_aload_n h d_Md_place_0 rfl ?_
  refine ri_aload_n h d_Md_place_1 rfl ?_
  refine ri_iload_n h d_Md_place_2 rfl ?_
  refine ri_cVv_1 (r := (gR6, gT6, 44)) h d_Md_place_3 cv_Md_121 (by first | exact hS.lcO | exact hS.lsO | exact hS.lpO | exact hS.cesO (by first | assumption | omega) | exact hS.cepO (by first | assumption | omega) | exact ⟨_, (by first | assumption | exact hS.st | exact hS.mo | exact hS.out | exact hS.sb | exact hS.ce (by first | assumption | omega) | exact hS.ceb (by first | assumption | omega) | exact hS.sh (by first | assumption | omega) | exact hS.shb (by first | assumption | omega) | exact hS.pl (by first | assumption | omega) | exact hS.plb (by first | assumption | omega) | exact hS.fl (by first | assumption | omega) | exact gup_s | (refine gup_t (by assumption) ?_; first | assumption | exact gup_s | (refine gup_t (by assumption) ?_; first | assumption | exact gup_s | (refine gup_t (by assumption) ?_; first | assumption | exact gup_s))))⟩) rfl (k_isCell h0 hS (by assumption) hW) (Nat.le_of_ble_eq_true rfl) (Nat.le_of_ble_eq_true rfl) (Nat.le_of_ble_eq_true rfl) (Nat.le_of_ble_eq_true rfl) (Nat.le_of_ble_eq_true rfl) ?_
  first | refine ri_ifB_eq h 17 d_Md_place_6 (by decide) (fun c_6 => ?_) (fun c_6 => ?_) | refine ri_ifN_eq h 17 d_Md_place_6 (by decide) (by omega) (fun c_6 => ?_) (fun c_6 => ?_) | refine ri_if_eq h 17 d_Md_place_6 (by decide) (fun c_6 => ?_) (fun c_6 => ?_)
  · first
    | (exfalso; first | exact absurd c_6 (by decide) | first | contradiction | omega)
    | (refine ri_iconstN h 1 d_Md_place_17 rfl ?_
       refine ri_goto h 66 d_Md_place_18 (by decide) ?_
       refine ri_pm_code h d_Md_place_66 fl_Md_108 hS (fun M hS => ?_)
       refine ri_aload_n h d_Md_place_69 rfl ?_
       refine ri_get h d_Md_place_70 fl_Md_108 (by first | assumption | exact hS.mo | exact gup_s) (by rfl) ?_
       try dsimp only [MS.code, MS.set_code]
       first | refine ri_ifN_le h 78 d_Md_place_73 (by decide) (by omega) (fun c_73 => ?_) (fun c_73 => ?_) | refine ri_if_le h 78 d_Md_place_73 (by decide) (fun c_73 => ?_) (fun c_73 => ?_)
       · first
         | (exfalso; first | exact absurd c_73 (by decide) | first | contradiction | omega)
         | (omega)
       · first
         | (exfalso; first | exact absurd c_73 (by decide) | first | contradiction | omega)
         | (refine ri_iconstN h 0 d_Md_place_76 rfl ?_
            refine ri_ireturn h d_Md_place_77 (Nat.le_of_ble_eq_true rfl) (Nat.le_of_ble_eq_true rfl) ?_
            exact ⟨rfl, _, hS, rfl⟩))
  · first
    | (exfalso; first | exact absurd c_6 (by decide) | first | contradiction | omega)
    | (refine ri_aload_n h d_Md_place_9 rfl ?_
       refine ri_iload_n h d_Md_place_10 rfl ?_
       refine ri_cVv_1 (r := (gR6, gT6, 44)) h d_Md_place_11 cv_Md_121 (by first | exact hS.lcO | exact hS.lsO | exact hS.lpO | exact hS.cesO (by first | assumption | omega) | exact hS.cepO (by first | assumption | omega) | exact ⟨_, (by first | assumption | exact hS.st | exact hS.mo | exact hS.out | exact hS.sb | exact hS.ce (by first | assumption | omega) | exact hS.ceb (by first | assumption | omega) | exact hS.sh (by first | assumption | omega) | exact hS.shb (by first | assumption | omega) | exact hS.pl (by first | assumption | omega) | exact hS.plb (by first | assumption | omega) | exact hS.fl (by first | assumption | omega) | exact gup_s | (refine gup_t (by assumption) ?_; first | assumption | exact gup_s | (refine gup_t (by assumption) ?_; first | assumption | exact gup_s | (refine gup_t (by assumption) ?_; first | assumption | exact gup_s))))⟩) rfl (k_isCell h0 hS (by assumption) hW) (Nat.le_of_ble_eq_true rfl) (Nat.le_of_ble_eq_true rfl) (Nat.le_of_ble_eq_true rfl) (Nat.le_of_ble_eq_true rfl) (Nat.le_of_ble_eq_true rfl) ?_
       first | refine ri_ifB_ne h 21 d_Md_place_14 (by decide) (fun c_14 => ?_) (fun c_14 => ?_) | refine ri_ifN_ne h 21 d_Md_place_14 (by decide) (by omega) (fun c_14 => ?_) (fun c_14 => ?_) | refine ri_if_ne h 21 d_Md_place_14 (by decide) (fun c_14 => ?_) (fun c_14 => ?_)
       · first
         | (exfalso; first | exact absurd c_14 (by decide) | first | contradiction | omega)
         | (refine ri_aload_n h d_Md_place_21 rfl ?_
            refine ri_get h d_Md_place_22 fl_Md_148 (by first | assumption | exact hS.mo | exact gup_s) (by first | exact congrArg (fun x => some (Value.int (nI x))) hm.np | rfl) ?_
            refine ri_bipushN h 80 d_Md_place_25 rfl ?_
            first | refine ri_icmpN_ne h 34 d_Md_place_27 (by decide) (by omega) (by omega) (fun c_27 => ?_) (fun c_27 => ?_) | refine ri_icmp_ne h 34 d_Md_place_27 (by decide) (fun c_27 => ?_) (fun c_27 => ?_)
            · first
              | (exfalso; first | exact absurd c_27 (by decide) | first | contradiction | omega)
              | (omega)
            · first
              | (exfalso; first | exact absurd c_27 (by decide) | first | contradiction | omega)
              | (refine ri_iconstN h 2 d_Md_place_30 rfl ?_
                 refine ri_goto h 66 d_Md_place_31 (by decide) ?_
                 refine ri_pm_code h d_Md_place_66 fl_Md_108 hS (fun M hS => ?_)
                 refine ri_aload_n h d_Md_place_69 rfl ?_
                 refine ri_get h d_Md_place_70 fl_Md_108 (by first | assumption | exact hS.mo | exact gup_s) (by rfl) ?_
                 try dsimp only [MS.code, MS.set_code]
                 first | refine ri_ifN_le h 78 d_Md_place_73 (by decide) (by omega) (fun c_73 => ?_) (fun c_73 => ?_) | refine ri_if_le h 78 d_Md_place_73 (by decide) (fun c_73 => ?_) (fun c_73 => ?_)
                 · first
                   | (exfalso; first | exact absurd c_73 (by decide) | first | contradiction | omega)
                   | (omega)
                 · first
                   | (exfalso; first | exact absurd c_73 (by decide) | first | contradiction | omega)
                   | (refine ri_iconstN h 0 d_Md_place_76 rfl ?_
                      refine ri_ireturn h d_Md_place_77 (Nat.le_of_ble_eq_true rfl) (Nat.le_of_ble_eq_true rfl) ?_
                      exact ⟨rfl, _, hS, rfl⟩)))
       · first
         | (exfalso; first | exact absurd c_14 (by decide) | first | contradiction | omega)
         | (refine ri_iconstN h 1 d_Md_place_17 rfl ?_
            refine ri_goto h 66 d_Md_place_18 (by decide) ?_
            refine ri_pm_code h d_Md_place_66 fl_Md_108 hS (fun M hS => ?_)
            refine ri_aload_n h d_Md_place_69 rfl ?_
            refine ri_get h d_Md_place_70 fl_Md_108 (by first | assumption | exact hS.mo | exact gup_s) (by rfl) ?_
            try dsimp only [MS.code, MS.set_code]
            first | refine ri_ifN_le h 78 d_Md_place_73 (by decide) (by omega) (fun c_73 => ?_) (fun c_73 => ?_) | refine ri_if_le h 78 d_Md_place_73 (by decide) (fun c_73 => ?_) (fun c_73 => ?_)
            · first
              | (exfalso; first | exact absurd c_73 (by decide) | first | contradiction | omega)
              | (omega)
            · first
              | (exfalso; first | exact absurd c_73 (by decide) | first | contradiction | omega)
              | (refine ri_iconstN h 0 d_Md_place_76 rfl ?_
                 refine ri_ireturn h d_Md_place_77 (Nat.le_of_ble_eq_true rfl) (Nat.le_of_ble_eq_true rfl) ?_
                 exact ⟨rfl, _, hS, rfl⟩)))
theorem k_mplace_no3 (h0 : g_0 l D s0) (hS : HS z ad Qc N M) (hm : MR Q N) (hW : WB Q) {p o : Int32} {x y : Int64} {t : Int32} (hc : ∃ c, c < Q.nC ∧ p = nI c) (ho : ∃ c, c < Q.nC ∧ o = nI c) (hp : Q.nP < 80) (hn : ¬ (nearB x ∧ nearB y ∧ ¬ t < 0 ∧ t < 8)) : Ct l D s0 y_Md_place (Cond.code y_Md_place b_Md_place 8 (some .int)) rkM [.ref (ad 30 0), .int p, .int o, .long x, .long y, .int t] M (fM z ad Qc (some (.int 0)) (fun N' => N' = N.set_code 3)) := by
  refine Ct.of h0 (by decide +kernel) rfl fun X hX h => ?_
  obtain ⟨p_, l', e_, R_, s_, m_, ar_, be_, me_, c_⟩ := X
  obtain rfl : l' = l := hX
  refine ri_aload_n h d_Md_place_0 rfl ?_
  refine ri_aload_n h d_Md_place_1 rfl ?_
  refine ri_iload_n h d_Md_place_2 rfl ?_
  refine ri_cVv_1 (r := (gR6, gT6, 44)) h d_Md_place_3 cv_Md_121 (by first | exact hS.lcO | exact hS.lsO | exact hS.lpO | exact hS.cesO (by first | assumption | omega) | exact hS.cepO (by first | assumption | omega) | exact ⟨_, (by first | assumption | exact hS.st | exact hS.mo | exact hS.out | exact hS.sb | exact hS.ce (by first | assumption | omega) | exact hS.ceb (by first | assumption | omega) | exact hS.sh (by first | assumption | omega) | exact hS.shb (by first | assumption | omega) | exact hS.pl (by first | assumption | omega) | exact hS.plb (by first | assumption | omega) | exact hS.fl (by first | assumption | omega) | exact gup_s | (refine gup_t (by assumption) ?_; first | assumption | exact gup_s | (refine gup_t (by assumption) ?_; first | assumption | exact gup_s | (refine gup_t (by assumption) ?_; first | assumption | exact gup_s))))⟩) rfl (k_isCell h0 hS (by assumption) hW) (Nat.le_of_ble_eq_true rfl) (Nat.le_of_ble_eq_true rfl) (Nat.le_of_ble_eq_true rfl) (Nat.le_of_ble_eq_true rfl) (Nat.le_of_ble_eq_true rfl) ?_
  first | refine ri_ifB_eq h 17 d_Md_place_6 (by decide) (fun c_6 => ?_) (fun c_6 => ?_) | refine ri_ifN_eq h 17 d_Md_place_6 (by decide) (by omega) (fun c_6 => ?_) (fun c_6 => ?_) | refine ri_if_eq h 17 d_Md_place_6 (by decide) (fun c_6 => ?_) (fun c_6 => ?_)
  · first
    | (exfalso; first | exact absurd c_6 (by decide) | first | contradiction | omega)
    | (refine ri_iconstN h 1 d_Md_place_17 rfl ?_
       refine ri_goto h 66 d_Md_place_18 (by decide) ?_
       refine ri_pm_code h d_Md_place_66 fl_Md_108 hS (fun M hS => ?_)
       refine ri_aload_n h d_Md_place_69 rfl ?_
       refine ri_get h d_Md_place_70 fl_Md_108 (by first | assumption | exact hS.mo | exact gup_s) (by rfl) ?_
       try dsimp only [MS.code, MS.set_code]
       first | refine ri_ifN_le h 78 d_Md_place_73 (by decide) (by omega) (fun c_73 => ?_) (fun c_73 => ?_) | refine ri_if_le h 78 d_Md_place_73 (by decide) (fun c_73 => ?_) (fun c_73 => ?_)
       · first
         | (exfalso; first | exact absurd c_73 (by decide) | first | contradiction | omega)
         | (omega)
       · first
         | (exfalso; first | exact absurd c_73 (by decide) | first | contradiction | omega)
         | (refine ri_iconstN h 0 d_Md_place_76 rfl ?_
            refine ri_ireturn h d_Md_place_77 (Nat.le_of_ble_eq_true rfl) (Nat.le_of_ble_eq_true rfl) ?_
            exact ⟨rfl, _, hS, rfl⟩))
  · first
    | (exfalso; first | exact absurd c_6 (by decide) | first | contradiction | omega)
    | (refine ri_aload_n h d_Md_place_9 rfl ?_
       refine ri_iload_n h d_Md_place_10 rfl ?_
       refine ri_cVv_1 (r := (gR6, gT6, 44)) h d_Md_place_11 cv_Md_121 (by first | exact hS.lcO | exact hS.lsO | exact hS.lpO | exact hS.cesO (by first | assumption | omega) | exact hS.cepO (by first | assumption | omega) | exact ⟨_, (by first | assumption | exact hS.st | exact hS.mo | exact hS.out | exact hS.sb | exact hS.ce (by first | assumption | omega) | exact hS.ceb (by first | assumption | omega) | exact hS.sh (by first | assumption | omega) | exact hS.shb (by first | assumption | omega) | exact hS.pl (by first | assumption | omega) | exact hS.plb (by first | assumption | omega) | exact hS.fl (by first | assumption | omega) | exact gup_s | (refine gup_t (by assumption) ?_; first | assumption | exact gup_s | (refine gup_t (by assumption) ?_; first | assumption | exact gup_s | (refine gup_t (by assumption) ?_; first | assumption | exact gup_s))))⟩) rfl (k_isCell h0 hS (by assumption) hW) (Nat.le_of_ble_eq_true rfl) (Nat.le_of_ble_eq_true rfl) (Nat.le_of_ble_eq_true rfl) (Nat.le_of_ble_eq_true rfl) (Nat.le_of_ble_eq_true rfl) ?_
       first | refine ri_ifB_ne h 21 d_Md_place_14 (by decide) (fun c_14 => ?_) (fun c_14 => ?_) | refine ri_ifN_ne h 21 d_Md_place_14 (by decide) (by omega) (fun c_14 => ?_) (fun c_14 => ?_) | refine ri_if_ne h 21 d_Md_place_14 (by decide) (fun c_14 => ?_) (fun c_14 => ?_)
       · first
         | (exfalso; first | exact absurd c_14 (by decide) | first | contradiction | omega)
         | (refine ri_aload_n h d_Md_place_21 rfl ?_
            refine ri_get h d_Md_place_22 fl_Md_148 (by first | assumption | exact hS.mo | exact gup_s) (by first | exact congrArg (fun x => some (Value.int (nI x))) hm.np | rfl) ?_
            refine ri_bipushN h 80 d_Md_place_25 rfl ?_
            first | refine ri_icmpN_ne h 34 d_Md_place_27 (by decide) (by omega) (by omega) (fun c_27 => ?_) (fun c_27 => ?_) | refine ri_icmp_ne h 34 d_Md_place_27 (by decide) (fun c_27 => ?_) (fun c_27 => ?_)
            · first
              | (exfalso; first | exact absurd c_27 (by decide) | first | contradiction | omega)
              | (refine ri_lload_n h d_Md_place_34 rfl ?_
                 refine ri_cSv_1 h d_Md_place_35 cs_Md_136 (k_far h0) (Nat.le_of_ble_eq_true rfl) (Nat.le_of_ble_eq_true rfl) (Nat.le_of_ble_eq_true rfl) (Nat.le_of_ble_eq_true rfl) (Nat.le_of_ble_eq_true rfl) ?_
                 first | refine ri_ifB_ne h 61 d_Md_place_38 (by decide) (fun c_38 => ?_) (fun c_38 => ?_) | refine ri_ifN_ne h 61 d_Md_place_38 (by decide) (by omega) (fun c_38 => ?_) (fun c_38 => ?_) | refine ri_if_ne h 61 d_Md_place_38 (by decide) (fun c_38 => ?_) (fun c_38 => ?_)
                 · first
                   | (exfalso; first | exact absurd c_38 (by decide) | first | contradiction | omega)
                   | (refine ri_iconstN h 3 d_Md_place_61 rfl ?_
                      refine ri_goto h 66 d_Md_place_62 (by decide) ?_
                      refine ri_pm_code h d_Md_place_66 fl_Md_108 hS (fun M hS => ?_)
                      refine ri_aload_n h d_Md_place_69 rfl ?_
                      refine ri_get h d_Md_place_70 fl_Md_108 (by first | assumption | exact hS.mo | exact gup_s) (by rfl) ?_
                      try dsimp only [MS.code, MS.set_code]
                      first | refine ri_ifN_le h 78 d_Md_place_73 (by decide) (by omega) (fun c_73 => ?_) (fun c_73 => ?_) | refine ri_if_le h 78 d_Md_place_73 (by decide) (fun c_73 => ?_) (fun c_73 => ?_)
                      · first
                        | (exfalso; first | exact absurd c_73 (by decide) | first | contradiction | omega)
                        | (omega)
                      · first
                        | (exfalso; first | exact absurd c_73 (by decide) | first | contradiction | omega)
                        | (refine ri_iconstN h 0 d_Md_place_76 rfl ?_
                           refine ri_ireturn h d_Md_place_77 (Nat.le_of_ble_eq_true rfl) (Nat.le_of_ble_eq_true rfl) ?_
                           exact ⟨rfl, _, hS, rfl⟩))
                 · first
                   | (exfalso; first | exact absurd c_38 (by decide) | first | contradiction | omega)
                   | (refine ri_lload h d_Md_place_41 rfl ?_
                      refine ri_cSv_1 h d_Md_place_43 cs_Md_136 (k_far h0) (Nat.le_of_ble_eq_true rfl) (Nat.le_of_ble_eq_true rfl) (Nat.le_of_ble_eq_true rfl) (Nat.le_of_ble_eq_true rfl) (Nat.le_of_ble_eq_true rfl) ?_
                      first | refine ri_ifB_ne h 61 d_Md_place_46 (by decide) (fun c_46 => ?_) (fun c_46 => ?_) | refine ri_ifN_ne h 61 d_Md_place_46 (by decide) (by omega) (fun c_46 => ?_) (fun c_46 => ?_) | refine ri_if_ne h 61 d_Md_place_46 (by decide) (fun c_46 => ?_) (fun c_46 => ?_)
                      · first
                        | (exfalso; first | exact absurd c_46 (by decide) | first | contradiction | omega)
                        | (refine ri_iconstN h 3 d_Md_place_61 rfl ?_
                           refine ri_goto h 66 d_Md_place_62 (by decide) ?_
                           refine ri_pm_code h d_Md_place_66 fl_Md_108 hS (fun M hS => ?_)
                           refine ri_aload_n h d_Md_place_69 rfl ?_
                           refine ri_get h d_Md_place_70 fl_Md_108 (by first | assumption | exact hS.mo | exact gup_s) (by rfl) ?_
                           try dsimp only [MS.code, MS.set_code]
                           first | refine ri_ifN_le h 78 d_Md_place_73 (by decide) (by omega) (fun c_73 => ?_) (fun c_73 => ?_) | refine ri_if_le h 78 d_Md_place_73 (by decide) (fun c_73 => ?_) (fun c_73 => ?_)
                           · first
                             | (exfalso; first | exact absurd c_73 (by decide) | first | contradiction | omega)
                             | (omega)
                           · first
                             | (exfalso; first | exact absurd c_73 (by decide) | first | contradiction | omega)
                             | (refine ri_iconstN h 0 d_Md_place_76 rfl ?_
                                refine ri_ireturn h d_Md_place_77 (Nat.le_of_ble_eq_true rfl) (Nat.le_of_ble_eq_true rfl) ?_
                                exact ⟨rfl, _, hS, rfl⟩))
                      · first
                        | (exfalso; first | exact absurd c_46 (by decide) | first | contradiction | omega)
                        | (refine ri_iload h d_Md_place_49 rfl ?_
                           refine ri_if_lt h 61 d_Md_place_51 (by decide) (fun c_51 => ?_) (fun c_51 => ?_)
                           · first
                             | (exfalso; first | exact absurd c_51 (by decide) | first | contradiction | omega)
                             | (refine ri_iconstN h 3 d_Md_place_61 rfl ?_
                                refine ri_goto h 66 d_Md_place_62 (by decide) ?_
                                refine ri_pm_code h d_Md_place_66 fl_Md_108 hS (fun M hS => ?_)
                                refine ri_aload_n h d_Md_place_69 rfl ?_
                                refine ri_get h d_Md_place_70 fl_Md_108 (by first | assumption | exact hS.mo | exact gup_s) (by rfl) ?_
                                try dsimp only [MS.code, MS.set_code]
                                first | refine ri_ifN_le h 78 d_Md_place_73 (by decide) (by omega) (fun c_73 => ?_) (fun c_73 => ?_) | refine ri_if_le h 78 d_Md_place_73 (by decide) (fun c_73 => ?_) (fun c_73 => ?_)
                                · first
                                  | (exfalso; first | exact absurd c_73 (by decide) | first | contradiction | omega)
                                  | (omega)
                                · first
                                  | (exfalso; first | exact absurd c_73 (by decide) | first | contradiction | omega)
                                  | (refine ri_iconstN h 0 d_Md_place_76 rfl ?_
                                     refine ri_ireturn h d_Md_place_77 (Nat.le_of_ble_eq_true rfl) (Nat.le_of_ble_eq_true rfl) ?_
                                     exact ⟨rfl, _, hS, rfl⟩))
                           · first
                             | (exfalso; first | exact absurd c_51 (by decide) | first | contradiction | omega)
                             | (refine ri_iload h d_Md_place_54 rfl ?_
                                refine ri_bipushN h 7 d_Md_place_56 rfl ?_
                                refine ri_icmp_le h 65 d_Md_place_58 (by decide) (fun c_58 => ?_) (fun c_58 => ?_)
                                · first
                                  | (exfalso; first | exact absurd c_58 (by decide) | first | contradiction | omega)
                                  | (exact absurd ⟨Classical.byContradiction c_38, Classical.byContradiction c_46, c_51, i32_lt8 c_58⟩ hn)
                                · first
                                  | (exfalso; first | exact absurd c_58 (by decide) | first | contradiction | omega)
                                  | (refine ri_iconstN h 3 d_Md_place_61 rfl ?_
                                     refine ri_goto h 66 d_Md_place_62 (by decide) ?_
                                     refine ri_pm_code h d_Md_place_66 fl_Md_108 hS (fun M hS => ?_)
                                     refine ri_aload_n h d_Md_place_69 rfl ?_
                                     refine ri_get h d_Md_place_70 fl_Md_108 (by first | assumption | exact hS.mo | exact gup_s) (by rfl) ?_
                                     try dsimp only [MS.code, MS.set_code]
                                     first | refine ri_ifN_le h 78 d_Md_place_73 (by decide) (by omega) (fun c_73 => ?_) (fun c_73 => ?_) | refine ri_if_le h 78 d_Md_place_73 (by decide) (fun c_73 => ?_) (fun c_73 => ?_)
                                     · first
                                       | (exfalso; first | exact absurd c_73 (by decide) | first | contradiction | omega)
                                       | (omega)
                                     · first
                                       | (exfalso; first | exact absurd c_73 (by decide) | first | contradiction | omega)
                                       | (refine ri_iconstN h 0 d_Md_place_76 rfl ?_
                                          refine ri_ireturn h d_Md_place_77 (Nat.le_of_ble_eq_true rfl) (Nat.le_of_ble_eq_true rfl) ?_
                                          exact ⟨rfl, _, hS, rfl⟩))))))
            · first
              | (exfalso; first | exact absurd c_27 (by decide) | first | contradiction | omega)
              | (refine ri_iconstN h 2 d_Md_place_30 rfl ?_
                 refine ri_goto h 66 d_Md_place_31 (by decide) ?_
                 refine ri_pm_code h d_Md_place_66 fl_Md_108 hS (fun M hS => ?_)
                 refine ri_aload_n h d_Md_place_69 rfl ?_
                 refine ri_get h d_Md_place_70 fl_Md_108 (by first | assumption | exact hS.mo | exact gup_s) (by rfl) ?_
                 try dsimp only [MS.code, MS.set_code]
                 first | refine ri_ifN_le h 78 d_Md_place_73 (by decide) (by omega) (fun c_73 => ?_) (fun c_73 => ?_) | refine ri_if_le h 78 d_Md_place_73 (by decide) (fun c_73 => ?_) (fun c_73 => ?_)
                 · first
                   | (exfalso; first | exact absurd c_73 (by decide) | first | contradiction | omega)
                   | (omega)
                 · first
                   | (exfalso; first | exact absurd c_73 (by decide) | first | contradiction | omega)
                   | (refine ri_iconstN h 0 d_Md_place_76 rfl ?_
                      refine ri_ireturn h d_Md_place_77 (Nat.le_of_ble_eq_true rfl) (Nat.le_of_ble_eq_true rfl) ?_
                      exact ⟨rfl, _, hS, rfl⟩)))
       · first
         | (exfalso; first | exact absurd c_14 (by decide) | first | contradiction | omega)
         | (refine ri_iconstN h 1 d_Md_place_17 rfl ?_
            refine ri_goto h 66 d_Md_place_18 (by decide) ?_
            refine ri_pm_code h d_Md_place_66 fl_Md_108 hS (fun M hS => ?_)
            refine ri_aload_n h d_Md_place_69 rfl ?_
            refine ri_get h d_Md_place_70 fl_Md_108 (by first | assumption | exact hS.mo | exact gup_s) (by rfl) ?_
            try dsimp only [MS.code, MS.set_code]
            first | refine ri_ifN_le h 78 d_Md_place_73 (by decide) (by omega) (fun c_73 => ?_) (fun c_73 => ?_) | refine ri_if_le h 78 d_Md_place_73 (by decide) (fun c_73 => ?_) (fun c_73 => ?_)
            · first
              | (exfalso; first | exact absurd c_73 (by decide) | first | contradiction | omega)
              | (omega)
            · first
              | (exfalso; first | exact absurd c_73 (by decide) | first | contradiction | omega)
              | (refine ri_iconstN h 0 d_Md_place_76 rfl ?_
                 refine ri_ireturn h d_Md_place_77 (Nat.le_of_ble_eq_true rfl) (Nat.le_of_ble_eq_true rfl) ?_
                 exact ⟨rfl, _, hS, rfl⟩)))
theorem k_mplace_0 (h0 : g_0 l D s0) (hS : HS z ad Qc N M) (hm : MR Q N) (hW : WB Q) (hL : WL Q) {c o : Nat} (hc : c < Q.nC) (ho : o < Q.nC) {x y : Int64} {t : Nat} (hp : Q.nP < 80) (hx : nearB x) (hy : nearB y) (ht : t < 8) (hr : Rch (Ed Q) o c) : Ct l D s0 y_Md_place (Cond.code y_Md_place b_Md_place 8 (some .int)) rkM [.ref (ad 30 0), .int (nI c), .int (nI o), .long x, .long y, .int (nI t)] M (fM z ad Qc (some (.int (-1))) (fun N' => ∃ u, N' = (N.set_code 0).set_i (va_up N.i 27 u))) := by
  have hc' : ∃ c', c' < Q.nC ∧ nI c = nI c' := ⟨c, hc, rfl⟩
  have ho' : ∃ c', c' < Q.nC ∧ nI o = nI c' := ⟨o, ho, rfl⟩
  refine Ct.of h0 (by decide +kernel) rfl fun X hX h => ?_
  obtain ⟨p_, l', e_, R_, s_, m_, ar_, be_, me_, c_⟩ := X
  obtain rfl : l' = l := hX
  refine ri_aload_n h d_Md_place_0 rfl ?_
  refine ri_aload_n h d_Md_place_1 rfl ?_
  refine ri_iload_n h d_Md_place_2 rfl ?_
  refine ri_cVv_1 (r := (gR6, gT6, 44)) h d_Md_place_3 cv_Md_121 (by first | exact hS.lcO | exact hS.lsO | exact hS.lpO | exact hS.cesO (by first | assumption | omega) | exact hS.cepO (by first | assumption | omega) | exact ⟨_, (by first | assumption | exact hS.st | exact hS.mo | exact hS.out | exact hS.sb | exact hS.ce (by first | assumption | omega) | exact hS.ceb (by first | assumption | omega) | exact hS.sh (by first | assumption | omega) | exact hS.shb (by first | assumption | omega) | exact hS.pl (by first | assumption | omega) | exact hS.plb (by first | assumption | omega) | exact hS.fl (by first | assumption | omega) | exact gup_s | (refine gup_t (by assumption) ?_; first | assumption | exact gup_s | (refine gup_t (by assumption) ?_; first | assumption | exact gup_s | (refine gup_t (by assumption) ?_; first | assumption | exact gup_s))))⟩) rfl (k_isCell h0 hS (by assumption) hW) (Nat.le_of_ble_eq_true rfl) (Nat.le_of_ble_eq_true rfl) (Nat.le_of_ble_eq_true rfl) (Nat.le_of_ble_eq_true rfl) (Nat.le_of_ble_eq_true rfl) ?_
  first | refine ri_ifB_eq h 17 d_Md_place_6 (by decide) (fun c_6 => ?_) (fun c_6 => ?_) | refine ri_ifN_eq h 17 d_Md_place_6 (by decide) (by omega) (fun c_6 => ?_) (fun c_6 => ?_) | refine ri_if_eq h 17 d_Md_place_6 (by decide) (fun c_6 => ?_) (fun c_6 => ?_)
  · first
    | (exfalso; first | exact absurd c_6 (by decide) | first | contradiction | omega)
    | (refine ri_iconstN h 1 d_Md_place_17 rfl ?_
       refine ri_goto h 66 d_Md_place_18 (by decide) ?_
       refine ri_pm_code h d_Md_place_66 fl_Md_108 hS (fun M hS => ?_)
       refine ri_aload_n h d_Md_place_69 rfl ?_
       refine ri_get h d_Md_place_70 fl_Md_108 (by first | assumption | exact hS.mo | exact gup_s) (by rfl) ?_
       try dsimp only [MS.code, MS.set_code]
       first | refine ri_ifN_le h 78 d_Md_place_73 (by decide) (by omega) (fun c_73 => ?_) (fun c_73 => ?_) | refine ri_if_le h 78 d_Md_place_73 (by decide) (fun c_73 => ?_) (fun c_73 => ?_)
       · first
         | (exfalso; first | exact absurd c_73 (by decide) | first | contradiction | omega)
         | (refine ri_aload_n h d_Md_place_78 rfl ?_
            refine ri_iload_n h d_Md_place_79 rfl ?_
            refine ri_iload_n h d_Md_place_80 rfl ?_
            refine ri_callV (r := (gR6, gT6, 44)) h [.int (nI o), .int (nI c)] [] d_Md_place_81 cv_Md_151 hS.mo rfl rfl rfl (by decide) (by decide) (by decide) (by decide) (by decide) (k_mhas h0 hS hm hW hL ho hc) (fun E M' hp => by obtain ⟨b, u, e, -⟩ := hp; cases e) (fun v M hp => ?_)
            obtain ⟨b, u, e, hS, hb⟩ := hp
            cases e
            rcases hb with ⟨rfl, -⟩ | ⟨rfl, hb⟩
            · refine ri_if_eq h 89 d_Md_place_84 (by decide) (fun c_84 => ?_) (fun c_84 => ?_)
              · exact absurd c_84 (by decide)
              · refine ri_iconst h (-1) d_Md_place_87 rfl ?_
                refine ri_ireturn h d_Md_place_88 (Nat.le_of_ble_eq_true rfl) (Nat.le_of_ble_eq_true rfl) ?_
                exact ⟨rfl, _, hS, u, rfl⟩
            · exact absurd hr hb)
       · first
         | (exfalso; first | exact absurd c_73 (by decide) | first | contradiction | omega)
         | (refine ri_iconstN h 0 d_Md_place_76 rfl ?_
            refine ri_ireturn h d_Md_place_77 (Nat.le_of_ble_eq_true rfl) (Nat.le_of_ble_eq_true rfl) ?_
            exact ⟨rfl, rfl⟩))
  · first
    | (exfalso; first | exact absurd c_6 (by decide) | first | contradiction | omega)
    | (refine ri_aload_n h d_Md_place_9 rfl ?_
       refine ri_iload_n h d_Md_place_10 rfl ?_
       refine ri_cVv_1 (r := (gR6, gT6, 44)) h d_Md_place_11 cv_Md_121 (by first | exact hS.lcO | exact hS.lsO | exact hS.lpO | exact hS.cesO (by first | assumption | omega) | exact hS.cepO (by first | assumption | omega) | exact ⟨_, (by first | assumption | exact hS.st | exact hS.mo | exact hS.out | exact hS.sb | exact hS.ce (by first | assumption | omega) | exact hS.ceb (by first | assumption | omega) | exact hS.sh (by first | assumption | omega) | exact hS.shb (by first | assumption | omega) | exact hS.pl (by first | assumption | omega) | exact hS.plb (by first | assumption | omega) | exact hS.fl (by first | assumption | omega) | exact gup_s | (refine gup_t (by assumption) ?_; first | assumption | exact gup_s | (refine gup_t (by assumption) ?_; first | assumption | exact gup_s | (refine gup_t (by assumption) ?_; first | assumption | exact gup_s))))⟩) rfl (k_isCell h0 hS (by assumption) hW) (Nat.le_of_ble_eq_true rfl) (Nat.le_of_ble_eq_true rfl) (Nat.le_of_ble_eq_true rfl) (Nat.le_of_ble_eq_true rfl) (Nat.le_of_ble_eq_true rfl) ?_
       first | refine ri_ifB_ne h 21 d_Md_place_14 (by decide) (fun c_14 => ?_) (fun c_14 => ?_) | refine ri_ifN_ne h 21 d_Md_place_14 (by decide) (by omega) (fun c_14 => ?_) (fun c_14 => ?_) | refine ri_if_ne h 21 d_Md_place_14 (by decide) (fun c_14 => ?_) (fun c_14 => ?_)
       · first
         | (exfalso; first | exact absurd c_14 (by decide) | first | contradiction | omega)
         | (refine ri_aload_n h d_Md_place_21 rfl ?_
            refine ri_get h d_Md_place_22 fl_Md_148 (by first | assumption | exact hS.mo | exact gup_s) (by first | exact congrArg (fun x => some (Value.int (nI x))) hm.np | rfl) ?_
            refine ri_bipushN h 80 d_Md_place_25 rfl ?_
            first | refine ri_icmpN_ne h 34 d_Md_place_27 (by decide) (by omega) (by omega) (fun c_27 => ?_) (fun c_27 => ?_) | refine ri_icmp_ne h 34 d_Md_place_27 (by decide) (fun c_27 => ?_) (fun c_27 => ?_)
            · first
              | (exfalso; first | exact absurd c_27 (by decide) | first | contradiction | omega)
              | (refine ri_lload_n h d_Md_place_34 rfl ?_
                 refine ri_cSv_1 h d_Md_place_35 cs_Md_136 (k_far h0) (Nat.le_of_ble_eq_true rfl) (Nat.le_of_ble_eq_true rfl) (Nat.le_of_ble_eq_true rfl) (Nat.le_of_ble_eq_true rfl) (Nat.le_of_ble_eq_true rfl) ?_
                 first | refine ri_ifB_ne h 61 d_Md_place_38 (by decide) (fun c_38 => ?_) (fun c_38 => ?_) | refine ri_ifN_ne h 61 d_Md_place_38 (by decide) (by omega) (fun c_38 => ?_) (fun c_38 => ?_) | refine ri_if_ne h 61 d_Md_place_38 (by decide) (fun c_38 => ?_) (fun c_38 => ?_)
                 · first
                   | (exfalso; first | exact absurd c_38 (by decide) | first | contradiction | omega)
                   | (refine ri_iconstN h 3 d_Md_place_61 rfl ?_
                      refine ri_goto h 66 d_Md_place_62 (by decide) ?_
                      refine ri_pm_code h d_Md_place_66 fl_Md_108 hS (fun M hS => ?_)
                      refine ri_aload_n h d_Md_place_69 rfl ?_
                      refine ri_get h d_Md_place_70 fl_Md_108 (by first | assumption | exact hS.mo | exact gup_s) (by rfl) ?_
                      try dsimp only [MS.code, MS.set_code]
                      first | refine ri_ifN_le h 78 d_Md_place_73 (by decide) (by omega) (fun c_73 => ?_) (fun c_73 => ?_) | refine ri_if_le h 78 d_Md_place_73 (by decide) (fun c_73 => ?_) (fun c_73 => ?_)
                      · first
                        | (exfalso; first | exact absurd c_73 (by decide) | first | contradiction | omega)
                        | (refine ri_aload_n h d_Md_place_78 rfl ?_
                           refine ri_iload_n h d_Md_place_79 rfl ?_
                           refine ri_iload_n h d_Md_place_80 rfl ?_
                           refine ri_callV (r := (gR6, gT6, 44)) h [.int (nI o), .int (nI c)] [] d_Md_place_81 cv_Md_151 hS.mo rfl rfl rfl (by decide) (by decide) (by decide) (by decide) (by decide) (k_mhas h0 hS hm hW hL ho hc) (fun E M' hp => by obtain ⟨b, u, e, -⟩ := hp; cases e) (fun v M hp => ?_)
                           obtain ⟨b, u, e, hS, hb⟩ := hp
                           cases e
                           rcases hb with ⟨rfl, -⟩ | ⟨rfl, hb⟩
                           · refine ri_if_eq h 89 d_Md_place_84 (by decide) (fun c_84 => ?_) (fun c_84 => ?_)
                             · exact absurd c_84 (by decide)
                             · refine ri_iconst h (-1) d_Md_place_87 rfl ?_
                               refine ri_ireturn h d_Md_place_88 (Nat.le_of_ble_eq_true rfl) (Nat.le_of_ble_eq_true rfl) ?_
                               exact ⟨rfl, _, hS, u, rfl⟩
                           · exact absurd hr hb)
                      · first
                        | (exfalso; first | exact absurd c_73 (by decide) | first | contradiction | omega)
                        | (refine ri_iconstN h 0 d_Md_place_76 rfl ?_
                           refine ri_ireturn h d_Md_place_77 (Nat.le_of_ble_eq_true rfl) (Nat.le_of_ble_eq_true rfl) ?_
                           exact ⟨rfl, rfl⟩))
                 · first
                   | (exfalso; first | exact absurd c_38 (by decide) | first | contradiction | omega)
                   | (refine ri_lload h d_Md_place_41 rfl ?_
                      refine ri_cSv_1 h d_Md_place_43 cs_Md_136 (k_far h0) (Nat.le_of_ble_eq_true rfl) (Nat.le_of_ble_eq_true rfl) (Nat.le_of_ble_eq_true rfl) (Nat.le_of_ble_eq_true rfl) (Nat.le_of_ble_eq_true rfl) ?_
                      first | refine ri_ifB_ne h 61 d_Md_place_46 (by decide) (fun c_46 => ?_) (fun c_46 => ?_) | refine ri_ifN_ne h 61 d_Md_place_46 (by decide) (by omega) (fun c_46 => ?_) (fun c_46 => ?_) | refine ri_if_ne h 61 d_Md_place_46 (by decide) (fun c_46 => ?_) (fun c_46 => ?_)
                      · first
                        | (exfalso; first | exact absurd c_46 (by decide) | first | contradiction | omega)
                        | (refine ri_iconstN h 3 d_Md_place_61 rfl ?_
                           refine ri_goto h 66 d_Md_place_62 (by decide) ?_
                           refine ri_pm_code h d_Md_place_66 fl_Md_108 hS (fun M hS => ?_)
                           refine ri_aload_n h d_Md_place_69 rfl ?_
                           refine ri_get h d_Md_place_70 fl_Md_108 (by first | assumption | exact hS.mo | exact gup_s) (by rfl) ?_
                           try dsimp only [MS.code, MS.set_code]
                           first | refine ri_ifN_le h 78 d_Md_place_73 (by decide) (by omega) (fun c_73 => ?_) (fun c_73 => ?_) | refine ri_if_le h 78 d_Md_place_73 (by decide) (fun c_73 => ?_) (fun c_73 => ?_)
                           · first
                             | (exfalso; first | exact absurd c_73 (by decide) | first | contradiction | omega)
                             | (refine ri_aload_n h d_Md_place_78 rfl ?_
                                refine ri_iload_n h d_Md_place_79 rfl ?_
                                refine ri_iload_n h d_Md_place_80 rfl ?_
                                refine ri_callV (r := (gR6, gT6, 44)) h [.int (nI o), .int (nI c)] [] d_Md_place_81 cv_Md_151 hS.mo rfl rfl rfl (by decide) (by decide) (by decide) (by decide) (by decide) (k_mhas h0 hS hm hW hL ho hc) (fun E M' hp => by obtain ⟨b, u, e, -⟩ := hp; cases e) (fun v M hp => ?_)
                                obtain ⟨b, u, e, hS, hb⟩ := hp
                                cases e
                                rcases hb with ⟨rfl, -⟩ | ⟨rfl, hb⟩
                                · refine ri_if_eq h 89 d_Md_place_84 (by decide) (fun c_84 => ?_) (fun c_84 => ?_)
                                  · exact absurd c_84 (by decide)
                                  · refine ri_iconst h (-1) d_Md_place_87 rfl ?_
                                    refine ri_ireturn h d_Md_place_88 (Nat.le_of_ble_eq_true rfl) (Nat.le_of_ble_eq_true rfl) ?_
                                    exact ⟨rfl, _, hS, u, rfl⟩
                                · exact absurd hr hb)
                           · first
                             | (exfalso; first | exact absurd c_73 (by decide) | first | contradiction | omega)
                             | (refine ri_iconstN h 0 d_Md_place_76 rfl ?_
                                refine ri_ireturn h d_Md_place_77 (Nat.le_of_ble_eq_true rfl) (Nat.le_of_ble_eq_true rfl) ?_
                                exact ⟨rfl, rfl⟩))
                      · first
                        | (exfalso; first | exact absurd c_46 (by decide) | first | contradiction | omega)
                        | (refine ri_iload h d_Md_place_49 rfl ?_
                           refine ri_ifM_lt h 61 d_Md_place_51 (by decide) (by omega) (fun c_51 => ?_) (fun c_51 => ?_)
                           · exact c_51.elim
                           · first
                             | (exfalso; first | exact absurd c_51 (by decide) | first | contradiction | omega)
                             | (refine ri_iload h d_Md_place_54 rfl ?_
                                refine ri_bipushN h 7 d_Md_place_56 rfl ?_
                                first | refine ri_icmpN_le h 65 d_Md_place_58 (by decide) (by omega) (by omega) (fun c_58 => ?_) (fun c_58 => ?_) | refine ri_icmp_le h 65 d_Md_place_58 (by decide) (fun c_58 => ?_) (fun c_58 => ?_)
                                · first
                                  | (exfalso; first | exact absurd c_58 (by decide) | first | contradiction | omega)
                                  | (refine ri_iconstN h 0 d_Md_place_65 rfl ?_
                                     refine ri_pm_code h d_Md_place_66 fl_Md_108 hS (fun M hS => ?_)
                                     refine ri_aload_n h d_Md_place_69 rfl ?_
                                     refine ri_get h d_Md_place_70 fl_Md_108 (by first | assumption | exact hS.mo | exact gup_s) (by rfl) ?_
                                     try dsimp only [MS.code, MS.set_code]
                                     first | refine ri_ifN_le h 78 d_Md_place_73 (by decide) (by omega) (fun c_73 => ?_) (fun c_73 => ?_) | refine ri_if_le h 78 d_Md_place_73 (by decide) (fun c_73 => ?_) (fun c_73 => ?_)
                                     · first
                                       | (exfalso; first | exact absurd c_73 (by decide) | first | contradiction | omega)
                                       | (refine ri_aload_n h d_Md_place_78 rfl ?_
                                          refine ri_iload_n h d_Md_place_79 rfl ?_
                                          refine ri_iload_n h d_Md_place_80 rfl ?_
                                          refine ri_callV (r := (gR6, gT6, 44)) h [.int (nI o), .int (nI c)] [] d_Md_place_81 cv_Md_151 hS.mo rfl rfl rfl (by decide) (by decide) (by decide) (by decide) (by decide) (k_mhas h0 hS hm hW hL ho hc) (fun E M' hp => by obtain ⟨b, u, e, -⟩ := hp; cases e) (fun v M hp => ?_)
                                          obtain ⟨b, u, e, hS, hb⟩ := hp
                                          cases e
                                          rcases hb with ⟨rfl, -⟩ | ⟨rfl, hb⟩
                                          · refine ri_if_eq h 89 d_Md_place_84 (by decide) (fun c_84 => ?_) (fun c_84 => ?_)
                                            · exact absurd c_84 (by decide)
                                            · refine ri_iconst h (-1) d_Md_place_87 rfl ?_
                                              refine ri_ireturn h d_Md_place_88 (Nat.le_of_ble_eq_true rfl) (Nat.le_of_ble_eq_true rfl) ?_
                                              exact ⟨rfl, _, hS, u, rfl⟩
                                          · exact absurd hr hb)
                                     · first
                                       | (exfalso; first | exact absurd c_73 (by decide) | first | contradiction | omega)
                                       | (refine ri_iconstN h 0 d_Md_place_76 rfl ?_
                                          refine ri_ireturn h d_Md_place_77 (Nat.le_of_ble_eq_true rfl) (Nat.le_of_ble_eq_true rfl) ?_
                                          exact ⟨rfl, rfl⟩))
                                · first
                                  | (exfalso; first | exact absurd c_58 (by decide) | first | contradiction | omega)
                                  | (refine ri_iconstN h 3 d_Md_place_61 rfl ?_
                                     refine ri_goto h 66 d_Md_place_62 (by decide) ?_
                                     refine ri_pm_code h d_Md_place_66 fl_Md_108 hS (fun M hS => ?_)
                                     refine ri_aload_n h d_Md_place_69 rfl ?_
                                     refine ri_get h d_Md_place_70 fl_Md_108 (by first | assumption | exact hS.mo | exact gup_s) (by rfl) ?_
                                     try dsimp only [MS.code, MS.set_code]
                                     first | refine ri_ifN_le h 78 d_Md_place_73 (by decide) (by omega) (fun c_73 => ?_) (fun c_73 => ?_) | refine ri_if_le h 78 d_Md_place_73 (by decide) (fun c_73 => ?_) (fun c_73 => ?_)
                                     · first
                                       | (exfalso; first | exact absurd c_73 (by decide) | first | contradiction | omega)
                                       | (refine ri_aload_n h d_Md_place_78 rfl ?_
                                          refine ri_iload_n h d_Md_place_79 rfl ?_
                                          refine ri_iload_n h d_Md_place_80 rfl ?_
                                          refine ri_callV (r := (gR6, gT6, 44)) h [.int (nI o), .int (nI c)] [] d_Md_place_81 cv_Md_151 hS.mo rfl rfl rfl (by decide) (by decide) (by decide) (by decide) (by decide) (k_mhas h0 hS hm hW hL ho hc) (fun E M' hp => by obtain ⟨b, u, e, -⟩ := hp; cases e) (fun v M hp => ?_)
                                          obtain ⟨b, u, e, hS, hb⟩ := hp
                                          cases e
                                          rcases hb with ⟨rfl, -⟩ | ⟨rfl, hb⟩
                                          · refine ri_if_eq h 89 d_Md_place_84 (by decide) (fun c_84 => ?_) (fun c_84 => ?_)
                                            · exact absurd c_84 (by decide)
                                            · refine ri_iconst h (-1) d_Md_place_87 rfl ?_
                                              refine ri_ireturn h d_Md_place_88 (Nat.le_of_ble_eq_true rfl) (Nat.le_of_ble_eq_true rfl) ?_
                                              exact ⟨rfl, _, hS, u, rfl⟩
                                          · exact absurd hr hb)
                                     · first
                                       | (exfalso; first | exact absurd c_73 (by decide) | first | contradiction | omega)
                                       | (refine ri_iconstN h 0 d_Md_place_76 rfl ?_
                                          refine ri_ireturn h d_Md_place_77 (Nat.le_of_ble_eq_true rfl) (Nat.le_of_ble_eq_true rfl) ?_
                                          exact ⟨rfl, rfl⟩))))))
            · first
              | (exfalso; first | exact absurd c_27 (by decide) | first | contradiction | omega)
              | (refine ri_iconstN h 2 d_Md_place_30 rfl ?_
                 refine ri_goto h 66 d_Md_place_31 (by decide) ?_
                 refine ri_pm_code h d_Md_place_66 fl_Md_108 hS (fun M hS => ?_)
                 refine ri_aload_n h d_Md_place_69 rfl ?_
                 refine ri_get h d_Md_place_70 fl_Md_108 (by first | assumption | exact hS.mo | exact gup_s) (by rfl) ?_
                 try dsimp only [MS.code, MS.set_code]
                 first | refine ri_ifN_le h 78 d_Md_place_73 (by decide) (by omega) (fun c_73 => ?_) (fun c_73 => ?_) | refine ri_if_le h 78 d_Md_place_73 (by decide) (fun c_73 => ?_) (fun c_73 => ?_)
                 · first
                   | (exfalso; first | exact absurd c_73 (by decide) | first | contradiction | omega)
                   | (refine ri_aload_n h d_Md_place_78 rfl ?_
                      refine ri_iload_n h d_Md_place_79 rfl ?_
                      refine ri_iload_n h d_Md_place_80 rfl ?_
                      refine ri_callV (r := (gR6, gT6, 44)) h [.int (nI o), .int (nI c)] [] d_Md_place_81 cv_Md_151 hS.mo rfl rfl rfl (by decide) (by decide) (by decide) (by decide) (by decide) (k_mhas h0 hS hm hW hL ho hc) (fun E M' hp => by obtain ⟨b, u, e, -⟩ := hp; cases e) (fun v M hp => ?_)
                      obtain ⟨b, u, e, hS, hb⟩ := hp
                      cases e
                      rcases hb with ⟨rfl, -⟩ | ⟨rfl, hb⟩
                      · refine ri_if_eq h 89 d_Md_place_84 (by decide) (fun c_84 => ?_) (fun c_84 => ?_)
                        · exact absurd c_84 (by decide)
                        · refine ri_iconst h (-1) d_Md_place_87 rfl ?_
                          refine ri_ireturn h d_Md_place_88 (Nat.le_of_ble_eq_true rfl) (Nat.le_of_ble_eq_true rfl) ?_
                          exact ⟨rfl, _, hS, u, rfl⟩
                      · exact absurd hr hb)
                 · first
                   | (exfalso; first | exact absurd c_73 (by decide) | first | contradiction | omega)
                   | (refine ri_iconstN h 0 d_Md_place_76 rfl ?_
                      refine ri_ireturn h d_Md_place_77 (Nat.le_of_ble_eq_true rfl) (Nat.le_of_ble_eq_true rfl) ?_
                      exact ⟨rfl, rfl⟩)))
       · first
         | (exfalso; first | exact absurd c_14 (by decide) | first | contradiction | omega)
         | (refine ri_iconstN h 1 d_Md_place_17 rfl ?_
            refine ri_goto h 66 d_Md_place_18 (by decide) ?_
            refine ri_pm_code h d_Md_place_66 fl_Md_108 hS (fun M hS => ?_)
            refine ri_aload_n h d_Md_place_69 rfl ?_
            refine ri_get h d_Md_place_70 fl_Md_108 (by first | assumption | exact hS.mo | exact gup_s) (by rfl) ?_
            try dsimp only [MS.code, MS.set_code]
            first | refine ri_ifN_le h 78 d_Md_place_73 (by decide) (by omega) (fun c_73 => ?_) (fun c_73 => ?_) | refine ri_if_le h 78 d_Md_place_73 (by decide) (fun c_73 => ?_) (fun c_73 => ?_)
            · first
              | (exfalso; first | exact absurd c_73 (by decide) | first | contradiction | omega)
              | (refine ri_aload_n h d_Md_place_78 rfl ?_
                 refine ri_iload_n h d_Md_place_79 rfl ?_
                 refine ri_iload_n h d_Md_place_80 rfl ?_
                 refine ri_callV (r := (gR6, gT6, 44)) h [.int (nI o), .int (nI c)] [] d_Md_place_81 cv_Md_151 hS.mo rfl rfl rfl (by decide) (by decide) (by decide) (by decide) (by decide) (k_mhas h0 hS hm hW hL ho hc) (fun E M' hp => by obtain ⟨b, u, e, -⟩ := hp; cases e) (fun v M hp => ?_)
                 obtain ⟨b, u, e, hS, hb⟩ := hp
                 cases e
                 rcases hb with ⟨rfl, -⟩ | ⟨rfl, hb⟩
                 · refine ri_if_eq h 89 d_Md_place_84 (by decide) (fun c_84 => ?_) (fun c_84 => ?_)
                   · exact absurd c_84 (by decide)
                   · refine ri_iconst h (-1) d_Md_place_87 rfl ?_
                     refine ri_ireturn h d_Md_place_88 (Nat.le_of_ble_eq_true rfl) (Nat.le_of_ble_eq_true rfl) ?_
                     exact ⟨rfl, _, hS, u, rfl⟩
                 · exact absurd hr hb)
            · first
              | (exfalso; first | exact absurd c_73 (by decide) | first | contradiction | omega)
              | (refine ri_iconstN h 0 d_Md_place_76 rfl ?_
                 refine ri_ireturn h d_Md_place_77 (Nat.le_of_ble_eq_true rfl) (Nat.le_of_ble_eq_true rfl) ?_
                 exact ⟨rfl, rfl⟩)))
theorem k_mplace_ok (h0 : g_0 l D s0) (hS : HS z ad Qc N M) (hm : MR Q N) (hW : WB Q) (hL : WL Q) {c o : Nat} (hc : c < Q.nC) (ho : o < Q.nC) {x y : Int64} {t : Nat} (hp : Q.nP < 80) (hx : nearB x) (hy : nearB y) (ht : t < 8) (hr : ¬ Rch (Ed Q) o c) : Ct l D s0 y_Md_place (Cond.code y_Md_place b_Md_place 8 (some .int)) rkM [.ref (ad 30 0), .int (nI c), .int (nI o), .long x, .long y, .int (nI t)] M (fM z ad Qc (some (.int (nI Q.nP))) (fun N' => ∃ u, N' = plN ((N.set_code 0).set_i (va_up N.i 27 u)) (nI c) (nI o) x y (nI t))) := by
  have hc' : ∃ c', c' < Q.nC ∧ nI c = nI c' := ⟨c, hc, rfl⟩
  have ho' : ∃ c', c' < Q.nC ∧ nI o = nI c' := ⟨o, ho, rfl⟩
  have hnp := hm.np
  rw [← hnp] at hp ⊢
  refine Ct.of h0 (by decide +kernel) rfl fun X hX h => ?_
  obtain ⟨p_, l', e_, R_, s_, m_, ar_, be_, me_, c_⟩ := X
  obtain rfl : l' = l := hX
  refine ri_aload_n h d_Md_place_0 rfl ?_
  refine ri_aload_n h d_Md_place_1 rfl ?_
  refine ri_iload_n h d_Md_place_2 rfl ?_
  refine ri_cVv_1 (r := (gR6, gT6, 44)) h d_Md_place_3 cv_Md_121 (by first | exact hS.lcO | exact hS.lsO | exact hS.lpO | exact hS.cesO (by first | assumption | omega) | exact hS.cepO (by first | assumption | omega) | exact ⟨_, (by first | assumption | exact hS.st | exact hS.mo | exact hS.out | exact hS.sb | exact hS.ce (by first | assumption | omega) | exact hS.ceb (by first | assumption | omega) | exact hS.sh (by first | assumption | omega) | exact hS.shb (by first | assumption | omega) | exact hS.pl (by first | assumption | omega) | exact hS.plb (by first | assumption | omega) | exact hS.fl (by first | assumption | omega) | exact gup_s | (refine gup_t (by assumption) ?_; first | assumption | exact gup_s | (refine gup_t (by assumption) ?_; first | assumption | exact gup_s | (refine gup_t (by assumption) ?_; first | assumption | exact gup_s))))⟩) rfl (k_isCell h0 hS (by assumption) hW) (Nat.le_of_ble_eq_true rfl) (Nat.le_of_ble_eq_true rfl) (Nat.le_of_ble_eq_true rfl) (Nat.le_of_ble_eq_true rfl) (Nat.le_of_ble_eq_true rfl) ?_
  first | refine ri_ifB_eq h 17 d_Md_place_6 (by decide) (fun c_6 => ?_) (fun c_6 => ?_) | refine ri_ifN_eq h 17 d_Md_place_6 (by decide) (by omega) (fun c_6 => ?_) (fun c_6 => ?_) | refine ri_if_eq h 17 d_Md_place_6 (by decide) (fun c_6 => ?_) (fun c_6 => ?_)
  · first
    | (exfalso; first | exact absurd c_6 (by decide) | first | contradiction | omega)
    | (refine ri_iconstN h 1 d_Md_place_17 rfl ?_
       refine ri_goto h 66 d_Md_place_18 (by decide) ?_
       refine ri_pm_code h d_Md_place_66 fl_Md_108 hS (fun M hS => ?_)
       refine ri_aload_n h d_Md_place_69 rfl ?_
       refine ri_get h d_Md_place_70 fl_Md_108 (by first | assumption | exact hS.mo | exact gup_s) (by rfl) ?_
       try dsimp only [MS.code, MS.set_code]
       first | refine ri_ifN_le h 78 d_Md_place_73 (by decide) (by omega) (fun c_73 => ?_) (fun c_73 => ?_) | refine ri_if_le h 78 d_Md_place_73 (by decide) (fun c_73 => ?_) (fun c_73 => ?_)
       · first
         | (exfalso; first | exact absurd c_73 (by decide) | first | contradiction | omega)
         | (refine ri_aload_n h d_Md_place_78 rfl ?_
            refine ri_iload_n h d_Md_place_79 rfl ?_
            refine ri_iload_n h d_Md_place_80 rfl ?_
            refine ri_callV (r := (gR6, gT6, 44)) h [.int (nI o), .int (nI c)] [] d_Md_place_81 cv_Md_151 hS.mo rfl rfl rfl (by decide) (by decide) (by decide) (by decide) (by decide) (k_mhas h0 hS hm hW hL ho hc) (fun E M' hp => by obtain ⟨b, u, e, -⟩ := hp; cases e) (fun v M hp => ?_)
            obtain ⟨b, u, e, hS, hb⟩ := hp
            cases e
            rcases hb with ⟨rfl, hb⟩ | ⟨rfl, -⟩
            · exact absurd hb hr
            · clear hm
              refine ri_if_eq h 89 d_Md_place_84 (by decide) (fun c_84 => ?_) (fun c_84 => ?_)
              · refine ri_aload_n h d_Md_place_89 rfl ?_
                refine ri_get h d_Md_place_90 fl_Md_36 (by first | assumption | exact hS.mo | exact gup_s) (by rfl) ?_
                refine ri_aload_n h d_Md_place_93 rfl ?_
                refine ri_get h d_Md_place_94 fl_Md_148 (by first | assumption | exact hS.mo | exact gup_s) (by first | exact congrArg (fun x => some (Value.int (nI x))) hm.np | rfl) ?_
                refine ri_iload_n h d_Md_place_97 rfl ?_
                refine ri_iast h _ d_Md_place_98 (by first | assumption | exact hS.a12) (by first | rfl | assumption) (by first | assumption | omega) (by first | decide | omega) ?_
                refine ri_gH (hS.set_mi 12 rfl _) (fun M hS => ?_)
                refine ri_aload_n h d_Md_place_99 rfl ?_
                refine ri_get h d_Md_place_100 fl_Md_39 (by first | assumption | exact hS.mo | exact gup_s) (by rfl) ?_
                refine ri_aload_n h d_Md_place_103 rfl ?_
                refine ri_get h d_Md_place_104 fl_Md_148 (by first | assumption | exact hS.mo | exact gup_s) (by first | exact congrArg (fun x => some (Value.int (nI x))) hm.np | rfl) ?_
                refine ri_iload_n h d_Md_place_107 rfl ?_
                refine ri_iast h _ d_Md_place_108 (by first | assumption | exact hS.a13) (by first | rfl | assumption) (by first | assumption | omega) (by first | decide | omega) ?_
                refine ri_gH (hS.set_mi 13 rfl _) (fun M hS => ?_)
                refine ri_aload_n h d_Md_place_109 rfl ?_
                refine ri_get h d_Md_place_110 fl_Md_42 (by first | assumption | exact hS.mo | exact gup_s) (by rfl) ?_
                refine ri_aload_n h d_Md_place_113 rfl ?_
                refine ri_get h d_Md_place_114 fl_Md_148 (by first | assumption | exact hS.mo | exact gup_s) (by first | exact congrArg (fun x => some (Value.int (nI x))) hm.np | rfl) ?_
                refine ri_lload_n h d_Md_place_117 rfl ?_
                refine ri_last h _ d_Md_place_118 (by first | assumption | exact hS.a14) (by first | rfl | assumption) (by first | assumption | omega) (by first | decide | omega) ?_
                refine ri_gH (hS.set_ml 14 rfl _) (fun M hS => ?_)
                refine ri_aload_n h d_Md_place_119 rfl ?_
                refine ri_get h d_Md_place_120 fl_Md_45 (by first | assumption | exact hS.mo | exact gup_s) (by rfl) ?_
                refine ri_aload_n h d_Md_place_123 rfl ?_
                refine ri_get h d_Md_place_124 fl_Md_148 (by first | assumption | exact hS.mo | exact gup_s) (by first | exact congrArg (fun x => some (Value.int (nI x))) hm.np | rfl) ?_
                refine ri_lload h d_Md_place_127 rfl ?_
                refine ri_last h _ d_Md_place_129 (by first | assumption | exact hS.a15) (by first | rfl | assumption) (by first | assumption | omega) (by first | decide | omega) ?_
                refine ri_gH (hS.set_ml 15 rfl _) (fun M hS => ?_)
                refine ri_aload_n h d_Md_place_130 rfl ?_
                refine ri_get h d_Md_place_131 fl_Md_48 (by first | assumption | exact hS.mo | exact gup_s) (by rfl) ?_
                refine ri_aload_n h d_Md_place_134 rfl ?_
                refine ri_get h d_Md_place_135 fl_Md_148 (by first | assumption | exact hS.mo | exact gup_s) (by first | exact congrArg (fun x => some (Value.int (nI x))) hm.np | rfl) ?_
                refine ri_iload h d_Md_place_138 rfl ?_
                refine ri_iast h _ d_Md_place_140 (by first | assumption | exact hS.a16) (by first | rfl | assumption) (by first | assumption | omega) (by first | decide | omega) ?_
                refine ri_gH (hS.set_mi 16 rfl _) (fun M hS => ?_)
                refine ri_aload_n h d_Md_place_141 rfl ?_
                refine ri_get h d_Md_place_142 fl_Md_51 (by first | assumption | exact hS.mo | exact gup_s) (by rfl) ?_
                refine ri_aload_n h d_Md_place_145 rfl ?_
                refine ri_get h d_Md_place_146 fl_Md_148 (by first | assumption | exact hS.mo | exact gup_s) (by first | exact congrArg (fun x => some (Value.int (nI x))) hm.np | rfl) ?_
                refine ri_iconstN h 1 d_Md_place_149 rfl ?_
                refine ri_iast h _ d_Md_place_150 (by first | assumption | exact hS.a17) (by first | rfl | assumption) (by first | assumption | omega) (by first | decide | omega) ?_
                refine ri_gH (hS.set_mi 17 rfl _) (fun M hS => ?_)
                refine ri_aload_n h d_Md_place_151 rfl ?_
                refine ri_get h d_Md_place_152 fl_Md_54 (by first | assumption | exact hS.mo | exact gup_s) (by rfl) ?_
                refine ri_aload_n h d_Md_place_155 rfl ?_
                refine ri_get h d_Md_place_156 fl_Md_148 (by first | assumption | exact hS.mo | exact gup_s) (by first | exact congrArg (fun x => some (Value.int (nI x))) hm.np | rfl) ?_
                refine ri_iconstN h 1 d_Md_place_159 rfl ?_
                refine ri_iast h _ d_Md_place_160 (by first | assumption | exact hS.a18) (by first | rfl | assumption) (by first | assumption | omega) (by first | decide | omega) ?_
                refine ri_gH (hS.set_mi 18 rfl _) (fun M hS => ?_)
                refine ri_aload_n h d_Md_place_161 rfl ?_
                refine ri_get h d_Md_place_162 fl_Md_57 (by first | assumption | exact hS.mo | exact gup_s) (by rfl) ?_
                refine ri_aload_n h d_Md_place_165 rfl ?_
                refine ri_get h d_Md_place_166 fl_Md_148 (by first | assumption | exact hS.mo | exact gup_s) (by first | exact congrArg (fun x => some (Value.int (nI x))) hm.np | rfl) ?_
                refine ri_lconst h 0 d_Md_place_169 rfl ?_
                refine ri_last h _ d_Md_place_170 (by first | assumption | exact hS.a19) (by first | rfl | assumption) (by first | assumption | omega) (by first | decide | omega) ?_
                refine ri_gH (hS.set_ml 19 rfl _) (fun M hS => ?_)
                refine ri_aload_n h d_Md_place_171 rfl ?_
                refine ri_get h d_Md_place_172 fl_Md_60 (by first | assumption | exact hS.mo | exact gup_s) (by rfl) ?_
                refine ri_aload_n h d_Md_place_175 rfl ?_
                refine ri_get h d_Md_place_176 fl_Md_148 (by first | assumption | exact hS.mo | exact gup_s) (by first | exact congrArg (fun x => some (Value.int (nI x))) hm.np | rfl) ?_
                refine ri_lconst h 0 d_Md_place_179 rfl ?_
                refine ri_last h _ d_Md_place_180 (by first | assumption | exact hS.a20) (by first | rfl | assumption) (by first | assumption | omega) (by first | decide | omega) ?_
                refine ri_gH (hS.set_ml 20 rfl _) (fun M hS => ?_)
                refine ri_aload_n h d_Md_place_181 rfl ?_
                refine ri_dup h d_Md_place_182 rfl ?_
                refine ri_get h d_Md_place_183 fl_Md_148 (by first | assumption | exact hS.mo | exact gup_s) (by first | exact congrArg (fun x => some (Value.int (nI x))) hm.np | rfl) ?_
                refine ri_iconstN h 1 d_Md_place_186 rfl ?_
                first | refine ri_iaddN h d_Md_place_187 ?_ | refine ri_iadd h d_Md_place_187 ?_
                refine ri_pm_places h d_Md_place_188 fl_Md_148 hS (fun M hS => ?_)
                refine ri_aload_n h d_Md_place_191 rfl ?_
                refine ri_get h d_Md_place_192 fl_Md_148 (by first | assumption | exact hS.mo | exact gup_s) (by first | exact congrArg (fun x => some (Value.int (nI x))) hm.np | rfl) ?_
                refine ri_iconstN h 1 d_Md_place_195 rfl ?_
                first | refine ri_isubN h d_Md_place_196 (by first | omega | exact Nat.le_add_left _ _) ?_ | refine ri_isub h d_Md_place_196 ?_
                refine ri_ireturn h d_Md_place_197 (Nat.le_of_ble_eq_true rfl) (Nat.le_of_ble_eq_true rfl) ?_
                exact ⟨rfl, _, hS, u, rfl⟩
              · exact absurd rfl c_84)
       · first
         | (exfalso; first | exact absurd c_73 (by decide) | first | contradiction | omega)
         | (refine ri_iconstN h 0 d_Md_place_76 rfl ?_
            refine ri_ireturn h d_Md_place_77 (Nat.le_of_ble_eq_true rfl) (Nat.le_of_ble_eq_true rfl) ?_
            exact ⟨rfl, rfl⟩))
  · first
    | (exfalso; first | exact absurd c_6 (by decide) | first | contradiction | omega)
    | (refine ri_aload_n h d_Md_place_9 rfl ?_
       refine ri_iload_n h d_Md_place_10 rfl ?_
       refine ri_cVv_1 (r := (gR6, gT6, 44)) h d_Md_place_11 cv_Md_121 (by first | exact hS.lcO | exact hS.lsO | exact hS.lpO | exact hS.cesO (by first | assumption | omega) | exact hS.cepO (by first | assumption | omega) | exact ⟨_, (by first | assumption | exact hS.st | exact hS.mo | exact hS.out | exact hS.sb | exact hS.ce (by first | assumption | omega) | exact hS.ceb (by first | assumption | omega) | exact hS.sh (by first | assumption | omega) | exact hS.shb (by first | assumption | omega) | exact hS.pl (by first | assumption | omega) | exact hS.plb (by first | assumption | omega) | exact hS.fl (by first | assumption | omega) | exact gup_s | (refine gup_t (by assumption) ?_; first | assumption | exact gup_s | (refine gup_t (by assumption) ?_; first | assumption | exact gup_s | (refine gup_t (by assumption) ?_; first | assumption | exact gup_s))))⟩) rfl (k_isCell h0 hS (by assumption) hW) (Nat.le_of_ble_eq_true rfl) (Nat.le_of_ble_eq_true rfl) (Nat.le_of_ble_eq_true rfl) (Nat.le_of_ble_eq_true rfl) (Nat.le_of_ble_eq_true rfl) ?_
       first | refine ri_ifB_ne h 21 d_Md_place_14 (by decide) (fun c_14 => ?_) (fun c_14 => ?_) | refine ri_ifN_ne h 21 d_Md_place_14 (by decide) (by omega) (fun c_14 => ?_) (fun c_14 => ?_) | refine ri_if_ne h 21 d_Md_place_14 (by decide) (fun c_14 => ?_) (fun c_14 => ?_)
       · first
         | (exfalso; first | exact absurd c_14 (by decide) | first | contradiction | omega)
         | (refine ri_aload_n h d_Md_place_21 rfl ?_
            refine ri_get h d_Md_place_22 fl_Md_148 (by first | assumption | exact hS.mo | exact gup_s) (by first | exact congrArg (fun x => some (Value.int (nI x))) hm.np | rfl) ?_
            refine ri_bipushN h 80 d_Md_place_25 rfl ?_
            first | refine ri_icmpN_ne h 34 d_Md_place_27 (by decide) (by omega) (by omega) (fun c_27 => ?_) (fun c_27 => ?_) | refine ri_icmp_ne h 34 d_Md_place_27 (by decide) (fun c_27 => ?_) (fun c_27 => ?_)
            · first
              | (exfalso; first | exact absurd c_27 (by decide) | first | contradiction | omega)
              | (refine ri_lload_n h d_Md_place_34 rfl ?_
                 refine ri_cSv_1 h d_Md_place_35 cs_Md_136 (k_far h0) (Nat.le_of_ble_eq_true rfl) (Nat.le_of_ble_eq_true rfl) (Nat.le_of_ble_eq_true rfl) (Nat.le_of_ble_eq_true rfl) (Nat.le_of_ble_eq_true rfl) ?_
                 first | refine ri_ifB_ne h 61 d_Md_place_38 (by decide) (fun c_38 => ?_) (fun c_38 => ?_) | refine ri_ifN_ne h 61 d_Md_place_38 (by decide) (by omega) (fun c_38 => ?_) (fun c_38 => ?_) | refine ri_if_ne h 61 d_Md_place_38 (by decide) (fun c_38 => ?_) (fun c_38 => ?_)
                 · first
                   | (exfalso; first | exact absurd c_38 (by decide) | first | contradiction | omega)
                   | (refine ri_iconstN h 3 d_Md_place_61 rfl ?_
                      refine ri_goto h 66 d_Md_place_62 (by decide) ?_
                      refine ri_pm_code h d_Md_place_66 fl_Md_108 hS (fun M hS => ?_)
                      refine ri_aload_n h d_Md_place_69 rfl ?_
                      refine ri_get h d_Md_place_70 fl_Md_108 (by first | assumption | exact hS.mo | exact gup_s) (by rfl) ?_
                      try dsimp only [MS.code, MS.set_code]
                      first | refine ri_ifN_le h 78 d_Md_place_73 (by decide) (by omega) (fun c_73 => ?_) (fun c_73 => ?_) | refine ri_if_le h 78 d_Md_place_73 (by decide) (fun c_73 => ?_) (fun c_73 => ?_)
                      · first
                        | (exfalso; first | exact absurd c_73 (by decide) | first | contradiction | omega)
                        | (refine ri_aload_n h d_Md_place_78 rfl ?_
                           refine ri_iload_n h d_Md_place_79 rfl ?_
                           refine ri_iload_n h d_Md_place_80 rfl ?_
                           refine ri_callV (r := (gR6, gT6, 44)) h [.int (nI o), .int (nI c)] [] d_Md_place_81 cv_Md_151 hS.mo rfl rfl rfl (by decide) (by decide) (by decide) (by decide) (by decide) (k_mhas h0 hS hm hW hL ho hc) (fun E M' hp => by obtain ⟨b, u, e, -⟩ := hp; cases e) (fun v M hp => ?_)
                           obtain ⟨b, u, e, hS, hb⟩ := hp
                           cases e
                           rcases hb with ⟨rfl, hb⟩ | ⟨rfl, -⟩
                           · exact absurd hb hr
                           · clear hm
                             refine ri_if_eq h 89 d_Md_place_84 (by decide) (fun c_84 => ?_) (fun c_84 => ?_)
                             · refine ri_aload_n h d_Md_place_89 rfl ?_
                               refine ri_get h d_Md_place_90 fl_Md_36 (by first | assumption | exact hS.mo | exact gup_s) (by rfl) ?_
                               refine ri_aload_n h d_Md_place_93 rfl ?_
                               refine ri_get h d_Md_place_94 fl_Md_148 (by first | assumption | exact hS.mo | exact gup_s) (by first | exact congrArg (fun x => some (Value.int (nI x))) hm.np | rfl) ?_
                               refine ri_iload_n h d_Md_place_97 rfl ?_
                               refine ri_iast h _ d_Md_place_98 (by first | assumption | exact hS.a12) (by first | rfl | assumption) (by first | assumption | omega) (by first | decide | omega) ?_
                               refine ri_gH (hS.set_mi 12 rfl _) (fun M hS => ?_)
                               refine ri_aload_n h d_Md_place_99 rfl ?_
                               refine ri_get h d_Md_place_100 fl_Md_39 (by first | assumption | exact hS.mo | exact gup_s) (by rfl) ?_
                               refine ri_aload_n h d_Md_place_103 rfl ?_
                               refine ri_get h d_Md_place_104 fl_Md_148 (by first | assumption | exact hS.mo | exact gup_s) (by first | exact congrArg (fun x => some (Value.int (nI x))) hm.np | rfl) ?_
                               refine ri_iload_n h d_Md_place_107 rfl ?_
                               refine ri_iast h _ d_Md_place_108 (by first | assumption | exact hS.a13) (by first | rfl | assumption) (by first | assumption | omega) (by first | decide | omega) ?_
                               refine ri_gH (hS.set_mi 13 rfl _) (fun M hS => ?_)
                               refine ri_aload_n h d_Md_place_109 rfl ?_
                               refine ri_get h d_Md_place_110 fl_Md_42 (by first | assumption | exact hS.mo | exact gup_s) (by rfl) ?_
                               refine ri_aload_n h d_Md_place_113 rfl ?_
                               refine ri_get h d_Md_place_114 fl_Md_148 (by first | assumption | exact hS.mo | exact gup_s) (by first | exact congrArg (fun x => some (Value.int (nI x))) hm.np | rfl) ?_
                               refine ri_lload_n h d_Md_place_117 rfl ?_
                               refine ri_last h _ d_Md_place_118 (by first | assumption | exact hS.a14) (by first | rfl | assumption) (by first | assumption | omega) (by first | decide | omega) ?_
                               refine ri_gH (hS.set_ml 14 rfl _) (fun M hS => ?_)
                               refine ri_aload_n h d_Md_place_119 rfl ?_
                               refine ri_get h d_Md_place_120 fl_Md_45 (by first | assumption | exact hS.mo | exact gup_s) (by rfl) ?_
                               refine ri_aload_n h d_Md_place_123 rfl ?_
                               refine ri_get h d_Md_place_124 fl_Md_148 (by first | assumption | exact hS.mo | exact gup_s) (by first | exact congrArg (fun x => some (Value.int (nI x))) hm.np | rfl) ?_
                               refine ri_lload h d_Md_place_127 rfl ?_
                               refine ri_last h _ d_Md_place_129 (by first | assumption | exact hS.a15) (by first | rfl | assumption) (by first | assumption | omega) (by first | decide | omega) ?_
                               refine ri_gH (hS.set_ml 15 rfl _) (fun M hS => ?_)
                               refine ri_aload_n h d_Md_place_130 rfl ?_
                               refine ri_get h d_Md_place_131 fl_Md_48 (by first | assumption | exact hS.mo | exact gup_s) (by rfl) ?_
                               refine ri_aload_n h d_Md_place_134 rfl ?_
                               refine ri_get h d_Md_place_135 fl_Md_148 (by first | assumption | exact hS.mo | exact gup_s) (by first | exact congrArg (fun x => some (Value.int (nI x))) hm.np | rfl) ?_
                               refine ri_iload h d_Md_place_138 rfl ?_
                               refine ri_iast h _ d_Md_place_140 (by first | assumption | exact hS.a16) (by first | rfl | assumption) (by first | assumption | omega) (by first | decide | omega) ?_
                               refine ri_gH (hS.set_mi 16 rfl _) (fun M hS => ?_)
                               refine ri_aload_n h d_Md_place_141 rfl ?_
                               refine ri_get h d_Md_place_142 fl_Md_51 (by first | assumption | exact hS.mo | exact gup_s) (by rfl) ?_
                               refine ri_aload_n h d_Md_place_145 rfl ?_
                               refine ri_get h d_Md_place_146 fl_Md_148 (by first | assumption | exact hS.mo | exact gup_s) (by first | exact congrArg (fun x => some (Value.int (nI x))) hm.np | rfl) ?_
                               refine ri_iconstN h 1 d_Md_place_149 rfl ?_
                               refine ri_iast h _ d_Md_place_150 (by first | assumption | exact hS.a17) (by first | rfl | assumption) (by first | assumption | omega) (by first | decide | omega) ?_
                               refine ri_gH (hS.set_mi 17 rfl _) (fun M hS => ?_)
                               refine ri_aload_n h d_Md_place_151 rfl ?_
                               refine ri_get h d_Md_place_152 fl_Md_54 (by first | assumption | exact hS.mo | exact gup_s) (by rfl) ?_
                               refine ri_aload_n h d_Md_place_155 rfl ?_
                               refine ri_get h d_Md_place_156 fl_Md_148 (by first | assumption | exact hS.mo | exact gup_s) (by first | exact congrArg (fun x => some (Value.int (nI x))) hm.np | rfl) ?_
                               refine ri_iconstN h 1 d_Md_place_159 rfl ?_
                               refine ri_iast h _ d_Md_place_160 (by first | assumption | exact hS.a18) (by first | rfl | assumption) (by first | assumption | omega) (by first | decide | omega) ?_
                               refine ri_gH (hS.set_mi 18 rfl _) (fun M hS => ?_)
                               refine ri_aload_n h d_Md_place_161 rfl ?_
                               refine ri_get h d_Md_place_162 fl_Md_57 (by first | assumption | exact hS.mo | exact gup_s) (by rfl) ?_
                               refine ri_aload_n h d_Md_place_165 rfl ?_
                               refine ri_get h d_Md_place_166 fl_Md_148 (by first | assumption | exact hS.mo | exact gup_s) (by first | exact congrArg (fun x => some (Value.int (nI x))) hm.np | rfl) ?_
                               refine ri_lconst h 0 d_Md_place_169 rfl ?_
                               refine ri_last h _ d_Md_place_170 (by first | assumption | exact hS.a19) (by first | rfl | assumption) (by first | assumption | omega) (by first | decide | omega) ?_
                               refine ri_gH (hS.set_ml 19 rfl _) (fun M hS => ?_)
                               refine ri_aload_n h d_Md_place_171 rfl ?_
                               refine ri_get h d_Md_place_172 fl_Md_60 (by first | assumption | exact hS.mo | exact gup_s) (by rfl) ?_
                               refine ri_aload_n h d_Md_place_175 rfl ?_
                               refine ri_get h d_Md_place_176 fl_Md_148 (by first | assumption | exact hS.mo | exact gup_s) (by first | exact congrArg (fun x => some (Value.int (nI x))) hm.np | rfl) ?_
                               refine ri_lconst h 0 d_Md_place_179 rfl ?_
                               refine ri_last h _ d_Md_place_180 (by first | assumption | exact hS.a20) (by first | rfl | assumption) (by first | assumption | omega) (by first | decide | omega) ?_
                               refine ri_gH (hS.set_ml 20 rfl _) (fun M hS => ?_)
                               refine ri_aload_n h d_Md_place_181 rfl ?_
                               refine ri_dup h d_Md_place_182 rfl ?_
                               refine ri_get h d_Md_place_183 fl_Md_148 (by first | assumption | exact hS.mo | exact gup_s) (by first | exact congrArg (fun x => some (Value.int (nI x))) hm.np | rfl) ?_
                               refine ri_iconstN h 1 d_Md_place_186 rfl ?_
                               first | refine ri_iaddN h d_Md_place_187 ?_ | refine ri_iadd h d_Md_place_187 ?_
                               refine ri_pm_places h d_Md_place_188 fl_Md_148 hS (fun M hS => ?_)
                               refine ri_aload_n h d_Md_place_191 rfl ?_
                               refine ri_get h d_Md_place_192 fl_Md_148 (by first | assumption | exact hS.mo | exact gup_s) (by first | exact congrArg (fun x => some (Value.int (nI x))) hm.np | rfl) ?_
                               refine ri_iconstN h 1 d_Md_place_195 rfl ?_
                               first | refine ri_isubN h d_Md_place_196 (by first | omega | exact Nat.le_add_left _ _) ?_ | refine ri_isub h d_Md_place_196 ?_
                               refine ri_ireturn h d_Md_place_197 (Nat.le_of_ble_eq_true rfl) (Nat.le_of_ble_eq_true rfl) ?_
                               exact ⟨rfl, _, hS, u, rfl⟩
                             · exact absurd rfl c_84)
                      · first
                        | (exfalso; first | exact absurd c_73 (by decide) | first | contradiction | omega)
                        | (refine ri_iconstN h 0 d_Md_place_76 rfl ?_
                           refine ri_ireturn h d_Md_place_77 (Nat.le_of_ble_eq_true rfl) (Nat.le_of_ble_eq_true rfl) ?_
                           exact ⟨rfl, rfl⟩))
                 · first
                   | (exfalso; first | exact absurd c_38 (by decide) | first | contradiction | omega)
                   | (refine ri_lload h d_Md_place_41 rfl ?_
                      refine ri_cSv_1 h d_Md_place_43 cs_Md_136 (k_far h0) (Nat.le_of_ble_eq_true rfl) (Nat.le_of_ble_eq_true rfl) (Nat.le_of_ble_eq_true rfl) (Nat.le_of_ble_eq_true rfl) (Nat.le_of_ble_eq_true rfl) ?_
                      first | refine ri_ifB_ne h 61 d_Md_place_46 (by decide) (fun c_46 => ?_) (fun c_46 => ?_) | refine ri_ifN_ne h 61 d_Md_place_46 (by decide) (by omega) (fun c_46 => ?_) (fun c_46 => ?_) | refine ri_if_ne h 61 d_Md_place_46 (by decide) (fun c_46 => ?_) (fun c_46 => ?_)
                      · first
                        | (exfalso; first | exact absurd c_46 (by decide) | first | contradiction | omega)
                        | (refine ri_iconstN h 3 d_Md_place_61 rfl ?_
                           refine ri_goto h 66 d_Md_place_62 (by decide) ?_
                           refine ri_pm_code h d_Md_place_66 fl_Md_108 hS (fun M hS => ?_)
                           refine ri_aload_n h d_Md_place_69 rfl ?_
                           refine ri_get h d_Md_place_70 fl_Md_108 (by first | assumption | exact hS.mo | exact gup_s) (by rfl) ?_
                           try dsimp only [MS.code, MS.set_code]
                           first | refine ri_ifN_le h 78 d_Md_place_73 (by decide) (by omega) (fun c_73 => ?_) (fun c_73 => ?_) | refine ri_if_le h 78 d_Md_place_73 (by decide) (fun c_73 => ?_) (fun c_73 => ?_)
                           · first
                             | (exfalso; first | exact absurd c_73 (by decide) | first | contradiction | omega)
                             | (refine ri_aload_n h d_Md_place_78 rfl ?_
                                refine ri_iload_n h d_Md_place_79 rfl ?_
                                refine ri_iload_n h d_Md_place_80 rfl ?_
                                refine ri_callV (r := (gR6, gT6, 44)) h [.int (nI o), .int (nI c)] [] d_Md_place_81 cv_Md_151 hS.mo rfl rfl rfl (by decide) (by decide) (by decide) (by decide) (by decide) (k_mhas h0 hS hm hW hL ho hc) (fun E M' hp => by obtain ⟨b, u, e, -⟩ := hp; cases e) (fun v M hp => ?_)
                                obtain ⟨b, u, e, hS, hb⟩ := hp
                                cases e
                                rcases hb with ⟨rfl, hb⟩ | ⟨rfl, -⟩
                                · exact absurd hb hr
                                · clear hm
                                  refine ri_if_eq h 89 d_Md_place_84 (by decide) (fun c_84 => ?_) (fun c_84 => ?_)
                                  · refine ri_aload_n h d_Md_place_89 rfl ?_
                                    refine ri_get h d_Md_place_90 fl_Md_36 (by first | assumption | exact hS.mo | exact gup_s) (by rfl) ?_
                                    refine ri_aload_n h d_Md_place_93 rfl ?_
                                    refine ri_get h d_Md_place_94 fl_Md_148 (by first | assumption | exact hS.mo | exact gup_s) (by first | exact congrArg (fun x => some (Value.int (nI x))) hm.np | rfl) ?_
                                    refine ri_iload_n h d_Md_place_97 rfl ?_
                                    refine ri_iast h _ d_Md_place_98 (by first | assumption | exact hS.a12) (by first | rfl | assumption) (by first | assumption | omega) (by first | decide | omega) ?_
                                    refine ri_gH (hS.set_mi 12 rfl _) (fun M hS => ?_)
                                    refine ri_aload_n h d_Md_place_99 rfl ?_
                                    refine ri_get h d_Md_place_100 fl_Md_39 (by first | assumption | exact hS.mo | exact gup_s) (by rfl) ?_
                                    refine ri_aload_n h d_Md_place_103 rfl ?_
                                    refine ri_get h d_Md_place_104 fl_Md_148 (by first | assumption | exact hS.mo | exact gup_s) (by first | exact congrArg (fun x => some (Value.int (nI x))) hm.np | rfl) ?_
                                    refine ri_iload_n h d_Md_place_107 rfl ?_
                                    refine ri_iast h _ d_Md_place_108 (by first | assumption | exact hS.a13) (by first | rfl | assumption) (by first | assumption | omega) (by first | decide | omega) ?_
                                    refine ri_gH (hS.set_mi 13 rfl _) (fun M hS => ?_)
                                    refine ri_aload_n h d_Md_place_109 rfl ?_
                                    refine ri_get h d_Md_place_110 fl_Md_42 (by first | assumption | exact hS.mo | exact gup_s) (by rfl) ?_
                                    refine ri_aload_n h d_Md_place_113 rfl ?_
                                    refine ri_get h d_Md_place_114 fl_Md_148 (by first | assumption | exact hS.mo | exact gup_s) (by first | exact congrArg (fun x => some (Value.int (nI x))) hm.np | rfl) ?_
                                    refine ri_lload_n h d_Md_place_117 rfl ?_
                                    refine ri_last h _ d_Md_place_118 (by first | assumption | exact hS.a14) (by first | rfl | assumption) (by first | assumption | omega) (by first | decide | omega) ?_
                                    refine ri_gH (hS.set_ml 14 rfl _) (fun M hS => ?_)
                                    refine ri_aload_n h d_Md_place_119 rfl ?_
                                    refine ri_get h d_Md_place_120 fl_Md_45 (by first | assumption | exact hS.mo | exact gup_s) (by rfl) ?_
                                    refine ri_aload_n h d_Md_place_123 rfl ?_
                                    refine ri_get h d_Md_place_124 fl_Md_148 (by first | assumption | exact hS.mo | exact gup_s) (by first | exact congrArg (fun x => some (Value.int (nI x))) hm.np | rfl) ?_
                                    refine ri_lload h d_Md_place_127 rfl ?_
                                    refine ri_last h _ d_Md_place_129 (by first | assumption | exact hS.a15) (by first | rfl | assumption) (by first | assumption | omega) (by first | decide | omega) ?_
                                    refine ri_gH (hS.set_ml 15 rfl _) (fun M hS => ?_)
                                    refine ri_aload_n h d_Md_place_130 rfl ?_
                                    refine ri_get h d_Md_place_131 fl_Md_48 (by first | assumption | exact hS.mo | exact gup_s) (by rfl) ?_
                                    refine ri_aload_n h d_Md_place_134 rfl ?_
                                    refine ri_get h d_Md_place_135 fl_Md_148 (by first | assumption | exact hS.mo | exact gup_s) (by first | exact congrArg (fun x => some (Value.int (nI x))) hm.np | rfl) ?_
                                    refine ri_iload h d_Md_place_138 rfl ?_
                                    refine ri_iast h _ d_Md_place_140 (by first | assumption | exact hS.a16) (by first | rfl | assumption) (by first | assumption | omega) (by first | decide | omega) ?_
                                    refine ri_gH (hS.set_mi 16 rfl _) (fun M hS => ?_)
                                    refine ri_aload_n h d_Md_place_141 rfl ?_
                                    refine ri_get h d_Md_place_142 fl_Md_51 (by first | assumption | exact hS.mo | exact gup_s) (by rfl) ?_
                                    refine ri_aload_n h d_Md_place_145 rfl ?_
                                    refine ri_get h d_Md_place_146 fl_Md_148 (by first | assumption | exact hS.mo | exact gup_s) (by first | exact congrArg (fun x => some (Value.int (nI x))) hm.np | rfl) ?_
                                    refine ri_iconstN h 1 d_Md_place_149 rfl ?_
                                    refine ri_iast h _ d_Md_place_150 (by first | assumption | exact hS.a17) (by first | rfl | assumption) (by first | assumption | omega) (by first | decide | omega) ?_
                                    refine ri_gH (hS.set_mi 17 rfl _) (fun M hS => ?_)
                                    refine ri_aload_n h d_Md_place_151 rfl ?_
                                    refine ri_get h d_Md_place_152 fl_Md_54 (by first | assumption | exact hS.mo | exact gup_s) (by rfl) ?_
                                    refine ri_aload_n h d_Md_place_155 rfl ?_
                                    refine ri_get h d_Md_place_156 fl_Md_148 (by first | assumption | exact hS.mo | exact gup_s) (by first | exact congrArg (fun x => some (Value.int (nI x))) hm.np | rfl) ?_
                                    refine ri_iconstN h 1 d_Md_place_159 rfl ?_
                                    refine ri_iast h _ d_Md_place_160 (by first | assumption | exact hS.a18) (by first | rfl | assumption) (by first | assumption | omega) (by first | decide | omega) ?_
                                    refine ri_gH (hS.set_mi 18 rfl _) (fun M hS => ?_)
                                    refine ri_aload_n h d_Md_place_161 rfl ?_
                                    refine ri_get h d_Md_place_162 fl_Md_57 (by first | assumption | exact hS.mo | exact gup_s) (by rfl) ?_
                                    refine ri_aload_n h d_Md_place_165 rfl ?_
                                    refine ri_get h d_Md_place_166 fl_Md_148 (by first | assumption | exact hS.mo | exact gup_s) (by first | exact congrArg (fun x => some (Value.int (nI x))) hm.np | rfl) ?_
                                    refine ri_lconst h 0 d_Md_place_169 rfl ?_
                                    refine ri_last h _ d_Md_place_170 (by first | assumption | exact hS.a19) (by first | rfl | assumption) (by first | assumption | omega) (by first | decide | omega) ?_
                                    refine ri_gH (hS.set_ml 19 rfl _) (fun M hS => ?_)
                                    refine ri_aload_n h d_Md_place_171 rfl ?_
                                    refine ri_get h d_Md_place_172 fl_Md_60 (by first | assumption | exact hS.mo | exact gup_s) (by rfl) ?_
                                    refine ri_aload_n h d_Md_place_175 rfl ?_
                                    refine ri_get h d_Md_place_176 fl_Md_148 (by first | assumption | exact hS.mo | exact gup_s) (by first | exact congrArg (fun x => some (Value.int (nI x))) hm.np | rfl) ?_
                                    refine ri_lconst h 0 d_Md_place_179 rfl ?_
                                    refine ri_last h _ d_Md_place_180 (by first | assumption | exact hS.a20) (by first | rfl | assumption) (by first | assumption | omega) (by first | decide | omega) ?_
                                    refine ri_gH (hS.set_ml 20 rfl _) (fun M hS => ?_)
                                    refine ri_aload_n h d_Md_place_181 rfl ?_
                                    refine ri_dup h d_Md_place_182 rfl ?_
                                    refine ri_get h d_Md_place_183 fl_Md_148 (by first | assumption | exact hS.mo | exact gup_s) (by first | exact congrArg (fun x => some (Value.int (nI x))) hm.np | rfl) ?_
                                    refine ri_iconstN h 1 d_Md_place_186 rfl ?_
                                    first | refine ri_iaddN h d_Md_place_187 ?_ | refine ri_iadd h d_Md_place_187 ?_
                                    refine ri_pm_places h d_Md_place_188 fl_Md_148 hS (fun M hS => ?_)
                                    refine ri_aload_n h d_Md_place_191 rfl ?_
                                    refine ri_get h d_Md_place_192 fl_Md_148 (by first | assumption | exact hS.mo | exact gup_s) (by first | exact congrArg (fun x => some (Value.int (nI x))) hm.np | rfl) ?_
                                    refine ri_iconstN h 1 d_Md_place_195 rfl ?_
                                    first | refine ri_isubN h d_Md_place_196 (by first | omega | exact Nat.le_add_left _ _) ?_ | refine ri_isub h d_Md_place_196 ?_
                                    refine ri_ireturn h d_Md_place_197 (Nat.le_of_ble_eq_true rfl) (Nat.le_of_ble_eq_true rfl) ?_
                                    exact ⟨rfl, _, hS, u, rfl⟩
                                  · exact absurd rfl c_84)
                           · first
                             | (exfalso; first | exact absurd c_73 (by decide) | first | contradiction | omega)
                             | (refine ri_iconstN h 0 d_Md_place_76 rfl ?_
                                refine ri_ireturn h d_Md_place_77 (Nat.le_of_ble_eq_true rfl) (Nat.le_of_ble_eq_true rfl) ?_
                                exact ⟨rfl, rfl⟩))
                      · first
                        | (exfalso; first | exact absurd c_46 (by decide) | first | contradiction | omega)
                        | (refine ri_iload h d_Md_place_49 rfl ?_
                           refine ri_ifM_lt h 61 d_Md_place_51 (by decide) (by omega) (fun c_51 => ?_) (fun c_51 => ?_)
                           · exact c_51.elim
                           · first
                             | (exfalso; first | exact absurd c_51 (by decide) | first | contradiction | omega)
                             | (refine ri_iload h d_Md_place_54 rfl ?_
                                refine ri_bipushN h 7 d_Md_place_56 rfl ?_
                                first | refine ri_icmpN_le h 65 d_Md_place_58 (by decide) (by omega) (by omega) (fun c_58 => ?_) (fun c_58 => ?_) | refine ri_icmp_le h 65 d_Md_place_58 (by decide) (fun c_58 => ?_) (fun c_58 => ?_)
                                · first
                                  | (exfalso; first | exact absurd c_58 (by decide) | first | contradiction | omega)
                                  | (refine ri_iconstN h 0 d_Md_place_65 rfl ?_
                                     refine ri_pm_code h d_Md_place_66 fl_Md_108 hS (fun M hS => ?_)
                                     refine ri_aload_n h d_Md_place_69 rfl ?_
                                     refine ri_get h d_Md_place_70 fl_Md_108 (by first | assumption | exact hS.mo | exact gup_s) (by rfl) ?_
                                     try dsimp only [MS.code, MS.set_code]
                                     first | refine ri_ifN_le h 78 d_Md_place_73 (by decide) (by omega) (fun c_73 => ?_) (fun c_73 => ?_) | refine ri_if_le h 78 d_Md_place_73 (by decide) (fun c_73 => ?_) (fun c_73 => ?_)
                                     · first
                                       | (exfalso; first | exact absurd c_73 (by decide) | first | contradiction | omega)
                                       | (refine ri_aload_n h d_Md_place_78 rfl ?_
                                          refine ri_iload_n h d_Md_place_79 rfl ?_
                                          refine ri_iload_n h d_Md_place_80 rfl ?_
                                          refine ri_callV (r := (gR6, gT6, 44)) h [.int (nI o), .int (nI c)] [] d_Md_place_81 cv_Md_151 hS.mo rfl rfl rfl (by decide) (by decide) (by decide) (by decide) (by decide) (k_mhas h0 hS hm hW hL ho hc) (fun E M' hp => by obtain ⟨b, u, e, -⟩ := hp; cases e) (fun v M hp => ?_)
                                          obtain ⟨b, u, e, hS, hb⟩ := hp
                                          cases e
                                          rcases hb with ⟨rfl, hb⟩ | ⟨rfl, -⟩
                                          · exact absurd hb hr
                                          · clear hm
                                            refine ri_if_eq h 89 d_Md_place_84 (by decide) (fun c_84 => ?_) (fun c_84 => ?_)
                                            · refine ri_aload_n h d_Md_place_89 rfl ?_
                                              refine ri_get h d_Md_place_90 fl_Md_36 (by first | assumption | exact hS.mo | exact gup_s) (by rfl) ?_
                                              refine ri_aload_n h d_Md_place_93 rfl ?_
                                              refine ri_get h d_Md_place_94 fl_Md_148 (by first | assumption | exact hS.mo | exact gup_s) (by first | exact congrArg (fun x => some (Value.int (nI x))) hm.np | rfl) ?_
                                              refine ri_iload_n h d_Md_place_97 rfl ?_
                                              refine ri_iast h _ d_Md_place_98 (by first | assumption | exact hS.a12) (by first | rfl | assumption) (by first | assumption | omega) (by first | decide | omega) ?_
                                              refine ri_gH (hS.set_mi 12 rfl _) (fun M hS => ?_)
                                              refine ri_aload_n h d_Md_place_99 rfl ?_
                                              refine ri_get h d_Md_place_100 fl_Md_39 (by first | assumption | exact hS.mo | exact gup_s) (by rfl) ?_
                                              refine ri_aload_n h d_Md_place_103 rfl ?_
                                              refine ri_get h d_Md_place_104 fl_Md_148 (by first | assumption | exact hS.mo | exact gup_s) (by first | exact congrArg (fun x => some (Value.int (nI x))) hm.np | rfl) ?_
                                              refine ri_iload_n h d_Md_place_107 rfl ?_
                                              refine ri_iast h _ d_Md_place_108 (by first | assumption | exact hS.a13) (by first | rfl | assumption) (by first | assumption | omega) (by first | decide | omega) ?_
                                              refine ri_gH (hS.set_mi 13 rfl _) (fun M hS => ?_)
                                              refine ri_aload_n h d_Md_place_109 rfl ?_
                                              refine ri_get h d_Md_place_110 fl_Md_42 (by first | assumption | exact hS.mo | exact gup_s) (by rfl) ?_
                                              refine ri_aload_n h d_Md_place_113 rfl ?_
                                              refine ri_get h d_Md_place_114 fl_Md_148 (by first | assumption | exact hS.mo | exact gup_s) (by first | exact congrArg (fun x => some (Value.int (nI x))) hm.np | rfl) ?_
                                              refine ri_lload_n h d_Md_place_117 rfl ?_
                                              refine ri_last h _ d_Md_place_118 (by first | assumption | exact hS.a14) (by first | rfl | assumption) (by first | assumption | omega) (by first | decide | omega) ?_
                                              refine ri_gH (hS.set_ml 14 rfl _) (fun M hS => ?_)
                                              refine ri_aload_n h d_Md_place_119 rfl ?_
                                              refine ri_get h d_Md_place_120 fl_Md_45 (by first | assumption | exact hS.mo | exact gup_s) (by rfl) ?_
                                              refine ri_aload_n h d_Md_place_123 rfl ?_
                                              refine ri_get h d_Md_place_124 fl_Md_148 (by first | assumption | exact hS.mo | exact gup_s) (by first | exact congrArg (fun x => some (Value.int (nI x))) hm.np | rfl) ?_
                                              refine ri_lload h d_Md_place_127 rfl ?_
                                              refine ri_last h _ d_Md_place_129 (by first | assumption | exact hS.a15) (by first | rfl | assumption) (by first | assumption | omega) (by first | decide | omega) ?_
                                              refine ri_gH (hS.set_ml 15 rfl _) (fun M hS => ?_)
                                              refine ri_aload_n h d_Md_place_130 rfl ?_
                                              refine ri_get h d_Md_place_131 fl_Md_48 (by first | assumption | exact hS.mo | exact gup_s) (by rfl) ?_
                                              refine ri_aload_n h d_Md_place_134 rfl ?_
                                              refine ri_get h d_Md_place_135 fl_Md_148 (by first | assumption | exact hS.mo | exact gup_s) (by first | exact congrArg (fun x => some (Value.int (nI x))) hm.np | rfl) ?_
                                              refine ri_iload h d_Md_place_138 rfl ?_
                                              refine ri_iast h _ d_Md_place_140 (by first | assumption | exact hS.a16) (by first | rfl | assumption) (by first | assumption | omega) (by first | decide | omega) ?_
                                              refine ri_gH (hS.set_mi 16 rfl _) (fun M hS => ?_)
                                              refine ri_aload_n h d_Md_place_141 rfl ?_
                                              refine ri_get h d_Md_place_142 fl_Md_51 (by first | assumption | exact hS.mo | exact gup_s) (by rfl) ?_
                                              refine ri_aload_n h d_Md_place_145 rfl ?_
                                              refine ri_get h d_Md_place_146 fl_Md_148 (by first | assumption | exact hS.mo | exact gup_s) (by first | exact congrArg (fun x => some (Value.int (nI x))) hm.np | rfl) ?_
                                              refine ri_iconstN h 1 d_Md_place_149 rfl ?_
                                              refine ri_iast h _ d_Md_place_150 (by first | assumption | exact hS.a17) (by first | rfl | assumption) (by first | assumption | omega) (by first | decide | omega) ?_
                                              refine ri_gH (hS.set_mi 17 rfl _) (fun M hS => ?_)
                                              refine ri_aload_n h d_Md_place_151 rfl ?_
                                              refine ri_get h d_Md_place_152 fl_Md_54 (by first | assumption | exact hS.mo | exact gup_s) (by rfl) ?_
                                              refine ri_aload_n h d_Md_place_155 rfl ?_
                                              refine ri_get h d_Md_place_156 fl_Md_148 (by first | assumption | exact hS.mo | exact gup_s) (by first | exact congrArg (fun x => some (Value.int (nI x))) hm.np | rfl) ?_
                                              refine ri_iconstN h 1 d_Md_place_159 rfl ?_
                                              refine ri_iast h _ d_Md_place_160 (by first | assumption | exact hS.a18) (by first | rfl | assumption) (by first | assumption | omega) (by first | decide | omega) ?_
                                              refine ri_gH (hS.set_mi 18 rfl _) (fun M hS => ?_)
                                              refine ri_aload_n h d_Md_place_161 rfl ?_
                                              refine ri_get h d_Md_place_162 fl_Md_57 (by first | assumption | exact hS.mo | exact gup_s) (by rfl) ?_
                                              refine ri_aload_n h d_Md_place_165 rfl ?_
                                              refine ri_get h d_Md_place_166 fl_Md_148 (by first | assumption | exact hS.mo | exact gup_s) (by first | exact congrArg (fun x => some (Value.int (nI x))) hm.np | rfl) ?_
                                              refine ri_lconst h 0 d_Md_place_169 rfl ?_
                                              refine ri_last h _ d_Md_place_170 (by first | assumption | exact hS.a19) (by first | rfl | assumption) (by first | assumption | omega) (by first | decide | omega) ?_
                                              refine ri_gH (hS.set_ml 19 rfl _) (fun M hS => ?_)
                                              refine ri_aload_n h d_Md_place_171 rfl ?_
                                              refine ri_get h d_Md_place_172 fl_Md_60 (by first | assumption | exact hS.mo | exact gup_s) (by rfl) ?_
                                              refine ri_aload_n h d_Md_place_175 rfl ?_
                                              refine ri_get h d_Md_place_176 fl_Md_148 (by first | assumption | exact hS.mo | exact gup_s) (by first | exact congrArg (fun x => some (Value.int (nI x))) hm.np | rfl) ?_
                                              refine ri_lconst h 0 d_Md_place_179 rfl ?_
                                              refine ri_last h _ d_Md_place_180 (by first | assumption | exact hS.a20) (by first | rfl | assumption) (by first | assumption | omega) (by first | decide | omega) ?_
                                              refine ri_gH (hS.set_ml 20 rfl _) (fun M hS => ?_)
                                              refine ri_aload_n h d_Md_place_181 rfl ?_
                                              refine ri_dup h d_Md_place_182 rfl ?_
                                              refine ri_get h d_Md_place_183 fl_Md_148 (by first | assumption | exact hS.mo | exact gup_s) (by first | exact congrArg (fun x => some (Value.int (nI x))) hm.np | rfl) ?_
                                              refine ri_iconstN h 1 d_Md_place_186 rfl ?_
                                              first | refine ri_iaddN h d_Md_place_187 ?_ | refine ri_iadd h d_Md_place_187 ?_
                                              refine ri_pm_places h d_Md_place_188 fl_Md_148 hS (fun M hS => ?_)
                                              refine ri_aload_n h d_Md_place_191 rfl ?_
                                              refine ri_get h d_Md_place_192 fl_Md_148 (by first | assumption | exact hS.mo | exact gup_s) (by first | exact congrArg (fun x => some (Value.int (nI x))) hm.np | rfl) ?_
                                              refine ri_iconstN h 1 d_Md_place_195 rfl ?_
                                              first | refine ri_isubN h d_Md_place_196 (by first | omega | exact Nat.le_add_left _ _) ?_ | refine ri_isub h d_Md_place_196 ?_
                                              refine ri_ireturn h d_Md_place_197 (Nat.le_of_ble_eq_true rfl) (Nat.le_of_ble_eq_true rfl) ?_
                                              exact ⟨rfl, _, hS, u, rfl⟩
                                            · exact absurd rfl c_84)
                                     · first
                                       | (exfalso; first | exact absurd c_73 (by decide) | first | contradiction | omega)
                                       | (refine ri_iconstN h 0 d_Md_place_76 rfl ?_
                                          refine ri_ireturn h d_Md_place_77 (Nat.le_of_ble_eq_true rfl) (Nat.le_of_ble_eq_true rfl) ?_
                                          exact ⟨rfl, rfl⟩))
                                · first
                                  | (exfalso; first | exact absurd c_58 (by decide) | first | contradiction | omega)
                                  | (refine ri_iconstN h 3 d_Md_place_61 rfl ?_
                                     refine ri_goto h 66 d_Md_place_62 (by decide) ?_
                                     refine ri_pm_code h d_Md_place_66 fl_Md_108 hS (fun M hS => ?_)
                                     refine ri_aload_n h d_Md_place_69 rfl ?_
                                     refine ri_get h d_Md_place_70 fl_Md_108 (by first | assumption | exact hS.mo | exact gup_s) (by rfl) ?_
                                     try dsimp only [MS.code, MS.set_code]
                                     first | refine ri_ifN_le h 78 d_Md_place_73 (by decide) (by omega) (fun c_73 => ?_) (fun c_73 => ?_) | refine ri_if_le h 78 d_Md_place_73 (by decide) (fun c_73 => ?_) (fun c_73 => ?_)
                                     · first
                                       | (exfalso; first | exact absurd c_73 (by decide) | first | contradiction | omega)
                                       | (refine ri_aload_n h d_Md_place_78 rfl ?_
                                          refine ri_iload_n h d_Md_place_79 rfl ?_
                                          refine ri_iload_n h d_Md_place_80 rfl ?_
                                          refine ri_callV (r := (gR6, gT6, 44)) h [.int (nI o), .int (nI c)] [] d_Md_place_81 cv_Md_151 hS.mo rfl rfl rfl (by decide) (by decide) (by decide) (by decide) (by decide) (k_mhas h0 hS hm hW hL ho hc) (fun E M' hp => by obtain ⟨b, u, e, -⟩ := hp; cases e) (fun v M hp => ?_)
                                          obtain ⟨b, u, e, hS, hb⟩ := hp
                                          cases e
                                          rcases hb with ⟨rfl, hb⟩ | ⟨rfl, -⟩
                                          · exact absurd hb hr
                                          · clear hm
                                            refine ri_if_eq h 89 d_Md_place_84 (by decide) (fun c_84 => ?_) (fun c_84 => ?_)
                                            · refine ri_aload_n h d_Md_place_89 rfl ?_
                                              refine ri_get h d_Md_place_90 fl_Md_36 (by first | assumption | exact hS.mo | exact gup_s) (by rfl) ?_
                                              refine ri_aload_n h d_Md_place_93 rfl ?_
                                              refine ri_get h d_Md_place_94 fl_Md_148 (by first | assumption | exact hS.mo | exact gup_s) (by first | exact congrArg (fun x => some (Value.int (nI x))) hm.np | rfl) ?_
                                              refine ri_iload_n h d_Md_place_97 rfl ?_
                                              refine ri_iast h _ d_Md_place_98 (by first | assumption | exact hS.a12) (by first | rfl | assumption) (by first | assumption | omega) (by first | decide | omega) ?_
                                              refine ri_gH (hS.set_mi 12 rfl _) (fun M hS => ?_)
                                              refine ri_aload_n h d_Md_place_99 rfl ?_
                                              refine ri_get h d_Md_place_100 fl_Md_39 (by first | assumption | exact hS.mo | exact gup_s) (by rfl) ?_
                                              refine ri_aload_n h d_Md_place_103 rfl ?_
                                              refine ri_get h d_Md_place_104 fl_Md_148 (by first | assumption | exact hS.mo | exact gup_s) (by first | exact congrArg (fun x => some (Value.int (nI x))) hm.np | rfl) ?_
                                              refine ri_iload_n h d_Md_place_107 rfl ?_
                                              refine ri_iast h _ d_Md_place_108 (by first | assumption | exact hS.a13) (by first | rfl | assumption) (by first | assumption | omega) (by first | decide | omega) ?_
                                              refine ri_gH (hS.set_mi 13 rfl _) (fun M hS => ?_)
                                              refine ri_aload_n h d_Md_place_109 rfl ?_
                                              refine ri_get h d_Md_place_110 fl_Md_42 (by first | assumption | exact hS.mo | exact gup_s) (by rfl) ?_
                                              refine ri_aload_n h d_Md_place_113 rfl ?_
                                              refine ri_get h d_Md_place_114 fl_Md_148 (by first | assumption | exact hS.mo | exact gup_s) (by first | exact congrArg (fun x => some (Value.int (nI x))) hm.np | rfl) ?_
                                              refine ri_lload_n h d_Md_place_117 rfl ?_
                                              refine ri_last h _ d_Md_place_118 (by first | assumption | exact hS.a14) (by first | rfl | assumption) (by first | assumption | omega) (by first | decide | omega) ?_
                                              refine ri_gH (hS.set_ml 14 rfl _) (fun M hS => ?_)
                                              refine ri_aload_n h d_Md_place_119 rfl ?_
                                              refine ri_get h d_Md_place_120 fl_Md_45 (by first | assumption | exact hS.mo | exact gup_s) (by rfl) ?_
                                              refine ri_aload_n h d_Md_place_123 rfl ?_
                                              refine ri_get h d_Md_place_124 fl_Md_148 (by first | assumption | exact hS.mo | exact gup_s) (by first | exact congrArg (fun x => some (Value.int (nI x))) hm.np | rfl) ?_
                                              refine ri_lload h d_Md_place_127 rfl ?_
                                              refine ri_last h _ d_Md_place_129 (by first | assumption | exact hS.a15) (by first | rfl | assumption) (by first | assumption | omega) (by first | decide | omega) ?_
                                              refine ri_gH (hS.set_ml 15 rfl _) (fun M hS => ?_)
                                              refine ri_aload_n h d_Md_place_130 rfl ?_
                                              refine ri_get h d_Md_place_131 fl_Md_48 (by first | assumption | exact hS.mo | exact gup_s) (by rfl) ?_
                                              refine ri_aload_n h d_Md_place_134 rfl ?_
                                              refine ri_get h d_Md_place_135 fl_Md_148 (by first | assumption | exact hS.mo | exact gup_s) (by first | exact congrArg (fun x => some (Value.int (nI x))) hm.np | rfl) ?_
                                              refine ri_iload h d_Md_place_138 rfl ?_
                                              refine ri_iast h _ d_Md_place_140 (by first | assumption | exact hS.a16) (by first | rfl | assumption) (by first | assumption | omega) (by first | decide | omega) ?_
                                              refine ri_gH (hS.set_mi 16 rfl _) (fun M hS => ?_)
                                              refine ri_aload_n h d_Md_place_141 rfl ?_
                                              refine ri_get h d_Md_place_142 fl_Md_51 (by first | assumption | exact hS.mo | exact gup_s) (by rfl) ?_
                                              refine ri_aload_n h d_Md_place_145 rfl ?_
                                              refine ri_get h d_Md_place_146 fl_Md_148 (by first | assumption | exact hS.mo | exact gup_s) (by first | exact congrArg (fun x => some (Value.int (nI x))) hm.np | rfl) ?_
                                              refine ri_iconstN h 1 d_Md_place_149 rfl ?_
                                              refine ri_iast h _ d_Md_place_150 (by first | assumption | exact hS.a17) (by first | rfl | assumption) (by first | assumption | omega) (by first | decide | omega) ?_
                                              refine ri_gH (hS.set_mi 17 rfl _) (fun M hS => ?_)
                                              refine ri_aload_n h d_Md_place_151 rfl ?_
                                              refine ri_get h d_Md_place_152 fl_Md_54 (by first | assumption | exact hS.mo | exact gup_s) (by rfl) ?_
                                              refine ri_aload_n h d_Md_place_155 rfl ?_
                                              refine ri_get h d_Md_place_156 fl_Md_148 (by first | assumption | exact hS.mo | exact gup_s) (by first | exact congrArg (fun x => some (Value.int (nI x))) hm.np | rfl) ?_
                                              refine ri_iconstN h 1 d_Md_place_159 rfl ?_
                                              refine ri_iast h _ d_Md_place_160 (by first | assumption | exact hS.a18) (by first | rfl | assumption) (by first | assumption | omega) (by first | decide | omega) ?_
                                              refine ri_gH (hS.set_mi 18 rfl _) (fun M hS => ?_)
                                              refine ri_aload_n h d_Md_place_161 rfl ?_
                                              refine ri_get h d_Md_place_162 fl_Md_57 (by first | assumption | exact hS.mo | exact gup_s) (by rfl) ?_
                                              refine ri_aload_n h d_Md_place_165 rfl ?_
                                              refine ri_get h d_Md_place_166 fl_Md_148 (by first | assumption | exact hS.mo | exact gup_s) (by first | exact congrArg (fun x => some (Value.int (nI x))) hm.np | rfl) ?_
                                              refine ri_lconst h 0 d_Md_place_169 rfl ?_
                                              refine ri_last h _ d_Md_place_170 (by first | assumption | exact hS.a19) (by first | rfl | assumption) (by first | assumption | omega) (by first | decide | omega) ?_
                                              refine ri_gH (hS.set_ml 19 rfl _) (fun M hS => ?_)
                                              refine ri_aload_n h d_Md_place_171 rfl ?_
                                              refine ri_get h d_Md_place_172 fl_Md_60 (by first | assumption | exact hS.mo | exact gup_s) (by rfl) ?_
                                              refine ri_aload_n h d_Md_place_175 rfl ?_
                                              refine ri_get h d_Md_place_176 fl_Md_148 (by first | assumption | exact hS.mo | exact gup_s) (by first | exact congrArg (fun x => some (Value.int (nI x))) hm.np | rfl) ?_
                                              refine ri_lconst h 0 d_Md_place_179 rfl ?_
                                              refine ri_last h _ d_Md_place_180 (by first | assumption | exact hS.a20) (by first | rfl | assumption) (by first | assumption | omega) (by first | decide | omega) ?_
                                              refine ri_gH (hS.set_ml 20 rfl _) (fun M hS => ?_)
                                              refine ri_aload_n h d_Md_place_181 rfl ?_
                                              refine ri_dup h d_Md_place_182 rfl ?_
                                              refine ri_get h d_Md_place_183 fl_Md_148 (by first | assumption | exact hS.mo | exact gup_s) (by first | exact congrArg (fun x => some (Value.int (nI x))) hm.np | rfl) ?_
                                              refine ri_iconstN h 1 d_Md_place_186 rfl ?_
                                              first | refine ri_iaddN h d_Md_place_187 ?_ | refine ri_iadd h d_Md_place_187 ?_
                                              refine ri_pm_places h d_Md_place_188 fl_Md_148 hS (fun M hS => ?_)
                                              refine ri_aload_n h d_Md_place_191 rfl ?_
                                              refine ri_get h d_Md_place_192 fl_Md_148 (by first | assumption | exact hS.mo | exact gup_s) (by first | exact congrArg (fun x => some (Value.int (nI x))) hm.np | rfl) ?_
                                              refine ri_iconstN h 1 d_Md_place_195 rfl ?_
                                              first | refine ri_isubN h d_Md_place_196 (by first | omega | exact Nat.le_add_left _ _) ?_ | refine ri_isub h d_Md_place_196 ?_
                                              refine ri_ireturn h d_Md_place_197 (Nat.le_of_ble_eq_true rfl) (Nat.le_of_ble_eq_true rfl) ?_
                                              exact ⟨rfl, _, hS, u, rfl⟩
                                            · exact absurd rfl c_84)
                                     · first
                                       | (exfalso; first | exact absurd c_73 (by decide) | first | contradiction | omega)
                                       | (refine ri_iconstN h 0 d_Md_place_76 rfl ?_
                                          refine ri_ireturn h d_Md_place_77 (Nat.le_of_ble_eq_true rfl) (Nat.le_of_ble_eq_true rfl) ?_
                                          exact ⟨rfl, rfl⟩))))))
            · first
              | (exfalso; first | exact absurd c_27 (by decide) | first | contradiction | omega)
              | (refine ri_iconstN h 2 d_Md_place_30 rfl ?_
                 refine ri_goto h 66 d_Md_place_31 (by decide) ?_
                 refine ri_pm_code h d_Md_place_66 fl_Md_108 hS (fun M hS => ?_)
                 refine ri_aload_n h d_Md_place_69 rfl ?_
                 refine ri_get h d_Md_place_70 fl_Md_108 (by first | assumption | exact hS.mo | exact gup_s) (by rfl) ?_
                 try dsimp only [MS.code, MS.set_code]
                 first | refine ri_ifN_le h 78 d_Md_place_73 (by decide) (by omega) (fun c_73 => ?_) (fun c_73 => ?_) | refine ri_if_le h 78 d_Md_place_73 (by decide) (fun c_73 => ?_) (fun c_73 => ?_)
                 · first
                   | (exfalso; first | exact absurd c_73 (by decide) | first | contradiction | omega)
                   | (refine ri_aload_n h d_Md_place_78 rfl ?_
                      refine ri_iload_n h d_Md_place_79 rfl ?_
                      refine ri_iload_n h d_Md_place_80 rfl ?_
                      refine ri_callV (r := (gR6, gT6, 44)) h [.int (nI o), .int (nI c)] [] d_Md_place_81 cv_Md_151 hS.mo rfl rfl rfl (by decide) (by decide) (by decide) (by decide) (by decide) (k_mhas h0 hS hm hW hL ho hc) (fun E M' hp => by obtain ⟨b, u, e, -⟩ := hp; cases e) (fun v M hp => ?_)
                      obtain ⟨b, u, e, hS, hb⟩ := hp
                      cases e
                      rcases hb with ⟨rfl, hb⟩ | ⟨rfl, -⟩
                      · exact absurd hb hr
                      · clear hm
                        refine ri_if_eq h 89 d_Md_place_84 (by decide) (fun c_84 => ?_) (fun c_84 => ?_)
                        · refine ri_aload_n h d_Md_place_89 rfl ?_
                          refine ri_get h d_Md_place_90 fl_Md_36 (by first | assumption | exact hS.mo | exact gup_s) (by rfl) ?_
                          refine ri_aload_n h d_Md_place_93 rfl ?_
                          refine ri_get h d_Md_place_94 fl_Md_148 (by first | assumption | exact hS.mo | exact gup_s) (by first | exact congrArg (fun x => some (Value.int (nI x))) hm.np | rfl) ?_
                          refine ri_iload_n h d_Md_place_97 rfl ?_
                          refine ri_iast h _ d_Md_place_98 (by first | assumption | exact hS.a12) (by first | rfl | assumption) (by first | assumption | omega) (by first | decide | omega) ?_
                          refine ri_gH (hS.set_mi 12 rfl _) (fun M hS => ?_)
                          refine ri_aload_n h d_Md_place_99 rfl ?_
                          refine ri_get h d_Md_place_100 fl_Md_39 (by first | assumption | exact hS.mo | exact gup_s) (by rfl) ?_
                          refine ri_aload_n h d_Md_place_103 rfl ?_
                          refine ri_get h d_Md_place_104 fl_Md_148 (by first | assumption | exact hS.mo | exact gup_s) (by first | exact congrArg (fun x => some (Value.int (nI x))) hm.np | rfl) ?_
                          refine ri_iload_n h d_Md_place_107 rfl ?_
                          refine ri_iast h _ d_Md_place_108 (by first | assumption | exact hS.a13) (by first | rfl | assumption) (by first | assumption | omega) (by first | decide | omega) ?_
                          refine ri_gH (hS.set_mi 13 rfl _) (fun M hS => ?_)
                          refine ri_aload_n h d_Md_place_109 rfl ?_
                          refine ri_get h d_Md_place_110 fl_Md_42 (by first | assumption | exact hS.mo | exact gup_s) (by rfl) ?_
                          refine ri_aload_n h d_Md_place_113 rfl ?_
                          refine ri_get h d_Md_place_114 fl_Md_148 (by first | assumption | exact hS.mo | exact gup_s) (by first | exact congrArg (fun x => some (Value.int (nI x))) hm.np | rfl) ?_
                          refine ri_lload_n h d_Md_place_117 rfl ?_
                          refine ri_last h _ d_Md_place_118 (by first | assumption | exact hS.a14) (by first | rfl | assumption) (by first | assumption | omega) (by first | decide | omega) ?_
                          refine ri_gH (hS.set_ml 14 rfl _) (fun M hS => ?_)
                          refine ri_aload_n h d_Md_place_119 rfl ?_
                          refine ri_get h d_Md_place_120 fl_Md_45 (by first | assumption | exact hS.mo | exact gup_s) (by rfl) ?_
                          refine ri_aload_n h d_Md_place_123 rfl ?_
                          refine ri_get h d_Md_place_124 fl_Md_148 (by first | assumption | exact hS.mo | exact gup_s) (by first | exact congrArg (fun x => some (Value.int (nI x))) hm.np | rfl) ?_
                          refine ri_lload h d_Md_place_127 rfl ?_
                          refine ri_last h _ d_Md_place_129 (by first | assumption | exact hS.a15) (by first | rfl | assumption) (by first | assumption | omega) (by first | decide | omega) ?_
                          refine ri_gH (hS.set_ml 15 rfl _) (fun M hS => ?_)
                          refine ri_aload_n h d_Md_place_130 rfl ?_
                          refine ri_get h d_Md_place_131 fl_Md_48 (by first | assumption | exact hS.mo | exact gup_s) (by rfl) ?_
                          refine ri_aload_n h d_Md_place_134 rfl ?_
                          refine ri_get h d_Md_place_135 fl_Md_148 (by first | assumption | exact hS.mo | exact gup_s) (by first | exact congrArg (fun x => some (Value.int (nI x))) hm.np | rfl) ?_
                          refine ri_iload h d_Md_place_138 rfl ?_
                          refine ri_iast h _ d_Md_place_140 (by first | assumption | exact hS.a16) (by first | rfl | assumption) (by first | assumption | omega) (by first | decide | omega) ?_
                          refine ri_gH (hS.set_mi 16 rfl _) (fun M hS => ?_)
                          refine ri_aload_n h d_Md_place_141 rfl ?_
                          refine ri_get h d_Md_place_142 fl_Md_51 (by first | assumption | exact hS.mo | exact gup_s) (by rfl) ?_
                          refine ri_aload_n h d_Md_place_145 rfl ?_
                          refine ri_get h d_Md_place_146 fl_Md_148 (by first | assumption | exact hS.mo | exact gup_s) (by first | exact congrArg (fun x => some (Value.int (nI x))) hm.np | rfl) ?_
                          refine ri_iconstN h 1 d_Md_place_149 rfl ?_
                          refine ri_iast h _ d_Md_place_150 (by first | assumption | exact hS.a17) (by first | rfl | assumption) (by first | assumption | omega) (by first | decide | omega) ?_
                          refine ri_gH (hS.set_mi 17 rfl _) (fun M hS => ?_)
                          refine ri_aload_n h d_Md_place_151 rfl ?_
                          refine ri_get h d_Md_place_152 fl_Md_54 (by first | assumption | exact hS.mo | exact gup_s) (by rfl) ?_
                          refine ri_aload_n h d_Md_place_155 rfl ?_
                          refine ri_get h d_Md_place_156 fl_Md_148 (by first | assumption | exact hS.mo | exact gup_s) (by first | exact congrArg (fun x => some (Value.int (nI x))) hm.np | rfl) ?_
                          refine ri_iconstN h 1 d_Md_place_159 rfl ?_
                          refine ri_iast h _ d_Md_place_160 (by first | assumption | exact hS.a18) (by first | rfl | assumption) (by first | assumption | omega) (by first | decide | omega) ?_
                          refine ri_gH (hS.set_mi 18 rfl _) (fun M hS => ?_)
                          refine ri_aload_n h d_Md_place_161 rfl ?_
                          refine ri_get h d_Md_place_162 fl_Md_57 (by first | assumption | exact hS.mo | exact gup_s) (by rfl) ?_
                          refine ri_aload_n h d_Md_place_165 rfl ?_
                          refine ri_get h d_Md_place_166 fl_Md_148 (by first | assumption | exact hS.mo | exact gup_s) (by first | exact congrArg (fun x => some (Value.int (nI x))) hm.np | rfl) ?_
                          refine ri_lconst h 0 d_Md_place_169 rfl ?_
                          refine ri_last h _ d_Md_place_170 (by first | assumption | exact hS.a19) (by first | rfl | assumption) (by first | assumption | omega) (by first | decide | omega) ?_
                          refine ri_gH (hS.set_ml 19 rfl _) (fun M hS => ?_)
                          refine ri_aload_n h d_Md_place_171 rfl ?_
                          refine ri_get h d_Md_place_172 fl_Md_60 (by first | assumption | exact hS.mo | exact gup_s) (by rfl) ?_
                          refine ri_aload_n h d_Md_place_175 rfl ?_
                          refine ri_get h d_Md_place_176 fl_Md_148 (by first | assumption | exact hS.mo | exact gup_s) (by first | exact congrArg (fun x => some (Value.int (nI x))) hm.np | rfl) ?_
                          refine ri_lconst h 0 d_Md_place_179 rfl ?_
                          refine ri_last h _ d_Md_place_180 (by first | assumption | exact hS.a20) (by first | rfl | assumption) (by first | assumption | omega) (by first | decide | omega) ?_
                          refine ri_gH (hS.set_ml 20 rfl _) (fun M hS => ?_)
                          refine ri_aload_n h d_Md_place_181 rfl ?_
                          refine ri_dup h d_Md_place_182 rfl ?_
                          refine ri_get h d_Md_place_183 fl_Md_148 (by first | assumption | exact hS.mo | exact gup_s) (by first | exact congrArg (fun x => some (Value.int (nI x))) hm.np | rfl) ?_
                          refine ri_iconstN h 1 d_Md_place_186 rfl ?_
                          first | refine ri_iaddN h d_Md_place_187 ?_ | refine ri_iadd h d_Md_place_187 ?_
                          refine ri_pm_places h d_Md_place_188 fl_Md_148 hS (fun M hS => ?_)
                          refine ri_aload_n h d_Md_place_191 rfl ?_
                          refine ri_get h d_Md_place_192 fl_Md_148 (by first | assumption | exact hS.mo | exact gup_s) (by first | exact congrArg (fun x => some (Value.int (nI x))) hm.np | rfl) ?_
                          refine ri_iconstN h 1 d_Md_place_195 rfl ?_
                          first | refine ri_isubN h d_Md_place_196 (by first | omega | exact Nat.le_add_left _ _) ?_ | refine ri_isub h d_Md_place_196 ?_
                          refine ri_ireturn h d_Md_place_197 (Nat.le_of_ble_eq_true rfl) (Nat.le_of_ble_eq_true rfl) ?_
                          exact ⟨rfl, _, hS, u, rfl⟩
                        · exact absurd rfl c_84)
                 · first
                   | (exfalso; first | exact absurd c_73 (by decide) | first | contradiction | omega)
                   | (refine ri_iconstN h 0 d_Md_place_76 rfl ?_
                      refine ri_ireturn h d_Md_place_77 (Nat.le_of_ble_eq_true rfl) (Nat.le_of_ble_eq_true rfl) ?_
                      exact ⟨rfl, rfl⟩)))
       · first
         | (exfalso; first | exact absurd c_14 (by decide) | first | contradiction | omega)
         | (refine ri_iconstN h 1 d_Md_place_17 rfl ?_
            refine ri_goto h 66 d_Md_place_18 (by decide) ?_
            refine ri_pm_code h d_Md_place_66 fl_Md_108 hS (fun M hS => ?_)
            refine ri_aload_n h d_Md_place_69 rfl ?_
            refine ri_get h d_Md_place_70 fl_Md_108 (by first | assumption | exact hS.mo | exact gup_s) (by rfl) ?_
            try dsimp only [MS.code, MS.set_code]
            first | refine ri_ifN_le h 78 d_Md_place_73 (by decide) (by omega) (fun c_73 => ?_) (fun c_73 => ?_) | refine ri_if_le h 78 d_Md_place_73 (by decide) (fun c_73 => ?_) (fun c_73 => ?_)
            · first
              | (exfalso; first | exact absurd c_73 (by decide) | first | contradiction | omega)
              | (refine ri_aload_n h d_Md_place_78 rfl ?_
                 refine ri_iload_n h d_Md_place_79 rfl ?_
                 refine ri_iload_n h d_Md_place_80 rfl ?_
                 refine ri_callV (r := (gR6, gT6, 44)) h [.int (nI o), .int (nI c)] [] d_Md_place_81 cv_Md_151 hS.mo rfl rfl rfl (by decide) (by decide) (by decide) (by decide) (by decide) (k_mhas h0 hS hm hW hL ho hc) (fun E M' hp => by obtain ⟨b, u, e, -⟩ := hp; cases e) (fun v M hp => ?_)
                 obtain ⟨b, u, e, hS, hb⟩ := hp
                 cases e
                 rcases hb with ⟨rfl, hb⟩ | ⟨rfl, -⟩
                 · exact absurd hb hr
                 · clear hm
                   refine ri_if_eq h 89 d_Md_place_84 (by decide) (fun c_84 => ?_) (fun c_84 => ?_)
                   · refine ri_aload_n h d_Md_place_89 rfl ?_
                     refine ri_get h d_Md_place_90 fl_Md_36 (by first | assumption | exact hS.mo | exact gup_s) (by rfl) ?_
                     refine ri_aload_n h d_Md_place_93 rfl ?_
                     refine ri_get h d_Md_place_94 fl_Md_148 (by first | assumption | exact hS.mo | exact gup_s) (by first | exact congrArg (fun x => some (Value.int (nI x))) hm.np | rfl) ?_
                     refine ri_iload_n h d_Md_place_97 rfl ?_
                     refine ri_iast h _ d_Md_place_98 (by first | assumption | exact hS.a12) (by first | rfl | assumption) (by first | assumption | omega) (by first | decide | omega) ?_
                     refine ri_gH (hS.set_mi 12 rfl _) (fun M hS => ?_)
                     refine ri_aload_n h d_Md_place_99 rfl ?_
                     refine ri_get h d_Md_place_100 fl_Md_39 (by first | assumption | exact hS.mo | exact gup_s) (by rfl) ?_
                     refine ri_aload_n h d_Md_place_103 rfl ?_
                     refine ri_get h d_Md_place_104 fl_Md_148 (by first | assumption | exact hS.mo | exact gup_s) (by first | exact congrArg (fun x => some (Value.int (nI x))) hm.np | rfl) ?_
                     refine ri_iload_n h d_Md_place_107 rfl ?_
                     refine ri_iast h _ d_Md_place_108 (by first | assumption | exact hS.a13) (by first | rfl | assumption) (by first | assumption | omega) (by first | decide | omega) ?_
                     refine ri_gH (hS.set_mi 13 rfl _) (fun M hS => ?_)
                     refine ri_aload_n h d_Md_place_109 rfl ?_
                     refine ri_get h d_Md_place_110 fl_Md_42 (by first | assumption | exact hS.mo | exact gup_s) (by rfl) ?_
                     refine ri_aload_n h d_Md_place_113 rfl ?_
                     refine ri_get h d_Md_place_114 fl_Md_148 (by first | assumption | exact hS.mo | exact gup_s) (by first | exact congrArg (fun x => some (Value.int (nI x))) hm.np | rfl) ?_
                     refine ri_lload_n h d_Md_place_117 rfl ?_
                     refine ri_last h _ d_Md_place_118 (by first | assumption | exact hS.a14) (by first | rfl | assumption) (by first | assumption | omega) (by first | decide | omega) ?_
                     refine ri_gH (hS.set_ml 14 rfl _) (fun M hS => ?_)
                     refine ri_aload_n h d_Md_place_119 rfl ?_
                     refine ri_get h d_Md_place_120 fl_Md_45 (by first | assumption | exact hS.mo | exact gup_s) (by rfl) ?_
                     refine ri_aload_n h d_Md_place_123 rfl ?_
                     refine ri_get h d_Md_place_124 fl_Md_148 (by first | assumption | exact hS.mo | exact gup_s) (by first | exact congrArg (fun x => some (Value.int (nI x))) hm.np | rfl) ?_
                     refine ri_lload h d_Md_place_127 rfl ?_
                     refine ri_last h _ d_Md_place_129 (by first | assumption | exact hS.a15) (by first | rfl | assumption) (by first | assumption | omega) (by first | decide | omega) ?_
                     refine ri_gH (hS.set_ml 15 rfl _) (fun M hS => ?_)
                     refine ri_aload_n h d_Md_place_130 rfl ?_
                     refine ri_get h d_Md_place_131 fl_Md_48 (by first | assumption | exact hS.mo | exact gup_s) (by rfl) ?_
                     refine ri_aload_n h d_Md_place_134 rfl ?_
                     refine ri_get h d_Md_place_135 fl_Md_148 (by first | assumption | exact hS.mo | exact gup_s) (by first | exact congrArg (fun x => some (Value.int (nI x))) hm.np | rfl) ?_
                     refine ri_iload h d_Md_place_138 rfl ?_
                     refine ri_iast h _ d_Md_place_140 (by first | assumption | exact hS.a16) (by first | rfl | assumption) (by first | assumption | omega) (by first | decide | omega) ?_
                     refine ri_gH (hS.set_mi 16 rfl _) (fun M hS => ?_)
                     refine ri_aload_n h d_Md_place_141 rfl ?_
                     refine ri_get h d_Md_place_142 fl_Md_51 (by first | assumption | exact hS.mo | exact gup_s) (by rfl) ?_
                     refine ri_aload_n h d_Md_place_145 rfl ?_
                     refine ri_get h d_Md_place_146 fl_Md_148 (by first | assumption | exact hS.mo | exact gup_s) (by first | exact congrArg (fun x => some (Value.int (nI x))) hm.np | rfl) ?_
                     refine ri_iconstN h 1 d_Md_place_149 rfl ?_
                     refine ri_iast h _ d_Md_place_150 (by first | assumption | exact hS.a17) (by first | rfl | assumption) (by first | assumption | omega) (by first | decide | omega) ?_
                     refine ri_gH (hS.set_mi 17 rfl _) (fun M hS => ?_)
                     refine ri_aload_n h d_Md_place_151 rfl ?_
                     refine ri_get h d_Md_place_152 fl_Md_54 (by first | assumption | exact hS.mo | exact gup_s) (by rfl) ?_
                     refine ri_aload_n h d_Md_place_155 rfl ?_
                     refine ri_get h d_Md_place_156 fl_Md_148 (by first | assumption | exact hS.mo | exact gup_s) (by first | exact congrArg (fun x => some (Value.int (nI x))) hm.np | rfl) ?_
                     refine ri_iconstN h 1 d_Md_place_159 rfl ?_
                     refine ri_iast h _ d_Md_place_160 (by first | assumption | exact hS.a18) (by first | rfl | assumption) (by first | assumption | omega) (by first | decide | omega) ?_
                     refine ri_gH (hS.set_mi 18 rfl _) (fun M hS => ?_)
                     refine ri_aload_n h d_Md_place_161 rfl ?_
                     refine ri_get h d_Md_place_162 fl_Md_57 (by first | assumption | exact hS.mo | exact gup_s) (by rfl) ?_
                     refine ri_aload_n h d_Md_place_165 rfl ?_
                     refine ri_get h d_Md_place_166 fl_Md_148 (by first | assumption | exact hS.mo | exact gup_s) (by first | exact congrArg (fun x => some (Value.int (nI x))) hm.np | rfl) ?_
                     refine ri_lconst h 0 d_Md_place_169 rfl ?_
                     refine ri_last h _ d_Md_place_170 (by first | assumption | exact hS.a19) (by first | rfl | assumption) (by first | assumption | omega) (by first | decide | omega) ?_
                     refine ri_gH (hS.set_ml 19 rfl _) (fun M hS => ?_)
                     refine ri_aload_n h d_Md_place_171 rfl ?_
                     refine ri_get h d_Md_place_172 fl_Md_60 (by first | assumption | exact hS.mo | exact gup_s) (by rfl) ?_
                     refine ri_aload_n h d_Md_place_175 rfl ?_
                     refine ri_get h d_Md_place_176 fl_Md_148 (by first | assumption | exact hS.mo | exact gup_s) (by first | exact congrArg (fun x => some (Value.int (nI x))) hm.np | rfl) ?_
                     refine ri_lconst h 0 d_Md_place_179 rfl ?_
                     refine ri_last h _ d_Md_place_180 (by first | assumption | exact hS.a20) (by first | rfl | assumption) (by first | assumption | omega) (by first | decide | omega) ?_
                     refine ri_gH (hS.set_ml 20 rfl _) (fun M hS => ?_)
                     refine ri_aload_n h d_Md_place_181 rfl ?_
                     refine ri_dup h d_Md_place_182 rfl ?_
                     refine ri_get h d_Md_place_183 fl_Md_148 (by first | assumption | exact hS.mo | exact gup_s) (by first | exact congrArg (fun x => some (Value.int (nI x))) hm.np | rfl) ?_
                     refine ri_iconstN h 1 d_Md_place_186 rfl ?_
                     first | refine ri_iaddN h d_Md_place_187 ?_ | refine ri_iadd h d_Md_place_187 ?_
                     refine ri_pm_places h d_Md_place_188 fl_Md_148 hS (fun M hS => ?_)
                     refine ri_aload_n h d_Md_place_191 rfl ?_
                     refine ri_get h d_Md_place_192 fl_Md_148 (by first | assumption | exact hS.mo | exact gup_s) (by first | exact congrArg (fun x => some (Value.int (nI x))) hm.np | rfl) ?_
                     refine ri_iconstN h 1 d_Md_place_195 rfl ?_
                     first | refine ri_isubN h d_Md_place_196 (by first | omega | exact Nat.le_add_left _ _) ?_ | refine ri_isub h d_Md_place_196 ?_
                     refine ri_ireturn h d_Md_place_197 (Nat.le_of_ble_eq_true rfl) (Nat.le_of_ble_eq_true rfl) ?_
                     exact ⟨rfl, _, hS, u, rfl⟩
                   · exact absurd rfl c_84)
            · first
              | (exfalso; first | exact absurd c_73 (by decide) | first | contradiction | omega)
              | (refine ri_iconstN h 0 d_Md_place_76 rfl ?_
                 refine ri_ireturn h d_Md_place_77 (Nat.le_of_ble_eq_true rfl) (Nat.le_of_ble_eq_true rfl) ?_
                 exact ⟨rfl, rfl⟩)))
end MPL
