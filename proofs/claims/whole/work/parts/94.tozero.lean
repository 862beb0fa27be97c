/-! toZero: the model -/
/-- all but one set's rows is left -/
def NT (set : Nat) (N N' : MS) : Prop := NE N N' ∧ N'.l 28 = N.l 28 ∧ (∀ j, j < 3000 * set ∨ 3000 * set + 3000 ≤ j → N'.i 24 j = N.i 24 j ∧ N'.i 25 j = N.i 25 j) ∧ ∀ j, j < 72000 * set ∨ 72000 * set + 72000 ≤ j → N'.l 22 j = N.l 22 j ∧ N'.l 23 j = N.l 23 j
section NTs
variable {set : Nat} {N N1 N2 : MS}
theorem NT.refl : NT set N N := ⟨NE.rfl, rfl, fun _ _ => ⟨rfl, rfl⟩, fun _ _ => ⟨rfl, rfl⟩⟩
theorem NT.trans (h : NT set N N1) (h2 : NT set N1 N2) : NT set N N2 := ⟨h.1.trans h2.1, h2.2.1.trans h.2.1, fun j hj => ⟨(h2.2.2.1 j hj).1.trans (h.2.2.1 j hj).1, (h2.2.2.1 j hj).2.trans (h.2.2.1 j hj).2⟩, fun j hj => ⟨(h2.2.2.2 j hj).1.trans (h.2.2.2 j hj).1, (h2.2.2.2 j hj).2.trans (h.2.2.2 j hj).2⟩⟩
theorem NZ.nt (h : NZ set N N1) : NT set N N1 := ⟨h.1, (h.2.2.1 28 (by omega)).2, h.2.2.2.1, h.2.2.2.2⟩
theorem NT.st {b : BxR} {e : Int32} : NT set N (mst N b e) := ⟨NE.rfl, rfl, fun _ _ => ⟨rfl, rfl⟩, fun _ _ => ⟨rfl, rfl⟩⟩
theorem NO.nt (h : NO set N N1) : NT set N N1 := ⟨h.1, (h.2.2.1 28 (by omega)).2, h.2.2.2.1, h.2.2.2.2⟩
theorem NT.us {g : Nat → Int32} : NT set N (N.set_i (va_up N.i 43 g)) := ⟨NE.i 43 (by decide) g, rfl, fun j hj => ⟨congrFun (va_up_n (g := N.i) (v := g) (show (24 : Nat) ≠ 43 by decide)) j, congrFun (va_up_n (g := N.i) (v := g) (show (25 : Nat) ≠ 43 by decide)) j⟩, fun _ _ => ⟨rfl, rfl⟩⟩
end NTs
def fMx (Q : CS) (N : MS) (set : Nat) (ts : List It) (u v : Int64) (k i : Nat) : Prop := ∀ (a : Nat) (h : a < ts.length), N.i 24 (3000 * set + a) = nI ts[a].1 ∧ N.i 25 (3000 * set + a) = nI (Q.sh ts[a].1).cnt ∧ ∀ j, j < (Q.sh ts[a].1).cnt → N.l 22 (72000 * set + 24 * a + j) = (if a < k ∨ (a = k ∧ j < i) then ts[a].2.2.1 - u else ts[a].2.2.1) + tX ts[a].2.1 ((Q.sh ts[a].1).xs j) ((Q.sh ts[a].1).ys j) ∧ N.l 23 (72000 * set + 24 * a + j) = (if a < k ∨ (a = k ∧ j < i) then ts[a].2.2.2 - v else ts[a].2.2.2) + tY ts[a].2.1 ((Q.sh ts[a].1).xs j) ((Q.sh ts[a].1).ys j)
theorem t_mv (a t u : Int64) : a + t - u = a - u + t := by
  rw [Int64.sub_eq_add_neg, Int64.sub_eq_add_neg, Int64.add_assoc, Int64.add_comm t, ← Int64.add_assoc]
section FMX
variable {Q : CS} {N N' : MS} {set : Nat} {ts : List It} {u v : Int64} {k i : Nat}
theorem fMx_0 (h : fLs Q N set ts) : fMx Q N set ts u v 0 0 := by
  intro a ha
  obtain ⟨h1, h2, h3⟩ := h a ha
  refine ⟨h1, h2, fun j hj => ?_⟩
  rw [if_neg (by omega), if_neg (by omega)]
  exact h3 j hj
theorem fMx_e (h : fMx Q N set ts u v ts.length 0) : fLs Q N set (ts.map (zit u v)) := by
  intro a ha
  have ha' : a < ts.length := by rw [List.length_map] at ha; exact ha
  obtain ⟨h1, h2, h3⟩ := h a ha'
  rw [List.getElem_map]
  refine ⟨h1, h2, fun j hj => ?_⟩
  have := h3 j hj
  rw [if_pos (Or.inl ha'), if_pos (Or.inl ha')] at this
  exact this
theorem fMx_r (hk : k < ts.length) (h : fMx Q N set ts u v k (Q.sh ts[k].1).cnt) : fMx Q N set ts u v (k + 1) 0 := by
  intro a ha
  obtain ⟨h1, h2, h3⟩ := h a ha
  refine ⟨h1, h2, fun j hj => ?_⟩
  have e : (a < k + 1 ∨ (a = k + 1 ∧ j < 0)) ↔ (a < k ∨ (a = k ∧ j < (Q.sh ts[k].1).cnt)) := by
    constructor
    · intro q
      rcases (show a < k ∨ a = k by omega) with q | q
      · exact Or.inl q
      · subst q; exact Or.inr ⟨rfl, hj⟩
    · rintro (q | ⟨q, -⟩) <;> omega
  rw [ifc e, ifc e]
  exact h3 j hj
theorem fMx_s (h : fMx Q N set ts u v k i) (hk : k < ts.length) (hi : i < (Q.sh ts[k].1).cnt) (h24 : ∀ w, w ∈ ts → (Q.sh w.1).cnt ≤ 24) (e1 : N'.i = N.i) (e2 : N'.l 22 = va_up (N.l 22) (72000 * set + 24 * k + i) (N.l 22 (72000 * set + 24 * k + i) - u)) (e3 : N'.l 23 = va_up (N.l 23) (72000 * set + 24 * k + i) (N.l 23 (72000 * set + 24 * k + i) - v)) : fMx Q N' set ts u v k (i + 1) := by
  intro a ha
  obtain ⟨h1, h2, h3⟩ := h a ha
  have ca := h24 _ (List.getElem_mem ha)
  have ck := h24 _ (List.getElem_mem hk)
  rw [e1]
  refine ⟨h1, h2, fun j hj => ?_⟩
  rw [e2, e3]
  by_cases e : a = k ∧ j = i
  · obtain ⟨rfl, rfl⟩ := e
    obtain ⟨g1, g2⟩ := h3 j hj
    rw [if_neg (by omega)] at g1 g2
    rw [va_up_s, va_up_s, g1, g2, if_pos (by omega), if_pos (by omega)]
    exact ⟨t_mv _ _ _, t_mv _ _ _⟩
  · rw [va_up_n (by omega), va_up_n (by omega)]
    have e' : (a < k ∨ (a = k ∧ j < i + 1)) ↔ (a < k ∨ (a = k ∧ j < i)) := by omega
    rw [ifc e', ifc e']
    exact h3 j hj
end FMX
section TOZ
variable {l : Launch} {D : gD} {s0 : State} {M : gH} {z : Nat} {ad : gA} {Q Qc : CS} {N : MS} {c : Nat} {b : Nat → BxR}
variable {p_ : Program} {e_ : Env} {R_ : Room} {s_ : State} {m_ : MethodId} {ar_ : Array Value} {be_ : List Frame} {me_ : Method} {c_ : Code} {Fp : gR → gH → Prop}
/-- the rows are moved -/
theorem toz_2 (h0 : g_0 l D s0) (h : gF (gzz D s0 (p_, l, e_, R_, s_, m_, ar_, be_, me_, c_) (rk 4 0 0) Fp 5) b_Md_toZero y_Md_toZero.cls none [] y_Md_toZero.name) {set : Nat} (hset : set < 3) {ts : List It} {u v : Int64} (hlen : ts.length ≤ 3000) (h24 : ∀ w, w ∈ ts → (Q.sh w.1).cnt ≤ 24) (kr : ∀ M N', HS z ad Qc N' M → NT set N N' → fLs Q N' set (ts.map (zit u v)) → Fp (.inl none) M) : ∀ (q k : Nat), k + q = ts.length → ∀ (M : gH) (N1 : MS), HS z ad Qc N1 M → NT set N N1 → N1.x0 = u → N1.y0 = v → fMx Q N1 set ts u v k 0 → G (gzz D s0 (p_, l, e_, R_, s_, m_, ar_, be_, me_, c_) (rk 4 0 0) Fp 5) 26 [(0, .ref (ad 30 0)), (1, .int (nI set)), (2, .int (nI ts.length)), (3, .int (nI k))] [] M 0 0 := by
  intro q
  induction q with
  | zero =>
    intro k hk M N1 hS hnt hu hv hf
    obtain rfl : k = ts.length := by omega
    refine ri_iload_n h d_Md_toZero_26 rfl ?_
    refine ri_iload_n h d_Md_toZero_27 rfl ?_
    first | refine ri_icmpN_ge h 111 d_Md_toZero_28 (by decide) (by omega) (by omega) (fun c_28 => ?_) (fun c_28 => ?_) | refine ri_icmp_ge h 111 d_Md_toZero_28 (by decide) (fun c_28 => ?_) (fun c_28 => ?_)
    · refine ri_return h d_Md_toZero_111 (Nat.le_of_ble_eq_true rfl) (Nat.le_of_ble_eq_true rfl) ?_
      exact kr M N1 hS hnt (fMx_e hf)
    · omega
  | succ q ih =>
    intro k hk M N1 hS hnt hu hv hf
    have hkl : k < ts.length := by omega
    have ck := h24 _ (List.getElem_mem hkl)
    have L3 : ∀ (q i : Nat), i + q = (Q.sh ts[k].1).cnt → ∀ (M : gH) (N2 : MS), HS z ad Qc N2 M → NT set N N2 → N2.x0 = u → N2.y0 = v → fMx Q N2 set ts u v k i → G (gzz D s0 (p_, l, e_, R_, s_, m_, ar_, be_, me_, c_) (rk 4 0 0) Fp 5) 34 [(0, .ref (ad 30 0)), (1, .int (nI set)), (2, .int (nI ts.length)), (3, .int (nI k)), (4, .int (nI i))] [] M 0 0 := by
      intro q
      induction q with
      | zero =>
        intro i hi M N2 hS hnt hu hv hf
        obtain ⟨-, f25, -⟩ := hf k hkl
        obtain rfl : i = (Q.sh ts[k].1).cnt := by omega
        refine ri_iload h d_Md_toZero_34 rfl ?_
        refine ri_aload_n h d_Md_toZero_36 rfl ?_
        refine ri_get h d_Md_toZero_37 fl_Md_73 (by first | assumption | exact hS.mo | exact gup_s) (by rfl) ?_
        refine ri_sipushN h 3000 d_Md_toZero_40 rfl ?_
        refine ri_iload_n h d_Md_toZero_43 rfl ?_
        first | refine ri_imulN h d_Md_toZero_44 ?_ | refine ri_imul h d_Md_toZero_44 ?_
        refine ri_iload_n h d_Md_toZero_45 rfl ?_
        first | refine ri_iaddN h d_Md_toZero_46 ?_ | refine ri_iadd h d_Md_toZero_46 ?_
        refine ri_ialdE h _ d_Md_toZero_47 (by first | assumption | exact hS.a25) (by first | rfl | assumption) (by first | assumption | omega) (by first | decide | omega) (by first | assumption | exact hm.i25 (by first | assumption | omega) | rfl) ?_
        first | refine ri_icmpN_ge h 105 d_Md_toZero_48 (by decide) (by omega) (by omega) (fun c_48 => ?_) (fun c_48 => ?_) | refine ri_icmp_ge h 105 d_Md_toZero_48 (by decide) (fun c_48 => ?_) (fun c_48 => ?_)
        · first | refine ri_iincN h d_Md_toZero_105 rfl (Nat.le_of_ble_eq_true rfl) ?_ | refine ri_iinc h _ d_Md_toZero_105 rfl rfl (Nat.le_of_ble_eq_true rfl) ?_
          refine ri_goto h 26 d_Md_toZero_108 (by decide) ?_
          exact ri_ls [(0, .ref (ad 30 0)), (1, .int (nI set)), (2, .int (nI ts.length)), (3, .int (nI (k + 1)))] ⟨rfl, rfl, rfl, rfl, trivial⟩ (ih (k + 1) (by omega) M N2 hS hnt hu hv (fMx_r hkl hf))
        · omega
      | succ q ihk =>
        intro i hi M N2 hS hnt hu hv hf
        obtain ⟨-, f25, -⟩ := hf k hkl
        have hic : i < (Q.sh ts[k].1).cnt := by omega
        refine ri_iload h d_Md_toZero_34 rfl ?_
        refine ri_aload_n h d_Md_toZero_36 rfl ?_
        refine ri_get h d_Md_toZero_37 fl_Md_73 (by first | assumption | exact hS.mo | exact gup_s) (by rfl) ?_
        refine ri_sipushN h 3000 d_Md_toZero_40 rfl ?_
        refine ri_iload_n h d_Md_toZero_43 rfl ?_
        first | refine ri_imulN h d_Md_toZero_44 ?_ | refine ri_imul h d_Md_toZero_44 ?_
        refine ri_iload_n h d_Md_toZero_45 rfl ?_
        first | refine ri_iaddN h d_Md_toZero_46 ?_ | refine ri_iadd h d_Md_toZero_46 ?_
        refine ri_ialdE h _ d_Md_toZero_47 (by first | assumption | exact hS.a25) (by first | rfl | assumption) (by first | assumption | omega) (by first | decide | omega) (by first | assumption | exact hm.i25 (by first | assumption | omega) | rfl) ?_
        first | refine ri_icmpN_ge h 105 d_Md_toZero_48 (by decide) (by omega) (by omega) (fun c_48 => ?_) (fun c_48 => ?_) | refine ri_icmp_ge h 105 d_Md_toZero_48 (by decide) (fun c_48 => ?_) (fun c_48 => ?_)
        · omega
        refine ri_aload_n h d_Md_toZero_51 rfl ?_
        refine ri_get h d_Md_toZero_52 fl_Md_64 (by first | assumption | exact hS.mo | exact gup_s) (by rfl) ?_
        refine ri_ldcN h 72000 d_Md_toZero_55 kc_Md_172 rfl ?_
        refine ri_iload_n h d_Md_toZero_57 rfl ?_
        first | refine ri_imulN h d_Md_toZero_58 ?_ | refine ri_imul h d_Md_toZero_58 ?_
        refine ri_bipushN h 24 d_Md_toZero_59 rfl ?_
        refine ri_iload_n h d_Md_toZero_61 rfl ?_
        first | refine ri_imulN h d_Md_toZero_62 ?_ | refine ri_imul h d_Md_toZero_62 ?_
        first | refine ri_iaddN h d_Md_toZero_63 ?_ | refine ri_iadd h d_Md_toZero_63 ?_
        refine ri_iload h d_Md_toZero_64 rfl ?_
        first | refine ri_iaddN h d_Md_toZero_66 ?_ | refine ri_iadd h d_Md_toZero_66 ?_
        refine ri_dup2 h d_Md_toZero_67 rfl rfl ?_
        refine ri_laldE h _ d_Md_toZero_68 (by first | assumption | exact hS.a22) (by first | rfl | assumption) (by first | assumption | omega) (by first | decide | omega) (by first | assumption | exact hm.i22 (by first | assumption | omega) (by first | assumption | omega) | rfl) ?_
        refine ri_aload_n h d_Md_toZero_69 rfl ?_
        refine ri_get h d_Md_toZero_70 fl_Md_196 (by first | assumption | exact hS.mo | exact gup_s) (by rfl) ?_
        refine ri_lsub h d_Md_toZero_73 ?_
        refine ri_last h _ d_Md_toZero_74 (by first | assumption | exact hS.a22) (by first | rfl | assumption) (by first | assumption | omega) (by first | decide | omega) ?_
        refine ri_gH (hS.set_ml 22 rfl _) (fun M hS => ?_)
        refine ri_aload_n h d_Md_toZero_75 rfl ?_
        refine ri_get h d_Md_toZero_76 fl_Md_67 (by first | assumption | exact hS.mo | exact gup_s) (by rfl) ?_
        refine ri_ldcN h 72000 d_Md_toZero_79 kc_Md_172 rfl ?_
        refine ri_iload_n h d_Md_toZero_81 rfl ?_
        first | refine ri_imulN h d_Md_toZero_82 ?_ | refine ri_imul h d_Md_toZero_82 ?_
        refine ri_bipushN h 24 d_Md_toZero_83 rfl ?_
        refine ri_iload_n h d_Md_toZero_85 rfl ?_
        first | refine ri_imulN h d_Md_toZero_86 ?_ | refine ri_imul h d_Md_toZero_86 ?_
        first | refine ri_iaddN h d_Md_toZero_87 ?_ | refine ri_iadd h d_Md_toZero_87 ?_
        refine ri_iload h d_Md_toZero_88 rfl ?_
        first | refine ri_iaddN h d_Md_toZero_90 ?_ | refine ri_iadd h d_Md_toZero_90 ?_
        refine ri_dup2 h d_Md_toZero_91 rfl rfl ?_
        refine ri_laldE h _ d_Md_toZero_92 (by first | assumption | exact hS.a23) (by first | rfl | assumption) (by first | assumption | omega) (by first | decide | omega) (by first | assumption | exact hm.i23 (by first | assumption | omega) (by first | assumption | omega) | rfl) ?_
        refine ri_aload_n h d_Md_toZero_93 rfl ?_
        refine ri_get h d_Md_toZero_94 fl_Md_199 (by first | assumption | exact hS.mo | exact gup_s) (by rfl) ?_
        refine ri_lsub h d_Md_toZero_97 ?_
        refine ri_last h _ d_Md_toZero_98 (by first | assumption | exact hS.a23) (by first | rfl | assumption) (by first | assumption | omega) (by first | decide | omega) ?_
        refine ri_gH (hS.set_ml 23 rfl _) (fun M hS => ?_)
        first | refine ri_iincN h d_Md_toZero_99 rfl (Nat.le_of_ble_eq_true rfl) ?_ | refine ri_iinc h _ d_Md_toZero_99 rfl rfl (Nat.le_of_ble_eq_true rfl) ?_
        refine ri_goto h 34 d_Md_toZero_102 (by decide) ?_
        refine ri_ls [(0, .ref (ad 30 0)), (1, .int (nI set)), (2, .int (nI ts.length)), (3, .int (nI k)), (4, .int (nI (i + 1)))] ⟨rfl, rfl, rfl, rfl, rfl, trivial⟩ (ihk (i + 1) (by omega) M _ hS ((hnt.trans (NO.nt (NO.l22 (j := 72000 * set + 24 * k + i) (by omega) (by omega)))).trans (NO.nt (NO.l23 (j := 72000 * set + 24 * k + i) (by omega) (by omega)))) hu hv (fMx_s hf hkl hic h24 rfl ?_ ?_))
        · rw [← hu]; rfl
        · rw [← hv]; rfl
    refine ri_iload_n h d_Md_toZero_26 rfl ?_
    refine ri_iload_n h d_Md_toZero_27 rfl ?_
    first | refine ri_icmpN_ge h 111 d_Md_toZero_28 (by decide) (by omega) (by omega) (fun c_28 => ?_) (fun c_28 => ?_) | refine ri_icmp_ge h 111 d_Md_toZero_28 (by decide) (fun c_28 => ?_) (fun c_28 => ?_)
    · omega
    refine ri_iconstN h 0 d_Md_toZero_31 rfl ?_
    refine ri_istore h d_Md_toZero_32 (Nat.le_of_ble_eq_true rfl) ?_
    exact ri_ls [(0, .ref (ad 30 0)), (1, .int (nI set)), (2, .int (nI ts.length)), (3, .int (nI k)), (4, .int (nI 0))] ⟨rfl, rfl, rfl, rfl, rfl, trivial⟩ (L3 (Q.sh ts[k].1).cnt 0 (by omega) M N1 hS hnt hu hv hf)
theorem k_mtoZero (h0 : g_0 l D s0) (hS : HS z ad Qc N M) (hm : MR0 Q N) (hWF : WF Q) {set : Nat} (hset : set < 3) (hc : c < Q.nC) (hB : HB (b c) (PT Q (-1) c)) (hlen : (FLn Q (-1) 21 c (0, 0, 0)).length ≤ 3000) (hfl : fLs Q N set (FLn Q (-1) 21 c (0, 0, 0))) : Ct l D s0 y_Md_toZero (Cond.code y_Md_toZero b_Md_toZero 5 none) (rk 4 0 0) [.ref (ad 30 0), .int (nI set), .int (nI (FLn Q (-1) 21 c (0, 0, 0)).length)] M (fS none (fun M' => ∃ N', HS z ad Qc N' M' ∧ NT set N N' ∧ fLs Q N' set (zsC Q b c))) := by
  have hpt := fun x y => FL_pt hWF hc x y
  have hok : ∀ w, w ∈ FLn Q (-1) 21 c (0, 0, 0) → w.1 < Q.nS ∧ w.2.1 < 8 ∧ Big w.2.2.1 ∧ Big w.2.2.2 := fun w hw => ⟨(FLn_ok hWF.wl hWF.wc 21 c (0, 0, 0) hc (by decide) _ hw).1, FL_big hWF.wl hc hw⟩
  have hex : ∀ w, w ∈ FLn Q (-1) 21 c (0, 0, 0) → ∃ x y, IPt Q w x y := fun w hw => by
    obtain ⟨x, y, hp⟩ := (hWF.wx _ (hok w hw).1).2.2.2 (-1) (FLn_on hWF.wl 21 c (0, 0, 0) _ hw)
    exact ⟨_, _, x, y, hp, rfl, rfl⟩
  unfold zsC
  generalize FLn Q (-1) 21 c (0, 0, 0) = ts at hpt hok hex hlen hfl ⊢
  have h24 : ∀ w, w ∈ ts → (Q.sh w.1).cnt ≤ 24 := fun w hw => hWF.sc _ (hok w hw).1
  refine Ct.of h0 (by decide +kernel) rfl fun X hX h => ?_
  obtain ⟨p_, l', e_, R_, s_, m_, ar_, be_, me_, c_⟩ := X
  obtain rfl : l' = l := hX
  have L1 : ∀ (q k : Nat), k + q = ts.length → ∀ (M : gH) (b' : BxR) (e : Int32), HS z ad Qc (mst N b' e) M → (e = 0 ∨ e = 1) → HB (mbx (mst N b' e)) (fun x y => ∃ w, w ∈ ts.take k ∧ IPt Q w x y) → G (gzz D s0 (p_, l', e_, R_, s_, m_, ar_, be_, me_, c_) (rk 4 0 0) (fS none (fun M' => ∃ N', HS z ad Qc N' M' ∧ NT set N N' ∧ fLs Q N' set (ts.map (zit (b c).x0 (b c).y0)))) 5) 7 [(0, .ref (ad 30 0)), (1, .int (nI set)), (2, .int (nI ts.length)), (3, .int (nI k))] [] M 0 0 := by
    intro q
    induction q with
    | zero =>
      intro k hk M b' e hS he hb'
      have hb' : HB (mbx (mst N b' e)) (PT Q (-1) c) := hb'.cong fun x y => by rw [List.take_of_length_le (by omega)]; exact hpt x y
      have huv : ts.map (zit b'.x0 b'.y0) = ts.map (zit (b c).x0 (b c).y0) := by
        by_cases ht : ts = []
        · rw [ht]; rfl
        · obtain ⟨w, hw⟩ := List.exists_mem_of_ne_nil ts ht
          have hn : (b c).n = 0 := by
            rcases hB with ⟨-, q2⟩ | ⟨q1, -⟩
            · obtain ⟨x, y, hi⟩ := hex w hw
              exact absurd ((hpt x y).mp ⟨w, hw, hi⟩) (q2 x y)
            · exact q1
          have heq := (hB.uniq hb').2 hn
          have q1 : (b c).x0 = (mbx (mst N b' e)).x0 := congrArg BxR.x0 heq
          have q1 : (b c).x0 = b'.x0 := q1
          have q2 : (b c).y0 = (mbx (mst N b' e)).y0 := congrArg BxR.y0 heq
          have q2 : (b c).y0 = b'.y0 := q2
          rw [q1, q2]
      refine ri_iload_n h d_Md_toZero_7 rfl ?_
      refine ri_iload_n h d_Md_toZero_8 rfl ?_
      first | refine ri_icmpN_ge h 24 d_Md_toZero_9 (by decide) (by omega) (by omega) (fun c_9 => ?_) (fun c_9 => ?_) | refine ri_icmp_ge h 24 d_Md_toZero_9 (by decide) (fun c_9 => ?_) (fun c_9 => ?_)
      · refine ri_iconstN h 0 d_Md_toZero_24 rfl ?_
        refine ri_istore_n h d_Md_toZero_25 (Nat.le_of_ble_eq_true rfl) ?_
        exact ri_ls [(0, .ref (ad 30 0)), (1, .int (nI set)), (2, .int (nI ts.length)), (3, .int (nI 0))] ⟨rfl, rfl, rfl, rfl, trivial⟩ (toz_2 (N := N) (u := b'.x0) (v := b'.y0) h0 h hset hlen h24 (fun M N' h1 h2 h3 => ⟨rfl, N', h1, h2, huv ▸ h3⟩) ts.length 0 (by omega) M (mst N b' e) hS NT.st rfl rfl (fMx_0 hfl))
      · omega
    | succ q ih =>
      intro k hk M b' e hS he hb'
      have hkl : k < ts.length := by omega
      have hk3 : k < 3000 := by omega
      obtain ⟨hs, h8, hx, hy⟩ := hok _ (List.getElem_mem hkl)
      refine ri_iload_n h d_Md_toZero_7 rfl ?_
      refine ri_iload_n h d_Md_toZero_8 rfl ?_
      first | refine ri_icmpN_ge h 24 d_Md_toZero_9 (by decide) (by omega) (by omega) (fun c_9 => ?_) (fun c_9 => ?_) | refine ri_icmp_ge h 24 d_Md_toZero_9 (by decide) (fun c_9 => ?_) (fun c_9 => ?_)
      · omega
      refine ri_aload_n h d_Md_toZero_12 rfl ?_
      refine ri_iload_n h d_Md_toZero_13 rfl ?_
      refine ri_iload_n h d_Md_toZero_14 rfl ?_
      refine ri_dV0_2 (r := (gR6, gT6, 44)) h d_Md_toZero_15 cv_Md_217 (by first | exact hS.lcO | exact hS.lsO | exact hS.lpO | exact hS.cesO (by first | assumption | omega) | exact hS.cepO (by first | assumption | omega) | exact ⟨_, (by first | assumption | exact hS.st | exact hS.mo | exact hS.out | exact hS.sb | exact hS.ce (by first | assumption | omega) | exact hS.ceb (by first | assumption | omega) | exact hS.sh (by first | assumption | omega) | exact hS.shb (by first | assumption | omega) | exact hS.pl (by first | assumption | omega) | exact hS.plb (by first | assumption | omega) | exact hS.fl (by first | assumption | omega) | exact gup_s | (refine gup_t (by assumption) ?_; first | assumption | exact gup_s | (refine gup_t (by assumption) ?_; first | assumption | exact gup_s | (refine gup_t (by assumption) ?_; first | assumption | exact gup_s))))⟩) rfl (k_mboxOf (N := mst N b' e) (set := set) (i := k) (t := ts[k]) h0 hS hm hWF.wb hWF.wx hset hk3 (hfl k hkl) hs h8 (hWF.wp _ hs) hx hy he hb') (Nat.le_of_ble_eq_true rfl) (Nat.le_of_ble_eq_true rfl) (Nat.le_of_ble_eq_true rfl) (Nat.le_of_ble_eq_true rfl) (Nat.le_of_ble_eq_true rfl) (fun M hS => ?_)
      obtain ⟨b2, e2, hS, he2, hb2⟩ := hS
      first | refine ri_iincN h d_Md_toZero_18 rfl (Nat.le_of_ble_eq_true rfl) ?_ | refine ri_iinc h _ d_Md_toZero_18 rfl rfl (Nat.le_of_ble_eq_true rfl) ?_
      refine ri_goto h 7 d_Md_toZero_21 (by decide) ?_
      refine ri_ls [(0, .ref (ad 30 0)), (1, .int (nI set)), (2, .int (nI ts.length)), (3, .int (nI (k + 1)))] ⟨rfl, rfl, rfl, rfl, trivial⟩ (ih (k + 1) (by omega) M b2 e2 hS he2 (hb2.cong fun x y => ?_))
      rw [take_snoc ts k hkl]
      constructor
      · rintro (⟨w, h1, h2⟩ | h2)
        · exact ⟨w, List.mem_append_left _ h1, h2⟩
        · exact ⟨ts[k], List.mem_append_right _ (List.mem_singleton.mpr rfl), h2⟩
      · rintro ⟨w, h1, h2⟩
        rcases List.mem_append.mp h1 with h1 | h1
        · exact Or.inl ⟨w, h1, h2⟩
        · rw [List.mem_singleton.mp h1] at h2
          exact Or.inr h2
  refine ri_aload_n h d_Md_toZero_0 rfl ?_
  refine ri_iconstN h 0 d_Md_toZero_1 rfl ?_
  refine ri_pm_any h d_Md_toZero_2 fl_Md_192 hS (by first | exact Or.inl rfl | exact Or.inr rfl | assumption) (fun M hS => ?_)
  refine ri_iconstN h 0 d_Md_toZero_5 rfl ?_
  refine ri_istore_n h d_Md_toZero_6 (Nat.le_of_ble_eq_true rfl) ?_
  exact ri_ls [(0, .ref (ad 30 0)), (1, .int (nI set)), (2, .int (nI ts.length)), (3, .int (nI 0))] ⟨rfl, rfl, rfl, rfl, trivial⟩ (L1 ts.length 0 (by omega) M (mbx N) 0 hS (Or.inl rfl) (Or.inl ⟨by show (1 : Int32) - 0 = 1; decide, fun x y ⟨w, h1, _⟩ => by rw [List.take_zero] at h1; exact absurd h1 List.not_mem_nil⟩))
end TOZ
