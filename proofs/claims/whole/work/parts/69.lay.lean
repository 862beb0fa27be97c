/-! isNext and lay -/
def NY (set d : Nat) (N N' : MS) : Prop := NE N N' ∧ (N'.any = N.any ∧ N'.x0 = N.x0 ∧ N'.y0 = N.y0 ∧ N'.x1 = N.x1 ∧ N'.y1 = N.y1) ∧ (∀ f, (26 ≤ f ∧ f < 29) ∨ 33 ≤ f → N'.i f = N.i f ∧ N'.l f = N.l f) ∧ (∀ j, j < d → N'.i 30 j = N.i 30 j ∧ N'.i 31 j = N.i 31 j ∧ N'.i 32 j = N.i 32 j) ∧ (∀ j, j ≤ d → N'.i 29 j = N.i 29 j) ∧ (∀ j, j < 3000 * set ∨ 3000 * set + 3000 ≤ j → N'.i 24 j = N.i 24 j ∧ N'.i 25 j = N.i 25 j) ∧ ∀ j, j < 72000 * set ∨ 72000 * set + 72000 ≤ j → N'.l 22 j = N.l 22 j ∧ N'.l 23 j = N.l 23 j
section NYs
variable {set d : Nat} {N N1 N2 : MS}
theorem NY.refl : NY set d N N := ⟨NE.rfl, ⟨rfl, rfl, rfl, rfl, rfl⟩, fun _ _ => ⟨rfl, rfl⟩, fun _ _ => ⟨rfl, rfl, rfl⟩, fun _ _ => rfl, fun _ _ => ⟨rfl, rfl⟩, fun _ _ => ⟨rfl, rfl⟩⟩
theorem NY.trans (h : NY set d N N1) (h2 : NY set d N1 N2) : NY set d N N2 := by
  obtain ⟨a1, ⟨a3, a4, a5, a6, a7⟩, a8, a9, a10, a11, a12⟩ := h
  obtain ⟨b1, ⟨b3, b4, b5, b6, b7⟩, b8, b9, b10, b11, b12⟩ := h2
  exact ⟨a1.trans b1, ⟨b3.trans a3, b4.trans a4, b5.trans a5, b6.trans a6, b7.trans a7⟩, fun f hf => ⟨(b8 f hf).1.trans (a8 f hf).1, (b8 f hf).2.trans (a8 f hf).2⟩, fun j hj => ⟨(b9 j hj).1.trans (a9 j hj).1, (b9 j hj).2.1.trans (a9 j hj).2.1, (b9 j hj).2.2.trans (a9 j hj).2.2⟩, fun j hj => (b10 j hj).trans (a10 j hj), fun j hj => ⟨(b11 j hj).1.trans (a11 j hj).1, (b11 j hj).2.trans (a11 j hj).2⟩, fun j hj => ⟨(b12 j hj).1.trans (a12 j hj).1, (b12 j hj).2.trans (a12 j hj).2⟩⟩
theorem NY.down (h : NY set (d + 1) N N1) : NY set d N N1 := by
  obtain ⟨a1, a2, a8, a9, a10, a11, a12⟩ := h
  exact ⟨a1, a2, a8, fun j hj => a9 j (by omega), fun j hj => a10 j (by omega), a11, a12⟩
theorem NO.ny (h : NO set N N1) : NY set d N N1 := by
  obtain ⟨a1, ⟨a2, a3, a4, a5, a6, a7⟩, a8, a9, a10⟩ := h
  refine ⟨a1, ⟨a3, a4, a5, a6, a7⟩, fun f hf => a8 f (by omega), fun j _ => ?_, fun j _ => ?_, a9, a10⟩
  · rw [(a8 30 (by omega)).1, (a8 31 (by omega)).1, (a8 32 (by omega)).1]
    exact ⟨rfl, rfl, rfl⟩
  · rw [(a8 29 (by omega)).1]
theorem NY.i30 {v : Int32} {j : Nat} (hj : d ≤ j) : NY set d N (N.set_i (va_up N.i 30 (va_up (N.i 30) j v))) := ⟨NE.i 30 (by decide) _, ⟨rfl, rfl, rfl, rfl, rfl⟩, fun f hf => ⟨va_up_n (by omega), rfl⟩, fun q hq => ⟨va_up_n (g := N.i 30) (by omega), rfl, rfl⟩, fun _ _ => rfl, fun _ _ => ⟨rfl, rfl⟩, fun _ _ => ⟨rfl, rfl⟩⟩
theorem NY.i31 {v : Int32} {j : Nat} (hj : d ≤ j) : NY set d N (N.set_i (va_up N.i 31 (va_up (N.i 31) j v))) := ⟨NE.i 31 (by decide) _, ⟨rfl, rfl, rfl, rfl, rfl⟩, fun f hf => ⟨va_up_n (by omega), rfl⟩, fun q hq => ⟨rfl, va_up_n (g := N.i 31) (by omega), rfl⟩, fun _ _ => rfl, fun _ _ => ⟨rfl, rfl⟩, fun _ _ => ⟨rfl, rfl⟩⟩
theorem NY.i32 {v : Int32} {j : Nat} (hj : d ≤ j) : NY set d N (N.set_i (va_up N.i 32 (va_up (N.i 32) j v))) := ⟨NE.i 32 (by decide) _, ⟨rfl, rfl, rfl, rfl, rfl⟩, fun f hf => ⟨va_up_n (by omega), rfl⟩, fun q hq => ⟨rfl, rfl, va_up_n (g := N.i 32) (by omega)⟩, fun _ _ => rfl, fun _ _ => ⟨rfl, rfl⟩, fun _ _ => ⟨rfl, rfl⟩⟩
theorem NY.i29 {v : Int32} {j : Nat} (hj : d < j) : NY set d N (N.set_i (va_up N.i 29 (va_up (N.i 29) j v))) := ⟨NE.i 29 (by decide) _, ⟨rfl, rfl, rfl, rfl, rfl⟩, fun f hf => ⟨va_up_n (by omega), rfl⟩, fun q hq => ⟨rfl, rfl, rfl⟩, fun q hq => va_up_n (g := N.i 29) (by omega), fun _ _ => ⟨rfl, rfl⟩, fun _ _ => ⟨rfl, rfl⟩⟩
theorem NY.dep {v : Int32} : NY set d N (N.set_depth v) := ⟨NE.rfl, ⟨rfl, rfl, rfl, rfl, rfl⟩, fun _ _ => ⟨rfl, rfl⟩, fun _ _ => ⟨rfl, rfl, rfl⟩, fun _ _ => rfl, fun _ _ => ⟨rfl, rfl⟩, fun _ _ => ⟨rfl, rfl⟩⟩
end NYs
/-- the cursor of a stack's frame -/
def curOk (Q : CS) (N : MS) (d : Nat) : Option Ps → Prop
  | none => N.i 30 d = -1
  | some x => N.i 30 d = nI x.1 ∧ N.i 31 d = nI x.2.1 ∧ N.i 32 d = nI x.2.2 ∧ x.1 < Q.nP ∧ x.2.1 < (Q.pl x.1).cols ∧ x.2.2 < (Q.pl x.1).rows
theorem nI_ne1 {p : Nat} (h : p < 2 ^ 31) : ¬ nI p = -1 := by
  intro e
  have := congrArg Int32.toInt e
  rw [nI_toInt h, show (-1 : Int32).toInt = -1 by decide] at this
  omega
section ISN
variable {l : Launch} {D : gD} {s0 : State} {M : gH} {z : Nat} {ad : gA} {Q Qc : CS} {N : MS}
abbrev inP (z : Nat) (ad : gA) (Q Qc : CS) (N : MS) (d c : Nat) (cur : Option Ps) : gR → gH → Prop := fun r M' => ∃ N', HS z ad Qc N' M' ∧ (∀ set, NY set d N N') ∧ N'.depth = N.depth ∧ ((restF Q c cur = [] ∧ r = .inl (some (.int 0))) ∨ ∃ x, r = .inl (some (.int 1)) ∧ restF Q c cur = x :: restF Q c (some x) ∧ curOk Q N' d (some x) ∧ nzP Q c x.1 = true)
theorem k_misnext (h0 : g_0 l D s0) (hS : HS z ad Qc N M) (hm : MR0 Q N) (hW : WB Q) (hL : WL Q) {d c : Nat} (hd : d < 22) (hc : c < Q.nC) (h29 : N.i 29 d = nI c) (hu : ∀ x, x < Q.nC → szR Q (N.l 28) x) {cur : Option Ps} (hcur : curOk Q N d cur) (hnz : ∀ x, cur = some x → nzP Q c x.1 = true) : Ct l D s0 y_Md_isNext (Cond.code y_Md_isNext b_Md_isNext 3 (some .boolean)) (rk 1 0 0) [.ref (ad 30 0), .int (nI d)] M (inP z ad Q Qc N d c cur) := by
  have hb1 := hW.1
  have hb3 := hW.2.2.1
  have hm0 := hm
  refine Ct.of h0 (by decide +kernel) rfl fun X hX h => ?_
  obtain ⟨p_, l', e_, R_, s_, m_, ar_, be_, me_, c_⟩ := X
  obtain rfl : l' = l := hX
  have LSC : ∀ (q a : Nat), a + q = Q.nP → ∀ (M : gH) (N1 : MS), HS z ad Qc N1 M → (∀ set, NY set d N N1) → N1.depth = N.depth → restF Q c cur = posF Q c a → G (gzz D s0 (p_, l', e_, R_, s_, m_, ar_, be_, me_, c_) (rk 1 0 0) (inP z ad Q Qc N d c cur) 3) 76 [(0, .ref (ad 30 0)), (1, .int (nI d)), (2, .int (nI a))] [] M 0 0 := by
    intro q
    induction q with
    | zero =>
      intro a ha M N1 hS hny hdep hr
      have hm := hm0.ne (hny 0).1
      rw [posF_n (by omega)] at hr
      refine ri_iload_n h d_Md_isNext_76 rfl ?_
      refine ri_aload_n h d_Md_isNext_77 rfl ?_
      refine ri_get h d_Md_isNext_78 fl_Md_148 (by first | assumption | exact hS.mo | exact gup_s) (by first | exact congrArg (fun x => some (Value.int (nI x))) hm.np | rfl) ?_
      first | refine ri_icmpN_ge h 121 d_Md_isNext_81 (by decide) (by omega) (by omega) (fun c_81 => ?_) (fun c_81 => ?_) | refine ri_icmp_ge h 121 d_Md_isNext_81 (by decide) (fun c_81 => ?_) (fun c_81 => ?_)
      · first
        | (exfalso; first | exact absurd c_81 (by decide) | omega)
        | (refine ri_aload_n h d_Md_isNext_121 rfl ?_
           refine ri_get h d_Md_isNext_122 fl_Md_85 (by first | assumption | exact hS.mo | exact gup_s) (by rfl) ?_
           refine ri_iload_n h d_Md_isNext_125 rfl ?_
           refine ri_iload_n h d_Md_isNext_126 rfl ?_
           refine ri_iast h _ d_Md_isNext_127 (by first | assumption | exact hS.a30) (by first | rfl | assumption) (by first | assumption | omega) (by first | decide | omega) ?_
           refine ri_gH (hS.set_mi 30 rfl _) (fun M hS => ?_)
           refine ri_aload_n h d_Md_isNext_128 rfl ?_
           refine ri_get h d_Md_isNext_129 fl_Md_88 (by first | assumption | exact hS.mo | exact gup_s) (by rfl) ?_
           refine ri_iload_n h d_Md_isNext_132 rfl ?_
           refine ri_iconstN h 0 d_Md_isNext_133 rfl ?_
           refine ri_iast h _ d_Md_isNext_134 (by first | assumption | exact hS.a31) (by first | rfl | assumption) (by first | assumption | omega) (by first | decide | omega) ?_
           refine ri_gH (hS.set_mi 31 rfl _) (fun M hS => ?_)
           refine ri_aload_n h d_Md_isNext_135 rfl ?_
           refine ri_get h d_Md_isNext_136 fl_Md_91 (by first | assumption | exact hS.mo | exact gup_s) (by rfl) ?_
           refine ri_iload_n h d_Md_isNext_139 rfl ?_
           refine ri_iconstN h 0 d_Md_isNext_140 rfl ?_
           refine ri_iast h _ d_Md_isNext_141 (by first | assumption | exact hS.a32) (by first | rfl | assumption) (by first | assumption | omega) (by first | decide | omega) ?_
           refine ri_gH (hS.set_mi 32 rfl _) (fun M hS => ?_)
           refine ri_iload_n h d_Md_isNext_142 rfl ?_
           refine ri_aload_n h d_Md_isNext_143 rfl ?_
           refine ri_get h d_Md_isNext_144 fl_Md_148 (by first | assumption | exact hS.mo | exact gup_s) (by first | exact congrArg (fun x => some (Value.int (nI x))) hm.np | rfl) ?_
           first | refine ri_icmpN_ge h 154 d_Md_isNext_147 (by decide) (by omega) (by omega) (fun c_147 => ?_) (fun c_147 => ?_) | refine ri_icmp_ge h 154 d_Md_isNext_147 (by decide) (fun c_147 => ?_) (fun c_147 => ?_)
           · first
             | (exfalso; first | exact absurd c_147 (by decide) | omega)
             | (refine ri_iconstN h 0 d_Md_isNext_154 rfl ?_
                refine ri_zreturn h d_Md_isNext_155 (Nat.le_of_ble_eq_true rfl) (Nat.le_of_ble_eq_true rfl) (by first | rfl | assumption) ?_
                exact ⟨_, hS, fun set => (((hny set).trans (NY.i30 (Nat.le_refl d))).trans (NY.i31 (Nat.le_refl d))).trans (NY.i32 (Nat.le_refl d)), hdep, Or.inl ⟨hr, rfl⟩⟩)
           · first
             | (exfalso; first | exact absurd c_147 (by decide) | omega)
             | (refine ri_iconstN h 1 d_Md_isNext_150 rfl ?_
                refine ri_goto h 155 d_Md_isNext_151 (by decide) ?_
                refine ri_zreturn h d_Md_isNext_155 (Nat.le_of_ble_eq_true rfl) (Nat.le_of_ble_eq_true rfl) (by first | rfl | assumption) ?_
                exact ⟨_, hS, fun set => (((hny set).trans (NY.i30 (Nat.le_refl d))).trans (NY.i31 (Nat.le_refl d))).trans (NY.i32 (Nat.le_refl d)), hdep, Or.inl ⟨hr, rfl⟩⟩))
      · first
        | (exfalso; first | exact absurd c_81 (by decide) | omega)
        | (omega)
    | succ q ih =>
      intro a ha M N1 hS hny hdep hr
      have hm := hm0.ne (hny 0).1
      have haP : a < Q.nP := by omega
      obtain ⟨g1, g2, g3, g4, g5, -⟩ := hL.2.1 a haP
      have h29' : N1.i 29 d = nI c := ((hny 0).2.2.2.2.1 d (Nat.le_refl _)).trans h29
      have hof20 : (Q.pl a).of < 20 := by omega
      have h28 : N1.l 28 (Q.pl a).of = nL (min (SZ Q (-1) (Q.pl a).of) 1000000) := by rw [((hny 0).2.2.1 28 (by omega)).2]; exact hu _ g2
      have e0 : (nL (min (SZ Q (-1) (Q.pl a).of) 1000000) = 0) ↔ min (SZ Q (-1) (Q.pl a).of) 1000000 = 0 := nL_inj (b := 0) (by omega) (by decide)
      refine ri_iload_n h d_Md_isNext_76 rfl ?_
      refine ri_aload_n h d_Md_isNext_77 rfl ?_
      refine ri_get h d_Md_isNext_78 fl_Md_148 (by first | assumption | exact hS.mo | exact gup_s) (by first | exact congrArg (fun x => some (Value.int (nI x))) hm.np | rfl) ?_
      first | refine ri_icmpN_ge h 121 d_Md_isNext_81 (by decide) (by omega) (by omega) (fun c_81 => ?_) (fun c_81 => ?_) | refine ri_icmp_ge h 121 d_Md_isNext_81 (by decide) (fun c_81 => ?_) (fun c_81 => ?_)
      · omega
      · refine ri_aload_n h d_Md_isNext_84 rfl ?_
        refine ri_get h d_Md_isNext_85 fl_Md_36 (by first | assumption | exact hS.mo | exact gup_s) (by rfl) ?_
        refine ri_iload_n h d_Md_isNext_88 rfl ?_
        refine ri_ialdE h _ d_Md_isNext_89 (by first | assumption | exact hS.a12) (by first | rfl | assumption) (by first | assumption | omega) (by first | decide | omega) (by first | assumption | exact hm.i12 (by first | assumption | omega) | rfl) ?_
        refine ri_aload_n h d_Md_isNext_90 rfl ?_
        refine ri_get h d_Md_isNext_91 fl_Md_82 (by first | assumption | exact hS.mo | exact gup_s) (by rfl) ?_
        refine ri_iload_n h d_Md_isNext_94 rfl ?_
        refine ri_ialdE h _ d_Md_isNext_95 (by first | assumption | exact hS.a29) (by first | rfl | assumption) (by first | assumption | omega) (by first | decide | omega) (by first | assumption | assumption | rfl) ?_
        first | refine ri_icmpN_ne h 115 d_Md_isNext_96 (by decide) (by omega) (by omega) (fun c_96 => ?_) (fun c_96 => ?_) | refine ri_icmp_ne h 115 d_Md_isNext_96 (by decide) (fun c_96 => ?_) (fun c_96 => ?_)
        · first | refine ri_iincN h d_Md_isNext_115 rfl (Nat.le_of_ble_eq_true rfl) ?_ | refine ri_iinc h _ d_Md_isNext_115 rfl rfl (Nat.le_of_ble_eq_true rfl) ?_
          refine ri_goto h 76 d_Md_isNext_118 (by decide) ?_
          refine ri_ls [(0, .ref (ad 30 0)), (1, .int (nI d)), (2, .int (nI (a + 1)))] ⟨rfl, rfl, rfl, trivial⟩ (ih (a + 1) (by omega) M N1 hS hny hdep (hr.trans (posF_f haP (fun hz => ?_))))
          unfold nzP at hz
          rw [Bool.and_eq_true, decide_eq_true_iff, decide_eq_true_iff] at hz
          first | exact c_96 hz.1 | (have := e0.mp c_111; omega)
        · refine ri_aload_n h d_Md_isNext_99 rfl ?_
          refine ri_get h d_Md_isNext_100 fl_Md_79 (by first | assumption | exact hS.mo | exact gup_s) (by rfl) ?_
          refine ri_aload_n h d_Md_isNext_103 rfl ?_
          refine ri_get h d_Md_isNext_104 fl_Md_39 (by first | assumption | exact hS.mo | exact gup_s) (by rfl) ?_
          refine ri_iload_n h d_Md_isNext_107 rfl ?_
          refine ri_ialdE h _ d_Md_isNext_108 (by first | assumption | exact hS.a13) (by first | rfl | assumption) (by first | assumption | omega) (by first | decide | omega) (by first | assumption | exact hm.i13 (by first | assumption | omega) | rfl) ?_
          refine ri_laldE h _ d_Md_isNext_109 (by first | assumption | exact hS.a28) (by first | rfl | assumption) (by first | assumption | omega) (by first | decide | omega) (by first | assumption | assumption | rfl) ?_
          refine ri_lconst h 0 d_Md_isNext_110 rfl ?_
          refine ri_lcmp_ne h 121 d_Md_isNext_111 d_Md_isNext_112 (by decide) (fun c_111 => ?_) (fun c_111 => ?_)
          · have hz : nzP Q c a = true := by
              unfold nzP
              rw [Bool.and_eq_true, decide_eq_true_iff, decide_eq_true_iff]
              exact ⟨c_96, fun q => c_111 (e0.mpr (by rw [q]; rfl))⟩
            refine ri_aload_n h d_Md_isNext_121 rfl ?_
            refine ri_get h d_Md_isNext_122 fl_Md_85 (by first | assumption | exact hS.mo | exact gup_s) (by rfl) ?_
            refine ri_iload_n h d_Md_isNext_125 rfl ?_
            refine ri_iload_n h d_Md_isNext_126 rfl ?_
            refine ri_iast h _ d_Md_isNext_127 (by first | assumption | exact hS.a30) (by first | rfl | assumption) (by first | assumption | omega) (by first | decide | omega) ?_
            refine ri_gH (hS.set_mi 30 rfl _) (fun M hS => ?_)
            refine ri_aload_n h d_Md_isNext_128 rfl ?_
            refine ri_get h d_Md_isNext_129 fl_Md_88 (by first | assumption | exact hS.mo | exact gup_s) (by rfl) ?_
            refine ri_iload_n h d_Md_isNext_132 rfl ?_
            refine ri_iconstN h 0 d_Md_isNext_133 rfl ?_
            refine ri_iast h _ d_Md_isNext_134 (by first | assumption | exact hS.a31) (by first | rfl | assumption) (by first | assumption | omega) (by first | decide | omega) ?_
            refine ri_gH (hS.set_mi 31 rfl _) (fun M hS => ?_)
            refine ri_aload_n h d_Md_isNext_135 rfl ?_
            refine ri_get h d_Md_isNext_136 fl_Md_91 (by first | assumption | exact hS.mo | exact gup_s) (by rfl) ?_
            refine ri_iload_n h d_Md_isNext_139 rfl ?_
            refine ri_iconstN h 0 d_Md_isNext_140 rfl ?_
            refine ri_iast h _ d_Md_isNext_141 (by first | assumption | exact hS.a32) (by first | rfl | assumption) (by first | assumption | omega) (by first | decide | omega) ?_
            refine ri_gH (hS.set_mi 32 rfl _) (fun M hS => ?_)
            refine ri_iload_n h d_Md_isNext_142 rfl ?_
            refine ri_aload_n h d_Md_isNext_143 rfl ?_
            refine ri_get h d_Md_isNext_144 fl_Md_148 (by first | assumption | exact hS.mo | exact gup_s) (by first | exact congrArg (fun x => some (Value.int (nI x))) hm.np | rfl) ?_
            first | refine ri_icmpN_ge h 154 d_Md_isNext_147 (by decide) (by omega) (by omega) (fun c_147 => ?_) (fun c_147 => ?_) | refine ri_icmp_ge h 154 d_Md_isNext_147 (by decide) (fun c_147 => ?_) (fun c_147 => ?_)
            · omega
            · refine ri_iconstN h 1 d_Md_isNext_150 rfl ?_
              refine ri_goto h 155 d_Md_isNext_151 (by decide) ?_
              refine ri_zreturn h d_Md_isNext_155 (Nat.le_of_ble_eq_true rfl) (Nat.le_of_ble_eq_true rfl) (by first | rfl | assumption) ?_
              exact ⟨_, hS, fun set => (((hny set).trans (NY.i30 (Nat.le_refl d))).trans (NY.i31 (Nat.le_refl d))).trans (NY.i32 (Nat.le_refl d)), hdep, Or.inr ⟨(a, 0, 0), rfl, hr.trans (posF_x haP hz g4.1 g5.1), ⟨va_up_s (g := N1.i 30), va_up_s (g := N1.i 31), va_up_s (g := N1.i 32), haP, g4.1, g5.1⟩, hz⟩⟩
          · first | refine ri_iincN h d_Md_isNext_115 rfl (Nat.le_of_ble_eq_true rfl) ?_ | refine ri_iinc h _ d_Md_isNext_115 rfl rfl (Nat.le_of_ble_eq_true rfl) ?_
            refine ri_goto h 76 d_Md_isNext_118 (by decide) ?_
            refine ri_ls [(0, .ref (ad 30 0)), (1, .int (nI d)), (2, .int (nI (a + 1)))] ⟨rfl, rfl, rfl, trivial⟩ (ih (a + 1) (by omega) M N1 hS hny hdep (hr.trans (posF_f haP (fun hz => ?_))))
            unfold nzP at hz
            rw [Bool.and_eq_true, decide_eq_true_iff, decide_eq_true_iff] at hz
            first | exact c_96 hz.1 | (have := e0.mp c_111; omega)
  cases cur with
  | none =>
    have hcur : N.i 30 d = -1 := hcur
    refine ri_aload_n h d_Md_isNext_0 rfl ?_
    refine ri_get h d_Md_isNext_1 fl_Md_85 (by first | assumption | exact hS.mo | exact gup_s) (by rfl) ?_
    refine ri_iload_n h d_Md_isNext_4 rfl ?_
    refine ri_ialdE h _ d_Md_isNext_5 (by first | assumption | exact hS.a30) (by first | rfl | assumption) (by first | assumption | omega) (by first | decide | omega) (by first | assumption | assumption | rfl) ?_
    refine ri_istore_n h d_Md_isNext_6 (Nat.le_of_ble_eq_true rfl) ?_
    refine ri_iload_n h d_Md_isNext_7 rfl ?_
    refine ri_iconst h (-1) d_Md_isNext_8 rfl ?_
    refine ri_icmp_eq h 73 d_Md_isNext_9 (by decide) (fun c_9 => ?_) (fun c_9 => absurd rfl c_9)
    refine ri_iinc h (nI 0) d_Md_isNext_73 rfl (by decide) (Nat.le_of_ble_eq_true rfl) ?_
    exact ri_ls [(0, .ref (ad 30 0)), (1, .int (nI d)), (2, .int (nI 0))] ⟨rfl, rfl, rfl, trivial⟩ (LSC Q.nP 0 (by omega) M N hS (fun _ => NY.refl) rfl rfl)
  | some x =>
    obtain ⟨p, i, j⟩ := x
    obtain ⟨u1, u2, u3, u4, u5, u6⟩ := hcur
    have u1 : N.i 30 d = nI p := u1
    have u2 : N.i 31 d = nI i := u2
    have u3 : N.i 32 d = nI j := u3
    have u4 : p < Q.nP := u4
    have u5 : i < (Q.pl p).cols := u5
    have u6 : j < (Q.pl p).rows := u6
    have hz : nzP Q c p = true := hnz _ rfl
    obtain ⟨g1, g2, g3, g4, g5, -⟩ := hL.2.1 p u4
    have e17 := hm.i17 u4
    have e18 := hm.i18 u4
    refine ri_aload_n h d_Md_isNext_0 rfl ?_
    refine ri_get h d_Md_isNext_1 fl_Md_85 (by first | assumption | exact hS.mo | exact gup_s) (by rfl) ?_
    refine ri_iload_n h d_Md_isNext_4 rfl ?_
    refine ri_ialdE h _ d_Md_isNext_5 (by first | assumption | exact hS.a30) (by first | rfl | assumption) (by first | assumption | omega) (by first | decide | omega) (by first | assumption | assumption | rfl) ?_
    refine ri_istore_n h d_Md_isNext_6 (Nat.le_of_ble_eq_true rfl) ?_
    refine ri_iload_n h d_Md_isNext_7 rfl ?_
    refine ri_iconst h (-1) d_Md_isNext_8 rfl ?_
    refine ri_icmp_eq h 73 d_Md_isNext_9 (by decide) (fun c_9 => absurd c_9 (nI_ne1 (by omega))) (fun c_9 => ?_)
    refine ri_aload_n h d_Md_isNext_12 rfl ?_
    refine ri_get h d_Md_isNext_13 fl_Md_88 (by first | assumption | exact hS.mo | exact gup_s) (by rfl) ?_
    refine ri_iload_n h d_Md_isNext_16 rfl ?_
    refine ri_dup2 h d_Md_isNext_17 rfl rfl ?_
    refine ri_ialdE h _ d_Md_isNext_18 (by first | assumption | exact hS.a31) (by first | rfl | assumption) (by first | assumption | omega) (by first | decide | omega) (by first | assumption | assumption | rfl) ?_
    refine ri_iconstN h 1 d_Md_isNext_19 rfl ?_
    first | refine ri_iaddN h d_Md_isNext_20 ?_ | refine ri_iadd h d_Md_isNext_20 ?_
    refine ri_iast h _ d_Md_isNext_21 (by first | assumption | exact hS.a31) (by first | rfl | assumption) (by first | assumption | omega) (by first | decide | omega) ?_
    refine ri_gH (hS.set_mi 31 rfl _) (fun M hS => ?_)
    refine ri_aload_n h d_Md_isNext_22 rfl ?_
    refine ri_get h d_Md_isNext_23 fl_Md_88 (by first | assumption | exact hS.mo | exact gup_s) (by rfl) ?_
    refine ri_iload_n h d_Md_isNext_26 rfl ?_
    refine ri_ialdE h d d_Md_isNext_27 hS.a31 rfl (by omega) (by decide) (va_up_s (g := N.i 31)) ?_
    refine ri_aload_n h d_Md_isNext_28 rfl ?_
    refine ri_get h d_Md_isNext_29 fl_Md_51 (by first | assumption | exact hS.mo | exact gup_s) (by rfl) ?_
    refine ri_iload_n h d_Md_isNext_32 rfl ?_
    refine ri_ialdE h _ d_Md_isNext_33 (by first | assumption | exact hS.a17) (by first | rfl | assumption) (by first | assumption | omega) (by first | decide | omega) (by first | assumption | exact hm.i17 (by first | assumption | omega) | rfl) ?_
    first | refine ri_icmpN_ge h 39 d_Md_isNext_34 (by decide) (by omega) (by omega) (fun c_34 => ?_) (fun c_34 => ?_) | refine ri_icmp_ge h 39 d_Md_isNext_34 (by decide) (fun c_34 => ?_) (fun c_34 => ?_)
    · refine ri_aload_n h d_Md_isNext_39 rfl ?_
      refine ri_get h d_Md_isNext_40 fl_Md_88 (by first | assumption | exact hS.mo | exact gup_s) (by rfl) ?_
      refine ri_iload_n h d_Md_isNext_43 rfl ?_
      refine ri_iconstN h 0 d_Md_isNext_44 rfl ?_
      refine ri_iast h _ d_Md_isNext_45 (by first | assumption | exact hS.a31) (by first | rfl | assumption) (by first | assumption | omega) (by first | decide | omega) ?_
      refine ri_gH (hS.set_mi 31 rfl _) (fun M hS => ?_)
      refine ri_aload_n h d_Md_isNext_46 rfl ?_
      refine ri_get h d_Md_isNext_47 fl_Md_91 (by first | assumption | exact hS.mo | exact gup_s) (by rfl) ?_
      refine ri_iload_n h d_Md_isNext_50 rfl ?_
      refine ri_dup2 h d_Md_isNext_51 rfl rfl ?_
      refine ri_ialdE h _ d_Md_isNext_52 (by first | assumption | exact hS.a32) (by first | rfl | assumption) (by first | assumption | omega) (by first | decide | omega) (by first | assumption | assumption | rfl) ?_
      refine ri_iconstN h 1 d_Md_isNext_53 rfl ?_
      first | refine ri_iaddN h d_Md_isNext_54 ?_ | refine ri_iadd h d_Md_isNext_54 ?_
      refine ri_iast h _ d_Md_isNext_55 (by first | assumption | exact hS.a32) (by first | rfl | assumption) (by first | assumption | omega) (by first | decide | omega) ?_
      refine ri_gH (hS.set_mi 32 rfl _) (fun M hS => ?_)
      refine ri_aload_n h d_Md_isNext_56 rfl ?_
      refine ri_get h d_Md_isNext_57 fl_Md_91 (by first | assumption | exact hS.mo | exact gup_s) (by rfl) ?_
      refine ri_iload_n h d_Md_isNext_60 rfl ?_
      refine ri_ialdE h d d_Md_isNext_61 hS.a32 rfl (by omega) (by decide) (va_up_s (g := N.i 32)) ?_
      refine ri_aload_n h d_Md_isNext_62 rfl ?_
      refine ri_get h d_Md_isNext_63 fl_Md_54 (by first | assumption | exact hS.mo | exact gup_s) (by rfl) ?_
      refine ri_iload_n h d_Md_isNext_66 rfl ?_
      refine ri_ialdE h _ d_Md_isNext_67 (by first | assumption | exact hS.a18) (by first | rfl | assumption) (by first | assumption | omega) (by first | decide | omega) (by first | assumption | exact hm.i18 (by first | assumption | omega) | rfl) ?_
      first | refine ri_icmpN_ge h 73 d_Md_isNext_68 (by decide) (by omega) (by omega) (fun c_68 => ?_) (fun c_68 => ?_) | refine ri_icmp_ge h 73 d_Md_isNext_68 (by decide) (fun c_68 => ?_) (fun c_68 => ?_)
      · first | refine ri_iincN h d_Md_isNext_73 rfl (Nat.le_of_ble_eq_true rfl) ?_ | refine ri_iinc h _ d_Md_isNext_73 rfl rfl (Nat.le_of_ble_eq_true rfl) ?_
        exact ri_ls [(0, .ref (ad 30 0)), (1, .int (nI d)), (2, .int (nI (p + 1)))] ⟨rfl, rfl, rfl, trivial⟩ (LSC (Q.nP - (p + 1)) (p + 1) (by omega) M _ hS (fun set => ((NY.i31 (Nat.le_refl d)).trans (NY.i31 (Nat.le_refl d))).trans (NY.i32 (Nat.le_refl d))) rfl (by simp only [restF]; rw [colsF_n (by omega), rowsF_n (by omega)]; rfl))
      · refine ri_iconstN h 1 d_Md_isNext_71 rfl ?_
        refine ri_zreturn h d_Md_isNext_72 (Nat.le_of_ble_eq_true rfl) (Nat.le_of_ble_eq_true rfl) (by first | rfl | assumption) ?_
        exact ⟨_, hS, fun set => ((NY.i31 (Nat.le_refl d)).trans (NY.i31 (Nat.le_refl d))).trans (NY.i32 (Nat.le_refl d)), rfl, Or.inr ⟨(p, 0, j + 1), rfl, (by simp only [restF]; rw [colsF_n (by omega), List.nil_append, rowsF_c (j := j + 1) (by omega), colsF_c (i := 0) (by omega)]; simp), ⟨u1, va_up_s (g := va_up (N.i 31) d (nI (i + 1))), va_up_s (g := N.i 32), u4, g4.1, (by show j + 1 < (Q.pl p).rows; omega)⟩, hz⟩⟩
    · refine ri_iconstN h 1 d_Md_isNext_37 rfl ?_
      refine ri_zreturn h d_Md_isNext_38 (Nat.le_of_ble_eq_true rfl) (Nat.le_of_ble_eq_true rfl) (by first | rfl | assumption) ?_
      exact ⟨_, hS, fun set => NY.i31 (Nat.le_refl d), rfl, Or.inr ⟨(p, i + 1, j), rfl, (by simp only [restF]; rw [colsF_c (i := i + 1) (by omega)]; simp), ⟨u1, va_up_s (g := N.i 31), u3, u4, (by show i + 1 < (Q.pl p).cols; omega), u6⟩, hz⟩⟩
/-- lay leaves all but the set's rows, the stack, px and py -/
def NZ (set : Nat) (N N' : MS) : Prop := NE N N' ∧ (N'.any = N.any ∧ N'.x0 = N.x0 ∧ N'.y0 = N.y0 ∧ N'.x1 = N.x1 ∧ N'.y1 = N.y1) ∧ (∀ f, (26 ≤ f ∧ f < 29) ∨ 33 ≤ f → N'.i f = N.i f ∧ N'.l f = N.l f) ∧ (∀ j, j < 3000 * set ∨ 3000 * set + 3000 ≤ j → N'.i 24 j = N.i 24 j ∧ N'.i 25 j = N.i 25 j) ∧ ∀ j, j < 72000 * set ∨ 72000 * set + 72000 ≤ j → N'.l 22 j = N.l 22 j ∧ N'.l 23 j = N.l 23 j
theorem NY.nz {set d : Nat} {N N' : MS} (h : NY set d N N') : NZ set N N' := ⟨h.1, h.2.1, h.2.2.1, h.2.2.2.2.2.1, h.2.2.2.2.2.2⟩
theorem NZ.trans {set : Nat} {N N1 N2 : MS} (h : NZ set N N1) (h2 : NZ set N1 N2) : NZ set N N2 := by
  obtain ⟨a1, ⟨a3, a4, a5, a6, a7⟩, a8, a11, a12⟩ := h
  obtain ⟨b1, ⟨b3, b4, b5, b6, b7⟩, b8, b11, b12⟩ := h2
  exact ⟨a1.trans b1, ⟨b3.trans a3, b4.trans a4, b5.trans a5, b6.trans a6, b7.trans a7⟩, fun f hf => ⟨(b8 f hf).1.trans (a8 f hf).1, (b8 f hf).2.trans (a8 f hf).2⟩, fun j hj => ⟨(b11 j hj).1.trans (a11 j hj).1, (b11 j hj).2.trans (a11 j hj).2⟩, fun j hj => ⟨(b12 j hj).1.trans (a12 j hj).1, (b12 j hj).2.trans (a12 j hj).2⟩⟩
theorem cmpS_cong {pl : Nat → PlR} {st st' : Nat → Nat × Nat × Nat} : ∀ d, (∀ j, j < d → st' j = st j) → cmpS pl st' d = cmpS pl st d
  | 0, _ => rfl
  | d + 1, h => by
    unfold cmpS
    rw [cmpS_cong d (fun j hj => h j (by omega)), h d (by omega)]
theorem fLs_ny3 {Q : CS} {N N' : MS} {set d : Nat} {ts : List It} (hX : WX Q) (hset : set < 3) (h : fLs Q N set ts) (hn : ∀ s, NY s d N N') (hl : ts.length ≤ 3000) (hok : ItOk Q ts) : fLs Q N' set ts := by
  refine fLs_cong h (fun i hi => (hn 3).2.2.2.2.2.1 _ (Or.inl (by omega))) (fun i k hi hk => (hn 3).2.2.2.2.2.2 _ (Or.inl (by omega))) (fun i hi => ?_)
  exact (hX _ (hok _ (List.getElem_mem hi)).1).1
theorem k_mlay (h0 : g_0 l D s0) (hS : HS z ad Qc N M) (hm : MR0 Q N) (hW : WB Q) (hL : WL Q) (hX : WX Q) (hC : WSC Q) {set e0 : Nat} {lay : Int32} (hset : set < 3) (he0 : e0 < Q.nC) (hu : ∀ x, x < Q.nC → szR Q (N.l 28) x) (hlen : (FLn Q lay 21 e0 (0, 0, 0)).length ≤ 3000) : Ct l D s0 y_Md_lay (Cond.code y_Md_lay b_Md_lay 5 (some .int)) (rk 5 0 0) [.ref (ad 30 0), .int (nI set), .int (nI e0), .int lay] M (fS (some (.int (nI (FLn Q lay 21 e0 (0, 0, 0)).length))) (fun M' => ∃ N', HS z ad Qc N' M' ∧ NZ set N N' ∧ fLs Q N' set (FLn Q lay 21 e0 (0, 0, 0)))) := by
  have hb1 := hW.1
  have hm0 := hm
  refine Ct.of h0 (by decide +kernel) rfl fun X hX h => ?_
  obtain ⟨p_, l', e_, R_, s_, m_, ar_, be_, me_, c_⟩ := X
  obtain rfl : l' = l := hX
  have A : ∀ (n c d : Nat) (st : Nat → Nat × Nat × Nat) (ts : List It) (M : gH) (N1 : MS), c < Q.nC → rho Q c ≤ n → d + rho Q c ≤ 21 → HS z ad Qc N1 M → NZ set N N1 → N1.depth = nI d → N1.i 29 d = nI c → N1.i 30 d = -1 → StK Q N1 st d → fLs Q N1 set ts → ItOk Q ts → (ts ++ subF Q lay n (cmpS Q.pl st d) (posF Q c 0)).length ≤ 3000 → (∀ (M : gH) (N2 : MS), HS z ad Qc N2 M → NY set d N1 N2 → N2.depth = nI d - nI 1 → fLs Q N2 set (ts ++ subF Q lay n (cmpS Q.pl st d) (posF Q c 0)) → G (gzz D s0 (p_, l', e_, R_, s_, m_, ar_, be_, me_, c_) (rk 5 0 0) (fS (some (.int (nI (FLn Q lay 21 e0 (0, 0, 0)).length))) (fun M' => ∃ N', HS z ad Qc N' M' ∧ NZ set N N' ∧ fLs Q N' set (FLn Q lay 21 e0 (0, 0, 0)))) 5) 28 [(0, .ref (ad 30 0)), (1, .int (nI set)), (3, .int lay), (4, .int (nI (ts ++ subF Q lay n (cmpS Q.pl st d) (posF Q c 0)).length))] [] M 0 0) → G (gzz D s0 (p_, l', e_, R_, s_, m_, ar_, be_, me_, c_) (rk 5 0 0) (fS (some (.int (nI (FLn Q lay 21 e0 (0, 0, 0)).length))) (fun M' => ∃ N', HS z ad Qc N' M' ∧ NZ set N N' ∧ fLs Q N' set (FLn Q lay 21 e0 (0, 0, 0)))) 5) 28 [(0, .ref (ad 30 0)), (1, .int (nI set)), (3, .int lay), (4, .int (nI ts.length))] [] M 0 0 := by
    intro n
    induction n with
    | zero =>
      intro c d st ts M N1 hc hr
      exact absurd hr (by have := rho_pos hc; omega)
    | succ n ih =>
      intro c d st ts M N1 hc hr hd hS hnz hdep h29 h30 hst hf hok hln kk
      have hrc := rho_pos hc
      have B : ∀ (R : List Ps) (cur : Option Ps) (ts' : List It) (M : gH) (N2 : MS), restF Q c cur = R → curOk Q N2 d cur → (∀ x, cur = some x → nzP Q c x.1 = true) → HS z ad Qc N2 M → NY set d N1 N2 → N2.depth = nI d → fLs Q N2 set ts' → ItOk Q ts' → ts' ++ subF Q lay (n + 1) (cmpS Q.pl st d) R = ts ++ subF Q lay (n + 1) (cmpS Q.pl st d) (posF Q c 0) → G (gzz D s0 (p_, l', e_, R_, s_, m_, ar_, be_, me_, c_) (rk 5 0 0) (fS (some (.int (nI (FLn Q lay 21 e0 (0, 0, 0)).length))) (fun M' => ∃ N', HS z ad Qc N' M' ∧ NZ set N N' ∧ fLs Q N' set (FLn Q lay 21 e0 (0, 0, 0)))) 5) 28 [(0, .ref (ad 30 0)), (1, .int (nI set)), (3, .int lay), (4, .int (nI ts'.length))] [] M 0 0 := by
        intro R
        induction R with
        | nil =>
          intro cur ts' M N2 hR hcur hnz2 hS hny hdep hf' hok' heq
          have hm := hm0.ne (hnz.1.trans hny.1)
          have h29' : N2.i 29 d = nI c := (hny.2.2.2.2.1 d (Nat.le_refl _)).trans h29
          have hu' : ∀ x, x < Q.nC → szR Q (N2.l 28) x := fun x hx => by rw [((hnz.trans hny.nz).2.2.1 28 (by omega)).2]; exact hu x hx
          have heq : ts' = ts ++ subF Q lay (n + 1) (cmpS Q.pl st d) (posF Q c 0) := by simpa using heq
          refine ri_aload_n h d_Md_lay_28 rfl ?_
          refine ri_get h d_Md_lay_29 fl_Md_165 hS.mo (v := .int (nI d)) (congrArg (fun x => some (Value.int x)) hdep) ?_
          refine ri_ifN_lt h 119 d_Md_lay_32 (by decide) (by omega) ?_
          refine ri_aload_n h d_Md_lay_35 rfl ?_
          refine ri_aload_n h d_Md_lay_36 rfl ?_
          refine ri_get h d_Md_lay_37 fl_Md_165 (by first | assumption | exact hS.mo | exact gup_s) (by first | exact congrArg (fun x => some (Value.int x)) hdep | rfl) ?_
          refine ri_callV (r := (gR6, gT6, 44)) h [.int (nI d)] [] d_Md_lay_40 cv_Md_177 hS.mo rfl rfl rfl (by decide) (by decide) (by decide) (by decide) (by decide) (k_misnext h0 hS hm hW hL (by omega) hc h29' hu' hcur hnz2) (fun E M' hp => by obtain ⟨N', -, -, -, ⟨-, e⟩ | ⟨x, e, -⟩⟩ := hp <;> cases e) (fun v M hp => ?_)
          obtain ⟨N3, hS, hny3, hdep3, ⟨-, e⟩ | ⟨x, e, hx, -⟩⟩ := hp
          · cases e
            have hdep := hdep3.trans hdep
            refine ri_if_eq h 106 d_Md_lay_43 (by decide) (fun c_43 => ?_) (fun c_43 => absurd rfl c_43)
            refine ri_aload_n h d_Md_lay_106 rfl ?_
            refine ri_dup h d_Md_lay_107 rfl ?_
            refine ri_get h d_Md_lay_108 fl_Md_165 (by first | assumption | exact hS.mo | exact gup_s) (by first | exact congrArg (fun x => some (Value.int x)) hdep | rfl) ?_
            refine ri_iconstN h 1 d_Md_lay_111 rfl ?_
            refine ri_isub h d_Md_lay_112 ?_
            refine ri_pm_depth h d_Md_lay_113 fl_Md_165 hS (fun M hS => ?_)
            refine ri_goto h 28 d_Md_lay_116 (by decide) ?_
            have hf3 : fLs Q N3 set ts' := fLs_ny3 hX hset hf' hny3 (by rw [heq]; exact hln) hok'
            exact ri_ls [(0, .ref (ad 30 0)), (1, .int (nI set)), (3, .int lay), (4, .int (nI (ts ++ subF Q lay (n + 1) (cmpS Q.pl st d) (posF Q c 0)).length))] ⟨rfl, rfl, rfl, by rw [← heq]; rfl, trivial⟩ (kk M _ hS ((hny.trans (hny3 set)).trans NY.dep) rfl (by rw [← heq]; exact hf3))
          · rw [hR] at hx; cases hx
        | cons y R ihR =>
          intro cur ts' M N2 hR hcur hnz2 hS hny hdep hf' hok' heq
          have hm := hm0.ne (hnz.1.trans hny.1)
          have h29' : N2.i 29 d = nI c := (hny.2.2.2.2.1 d (Nat.le_refl _)).trans h29
          have hu' : ∀ x, x < Q.nC → szR Q (N2.l 28) x := fun x hx => by rw [((hnz.trans hny.nz).2.2.1 28 (by omega)).2]; exact hu x hx
          have heq2 : ts' ++ (FLn Q lay (n + 1) (Q.pl y.1).of (nxt (cmpS Q.pl st d) (Q.pl y.1) y.2.1 y.2.2) ++ subF Q lay (n + 1) (cmpS Q.pl st d) R) = ts ++ subF Q lay (n + 1) (cmpS Q.pl st d) (posF Q c 0) := heq
          have hl2 := hln
          rw [← heq2, List.length_append, List.length_append] at hl2
          refine ri_aload_n h d_Md_lay_28 rfl ?_
          refine ri_get h d_Md_lay_29 fl_Md_165 hS.mo (v := .int (nI d)) (congrArg (fun x => some (Value.int x)) hdep) ?_
          refine ri_ifN_lt h 119 d_Md_lay_32 (by decide) (by omega) ?_
          refine ri_aload_n h d_Md_lay_35 rfl ?_
          refine ri_aload_n h d_Md_lay_36 rfl ?_
          refine ri_get h d_Md_lay_37 fl_Md_165 (by first | assumption | exact hS.mo | exact gup_s) (by first | exact congrArg (fun x => some (Value.int x)) hdep | rfl) ?_
          refine ri_callV (r := (gR6, gT6, 44)) h [.int (nI d)] [] d_Md_lay_40 cv_Md_177 hS.mo rfl rfl rfl (by decide) (by decide) (by decide) (by decide) (by decide) (k_misnext h0 hS hm hW hL (by omega) hc h29' hu' hcur hnz2) (fun E M' hp => by obtain ⟨N', -, -, -, ⟨-, e⟩ | ⟨x, e, -⟩⟩ := hp <;> cases e) (fun v M hp => ?_)
          obtain ⟨N3, hS, hny3, hdep3, ⟨e, -⟩ | ⟨x, e, hx, hcx, hzx⟩⟩ := hp
          · rw [hR] at e; cases e
          · cases e
            rw [hR] at hx
            injection hx with hx1 hx2
            subst hx1
            have hdep := hdep3.trans hdep
            have hm := hm.ne (hny3 set).1
            obtain ⟨y1, y2, y3, y4, y5, y6⟩ := hcx
            have hyps : y.1 ∈ (Q.ce c).ps := by
              unfold nzP at hzx
              rw [Bool.and_eq_true, decide_eq_true_iff] at hzx
              exact (hL.ps hc).mpr ⟨y4, hzx.1⟩
            obtain ⟨-, hof, hrof⟩ := hL.mem hc hyps
            have hro := rho_pos hof
            have hy80 : y.1 < 80 := by have := hW.2.2.1; omega
            obtain ⟨-, -, -, gg4, gg5, -⟩ := hL.2.1 _ y4
            refine ri_if_eq h 106 d_Md_lay_43 (by decide) (fun c_43 => absurd c_43 (by decide)) (fun c_43 => ?_)
            refine ri_aload_n h d_Md_lay_46 rfl ?_
            refine ri_get h d_Md_lay_47 fl_Md_82 (by first | assumption | exact hS.mo | exact gup_s) (by rfl) ?_
            refine ri_aload_n h d_Md_lay_50 rfl ?_
            refine ri_get h d_Md_lay_51 fl_Md_165 (by first | assumption | exact hS.mo | exact gup_s) (by first | exact congrArg (fun x => some (Value.int x)) hdep | rfl) ?_
            refine ri_iconstN h 1 d_Md_lay_54 rfl ?_
            first | refine ri_iaddN h d_Md_lay_55 ?_ | refine ri_iadd h d_Md_lay_55 ?_
            refine ri_aload_n h d_Md_lay_56 rfl ?_
            refine ri_get h d_Md_lay_57 fl_Md_39 (by first | assumption | exact hS.mo | exact gup_s) (by rfl) ?_
            refine ri_aload_n h d_Md_lay_60 rfl ?_
            refine ri_get h d_Md_lay_61 fl_Md_85 (by first | assumption | exact hS.mo | exact gup_s) (by rfl) ?_
            refine ri_aload_n h d_Md_lay_64 rfl ?_
            refine ri_get h d_Md_lay_65 fl_Md_165 (by first | assumption | exact hS.mo | exact gup_s) (by first | exact congrArg (fun x => some (Value.int x)) hdep | rfl) ?_
            refine ri_ialdE h _ d_Md_lay_68 (by first | assumption | exact hS.a30) (by first | rfl | assumption) (by first | assumption | omega) (by first | decide | omega) (by first | assumption | assumption | rfl) ?_
            refine ri_ialdE h _ d_Md_lay_69 (by first | assumption | exact hS.a13) (by first | rfl | assumption) (by first | assumption | omega) (by first | decide | omega) (by first | assumption | exact hm.i13 (by first | assumption | omega) | rfl) ?_
            refine ri_iast h _ d_Md_lay_70 (by first | assumption | exact hS.a29) (by first | rfl | assumption) (by first | assumption | omega) (by first | decide | omega) ?_
            refine ri_gH (hS.set_mi 29 rfl _) (fun M hS => ?_)
            refine ri_aload_n h d_Md_lay_71 rfl ?_
            refine ri_get h d_Md_lay_72 fl_Md_85 (by first | assumption | exact hS.mo | exact gup_s) (by rfl) ?_
            refine ri_aload_n h d_Md_lay_75 rfl ?_
            refine ri_get h d_Md_lay_76 fl_Md_165 (by first | assumption | exact hS.mo | exact gup_s) (by first | exact congrArg (fun x => some (Value.int x)) hdep | rfl) ?_
            refine ri_iconstN h 1 d_Md_lay_79 rfl ?_
            first | refine ri_iaddN h d_Md_lay_80 ?_ | refine ri_iadd h d_Md_lay_80 ?_
            refine ri_iconst h (-1) d_Md_lay_81 rfl ?_
            refine ri_iast h _ d_Md_lay_82 (by first | assumption | exact hS.a30) (by first | rfl | assumption) (by first | assumption | omega) (by first | decide | omega) ?_
            refine ri_gH (hS.set_mi 30 rfl _) (fun M hS => ?_)
            refine ri_aload_n h d_Md_lay_83 rfl ?_
            refine ri_dup h d_Md_lay_84 rfl ?_
            refine ri_get h d_Md_lay_85 fl_Md_165 (by first | assumption | exact hS.mo | exact gup_s) (by first | exact congrArg (fun x => some (Value.int x)) hdep | rfl) ?_
            refine ri_iconstN h 1 d_Md_lay_88 rfl ?_
            first | refine ri_iaddN h d_Md_lay_89 ?_ | refine ri_iadd h d_Md_lay_89 ?_
            refine ri_pm_depth h d_Md_lay_90 fl_Md_165 hS (fun M hS => ?_)
            refine ri_aload_n h d_Md_lay_93 rfl ?_
            refine ri_iload_n h d_Md_lay_94 rfl ?_
            refine ri_iload h d_Md_lay_95 rfl ?_
            refine ri_iload_n h d_Md_lay_97 rfl ?_
            have hst' : ∀ N4 : MS, N4.i 30 = va_up (N3.i 30) (d + 1) (-1) → N4.i 31 = N3.i 31 → N4.i 32 = N3.i 32 → StK Q N4 (va_up st d y) (d + 1) := by
              intro N4 w1 w2 w3 j hj
              rw [w1, w2, w3, va_up_n (by omega)]
              rcases (show j < d ∨ j = d by omega) with q | rfl
              · rw [va_up_n (show j ≠ d by omega)]
                obtain ⟨v1, v2, v3, v4⟩ := hst j q
                obtain ⟨p1, p2, p3⟩ := hny.2.2.2.1 j q
                obtain ⟨q1, q2, q3⟩ := (hny3 set).2.2.2.1 j q
                exact ⟨q1.trans (p1.trans v1), q2.trans (p2.trans v2), q3.trans (p3.trans v3), v4⟩
              · rw [va_up_s]
                exact ⟨y1, y2, y3, y4, by omega, by omega⟩
            have hcm : cmpS Q.pl (va_up st d y) (d + 1) = nxt (cmpS Q.pl st d) (Q.pl y.1) y.2.1 y.2.2 := by
              have e1 := cmpS_cong (pl := Q.pl) d (fun j hj => va_up_n (g := st) (v := y) (show j ≠ d by omega))
              show nxt (cmpS Q.pl (va_up st d y) d) (Q.pl (va_up st d y d).1) (va_up st d y d).2.1 (va_up st d y d).2.2 = _
              rw [va_up_s, e1]
            have hny4 := (((hny.trans (hny3 set)).trans (NY.i29 (v := nI (Q.pl y.1).of) (Nat.lt_succ_self d))).trans (NY.i30 (v := -1) (Nat.le_succ d))).trans (NY.dep (v := nI (d + 1)))
            have hm4 := hm0.ne (hnz.1.trans hny4.1)
            have hf4 : fLs Q N3 set ts' := fLs_ny3 hX hset hf' hny3 (by omega) hok'
            have hFe : FLn Q lay (n + 1) (Q.pl y.1).of (nxt (cmpS Q.pl st d) (Q.pl y.1) y.2.1 y.2.2) = ownL Q lay (Q.pl y.1).of (nxt (cmpS Q.pl st d) (Q.pl y.1) y.2.1 y.2.2) ++ subF Q lay n (nxt (cmpS Q.pl st d) (Q.pl y.1) y.2.1 y.2.2) (posF Q (Q.pl y.1).of 0) := rfl
            rw [hFe, List.length_append, List.length_map] at hl2
            refine ri_dVv_3 (r := (gR6, gT6, 44)) h d_Md_lay_98 cv_Md_173 ⟨_, hS.mo⟩ rfl (k_mown (lay := lay) h0 hS hm4 hW hL hX hC hset (show d + 1 < 22 by omega) rfl hof (va_up_s (g := N3.i 29)) (hst' _ rfl rfl rfl) (ts := ts') hf4 hok' (by omega)) (Nat.le_of_ble_eq_true rfl) (Nat.le_of_ble_eq_true rfl) (Nat.le_of_ble_eq_true rfl) (Nat.le_of_ble_eq_true rfl) (Nat.le_of_ble_eq_true rfl) (fun M hS => ?_)
            obtain ⟨N5, hS, hno, hf5⟩ := hS
            refine ri_istore h d_Md_lay_101 (Nat.le_of_ble_eq_true rfl) ?_
            refine ri_goto h 28 d_Md_lay_103 (by decide) ?_
            rw [hcm] at hf5
            have hny5 := hny4.trans (hno.ny (d := d))
            have h295 : N5.i 29 (d + 1) = nI (Q.pl y.1).of := by rw [(hno.2.2.1 29 (by omega)).1]; exact va_up_s (g := N3.i 29)
            have h305 : N5.i 30 (d + 1) = -1 := by rw [(hno.2.2.1 30 (by omega)).1]; exact va_up_s (g := N3.i 30)
            have hst5 : StK Q N5 (va_up st d y) (d + 1) := hst' N5 (hno.2.2.1 30 (by omega)).1 (hno.2.2.1 31 (by omega)).1 (hno.2.2.1 32 (by omega)).1
            have hok5 : ItOk Q (ts' ++ ownL Q lay (Q.pl y.1).of (nxt (cmpS Q.pl st d) (Q.pl y.1) y.2.1 y.2.2)) := by
              intro w hw
              rcases List.mem_append.mp hw with hw | hw
              · exact hok' w hw
              · obtain ⟨s, h1, rfl⟩ := List.mem_map.mp hw
                exact ⟨((hL.ss hof).mp (List.mem_filter.mp h1).1).1, bth_lt _ _⟩
            refine ri_ls [(0, .ref (ad 30 0)), (1, .int (nI set)), (3, .int lay), (4, .int (nI (ts' ++ ownL Q lay (Q.pl y.1).of (nxt (cmpS Q.pl st d) (Q.pl y.1) y.2.1 y.2.2)).length))] ⟨rfl, rfl, rfl, by rw [← hcm]; rfl, trivial⟩ (ih (Q.pl y.1).of (d + 1) (va_up st d y) _ M N5 hof (by omega) (by omega) hS (hnz.trans hny5.nz) (hno.2.1.1.trans rfl) h295 h305 hst5 hf5 hok5 (by rw [hcm, List.length_append, List.length_append, List.length_map]; omega) (fun M N6 hS hny6 hdep6 hf6 => ?_))
            rw [hcm, List.append_assoc, ← hFe] at hf6 ⊢
            refine ihR (some y) (ts' ++ FLn Q lay (n + 1) (Q.pl y.1).of (nxt (cmpS Q.pl st d) (Q.pl y.1) y.2.1 y.2.2)) M N6 hx2.symm ⟨?_, ?_, ?_, y4, y5, y6⟩ (fun w hw => by cases hw; exact hzx) hS (hny5.trans hny6.down) (hdep6.trans (nI_p1 d)) hf6 (fun w hw => ?_) (by rw [List.append_assoc]; exact heq2)
            · rw [(hny6.2.2.2.1 d (by omega)).1, (hno.2.2.1 30 (by omega)).1]
              exact (va_up_n (g := N3.i 30) (by omega)).trans y1
            · rw [(hny6.2.2.2.1 d (by omega)).2.1, (hno.2.2.1 31 (by omega)).1]
              exact y2
            · rw [(hny6.2.2.2.1 d (by omega)).2.2, (hno.2.2.1 32 (by omega)).1]
              exact y3
            · rcases List.mem_append.mp hw with hw | hw
              · exact hok' w hw
              · exact FLn_ok hL hC (n + 1) _ _ hof (bth_lt _ _) w hw
      exact B (posF Q c 0) none ts M N1 rfl h30 (fun x hx => by cases hx) hS NY.refl hdep hf hok rfl
  have hr0 := rho_lt (c := e0) hW
  have hF0 : FLn Q lay 21 e0 (0, 0, 0) = ownL Q lay e0 (0, 0, 0) ++ subF Q lay 20 (0, 0, 0) (posF Q e0 0) := rfl
  have hl0 := hlen
  rw [hF0, List.length_append, List.length_map] at hl0
  refine ri_aload_n h d_Md_lay_0 rfl ?_
  refine ri_iconstN h 0 d_Md_lay_1 rfl ?_
  refine ri_pm_depth h d_Md_lay_2 fl_Md_165 hS (fun M hS => ?_)
  refine ri_aload_n h d_Md_lay_5 rfl ?_
  refine ri_get h d_Md_lay_6 fl_Md_82 (by first | assumption | exact hS.mo | exact gup_s) (by rfl) ?_
  refine ri_iconstN h 0 d_Md_lay_9 rfl ?_
  refine ri_iload_n h d_Md_lay_10 rfl ?_
  refine ri_iast h _ d_Md_lay_11 (by first | assumption | exact hS.a29) (by first | rfl | assumption) (by first | assumption | omega) (by first | decide | omega) ?_
  refine ri_gH (hS.set_mi 29 rfl _) (fun M hS => ?_)
  refine ri_aload_n h d_Md_lay_12 rfl ?_
  refine ri_get h d_Md_lay_13 fl_Md_85 (by first | assumption | exact hS.mo | exact gup_s) (by rfl) ?_
  refine ri_iconstN h 0 d_Md_lay_16 rfl ?_
  refine ri_iconst h (-1) d_Md_lay_17 rfl ?_
  refine ri_iast h _ d_Md_lay_18 (by first | assumption | exact hS.a30) (by first | rfl | assumption) (by first | assumption | omega) (by first | decide | omega) ?_
  refine ri_gH (hS.set_mi 30 rfl _) (fun M hS => ?_)
  refine ri_aload_n h d_Md_lay_19 rfl ?_
  refine ri_iload_n h d_Md_lay_20 rfl ?_
  refine ri_iconstN h 0 d_Md_lay_21 rfl ?_
  refine ri_iload_n h d_Md_lay_22 rfl ?_
  refine ri_dVv_3 (r := (gR6, gT6, 44)) h d_Md_lay_23 cv_Md_173 ⟨_, hS.mo⟩ rfl (k_mown (lay := lay) (st := fun _ => (0, 0, 0)) (d := 0) (ts := []) h0 hS (hm0.ne ((NE.i 29 (by decide) _).trans (NE.i 30 (by decide) _))) hW hL hX hC hset (by decide) rfl he0 rfl (fun j hj => absurd hj (Nat.not_lt_zero j)) (fun i hi => absurd hi (Nat.not_lt_zero i)) (fun w hw => absurd hw (by simp)) (by simpa using (show ((Q.ce e0).ss.filter (fun s => onB (Q.sh s) lay)).length ≤ 3000 by omega))) (Nat.le_of_ble_eq_true rfl) (Nat.le_of_ble_eq_true rfl) (Nat.le_of_ble_eq_true rfl) (Nat.le_of_ble_eq_true rfl) (Nat.le_of_ble_eq_true rfl) (fun M hS => ?_)
  obtain ⟨N5, hS, hno, hf5⟩ := hS
  rw [List.nil_append] at hf5
  refine ri_istore h d_Md_lay_26 (Nat.le_of_ble_eq_true rfl) ?_
  have hnz5 : NZ set N N5 := NZ.trans ⟨(NE.i 29 (by decide) _).trans (NE.i 30 (by decide) _), ⟨rfl, rfl, rfl, rfl, rfl⟩, fun f hf => ⟨(va_up_n (by omega)).trans (va_up_n (by omega)), rfl⟩, fun _ _ => ⟨rfl, rfl⟩, fun _ _ => ⟨rfl, rfl⟩⟩ (hno.ny (d := 0)).nz
  refine ri_ls [(0, .ref (ad 30 0)), (1, .int (nI set)), (3, .int lay), (4, .int (nI (ownL Q lay e0 (0, 0, 0)).length))] ⟨rfl, rfl, rfl, rfl, trivial⟩ (A 20 e0 0 (fun _ => (0, 0, 0)) _ M N5 he0 (by omega) (by omega) hS hnz5 (hno.2.1.1.trans rfl) (by rw [(hno.2.2.1 29 (by omega)).1]; rfl) (by rw [(hno.2.2.1 30 (by omega)).1]; rfl) (fun j hj => absurd hj (Nat.not_lt_zero j)) hf5 (fun w hw => FLn_ok hL hC 21 e0 (0, 0, 0) he0 (by decide) w (by rw [hF0]; exact List.mem_append_left _ hw)) hlen (fun M N6 hS hny6 hdep6 hf6 => ?_))
  refine ri_aload_n h d_Md_lay_28 rfl ?_
  refine ri_get h d_Md_lay_29 fl_Md_165 hS.mo (v := .int (nI 0 - nI 1)) (congrArg (fun x => some (Value.int x)) hdep6) ?_
  refine ri_if_lt h 119 d_Md_lay_32 (by decide) (fun c_32 => ?_) (fun c_32 => absurd (by decide) c_32)
  refine ri_iload h d_Md_lay_119 rfl ?_
  refine ri_ireturn h d_Md_lay_121 (Nat.le_of_ble_eq_true rfl) (Nat.le_of_ble_eq_true rfl) ?_
  exact ⟨rfl, N6, hS, hnz5.trans hny6.nz, hf6⟩
end ISN
