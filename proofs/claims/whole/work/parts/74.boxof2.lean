/-! boxOf: the box of a flat shape, held too -/
abbrev mst (N : MS) (b : BxR) (e : Int32) : MS := ((((N.set_x0 b.x0).set_y0 b.y0).set_x1 b.x1).set_y1 b.y1).set_any e
/-- the points of a flat shape -/
def IPt (Q : CS) (t : It) : Pts := TIm t.2.1 t.2.2.1.toInt t.2.2.2.toInt (SPt (Q.sh t.1))
abbrev Big (x : Int64) : Prop := -900000000000 ≤ x.toInt ∧ x.toInt ≤ 900000000000
theorem flat_i {r : ShR} {k tu : Nat} {X Y : Int64} (hn : nearB (r.xs k) ∧ nearB (r.ys k)) (ht : tu < 8) (hX : Big X) (hY : Big Y) : (X + tX tu (r.xs k) (r.ys k)).toInt = X.toInt + tXi tu (r.xs k).toInt (r.ys k).toInt ∧ (Y + tY tu (r.xs k) (r.ys k)).toInt = Y.toInt + tYi tu (r.xs k).toInt (r.ys k).toInt ∧ (-1000000000000 ≤ (X + tX tu (r.xs k) (r.ys k)).toInt ∧ (X + tX tu (r.xs k) (r.ys k)).toInt ≤ 1000000000000) ∧ (-1000000000000 ≤ (Y + tY tu (r.xs k) (r.ys k)).toInt ∧ (Y + tY tu (r.xs k) (r.ys k)).toInt ≤ 1000000000000) := by
  have n1 := near_i hn.1
  have n2 := near_i hn.2
  have e := t_tX ht (x := r.xs k) (y := r.ys k) (by omega) (by omega) (by omega) (by omega)
  have b := tXi_b ht (B := 1000000) ⟨n1.1, n1.2, n2.1, n2.2⟩
  have e1 : (X + tX tu (r.xs k) (r.ys k)).toInt = X.toInt + (tX tu (r.xs k) (r.ys k)).toInt := t_add (by rw [e.1]; omega) (by rw [e.1]; omega)
  have e2 : (Y + tY tu (r.xs k) (r.ys k)).toInt = Y.toInt + (tY tu (r.xs k) (r.ys k)).toInt := t_add (by rw [e.2]; omega) (by rw [e.2]; omega)
  rw [e1, e2, e.1, e.2]
  refine ⟨rfl, rfl, by omega, by omega⟩
theorem pcB_n (q : BxR) (ax ay bx by_ h m e : Int64) : (pcB q ax ay bx by_ h m e).n = 0 := by
  unfold pcB
  split <;> rfl
section BOF
variable {l : Launch} {D : gD} {s0 : State} {M : gH} {z : Nat} {ad : gA} {Q Qc : CS} {N : MS}
abbrev boP (z : Nat) (ad : gA) (Q Qc : CS) (N : MS) (t : It) (P : Pts) : gR → gH → Prop := fS none (fun M' => ∃ (b : BxR) (e : Int32), HS z ad Qc (mst N b e) M' ∧ (e = 0 ∨ e = 1) ∧ HB (mbx (mst N b e)) (fun x y => P x y ∨ IPt Q t x y))
theorem k_mboxOf (h0 : g_0 l D s0) (hS : HS z ad Qc N M) (hm : MR0 Q N) (hW : WB Q) (hX : WX Q) {set i : Nat} {t : It} (hset : set < 3) (hi : i < 3000) (hf : fIt Q N set i t) (hs : t.1 < Q.nS) (ht : t.2.1 < 8) (hwp : WPt (Q.sh t.1)) (hXb : Big t.2.2.1) (hYb : Big t.2.2.2) (ha : N.any = 0 ∨ N.any = 1) {P : Pts} (hb : HB (mbx N) P) : Ct l D s0 y_Md_boxOf (Cond.code y_Md_boxOf b_Md_boxOf 13 none) (rk 3 0 0) [.ref (ad 30 0), .int (nI set), .int (nI i)] M (boP z ad Q Qc N t P) := by
  have hb2 := hW.2.1
  have hc24 := (hX _ hs).1
  obtain ⟨f24, f25, fxy⟩ := hf
  have hs120 : t.1 < 120 := by omega
  have i5 := hm.i5 hs
  have i6 := hm.i6 hs
  refine Ct.of h0 (by decide +kernel) rfl fun X hX h => ?_
  obtain ⟨p_, l', e_, R_, s_, m_, ar_, be_, me_, c_⟩ := X
  obtain rfl : l' = l := hX
  by_cases hw : 0 < (Q.sh t.1).w
  · have hwd : wideB (Q.sh t.1).w := by
      rcases hwp.2.1 with q | q
      · rw [q] at hw; exact absurd hw (by decide)
      · exact q
    have hh := half_i hwd
    have hh0 : ¬ (Q.sh t.1).w / 2 = 0 := by
      intro e
      rw [e] at hh
      exact absurd hh.2.1 (by decide)
    have LP : ∀ (q k : Nat), k + q = (Q.sh t.1).cnt → ∀ (M : gH) (b : BxR) (e : Int32), HS z ad Qc (mst N b e) M → (e = 0 ∨ e = 1) → HB (mbx (mst N b e)) (fun x y => P x y ∨ ∃ k', 1 ≤ k' ∧ k' < k ∧ TIm t.2.1 t.2.2.1.toInt t.2.2.2.toInt (PcP (Q.sh t.1) k') x y) → G (gzz D s0 (p_, l', e_, R_, s_, m_, ar_, be_, me_, c_) (rk 3 0 0) (boP z ad Q Qc N t P) 13) 53 [(0, .ref (ad 30 0)), (3, .int (nI t.1)), (4, .int (nI (72000 * set + 24 * i))), (5, .int (nI (Q.sh t.1).cnt)), (6, .long ((Q.sh t.1).w / 2)), (8, .int (nI k))] [] M 0 0 := by
      intro q
      induction q with
      | zero =>
        intro k hk M b e hS he hb'
        obtain rfl : k = (Q.sh t.1).cnt := by omega
        refine ri_iload h d_Md_boxOf_53 rfl ?_
        refine ri_iload h d_Md_boxOf_55 rfl ?_
        first | refine ri_icmpN_ge h 210 d_Md_boxOf_57 (by decide) (by omega) (by omega) (fun c_57 => ?_) (fun c_57 => ?_) | refine ri_icmp_ge h 210 d_Md_boxOf_57 (by decide) (fun c_57 => ?_) (fun c_57 => ?_)
        · refine ri_return h d_Md_boxOf_210 (Nat.le_of_ble_eq_true rfl) (Nat.le_of_ble_eq_true rfl) ?_
          refine ⟨rfl, b, e, hS, he, hb'.cong fun x y => or_congr Iff.rfl ⟨?_, ?_⟩⟩
          · rintro ⟨k', h1, h2, x', y', h3, rfl, rfl⟩
            exact ⟨x', y', Or.inl ⟨hw, k', h1, h2, h3⟩, rfl, rfl⟩
          · rintro ⟨x', y', h3, rfl, rfl⟩
            rcases h3 with ⟨-, k', h1, h2, h3⟩ | ⟨h3, -⟩
            · exact ⟨k', h1, h2, x', y', h3, rfl, rfl⟩
            · exact absurd hw h3
        · omega
      | succ q ih =>
        intro k hk M b e hS he hb'
        have hkc : k < (Q.sh t.1).cnt := by omega
        by_cases hk0 : k = 0
        · subst hk0
          refine ri_iload h d_Md_boxOf_53 rfl ?_
          refine ri_iload h d_Md_boxOf_55 rfl ?_
          first | refine ri_icmpN_ge h 210 d_Md_boxOf_57 (by decide) (by omega) (by omega) (fun c_57 => ?_) (fun c_57 => ?_) | refine ri_icmp_ge h 210 d_Md_boxOf_57 (by decide) (fun c_57 => ?_) (fun c_57 => ?_)
          · first | omega | exact absurd c_57 hh0
          · refine ri_lload h d_Md_boxOf_60 rfl ?_
            refine ri_lconst h 0 d_Md_boxOf_62 rfl ?_
            refine ri_lcmp_ne h 94 d_Md_boxOf_63 d_Md_boxOf_64 (by decide) (fun c_63 => ?_) (fun c_63 => ?_)
            · refine ri_iload h d_Md_boxOf_94 rfl ?_
              first | refine ri_ifN_le h 204 d_Md_boxOf_96 (by decide) (by omega) (fun c_96 => ?_) (fun c_96 => ?_) | refine ri_if_le h 204 d_Md_boxOf_96 (by decide) (fun c_96 => ?_) (fun c_96 => ?_)
              · first | refine ri_iincN h d_Md_boxOf_204 rfl (Nat.le_of_ble_eq_true rfl) ?_ | refine ri_iinc h _ d_Md_boxOf_204 rfl rfl (Nat.le_of_ble_eq_true rfl) ?_
                refine ri_goto h 53 d_Md_boxOf_207 (by decide) ?_
                exact ri_ls [(0, .ref (ad 30 0)), (3, .int (nI t.1)), (4, .int (nI (72000 * set + 24 * i))), (5, .int (nI (Q.sh t.1).cnt)), (6, .long ((Q.sh t.1).w / 2)), (8, .int (nI (0 + 1)))] ⟨rfl, rfl, rfl, rfl, rfl, rfl, trivial⟩ (ih (0 + 1) (by omega) M b e hS he (hb'.cong fun x y => or_congr Iff.rfl ⟨fun ⟨k', h1, h2, _⟩ => by omega, fun ⟨k', h1, h2, _⟩ => by omega⟩))
              · first | omega | exact absurd c_96 hh0
            · first | omega | exact absurd c_63 hh0
        · have hx := fxy k hkc
          have hy := fxy (k - 1) (by omega)
          have f22 : N.l 22 (72000 * set + 24 * i + k) = t.2.2.1 + tX t.2.1 ((Q.sh t.1).xs k) ((Q.sh t.1).ys k) := hx.1
          have f23 : N.l 23 (72000 * set + 24 * i + k) = t.2.2.2 + tY t.2.1 ((Q.sh t.1).xs k) ((Q.sh t.1).ys k) := hx.2
          have f22' : N.l 22 (72000 * set + 24 * i + k - 1) = t.2.2.1 + tX t.2.1 ((Q.sh t.1).xs (k - 1)) ((Q.sh t.1).ys (k - 1)) := by rw [show 72000 * set + 24 * i + k - 1 = 72000 * set + 24 * i + (k - 1) by omega]; exact hy.1
          have f23' : N.l 23 (72000 * set + 24 * i + k - 1) = t.2.2.2 + tY t.2.1 ((Q.sh t.1).xs (k - 1)) ((Q.sh t.1).ys (k - 1)) := by rw [show 72000 * set + 24 * i + k - 1 = 72000 * set + 24 * i + (k - 1) by omega]; exact hy.2
          have v1 := flat_i (hwp.1 k hkc) ht hXb hYb
          have v2 := flat_i (hwp.1 (k - 1) (by omega)) ht hXb hYb
          have bf := bf_i (r := Q.sh t.1) (k := k) hwd
          have bh := bh_i (r := Q.sh t.1) (k := k) hwd
          have tw := two_t hwp hw (by omega) hkc ht t.2.2.1.toInt t.2.2.2.toInt
          have hq := hb'.pieceB v2.2.2.1 v2.2.2.2 v1.2.2.1 v1.2.2.2 ⟨Int.le_trans (by decide) hh.2.1, hh.2.2⟩ bf.2 bh.2
          rw [v1.1, v1.2.1, v2.1, v2.2.1] at hq
          have KHB := (hq.ext (P' := fun x y => P x y ∨ ∃ k', 1 ≤ k' ∧ k' < k + 1 ∧ TIm t.2.1 t.2.2.1.toInt t.2.2.2.toInt (PcP (Q.sh t.1) k') x y) (fun x y h => by
            rcases h with (h | ⟨k', g1, g2, g3⟩) | h
            · exact Or.inl h
            · exact Or.inr ⟨k', g1, by omega, g3⟩
            · exact Or.inr ⟨k, by omega, by omega, tw.1 x y h⟩) (fun x y h => by
            rcases h with h | ⟨k', g1, g2, g3⟩
            · exact ⟨⟨y, Or.inl (Or.inl h)⟩, ⟨x, Or.inl (Or.inl h)⟩⟩
            · rcases (show k' < k ∨ k' = k by omega) with q | rfl
              · exact ⟨⟨y, Or.inl (Or.inr ⟨k', g1, q, g3⟩)⟩, ⟨x, Or.inl (Or.inr ⟨k', g1, q, g3⟩)⟩⟩
              · obtain ⟨⟨y', w1⟩, ⟨x', w2⟩⟩ := tw.2 x y g3
                exact ⟨⟨y', Or.inr w1⟩, ⟨x', Or.inr w2⟩⟩))
          have J148 : ∀ v, v = pBehind (Q.sh t.1) k → G (gzz D s0 (p_, l', e_, R_, s_, m_, ar_, be_, me_, c_) (rk 3 0 0) (boP z ad Q Qc N t P) 13) 148 [(0, .ref (ad 30 0)), (3, .int (nI t.1)), (4, .int (nI (72000 * set + 24 * i))), (5, .int (nI (Q.sh t.1).cnt)), (6, .long ((Q.sh t.1).w / 2)), (8, .int (nI k)), (9, .long (pBefore (Q.sh t.1) k))] [.long v] M 0 0 := by
            intro v hv
            subst hv
            clear bf bh v1 v2 tw hb' hq
            refine ri_lstore h d_Md_boxOf_148 (Nat.le_of_ble_eq_true rfl) ?_
            refine ri_aload_n h d_Md_boxOf_150 rfl ?_
            refine ri_aload_n h d_Md_boxOf_151 rfl ?_
            refine ri_get h d_Md_boxOf_152 fl_Md_64 (by first | assumption | exact hS.mo | exact gup_s) (by rfl) ?_
            refine ri_iload h d_Md_boxOf_155 rfl ?_
            refine ri_iload h d_Md_boxOf_157 rfl ?_
            first | refine ri_iaddN h d_Md_boxOf_159 ?_ | refine ri_iadd h d_Md_boxOf_159 ?_
            refine ri_iconstN h 1 d_Md_boxOf_160 rfl ?_
            first | refine ri_isubN h d_Md_boxOf_161 (by first | omega | exact Nat.le_add_left _ _) ?_ | refine ri_isub h d_Md_boxOf_161 ?_
            refine ri_laldE h _ d_Md_boxOf_162 (by first | assumption | exact hS.a22) (by first | rfl | assumption) (by first | assumption | omega) (by first | decide | omega) (by first | assumption | exact hm.i22 (by first | assumption | omega) (by first | assumption | omega) | rfl) ?_
            refine ri_aload_n h d_Md_boxOf_163 rfl ?_
            refine ri_get h d_Md_boxOf_164 fl_Md_67 (by first | assumption | exact hS.mo | exact gup_s) (by rfl) ?_
            refine ri_iload h d_Md_boxOf_167 rfl ?_
            refine ri_iload h d_Md_boxOf_169 rfl ?_
            first | refine ri_iaddN h d_Md_boxOf_171 ?_ | refine ri_iadd h d_Md_boxOf_171 ?_
            refine ri_iconstN h 1 d_Md_boxOf_172 rfl ?_
            first | refine ri_isubN h d_Md_boxOf_173 (by first | omega | exact Nat.le_add_left _ _) ?_ | refine ri_isub h d_Md_boxOf_173 ?_
            refine ri_laldE h _ d_Md_boxOf_174 (by first | assumption | exact hS.a23) (by first | rfl | assumption) (by first | assumption | omega) (by first | decide | omega) (by first | assumption | exact hm.i23 (by first | assumption | omega) (by first | assumption | omega) | rfl) ?_
            refine ri_aload_n h d_Md_boxOf_175 rfl ?_
            refine ri_get h d_Md_boxOf_176 fl_Md_64 (by first | assumption | exact hS.mo | exact gup_s) (by rfl) ?_
            refine ri_iload h d_Md_boxOf_179 rfl ?_
            refine ri_iload h d_Md_boxOf_181 rfl ?_
            first | refine ri_iaddN h d_Md_boxOf_183 ?_ | refine ri_iadd h d_Md_boxOf_183 ?_
            refine ri_laldE h _ d_Md_boxOf_184 (by first | assumption | exact hS.a22) (by first | rfl | assumption) (by first | assumption | omega) (by first | decide | omega) (by first | assumption | exact hm.i22 (by first | assumption | omega) (by first | assumption | omega) | rfl) ?_
            refine ri_aload_n h d_Md_boxOf_185 rfl ?_
            refine ri_get h d_Md_boxOf_186 fl_Md_67 (by first | assumption | exact hS.mo | exact gup_s) (by rfl) ?_
            refine ri_iload h d_Md_boxOf_189 rfl ?_
            refine ri_iload h d_Md_boxOf_191 rfl ?_
            first | refine ri_iaddN h d_Md_boxOf_193 ?_ | refine ri_iadd h d_Md_boxOf_193 ?_
            refine ri_laldE h _ d_Md_boxOf_194 (by first | assumption | exact hS.a23) (by first | rfl | assumption) (by first | assumption | omega) (by first | decide | omega) (by first | assumption | exact hm.i23 (by first | assumption | omega) (by first | assumption | omega) | rfl) ?_
            refine ri_lload h d_Md_boxOf_195 rfl ?_
            refine ri_lload h d_Md_boxOf_197 rfl ?_
            refine ri_lload h d_Md_boxOf_199 rfl ?_
            refine ri_dV0_7 (r := (gR6, gT6, 44)) h d_Md_boxOf_201 cv_Md_213 (by first | exact hS.lcO | exact hS.lsO | exact hS.lpO | exact hS.cesO (by first | assumption | omega) | exact hS.cepO (by first | assumption | omega) | exact ⟨_, (by first | assumption | exact hS.st | exact hS.mo | exact hS.out | exact hS.sb | exact hS.ce (by first | assumption | omega) | exact hS.ceb (by first | assumption | omega) | exact hS.sh (by first | assumption | omega) | exact hS.shb (by first | assumption | omega) | exact hS.pl (by first | assumption | omega) | exact hS.plb (by first | assumption | omega) | exact hS.fl (by first | assumption | omega) | exact gup_s | (refine gup_t (by assumption) ?_; first | assumption | exact gup_s | (refine gup_t (by assumption) ?_; first | assumption | exact gup_s | (refine gup_t (by assumption) ?_; first | assumption | exact gup_s))))⟩) rfl (k_mpiece h0 hS he) (Nat.le_of_ble_eq_true rfl) (Nat.le_of_ble_eq_true rfl) (Nat.le_of_ble_eq_true rfl) (Nat.le_of_ble_eq_true rfl) (Nat.le_of_ble_eq_true rfl) (fun M hS => ?_)
            first | refine ri_iincN h d_Md_boxOf_204 rfl (Nat.le_of_ble_eq_true rfl) ?_ | refine ri_iinc h _ d_Md_boxOf_204 rfl rfl (Nat.le_of_ble_eq_true rfl) ?_
            refine ri_goto h 53 d_Md_boxOf_207 (by decide) ?_
            refine ri_ls [(0, .ref (ad 30 0)), (3, .int (nI t.1)), (4, .int (nI (72000 * set + 24 * i))), (5, .int (nI (Q.sh t.1).cnt)), (6, .long ((Q.sh t.1).w / 2)), (8, .int (nI (k + 1)))] ⟨rfl, rfl, rfl, rfl, rfl, rfl, trivial⟩ (ih (k + 1) (by omega) M _ 1 hS (Or.inr rfl) ?_)
            rw [show mbx (mst N _ 1) = _ from mbx_s (pcB_n _ _ _ _ _ _ _ _)]
            exact KHB
          have J121 : ∀ v, v = pBefore (Q.sh t.1) k → G (gzz D s0 (p_, l', e_, R_, s_, m_, ar_, be_, me_, c_) (rk 3 0 0) (boP z ad Q Qc N t P) 13) 121 [(0, .ref (ad 30 0)), (3, .int (nI t.1)), (4, .int (nI (72000 * set + 24 * i))), (5, .int (nI (Q.sh t.1).cnt)), (6, .long ((Q.sh t.1).w / 2)), (8, .int (nI k))] [.long v] M 0 0 := by
            intro v hv
            subst hv
            refine ri_lstore h d_Md_boxOf_121 (Nat.le_of_ble_eq_true rfl) ?_
            refine ri_iload h d_Md_boxOf_123 rfl ?_
            refine ri_iload h d_Md_boxOf_125 rfl ?_
            refine ri_iconstN h 1 d_Md_boxOf_127 rfl ?_
            first | refine ri_isubN h d_Md_boxOf_128 (by first | omega | exact Nat.le_add_left _ _) ?_ | refine ri_isub h d_Md_boxOf_128 ?_
            first | refine ri_icmpN_ne h 147 d_Md_boxOf_129 (by decide) (by omega) (by omega) (fun c_129 => ?_) (fun c_129 => ?_) | refine ri_icmp_ne h 147 d_Md_boxOf_129 (by decide) (fun c_129 => ?_) (fun c_129 => ?_)
            · refine ri_lconst h 0 d_Md_boxOf_147 rfl ?_
              exact ri_ls [(0, .ref (ad 30 0)), (3, .int (nI t.1)), (4, .int (nI (72000 * set + 24 * i))), (5, .int (nI (Q.sh t.1).cnt)), (6, .long ((Q.sh t.1).w / 2)), (8, .int (nI k)), (9, .long (pBefore (Q.sh t.1) k))] ⟨rfl, rfl, rfl, rfl, rfl, rfl, rfl, trivial⟩ (J148 _ (by first | exact (if_pos ⟨c_139, c_129⟩).symm | exact (if_neg (fun q => c_139 q.1)).symm | exact (if_neg (fun q => c_129 q.2)).symm))
            · refine ri_aload_n h d_Md_boxOf_132 rfl ?_
              refine ri_get h d_Md_boxOf_133 fl_Md_20 (by first | assumption | exact hS.mo | exact gup_s) (by rfl) ?_
              refine ri_iload_n h d_Md_boxOf_136 rfl ?_
              refine ri_ialdE h _ d_Md_boxOf_137 (by first | assumption | exact hS.a6) (by first | rfl | assumption) (by first | assumption | omega) (by first | decide | omega) (by first | assumption | exact hm.i6 (by first | assumption | omega) | rfl) ?_
              refine ri_iconstN h 1 d_Md_boxOf_138 rfl ?_
              refine ri_icmp_ne h 147 d_Md_boxOf_139 (by decide) (fun c_139 => ?_) (fun c_139 => ?_)
              · refine ri_lconst h 0 d_Md_boxOf_147 rfl ?_
                exact ri_ls [(0, .ref (ad 30 0)), (3, .int (nI t.1)), (4, .int (nI (72000 * set + 24 * i))), (5, .int (nI (Q.sh t.1).cnt)), (6, .long ((Q.sh t.1).w / 2)), (8, .int (nI k)), (9, .long (pBefore (Q.sh t.1) k))] ⟨rfl, rfl, rfl, rfl, rfl, rfl, rfl, trivial⟩ (J148 _ (by first | exact (if_pos ⟨c_139, c_129⟩).symm | exact (if_neg (fun q => c_139 q.1)).symm | exact (if_neg (fun q => c_129 q.2)).symm))
              · refine ri_lload h d_Md_boxOf_142 rfl ?_
                refine ri_goto h 148 d_Md_boxOf_144 (by decide) ?_
                exact ri_ls [(0, .ref (ad 30 0)), (3, .int (nI t.1)), (4, .int (nI (72000 * set + 24 * i))), (5, .int (nI (Q.sh t.1).cnt)), (6, .long ((Q.sh t.1).w / 2)), (8, .int (nI k)), (9, .long (pBefore (Q.sh t.1) k))] ⟨rfl, rfl, rfl, rfl, rfl, rfl, rfl, trivial⟩ (J148 _ (by first | exact (if_pos ⟨c_139, c_129⟩).symm | exact (if_neg (fun q => c_139 q.1)).symm | exact (if_neg (fun q => c_129 q.2)).symm))
          refine ri_iload h d_Md_boxOf_53 rfl ?_
          refine ri_iload h d_Md_boxOf_55 rfl ?_
          first | refine ri_icmpN_ge h 210 d_Md_boxOf_57 (by decide) (by omega) (by omega) (fun c_57 => ?_) (fun c_57 => ?_) | refine ri_icmp_ge h 210 d_Md_boxOf_57 (by decide) (fun c_57 => ?_) (fun c_57 => ?_)
          · first | omega | exact absurd c_57 hh0
          · refine ri_lload h d_Md_boxOf_60 rfl ?_
            refine ri_lconst h 0 d_Md_boxOf_62 rfl ?_
            refine ri_lcmp_ne h 94 d_Md_boxOf_63 d_Md_boxOf_64 (by decide) (fun c_63 => ?_) (fun c_63 => ?_)
            · refine ri_iload h d_Md_boxOf_94 rfl ?_
              first | refine ri_ifN_le h 204 d_Md_boxOf_96 (by decide) (by omega) (fun c_96 => ?_) (fun c_96 => ?_) | refine ri_if_le h 204 d_Md_boxOf_96 (by decide) (fun c_96 => ?_) (fun c_96 => ?_)
              · first | omega | exact absurd c_96 hh0
              · refine ri_iload h d_Md_boxOf_99 rfl ?_
                refine ri_iconstN h 1 d_Md_boxOf_101 rfl ?_
                first | refine ri_icmpN_ne h 120 d_Md_boxOf_102 (by decide) (by omega) (by omega) (fun c_102 => ?_) (fun c_102 => ?_) | refine ri_icmp_ne h 120 d_Md_boxOf_102 (by decide) (fun c_102 => ?_) (fun c_102 => ?_)
                · refine ri_lconst h 0 d_Md_boxOf_120 rfl ?_
                  exact ri_ls [(0, .ref (ad 30 0)), (3, .int (nI t.1)), (4, .int (nI (72000 * set + 24 * i))), (5, .int (nI (Q.sh t.1).cnt)), (6, .long ((Q.sh t.1).w / 2)), (8, .int (nI k))] ⟨rfl, rfl, rfl, rfl, rfl, rfl, trivial⟩ (J121 _ (by first | exact (if_pos ⟨c_112, c_102⟩).symm | exact (if_neg (fun q => c_112 q.1)).symm | exact (if_neg (fun q => c_102 q.2)).symm))
                · refine ri_aload_n h d_Md_boxOf_105 rfl ?_
                  refine ri_get h d_Md_boxOf_106 fl_Md_20 (by first | assumption | exact hS.mo | exact gup_s) (by rfl) ?_
                  refine ri_iload_n h d_Md_boxOf_109 rfl ?_
                  refine ri_ialdE h _ d_Md_boxOf_110 (by first | assumption | exact hS.a6) (by first | rfl | assumption) (by first | assumption | omega) (by first | decide | omega) (by first | assumption | exact hm.i6 (by first | assumption | omega) | rfl) ?_
                  refine ri_iconstN h 1 d_Md_boxOf_111 rfl ?_
                  refine ri_icmp_ne h 120 d_Md_boxOf_112 (by decide) (fun c_112 => ?_) (fun c_112 => ?_)
                  · refine ri_lconst h 0 d_Md_boxOf_120 rfl ?_
                    exact ri_ls [(0, .ref (ad 30 0)), (3, .int (nI t.1)), (4, .int (nI (72000 * set + 24 * i))), (5, .int (nI (Q.sh t.1).cnt)), (6, .long ((Q.sh t.1).w / 2)), (8, .int (nI k))] ⟨rfl, rfl, rfl, rfl, rfl, rfl, trivial⟩ (J121 _ (by first | exact (if_pos ⟨c_112, c_102⟩).symm | exact (if_neg (fun q => c_112 q.1)).symm | exact (if_neg (fun q => c_102 q.2)).symm))
                  · refine ri_lload h d_Md_boxOf_115 rfl ?_
                    refine ri_goto h 121 d_Md_boxOf_117 (by decide) ?_
                    exact ri_ls [(0, .ref (ad 30 0)), (3, .int (nI t.1)), (4, .int (nI (72000 * set + 24 * i))), (5, .int (nI (Q.sh t.1).cnt)), (6, .long ((Q.sh t.1).w / 2)), (8, .int (nI k))] ⟨rfl, rfl, rfl, rfl, rfl, rfl, trivial⟩ (J121 _ (by first | exact (if_pos ⟨c_112, c_102⟩).symm | exact (if_neg (fun q => c_112 q.1)).symm | exact (if_neg (fun q => c_102 q.2)).symm))
            · first | omega | exact absurd c_63 hh0
    refine ri_aload_n h d_Md_boxOf_0 rfl ?_
    refine ri_get h d_Md_boxOf_1 fl_Md_70 (by first | assumption | exact hS.mo | exact gup_s) (by rfl) ?_
    refine ri_sipushN h 3000 d_Md_boxOf_4 rfl ?_
    refine ri_iload_n h d_Md_boxOf_7 rfl ?_
    first | refine ri_imulN h d_Md_boxOf_8 ?_ | refine ri_imul h d_Md_boxOf_8 ?_
    refine ri_iload_n h d_Md_boxOf_9 rfl ?_
    first | refine ri_iaddN h d_Md_boxOf_10 ?_ | refine ri_iadd h d_Md_boxOf_10 ?_
    refine ri_ialdE h _ d_Md_boxOf_11 (by first | assumption | exact hS.a24) (by first | rfl | assumption) (by first | assumption | omega) (by first | decide | omega) (by first | assumption | assumption | rfl) ?_
    refine ri_istore_n h d_Md_boxOf_12 (Nat.le_of_ble_eq_true rfl) ?_
    refine ri_ldcN h 72000 d_Md_boxOf_13 kc_Md_172 rfl ?_
    refine ri_iload_n h d_Md_boxOf_15 rfl ?_
    first | refine ri_imulN h d_Md_boxOf_16 ?_ | refine ri_imul h d_Md_boxOf_16 ?_
    refine ri_bipushN h 24 d_Md_boxOf_17 rfl ?_
    refine ri_iload_n h d_Md_boxOf_19 rfl ?_
    first | refine ri_imulN h d_Md_boxOf_20 ?_ | refine ri_imul h d_Md_boxOf_20 ?_
    first | refine ri_iaddN h d_Md_boxOf_21 ?_ | refine ri_iadd h d_Md_boxOf_21 ?_
    refine ri_istore h d_Md_boxOf_22 (Nat.le_of_ble_eq_true rfl) ?_
    refine ri_aload_n h d_Md_boxOf_24 rfl ?_
    refine ri_get h d_Md_boxOf_25 fl_Md_73 (by first | assumption | exact hS.mo | exact gup_s) (by rfl) ?_
    refine ri_sipushN h 3000 d_Md_boxOf_28 rfl ?_
    refine ri_iload_n h d_Md_boxOf_31 rfl ?_
    first | refine ri_imulN h d_Md_boxOf_32 ?_ | refine ri_imul h d_Md_boxOf_32 ?_
    refine ri_iload_n h d_Md_boxOf_33 rfl ?_
    first | refine ri_iaddN h d_Md_boxOf_34 ?_ | refine ri_iadd h d_Md_boxOf_34 ?_
    refine ri_ialdE h _ d_Md_boxOf_35 (by first | assumption | exact hS.a25) (by first | rfl | assumption) (by first | assumption | omega) (by first | decide | omega) (by first | assumption | exact hm.i25 (by first | assumption | omega) | rfl) ?_
    refine ri_istore h d_Md_boxOf_36 (Nat.le_of_ble_eq_true rfl) ?_
    refine ri_aload_n h d_Md_boxOf_38 rfl ?_
    refine ri_get h d_Md_boxOf_39 fl_Md_16 (by first | assumption | exact hS.mo | exact gup_s) (by rfl) ?_
    refine ri_iload_n h d_Md_boxOf_42 rfl ?_
    refine ri_laldE h _ d_Md_boxOf_43 (by first | assumption | exact hS.a5) (by first | rfl | assumption) (by first | assumption | omega) (by first | decide | omega) (by first | assumption | exact hm.i5 (by first | assumption | omega) | rfl) ?_
    refine ri_ldc2 h 2 d_Md_boxOf_44 kl_Md_132 ?_
    refine ri_ldiv h d_Md_boxOf_47 (by decide) ?_
    refine ri_lstore h d_Md_boxOf_48 (Nat.le_of_ble_eq_true rfl) ?_
    refine ri_iconstN h 0 d_Md_boxOf_50 rfl ?_
    refine ri_istore h d_Md_boxOf_51 (Nat.le_of_ble_eq_true rfl) ?_
    exact ri_ls [(0, .ref (ad 30 0)), (3, .int (nI t.1)), (4, .int (nI (72000 * set + 24 * i))), (5, .int (nI (Q.sh t.1).cnt)), (6, .long ((Q.sh t.1).w / 2)), (8, .int (nI 0))] ⟨rfl, rfl, rfl, rfl, rfl, rfl, trivial⟩ (LP (Q.sh t.1).cnt 0 (by omega) M (mbx N) N.any hS ha (hb.cong fun x y => ⟨Or.inl, fun q => q.elim id (fun ⟨k', h1, h2, _⟩ => by omega)⟩))
  · have hw0 : (Q.sh t.1).w = 0 := by
      rcases hwp.2.1 with q | q
      · exact q
      · exact absurd (Int64.lt_of_lt_of_le (by decide) (Int64.not_lt.mp q.1)) hw
    have hh0 : (Q.sh t.1).w / 2 = 0 := by rw [hw0]; decide
    have LP : ∀ (q k : Nat), k + q = (Q.sh t.1).cnt → ∀ (M : gH) (b : BxR) (e : Int32), HS z ad Qc (mst N b e) M → (e = 0 ∨ e = 1) → HB (mbx (mst N b e)) (fun x y => P x y ∨ ∃ k', k' < k ∧ x = t.2.2.1.toInt + tXi t.2.1 ((Q.sh t.1).xs k').toInt ((Q.sh t.1).ys k').toInt ∧ y = t.2.2.2.toInt + tYi t.2.1 ((Q.sh t.1).xs k').toInt ((Q.sh t.1).ys k').toInt) → G (gzz D s0 (p_, l', e_, R_, s_, m_, ar_, be_, me_, c_) (rk 3 0 0) (boP z ad Q Qc N t P) 13) 53 [(0, .ref (ad 30 0)), (3, .int (nI t.1)), (4, .int (nI (72000 * set + 24 * i))), (5, .int (nI (Q.sh t.1).cnt)), (6, .long ((Q.sh t.1).w / 2)), (8, .int (nI k))] [] M 0 0 := by
      intro q
      induction q with
      | zero =>
        intro k hk M b e hS he hb'
        obtain rfl : k = (Q.sh t.1).cnt := by omega
        refine ri_iload h d_Md_boxOf_53 rfl ?_
        refine ri_iload h d_Md_boxOf_55 rfl ?_
        first | refine ri_icmpN_ge h 210 d_Md_boxOf_57 (by decide) (by omega) (by omega) (fun c_57 => ?_) (fun c_57 => ?_) | refine ri_icmp_ge h 210 d_Md_boxOf_57 (by decide) (fun c_57 => ?_) (fun c_57 => ?_)
        · refine ri_return h d_Md_boxOf_210 (Nat.le_of_ble_eq_true rfl) (Nat.le_of_ble_eq_true rfl) ?_
          refine ⟨rfl, b, e, hS, he, hb'.cong fun x y => or_congr Iff.rfl ⟨?_, ?_⟩⟩
          · rintro ⟨k', h1, h2, h3⟩
            exact ⟨_, _, Or.inr ⟨hw, k', h1, rfl, rfl⟩, h2, h3⟩
          · rintro ⟨x', y', h3, h4, h5⟩
            rcases h3 with ⟨h3, -⟩ | ⟨-, k', h1, rfl, rfl⟩
            · exact absurd h3 hw
            · exact ⟨k', h1, h4, h5⟩
        · omega
      | succ q ih =>
        intro k hk M b e hS he hb'
        have hkc : k < (Q.sh t.1).cnt := by omega
        have hx := fxy k hkc
        have f22 : N.l 22 (72000 * set + 24 * i + k) = t.2.2.1 + tX t.2.1 ((Q.sh t.1).xs k) ((Q.sh t.1).ys k) := hx.1
        have f23 : N.l 23 (72000 * set + 24 * i + k) = t.2.2.2 + tY t.2.1 ((Q.sh t.1).xs k) ((Q.sh t.1).ys k) := hx.2
        have v1 := flat_i (hwp.1 k hkc) ht hXb hYb
        refine ri_iload h d_Md_boxOf_53 rfl ?_
        refine ri_iload h d_Md_boxOf_55 rfl ?_
        first | refine ri_icmpN_ge h 210 d_Md_boxOf_57 (by decide) (by omega) (by omega) (fun c_57 => ?_) (fun c_57 => ?_) | refine ri_icmp_ge h 210 d_Md_boxOf_57 (by decide) (fun c_57 => ?_) (fun c_57 => ?_)
        · first | omega | exact absurd hh0 c_57
        · refine ri_lload h d_Md_boxOf_60 rfl ?_
          refine ri_lconst h 0 d_Md_boxOf_62 rfl ?_
          refine ri_lcmp_ne h 94 d_Md_boxOf_63 d_Md_boxOf_64 (by decide) (fun c_63 => ?_) (fun c_63 => ?_)
          · first | omega | exact absurd hh0 c_63
          · refine ri_aload_n h d_Md_boxOf_67 rfl ?_
            refine ri_aload_n h d_Md_boxOf_68 rfl ?_
            refine ri_get h d_Md_boxOf_69 fl_Md_64 (by first | assumption | exact hS.mo | exact gup_s) (by rfl) ?_
            refine ri_iload h d_Md_boxOf_72 rfl ?_
            refine ri_iload h d_Md_boxOf_74 rfl ?_
            first | refine ri_iaddN h d_Md_boxOf_76 ?_ | refine ri_iadd h d_Md_boxOf_76 ?_
            refine ri_laldE h _ d_Md_boxOf_77 (by first | assumption | exact hS.a22) (by first | rfl | assumption) (by first | assumption | omega) (by first | decide | omega) (by first | assumption | exact hm.i22 (by first | assumption | omega) (by first | assumption | omega) | rfl) ?_
            refine ri_aload_n h d_Md_boxOf_78 rfl ?_
            refine ri_get h d_Md_boxOf_79 fl_Md_67 (by first | assumption | exact hS.mo | exact gup_s) (by rfl) ?_
            refine ri_iload h d_Md_boxOf_82 rfl ?_
            refine ri_iload h d_Md_boxOf_84 rfl ?_
            first | refine ri_iaddN h d_Md_boxOf_86 ?_ | refine ri_iadd h d_Md_boxOf_86 ?_
            refine ri_laldE h _ d_Md_boxOf_87 (by first | assumption | exact hS.a23) (by first | rfl | assumption) (by first | assumption | omega) (by first | decide | omega) (by first | assumption | exact hm.i23 (by first | assumption | omega) (by first | assumption | omega) | rfl) ?_
            refine ri_dV0_2 (r := (gR6, gT6, 44)) h d_Md_boxOf_88 cv_Md_210 (by first | exact hS.lcO | exact hS.lsO | exact hS.lpO | exact hS.cesO (by first | assumption | omega) | exact hS.cepO (by first | assumption | omega) | exact ⟨_, (by first | assumption | exact hS.st | exact hS.mo | exact hS.out | exact hS.sb | exact hS.ce (by first | assumption | omega) | exact hS.ceb (by first | assumption | omega) | exact hS.sh (by first | assumption | omega) | exact hS.shb (by first | assumption | omega) | exact hS.pl (by first | assumption | omega) | exact hS.plb (by first | assumption | omega) | exact hS.fl (by first | assumption | omega) | exact gup_s | (refine gup_t (by assumption) ?_; first | assumption | exact gup_s | (refine gup_t (by assumption) ?_; first | assumption | exact gup_s | (refine gup_t (by assumption) ?_; first | assumption | exact gup_s))))⟩) rfl (k_mhold h0 hS he) (Nat.le_of_ble_eq_true rfl) (Nat.le_of_ble_eq_true rfl) (Nat.le_of_ble_eq_true rfl) (Nat.le_of_ble_eq_true rfl) (Nat.le_of_ble_eq_true rfl) (fun M hS => ?_)
            refine ri_goto h 204 d_Md_boxOf_91 (by decide) ?_
            first | refine ri_iincN h d_Md_boxOf_204 rfl (Nat.le_of_ble_eq_true rfl) ?_ | refine ri_iinc h _ d_Md_boxOf_204 rfl rfl (Nat.le_of_ble_eq_true rfl) ?_
            refine ri_goto h 53 d_Md_boxOf_207 (by decide) ?_
            refine ri_ls [(0, .ref (ad 30 0)), (3, .int (nI t.1)), (4, .int (nI (72000 * set + 24 * i))), (5, .int (nI (Q.sh t.1).cnt)), (6, .long ((Q.sh t.1).w / 2)), (8, .int (nI (k + 1)))] ⟨rfl, rfl, rfl, rfl, rfl, rfl, trivial⟩ (ih (k + 1) (by omega) M _ 1 hS (Or.inr rfl) ?_)
            have hq := hb'.bpt1 (t.2.2.1 + tX t.2.1 ((Q.sh t.1).xs k) ((Q.sh t.1).ys k)) (t.2.2.2 + tY t.2.1 ((Q.sh t.1).xs k) ((Q.sh t.1).ys k))
            have he : mbx (mst N (bpt (mbx (mst N b e)) (t.2.2.1 + tX t.2.1 ((Q.sh t.1).xs k) ((Q.sh t.1).ys k)) (t.2.2.2 + tY t.2.1 ((Q.sh t.1).xs k) ((Q.sh t.1).ys k))) 1) = bpt (mbx (mst N b e)) (t.2.2.1 + tX t.2.1 ((Q.sh t.1).xs k) ((Q.sh t.1).ys k)) (t.2.2.2 + tY t.2.1 ((Q.sh t.1).xs k) ((Q.sh t.1).ys k)) := mbx_s rfl
            rw [show mbx (mst N _ 1) = _ from he]
            refine hq.cong (fun x y => ?_)
            rw [v1.1, v1.2.1, or_assoc]
            refine or_congr Iff.rfl ⟨?_, ?_⟩
            · rintro (⟨k', h1, h2⟩ | h2)
              · exact ⟨k', by omega, h2⟩
              · exact ⟨k, by omega, h2⟩
            · rintro ⟨k', h1, h2⟩
              rcases (show k' < k ∨ k' = k by omega) with q | rfl
              · exact Or.inl ⟨k', q, h2⟩
              · exact Or.inr h2
    refine ri_aload_n h d_Md_boxOf_0 rfl ?_
    refine ri_get h d_Md_boxOf_1 fl_Md_70 (by first | assumption | exact hS.mo | exact gup_s) (by rfl) ?_
    refine ri_sipushN h 3000 d_Md_boxOf_4 rfl ?_
    refine ri_iload_n h d_Md_boxOf_7 rfl ?_
    first | refine ri_imulN h d_Md_boxOf_8 ?_ | refine ri_imul h d_Md_boxOf_8 ?_
    refine ri_iload_n h d_Md_boxOf_9 rfl ?_
    first | refine ri_iaddN h d_Md_boxOf_10 ?_ | refine ri_iadd h d_Md_boxOf_10 ?_
    refine ri_ialdE h _ d_Md_boxOf_11 (by first | assumption | exact hS.a24) (by first | rfl | assumption) (by first | assumption | omega) (by first | decide | omega) (by first | assumption | assumption | rfl) ?_
    refine ri_istore_n h d_Md_boxOf_12 (Nat.le_of_ble_eq_true rfl) ?_
    refine ri_ldcN h 72000 d_Md_boxOf_13 kc_Md_172 rfl ?_
    refine ri_iload_n h d_Md_boxOf_15 rfl ?_
    first | refine ri_imulN h d_Md_boxOf_16 ?_ | refine ri_imul h d_Md_boxOf_16 ?_
    refine ri_bipushN h 24 d_Md_boxOf_17 rfl ?_
    refine ri_iload_n h d_Md_boxOf_19 rfl ?_
    first | refine ri_imulN h d_Md_boxOf_20 ?_ | refine ri_imul h d_Md_boxOf_20 ?_
    first | refine ri_iaddN h d_Md_boxOf_21 ?_ | refine ri_iadd h d_Md_boxOf_21 ?_
    refine ri_istore h d_Md_boxOf_22 (Nat.le_of_ble_eq_true rfl) ?_
    refine ri_aload_n h d_Md_boxOf_24 rfl ?_
    refine ri_get h d_Md_boxOf_25 fl_Md_73 (by first | assumption | exact hS.mo | exact gup_s) (by rfl) ?_
    refine ri_sipushN h 3000 d_Md_boxOf_28 rfl ?_
    refine ri_iload_n h d_Md_boxOf_31 rfl ?_
    first | refine ri_imulN h d_Md_boxOf_32 ?_ | refine ri_imul h d_Md_boxOf_32 ?_
    refine ri_iload_n h d_Md_boxOf_33 rfl ?_
    first | refine ri_iaddN h d_Md_boxOf_34 ?_ | refine ri_iadd h d_Md_boxOf_34 ?_
    refine ri_ialdE h _ d_Md_boxOf_35 (by first | assumption | exact hS.a25) (by first | rfl | assumption) (by first | assumption | omega) (by first | decide | omega) (by first | assumption | exact hm.i25 (by first | assumption | omega) | rfl) ?_
    refine ri_istore h d_Md_boxOf_36 (Nat.le_of_ble_eq_true rfl) ?_
    refine ri_aload_n h d_Md_boxOf_38 rfl ?_
    refine ri_get h d_Md_boxOf_39 fl_Md_16 (by first | assumption | exact hS.mo | exact gup_s) (by rfl) ?_
    refine ri_iload_n h d_Md_boxOf_42 rfl ?_
    refine ri_laldE h _ d_Md_boxOf_43 (by first | assumption | exact hS.a5) (by first | rfl | assumption) (by first | assumption | omega) (by first | decide | omega) (by first | assumption | exact hm.i5 (by first | assumption | omega) | rfl) ?_
    refine ri_ldc2 h 2 d_Md_boxOf_44 kl_Md_132 ?_
    refine ri_ldiv h d_Md_boxOf_47 (by decide) ?_
    refine ri_lstore h d_Md_boxOf_48 (Nat.le_of_ble_eq_true rfl) ?_
    refine ri_iconstN h 0 d_Md_boxOf_50 rfl ?_
    refine ri_istore h d_Md_boxOf_51 (Nat.le_of_ble_eq_true rfl) ?_
    exact ri_ls [(0, .ref (ad 30 0)), (3, .int (nI t.1)), (4, .int (nI (72000 * set + 24 * i))), (5, .int (nI (Q.sh t.1).cnt)), (6, .long ((Q.sh t.1).w / 2)), (8, .int (nI 0))] ⟨rfl, rfl, rfl, rfl, rfl, rfl, trivial⟩ (LP (Q.sh t.1).cnt 0 (by omega) M (mbx N) N.any hS ha (hb.cong fun x y => ⟨Or.inl, fun q => q.elim id (fun ⟨k', h1, _⟩ => by omega)⟩))
end BOF
