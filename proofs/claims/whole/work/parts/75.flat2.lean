/-! flat and find -/
section FLB
variable {Q : CS} {lay : Int32}
theorem FLn_on (hL : WL Q) : ∀ (n c : Nat) (t : Tm) (w : It), w ∈ FLn Q lay n c t → onB (Q.sh w.1) lay = true
  | 0, _, _, _, h => absurd h (by simp [FLn])
  | n + 1, c, t, w, h => by
    rcases List.mem_append.mp h with h | h
    · obtain ⟨s, h1, rfl⟩ := List.mem_map.mp h
      exact (List.mem_filter.mp h1).2
    · obtain ⟨y, h1, h2⟩ := List.mem_flatMap.mp h
      exact FLn_on hL n _ _ w h2
theorem pX_i {r : PlR} {i j : Nat} (h1 : nearB r.x) (h2 : nearB r.dx) (h3 : nearB r.y) (h4 : nearB r.dy) (hi : i < 20) (hj : j < 20) : (pX r i).toInt = r.x.toInt + i * r.dx.toInt ∧ (pY r j).toInt = r.y.toInt + j * r.dy.toInt ∧ -20000000 ≤ (pX r i).toInt ∧ (pX r i).toInt ≤ 20000000 ∧ -20000000 ≤ (pY r j).toInt ∧ (pY r j).toInt ≤ 20000000 := by
  have n1 := near_i h1
  have n2 := near_i h2
  have n3 := near_i h3
  have n4 := near_i h4
  have m1 := mul_b hi n2
  have m2 := mul_b hj n4
  have e1 : (nL i * r.dx).toInt = i * r.dx.toInt := by rw [t_mul (by rw [nL_toInt (by omega)]; omega) (by rw [nL_toInt (by omega)]; omega), nL_toInt (by omega)]
  have e2 : (nL j * r.dy).toInt = j * r.dy.toInt := by rw [t_mul (by rw [nL_toInt (by omega)]; omega) (by rw [nL_toInt (by omega)]; omega), nL_toInt (by omega)]
  have e3 : (pX r i).toInt = r.x.toInt + (nL i * r.dx).toInt := t_add (by rw [e1]; omega) (by rw [e1]; omega)
  have e4 : (pY r j).toInt = r.y.toInt + (nL j * r.dy).toInt := t_add (by rw [e2]; omega) (by rw [e2]; omega)
  rw [e3, e4, e1, e2]
  omega
/-- how far a flat shape is moved -/
abbrev Tb (t : Tm) (B : Int) : Prop := t.1 < 8 ∧ -B ≤ t.2.1.toInt ∧ t.2.1.toInt ≤ B ∧ -B ≤ t.2.2.toInt ∧ t.2.2.toInt ≤ B
theorem nxt_b {t : Tm} {B : Int} (hL : WL Q) {p i j : Nat} (hp : p < Q.nP) (hi : i < (Q.pl p).cols) (hj : j < (Q.pl p).rows) (h : Tb t B) (hB : B ≤ 800000000000) : Tb (nxt t (Q.pl p) i j) (B + 20000000) ∧ (nxt t (Q.pl p) i j).2.1.toInt = t.2.1.toInt + tXi t.1 ((Q.pl p).x.toInt + i * (Q.pl p).dx.toInt) ((Q.pl p).y.toInt + j * (Q.pl p).dy.toInt) ∧ (nxt t (Q.pl p) i j).2.2.toInt = t.2.2.toInt + tYi t.1 ((Q.pl p).x.toInt + i * (Q.pl p).dx.toInt) ((Q.pl p).y.toInt + j * (Q.pl p).dy.toInt) := by
  obtain ⟨-, -, f1, f2, f3, f4, f5, f6, f7⟩ := hL.2.1 p hp
  obtain ⟨h1, h2, h3, h4, h5⟩ := h
  obtain ⟨e1, e2, b1, b2, b3, b4⟩ := pX_i f4 f6 f5 f7 (i := i) (j := j) (by omega) (by omega)
  have e := t_tX h1 (x := pX (Q.pl p) i) (y := pY (Q.pl p) j) (by omega) (by omega) (by omega) (by omega)
  have b := tXi_b h1 (x := (pX (Q.pl p) i).toInt) (y := (pY (Q.pl p) j).toInt) (B := 20000000) ⟨b1, b2, b3, b4⟩
  have g1 : (nxt t (Q.pl p) i j).2.1.toInt = t.2.1.toInt + (tX t.1 (pX (Q.pl p) i) (pY (Q.pl p) j)).toInt := t_add (by rw [e.1]; omega) (by rw [e.1]; omega)
  have g2 : (nxt t (Q.pl p) i j).2.2.toInt = t.2.2.toInt + (tY t.1 (pX (Q.pl p) i) (pY (Q.pl p) j)).toInt := t_add (by rw [e.2]; omega) (by rw [e.2]; omega)
  rw [e.1] at g1
  rw [e.2] at g2
  refine ⟨⟨bth_lt _ _, ?_⟩, ?_, ?_⟩
  · rw [g1, g2]; omega
  · rw [g1, e1, e2]
  · rw [g2, e1, e2]
theorem FLn_big (hL : WL Q) : ∀ (n c : Nat) (t : Tm) (B : Int), c < Q.nC → Tb t B → B + 20000000 * n ≤ 800000000000 → ∀ w, w ∈ FLn Q lay n c t → Tb w.2 (B + 20000000 * n)
  | 0, _, _, _, _, _, _, _, h => absurd h (by simp [FLn])
  | n + 1, c, t, B, hc, hB, hB2, w, h => by
    rcases List.mem_append.mp h with h | h
    · obtain ⟨s, h1, rfl⟩ := List.mem_map.mp h
      obtain ⟨a1, a2, a3, a4, a5⟩ := hB
      refine ⟨a1, ?_⟩
      show -(B + 20000000 * ((n + 1 : Nat) : Int)) ≤ t.2.1.toInt ∧ t.2.1.toInt ≤ B + 20000000 * ((n + 1 : Nat) : Int) ∧ -(B + 20000000 * ((n + 1 : Nat) : Int)) ≤ t.2.2.toInt ∧ t.2.2.toInt ≤ B + 20000000 * ((n + 1 : Nat) : Int)
      omega
    · obtain ⟨y, h1, h2⟩ := List.mem_flatMap.mp h
      obtain ⟨g1, -, -, g4, g5⟩ := mem_posF h1
      have hn := nxt_b hL g1 g4 g5 hB (by omega)
      have := FLn_big hL n _ _ (B + 20000000) (hL.mem hc (posF_ps hL hc h1)).2.1 hn.1 (by omega) w h2
      obtain ⟨a1, a2, a3, a4, a5⟩ := this
      exact ⟨a1, by omega, by omega, by omega, by omega⟩
theorem FL_big (hL : WL Q) {c : Nat} (hc : c < Q.nC) {w : It} (h : w ∈ FLn Q lay 21 c (0, 0, 0)) : w.2.1 < 8 ∧ Big w.2.2.1 ∧ Big w.2.2.2 := by
  obtain ⟨a1, a2, a3, a4, a5⟩ := FLn_big hL 21 c (0, 0, 0) 0 hc ⟨by decide, by decide, by decide, by decide, by decide⟩ (by omega) w h
  exact ⟨a1, ⟨by omega, by omega⟩, ⟨by omega, by omega⟩⟩
end FLB
section FFI
variable {l : Launch} {D : gD} {s0 : State} {M : gH} {z : Nat} {ad : gA} {Q Qc : CS} {N : MS} {lay : Int32}
theorem k_isCell0 (h0 : g_0 l D s0) (hS : HS z ad Qc N M) (hm : MR0 Q N) (hW : WB Q) {v : Int32} : Ct l D s0 y_Md_isCell (Cond.code y_Md_isCell b_Md_isCell 2 (some .boolean)) (rk 0 0 0) [.ref (ad 30 0), .int v] M (fR (some (.int (bI (∃ c, c < Q.nC ∧ v = nI c)))) M) := by
  have hb : Q.nC < 2 ^ 31 := by have := hW.1; omega
  refine Ct.of h0 (by decide +kernel) rfl fun X hX h => ?_
  obtain ⟨p_, l', e_, R_, s_, m_, ar_, be_, me_, c_⟩ := X
  obtain rfl : l' = l := hX
  refine ri_iload_n h d_Md_isCell_0 rfl ?_
  refine ri_if_lt h 16 d_Md_isCell_1 (by decide) (fun c_1 => ?_) (fun c_1 => ?_)
  · refine ri_iconst h 0 d_Md_isCell_16 rfl ?_
    refine ri_zreturn h d_Md_isCell_17 (Nat.le_of_ble_eq_true rfl) (Nat.le_of_ble_eq_true rfl) (by first | rfl | assumption) ?_
    first | exact ⟨congrArg (fun x => Sum.inl (some (Value.int x))) (bI_0 (fun q => (ix_0 hb q).1 c_1)).symm, rfl⟩ | exact ⟨congrArg (fun x => Sum.inl (some (Value.int x))) (bI_0 (fun q => absurd (ix_0 hb q).2 (Int32.not_lt.mpr c_9))).symm, rfl⟩ | exact ⟨congrArg (fun x => Sum.inl (some (Value.int x))) (bI_1 (ix_of hb c_1 (Int32.not_le.mp c_9))).symm, rfl⟩
  · refine ri_iload_n h d_Md_isCell_4 rfl ?_
    refine ri_aload_n h d_Md_isCell_5 rfl ?_
    refine ri_get h d_Md_isCell_6 fl_Md_111 (by first | assumption | exact hS.mo | exact gup_s) (by first | exact congrArg (fun x => some (Value.int (nI x))) hm.nc | rfl) ?_
    refine ri_icmp_ge h 16 d_Md_isCell_9 (by decide) (fun c_9 => ?_) (fun c_9 => ?_)
    · refine ri_iconst h 0 d_Md_isCell_16 rfl ?_
      refine ri_zreturn h d_Md_isCell_17 (Nat.le_of_ble_eq_true rfl) (Nat.le_of_ble_eq_true rfl) (by first | rfl | assumption) ?_
      first | exact ⟨congrArg (fun x => Sum.inl (some (Value.int x))) (bI_0 (fun q => (ix_0 hb q).1 c_1)).symm, rfl⟩ | exact ⟨congrArg (fun x => Sum.inl (some (Value.int x))) (bI_0 (fun q => absurd (ix_0 hb q).2 (Int32.not_lt.mpr c_9))).symm, rfl⟩ | exact ⟨congrArg (fun x => Sum.inl (some (Value.int x))) (bI_1 (ix_of hb c_1 (Int32.not_le.mp c_9))).symm, rfl⟩
    · refine ri_iconst h 1 d_Md_isCell_12 rfl ?_
      refine ri_goto h 17 d_Md_isCell_13 (by decide) ?_
      refine ri_zreturn h d_Md_isCell_17 (Nat.le_of_ble_eq_true rfl) (Nat.le_of_ble_eq_true rfl) (by first | rfl | assumption) ?_
      first | exact ⟨congrArg (fun x => Sum.inl (some (Value.int x))) (bI_0 (fun q => (ix_0 hb q).1 c_1)).symm, rfl⟩ | exact ⟨congrArg (fun x => Sum.inl (some (Value.int x))) (bI_0 (fun q => absurd (ix_0 hb q).2 (Int32.not_lt.mpr c_9))).symm, rfl⟩ | exact ⟨congrArg (fun x => Sum.inl (some (Value.int x))) (bI_1 (ix_of hb c_1 (Int32.not_le.mp c_9))).symm, rfl⟩
theorem k_isLayer0 (h0 : g_0 l D s0) (hS : HS z ad Qc N M) (hm : MR0 Q N) {v : Int32} : Ct l D s0 y_Md_isLayer (Cond.code y_Md_isLayer b_Md_isLayer 2 (some .boolean)) (rk 0 0 0) [.ref (ad 30 0), .int v] M (fR (some (.int (bI (¬ v < 0 ∧ v < Q.L)))) M) := by
  refine Ct.of h0 (by decide +kernel) rfl fun X hX h => ?_
  obtain ⟨p_, l', e_, R_, s_, m_, ar_, be_, me_, c_⟩ := X
  obtain rfl : l' = l := hX
  refine ri_iload_n h d_Md_isLayer_0 rfl ?_
  refine ri_if_lt h 16 d_Md_isLayer_1 (by decide) (fun c_1 => ?_) (fun c_1 => ?_)
  · refine ri_iconst h 0 d_Md_isLayer_16 rfl ?_
    refine ri_zreturn h d_Md_isLayer_17 (Nat.le_of_ble_eq_true rfl) (Nat.le_of_ble_eq_true rfl) (by first | rfl | assumption) ?_
    first | exact ⟨congrArg (fun x => Sum.inl (some (Value.int x))) (bI_0 (show ¬ (¬ v < 0 ∧ v < Q.L) from fun q => q.1 c_1)).symm, rfl⟩ | exact ⟨congrArg (fun x => Sum.inl (some (Value.int x))) (bI_0 (show ¬ (¬ v < 0 ∧ v < Q.L) from fun q => absurd q.2 (Int32.not_lt.mpr c_9))).symm, rfl⟩ | exact ⟨congrArg (fun x => Sum.inl (some (Value.int x))) (bI_1 (show ¬ v < 0 ∧ v < Q.L from ⟨c_1, Int32.not_le.mp c_9⟩)).symm, rfl⟩
  · refine ri_iload_n h d_Md_isLayer_4 rfl ?_
    refine ri_aload_n h d_Md_isLayer_5 rfl ?_
    refine ri_get h d_Md_isLayer_6 fl_Md_104 (by first | assumption | exact hS.mo | exact gup_s) (by first | exact congrArg (fun x => some (Value.int x)) hm.la | rfl) ?_
    refine ri_icmp_ge h 16 d_Md_isLayer_9 (by decide) (fun c_9 => ?_) (fun c_9 => ?_)
    · refine ri_iconst h 0 d_Md_isLayer_16 rfl ?_
      refine ri_zreturn h d_Md_isLayer_17 (Nat.le_of_ble_eq_true rfl) (Nat.le_of_ble_eq_true rfl) (by first | rfl | assumption) ?_
      first | exact ⟨congrArg (fun x => Sum.inl (some (Value.int x))) (bI_0 (show ¬ (¬ v < 0 ∧ v < Q.L) from fun q => q.1 c_1)).symm, rfl⟩ | exact ⟨congrArg (fun x => Sum.inl (some (Value.int x))) (bI_0 (show ¬ (¬ v < 0 ∧ v < Q.L) from fun q => absurd q.2 (Int32.not_lt.mpr c_9))).symm, rfl⟩ | exact ⟨congrArg (fun x => Sum.inl (some (Value.int x))) (bI_1 (show ¬ v < 0 ∧ v < Q.L from ⟨c_1, Int32.not_le.mp c_9⟩)).symm, rfl⟩
    · refine ri_iconst h 1 d_Md_isLayer_12 rfl ?_
      refine ri_goto h 17 d_Md_isLayer_13 (by decide) ?_
      refine ri_zreturn h d_Md_isLayer_17 (Nat.le_of_ble_eq_true rfl) (Nat.le_of_ble_eq_true rfl) (by first | rfl | assumption) ?_
      first | exact ⟨congrArg (fun x => Sum.inl (some (Value.int x))) (bI_0 (show ¬ (¬ v < 0 ∧ v < Q.L) from fun q => q.1 c_1)).symm, rfl⟩ | exact ⟨congrArg (fun x => Sum.inl (some (Value.int x))) (bI_0 (show ¬ (¬ v < 0 ∧ v < Q.L) from fun q => absurd q.2 (Int32.not_lt.mpr c_9))).symm, rfl⟩ | exact ⟨congrArg (fun x => Sum.inl (some (Value.int x))) (bI_1 (show ¬ v < 0 ∧ v < Q.L from ⟨c_1, Int32.not_le.mp c_9⟩)).symm, rfl⟩
theorem k_flat_no1 (h0 : g_0 l D s0) (hS : HS z ad Q N M) (hW : WB Q) {p v : Int32} (hn : ¬ ((∃ c, c < Q.nC ∧ p = nI c) ∧ (¬ v < 0 ∧ v < Q.L))) : Ct l D s0 y_ST_flat (Cond.code y_ST_flat b_ST_flat 4 (some .int)) rkC [.ref (ad 0 0), .int p, .int v] M (fE eIO M) := by
  refine Ct.of h0 (by decide +kernel) rfl fun X hX h => ?_
  obtain ⟨p_, l', e_, R_, s_, m_, ar_, be_, me_, c_⟩ := X
  obtain rfl : l' = l := hX
  by_cases hp : ∃ c, c < Q.nC ∧ p = nI c
  · obtain ⟨c, hc, rfl⟩ := id hp
    refine ri_aload_n h d_ST_flat_0 rfl ?_
    refine ri_iload_n h d_ST_flat_1 rfl ?_
    refine ri_cVv_1 (r := (gR5, gT5, 8)) h d_ST_flat_2 cv_ST_74 (by first | exact hS.lcO | exact hS.lsO | exact hS.lpO | exact hS.cesO (by first | assumption | omega) | exact hS.cepO (by first | assumption | omega) | exact ⟨_, (by first | assumption | exact hS.st | exact hS.mo | exact hS.out | exact hS.sb | exact hS.ce (by first | assumption | omega) | exact hS.ceb (by first | assumption | omega) | exact hS.sh (by first | assumption | omega) | exact hS.shb (by first | assumption | omega) | exact hS.pl (by first | assumption | omega) | exact hS.plb (by first | assumption | omega) | exact hS.fl (by first | assumption | omega) | exact gup_s | (refine gup_t (by assumption) ?_; first | assumption | exact gup_s | (refine gup_t (by assumption) ?_; first | assumption | exact gup_s | (refine gup_t (by assumption) ?_; first | assumption | exact gup_s))))⟩) rfl (k_known_ok h0 hS hW hc) (Nat.le_of_ble_eq_true rfl) (Nat.le_of_ble_eq_true rfl) (Nat.le_of_ble_eq_true rfl) (Nat.le_of_ble_eq_true rfl) (Nat.le_of_ble_eq_true rfl) ?_
    refine ri_astore_n h d_ST_flat_5 (Nat.le_of_ble_eq_true rfl) ?_
    refine ri_aload_n h d_ST_flat_6 rfl ?_
    refine ri_iload_n h d_ST_flat_7 rfl ?_
    refine ri_eV_1 (r := (gR5, gT5, 8)) h d_ST_flat_8 cv_ST_78 (by first | exact hS.lcO | exact hS.lsO | exact hS.lpO | exact hS.cesO (by first | assumption | omega) | exact hS.cepO (by first | assumption | omega) | exact ⟨_, (by first | assumption | exact hS.st | exact hS.mo | exact hS.out | exact hS.sb | exact hS.ce (by first | assumption | omega) | exact hS.ceb (by first | assumption | omega) | exact hS.sh (by first | assumption | omega) | exact hS.shb (by first | assumption | omega) | exact hS.pl (by first | assumption | omega) | exact hS.plb (by first | assumption | omega) | exact hS.fl (by first | assumption | omega) | exact gup_s | (refine gup_t (by assumption) ?_; first | assumption | exact gup_s | (refine gup_t (by assumption) ?_; first | assumption | exact gup_s | (refine gup_t (by assumption) ?_; first | assumption | exact gup_s))))⟩) rfl (k_layer_no h0 hS (fun hv => hn ⟨hp, hv⟩)) (Nat.le_of_ble_eq_true rfl) (Nat.le_of_ble_eq_true rfl) (Nat.le_of_ble_eq_true rfl) (Nat.le_of_ble_eq_true rfl) (Nat.le_of_ble_eq_true rfl) ?_
    exact ⟨rfl, rfl⟩
  · refine ri_aload_n h d_ST_flat_0 rfl ?_
    refine ri_iload_n h d_ST_flat_1 rfl ?_
    refine ri_eV_1 (r := (gR5, gT5, 8)) h d_ST_flat_2 cv_ST_74 (by first | exact hS.lcO | exact hS.lsO | exact hS.lpO | exact hS.cesO (by first | assumption | omega) | exact hS.cepO (by first | assumption | omega) | exact ⟨_, (by first | assumption | exact hS.st | exact hS.mo | exact hS.out | exact hS.sb | exact hS.ce (by first | assumption | omega) | exact hS.ceb (by first | assumption | omega) | exact hS.sh (by first | assumption | omega) | exact hS.shb (by first | assumption | omega) | exact hS.pl (by first | assumption | omega) | exact hS.plb (by first | assumption | omega) | exact hS.fl (by first | assumption | omega) | exact gup_s | (refine gup_t (by assumption) ?_; first | assumption | exact gup_s | (refine gup_t (by assumption) ?_; first | assumption | exact gup_s | (refine gup_t (by assumption) ?_; first | assumption | exact gup_s))))⟩) rfl (k_known_no h0 hS hW hp) (Nat.le_of_ble_eq_true rfl) (Nat.le_of_ble_eq_true rfl) (Nat.le_of_ble_eq_true rfl) (Nat.le_of_ble_eq_true rfl) (Nat.le_of_ble_eq_true rfl) ?_
    exact ⟨rfl, rfl⟩
theorem k_flat_no2 (h0 : g_0 l D s0) (hS : HS z ad Q N M) (hW : WB Q) (hL : WL Q) (hX : WX Q) (hme : ∀ x, (Q.ce x).meas = 0 ∨ (Q.ce x).meas = 1) {c : Nat} (hc : c < Q.nC) {v : Int32} (hv : ¬ v < 0 ∧ v < Q.L) (hn : ¬ SZ Q (-1) c ≤ 3000) : Ct l D s0 y_ST_flat (Cond.code y_ST_flat b_ST_flat 4 (some .int)) rkC [.ref (ad 0 0), .int (nI c), .int v] M (fEM z ad Q N eUO) := by
  refine Ct.of h0 (by decide +kernel) rfl fun X hX h => ?_
  obtain ⟨p_, l', e_, R_, s_, m_, ar_, be_, me_, c_⟩ := X
  obtain rfl : l' = l := hX
  refine ri_aload_n h d_ST_flat_0 rfl ?_
  refine ri_iload_n h d_ST_flat_1 rfl ?_
  refine ri_cVv_1 (r := (gR5, gT5, 8)) h d_ST_flat_2 cv_ST_74 (by first | exact hS.lcO | exact hS.lsO | exact hS.lpO | exact hS.cesO (by first | assumption | omega) | exact hS.cepO (by first | assumption | omega) | exact ⟨_, (by first | assumption | exact hS.st | exact hS.mo | exact hS.out | exact hS.sb | exact hS.ce (by first | assumption | omega) | exact hS.ceb (by first | assumption | omega) | exact hS.sh (by first | assumption | omega) | exact hS.shb (by first | assumption | omega) | exact hS.pl (by first | assumption | omega) | exact hS.plb (by first | assumption | omega) | exact hS.fl (by first | assumption | omega) | exact gup_s | (refine gup_t (by assumption) ?_; first | assumption | exact gup_s | (refine gup_t (by assumption) ?_; first | assumption | exact gup_s | (refine gup_t (by assumption) ?_; first | assumption | exact gup_s))))⟩) rfl (k_known_ok h0 hS hW hc) (Nat.le_of_ble_eq_true rfl) (Nat.le_of_ble_eq_true rfl) (Nat.le_of_ble_eq_true rfl) (Nat.le_of_ble_eq_true rfl) (Nat.le_of_ble_eq_true rfl) ?_
  refine ri_astore_n h d_ST_flat_5 (Nat.le_of_ble_eq_true rfl) ?_
  refine ri_aload_n h d_ST_flat_6 rfl ?_
  refine ri_iload_n h d_ST_flat_7 rfl ?_
  refine ri_cV0_1 (r := (gR5, gT5, 8)) h d_ST_flat_8 cv_ST_78 (by first | exact hS.lcO | exact hS.lsO | exact hS.lpO | exact hS.cesO (by first | assumption | omega) | exact hS.cepO (by first | assumption | omega) | exact ⟨_, (by first | assumption | exact hS.st | exact hS.mo | exact hS.out | exact hS.sb | exact hS.ce (by first | assumption | omega) | exact hS.ceb (by first | assumption | omega) | exact hS.sh (by first | assumption | omega) | exact hS.shb (by first | assumption | omega) | exact hS.pl (by first | assumption | omega) | exact hS.plb (by first | assumption | omega) | exact hS.fl (by first | assumption | omega) | exact gup_s | (refine gup_t (by assumption) ?_; first | assumption | exact gup_s | (refine gup_t (by assumption) ?_; first | assumption | exact gup_s | (refine gup_t (by assumption) ?_; first | assumption | exact gup_s))))⟩) rfl (k_layer_ok h0 hS hv) (Nat.le_of_ble_eq_true rfl) (Nat.le_of_ble_eq_true rfl) (Nat.le_of_ble_eq_true rfl) (Nat.le_of_ble_eq_true rfl) (Nat.le_of_ble_eq_true rfl) ?_
  refine ri_aload_n h d_ST_flat_11 rfl ?_
  refine ri_iconst h (-1) d_ST_flat_12 rfl ?_
  refine ri_dV0_1 (r := (gR5, gT5, 8)) h d_ST_flat_13 cv_ST_160 (by first | exact hS.lcO | exact hS.lsO | exact hS.lpO | exact hS.cesO (by first | assumption | omega) | exact hS.cepO (by first | assumption | omega) | exact ⟨_, (by first | assumption | exact hS.st | exact hS.mo | exact hS.out | exact hS.sb | exact hS.ce (by first | assumption | omega) | exact hS.ceb (by first | assumption | omega) | exact hS.sh (by first | assumption | omega) | exact hS.shb (by first | assumption | omega) | exact hS.pl (by first | assumption | omega) | exact hS.plb (by first | assumption | omega) | exact hS.fl (by first | assumption | omega) | exact gup_s | (refine gup_t (by assumption) ?_; first | assumption | exact gup_s | (refine gup_t (by assumption) ?_; first | assumption | exact gup_s | (refine gup_t (by assumption) ?_; first | assumption | exact gup_s))))⟩) rfl (k_measureCells h0 hW hL hX hme hS) (Nat.le_of_ble_eq_true rfl) (Nat.le_of_ble_eq_true rfl) (Nat.le_of_ble_eq_true rfl) (Nat.le_of_ble_eq_true rfl) (Nat.le_of_ble_eq_true rfl) (fun M hS => ?_)
  obtain ⟨m, sz, b, pb, hS, h01, hdn⟩ := hS
  have d1 := (hdn c hc).1
  refine ri_aload_n h d_ST_flat_16 rfl ?_
  refine ri_eS_1 h d_ST_flat_17 cs_ST_174 (k_few_no h0 hS hc (show ¬ sz c ≤ 3000 by omega) (show sz c ≤ 5000 by omega)) (Nat.le_of_ble_eq_true rfl) (Nat.le_of_ble_eq_true rfl) (Nat.le_of_ble_eq_true rfl) (Nat.le_of_ble_eq_true rfl) (Nat.le_of_ble_eq_true rfl) ?_
  exact ⟨rfl, m, sz, b, pb, hS, h01⟩
theorem k_flat_ok (h0 : g_0 l D s0) (hS : HS z ad Q N M) (hW : WB Q) (hL : WL Q) (hX : WX Q) (hC : WSC Q) (hT : WTQ Q) (hme : ∀ x, (Q.ce x).meas = 0 ∨ (Q.ce x).meas = 1) {c : Nat} (hc : c < Q.nC) {v : Int32} (hv : ¬ v < 0 ∧ v < Q.L) (hn : SZ Q (-1) c ≤ 3000) : Ct l D s0 y_ST_flat (Cond.code y_ST_flat b_ST_flat 4 (some .int)) rkC [.ref (ad 0 0), .int (nI c), .int v] M (fS (some (.int (nI (FLn Q v 21 c (0, 0, 0)).length))) (fun M' => ∃ (m : Nat → Int32) (sz : Nat → Nat) (b pb : Nat → BxR) (r : FlR), HS z ad (lq Q m sz b pb 0 r) N M' ∧ (∀ x, m x = 0 ∨ m x = 1) ∧ cLs Q r (FLn Q v 21 c (0, 0, 0)) ∧ ∀ i s, r.sh i = some s → s < Q.nS)) := by
  have hlen : (FLn Q v 21 c (0, 0, 0)).length ≤ 3000 := Nat.le_trans (FLn_lay hL 21 c (0, 0, 0)) (by rw [FLn_len hL hW 21 c _ hc (rho_lt hW)]; exact hn)
  refine Ct.of h0 (by decide +kernel) rfl fun X hX h => ?_
  obtain ⟨p_, l', e_, R_, s_, m_, ar_, be_, me_, c_⟩ := X
  obtain rfl : l' = l := hX
  refine ri_aload_n h d_ST_flat_0 rfl ?_
  refine ri_iload_n h d_ST_flat_1 rfl ?_
  refine ri_cVv_1 (r := (gR5, gT5, 8)) h d_ST_flat_2 cv_ST_74 (by first | exact hS.lcO | exact hS.lsO | exact hS.lpO | exact hS.cesO (by first | assumption | omega) | exact hS.cepO (by first | assumption | omega) | exact ⟨_, (by first | assumption | exact hS.st | exact hS.mo | exact hS.out | exact hS.sb | exact hS.ce (by first | assumption | omega) | exact hS.ceb (by first | assumption | omega) | exact hS.sh (by first | assumption | omega) | exact hS.shb (by first | assumption | omega) | exact hS.pl (by first | assumption | omega) | exact hS.plb (by first | assumption | omega) | exact hS.fl (by first | assumption | omega) | exact gup_s | (refine gup_t (by assumption) ?_; first | assumption | exact gup_s | (refine gup_t (by assumption) ?_; first | assumption | exact gup_s | (refine gup_t (by assumption) ?_; first | assumption | exact gup_s))))⟩) rfl (k_known_ok h0 hS hW hc) (Nat.le_of_ble_eq_true rfl) (Nat.le_of_ble_eq_true rfl) (Nat.le_of_ble_eq_true rfl) (Nat.le_of_ble_eq_true rfl) (Nat.le_of_ble_eq_true rfl) ?_
  refine ri_astore_n h d_ST_flat_5 (Nat.le_of_ble_eq_true rfl) ?_
  refine ri_aload_n h d_ST_flat_6 rfl ?_
  refine ri_iload_n h d_ST_flat_7 rfl ?_
  refine ri_cV0_1 (r := (gR5, gT5, 8)) h d_ST_flat_8 cv_ST_78 (by first | exact hS.lcO | exact hS.lsO | exact hS.lpO | exact hS.cesO (by first | assumption | omega) | exact hS.cepO (by first | assumption | omega) | exact ⟨_, (by first | assumption | exact hS.st | exact hS.mo | exact hS.out | exact hS.sb | exact hS.ce (by first | assumption | omega) | exact hS.ceb (by first | assumption | omega) | exact hS.sh (by first | assumption | omega) | exact hS.shb (by first | assumption | omega) | exact hS.pl (by first | assumption | omega) | exact hS.plb (by first | assumption | omega) | exact hS.fl (by first | assumption | omega) | exact gup_s | (refine gup_t (by assumption) ?_; first | assumption | exact gup_s | (refine gup_t (by assumption) ?_; first | assumption | exact gup_s | (refine gup_t (by assumption) ?_; first | assumption | exact gup_s))))⟩) rfl (k_layer_ok h0 hS hv) (Nat.le_of_ble_eq_true rfl) (Nat.le_of_ble_eq_true rfl) (Nat.le_of_ble_eq_true rfl) (Nat.le_of_ble_eq_true rfl) (Nat.le_of_ble_eq_true rfl) ?_
  refine ri_aload_n h d_ST_flat_11 rfl ?_
  refine ri_iconst h (-1) d_ST_flat_12 rfl ?_
  refine ri_dV0_1 (r := (gR5, gT5, 8)) h d_ST_flat_13 cv_ST_160 (by first | exact hS.lcO | exact hS.lsO | exact hS.lpO | exact hS.cesO (by first | assumption | omega) | exact hS.cepO (by first | assumption | omega) | exact ⟨_, (by first | assumption | exact hS.st | exact hS.mo | exact hS.out | exact hS.sb | exact hS.ce (by first | assumption | omega) | exact hS.ceb (by first | assumption | omega) | exact hS.sh (by first | assumption | omega) | exact hS.shb (by first | assumption | omega) | exact hS.pl (by first | assumption | omega) | exact hS.plb (by first | assumption | omega) | exact hS.fl (by first | assumption | omega) | exact gup_s | (refine gup_t (by assumption) ?_; first | assumption | exact gup_s | (refine gup_t (by assumption) ?_; first | assumption | exact gup_s | (refine gup_t (by assumption) ?_; first | assumption | exact gup_s))))⟩) rfl (k_measureCells h0 hW hL hX hme hS) (Nat.le_of_ble_eq_true rfl) (Nat.le_of_ble_eq_true rfl) (Nat.le_of_ble_eq_true rfl) (Nat.le_of_ble_eq_true rfl) (Nat.le_of_ble_eq_true rfl) (fun M hS => ?_)
  obtain ⟨m, sz, b, pb, hS, h01, hdn⟩ := hS
  have d1 := (hdn c hc).1
  refine ri_aload_n h d_ST_flat_16 rfl ?_
  refine ri_cS0_1 h d_ST_flat_17 cs_ST_174 (k_few_ok h0 hS hc (show sz c ≤ 3000 by omega)) (Nat.le_of_ble_eq_true rfl) (Nat.le_of_ble_eq_true rfl) (Nat.le_of_ble_eq_true rfl) (Nat.le_of_ble_eq_true rfl) (Nat.le_of_ble_eq_true rfl) ?_
  refine ri_aload_n h d_ST_flat_20 rfl ?_
  refine ri_get h d_ST_flat_21 fl_ST_25 (by first | assumption | exact hS.st | exact gup_s) (by rfl) ?_
  refine ri_aload_n h d_ST_flat_24 rfl ?_
  refine ri_iload_n h d_ST_flat_25 rfl ?_
  refine ri_dV0_2 (r := (gR2, gT2, 11)) h d_ST_flat_26 cv_ST_178 (by first | exact hS.lcO | exact hS.lsO | exact hS.lpO | exact hS.cesO (by first | assumption | omega) | exact hS.cepO (by first | assumption | omega) | exact ⟨_, (by first | assumption | exact hS.st | exact hS.mo | exact hS.out | exact hS.sb | exact hS.ce (by first | assumption | omega) | exact hS.ceb (by first | assumption | omega) | exact hS.sh (by first | assumption | omega) | exact hS.shb (by first | assumption | omega) | exact hS.pl (by first | assumption | omega) | exact hS.plb (by first | assumption | omega) | exact hS.fl (by first | assumption | omega) | exact gup_s | (refine gup_t (by assumption) ?_; first | assumption | exact gup_s | (refine gup_t (by assumption) ?_; first | assumption | exact gup_s | (refine gup_t (by assumption) ?_; first | assumption | exact gup_s))))⟩) rfl (k_lay h0 hW hL hX hC (show 0 < 3 by decide) (fun x hx => (hdn x hx).1) (hT.2.1 0 (by decide)) hc hS hlen) (Nat.le_of_ble_eq_true rfl) (Nat.le_of_ble_eq_true rfl) (Nat.le_of_ble_eq_true rfl) (Nat.le_of_ble_eq_true rfl) (Nat.le_of_ble_eq_true rfl) (fun M hS => ?_)
  obtain ⟨r, hS, hcl, hk⟩ := hS
  have h_fl : (lq Q m sz b pb 0 r).fl 0 = r := rfl
  refine ri_aload_n h d_ST_flat_29 rfl ?_
  refine ri_get h d_ST_flat_30 fl_ST_25 (by first | assumption | exact hS.st | exact gup_s) (by rfl) ?_
  refine ri_get h d_ST_flat_33 fl_ST_182 (hS.fl_of (by decide) h_fl) (v := .int (nI (FLn Q v 21 c (0, 0, 0)).length)) (congrArg (fun x => some (Value.int (nI x))) hcl.1) ?_
  refine ri_ireturn h d_ST_flat_36 (Nat.le_of_ble_eq_true rfl) (Nat.le_of_ble_eq_true rfl) ?_
  exact ⟨rfl, m, sz, b, pb, r, hS, h01, hcl, hk.2.2.2.2.2⟩
/-- the sizes, the code: what the model's reckoning leaves -/
theorem k_mflat_no1 (h0 : g_0 l D s0) (hS : HS z ad Qc N M) (hm : MR0 Q N) (hW : WB Q) (hL : WL Q) (hX : WX Q) (hC : WSC Q) {p v : Int32} (hn : ¬ ((∃ c, c < Q.nC ∧ p = nI c) ∧ (¬ v < 0 ∧ v < Q.L))) : Ct l D s0 y_Md_flat (Cond.code y_Md_flat b_Md_flat 3 (some .int)) rkM [.ref (ad 30 0), .int p, .int v] M (fM z ad Qc (some (.int 0)) (fun N' => ∃ u, N' = (N.set_l (va_up N.l 28 u)).set_code 1)) := by
  have hm0 := hm
  refine Ct.of h0 (by decide +kernel) rfl fun X hX h => ?_
  obtain ⟨p_, l', e_, R_, s_, m_, ar_, be_, me_, c_⟩ := X
  obtain rfl : l' = l := hX
  refine ri_aload_n h d_Md_flat_0 rfl ?_
  refine ri_dV0_0 (r := (gR6, gT6, 44)) h d_Md_flat_1 cv_Md_180 (by first | exact hS.lcO | exact hS.lsO | exact hS.lpO | exact hS.cesO (by first | assumption | omega) | exact hS.cepO (by first | assumption | omega) | exact ⟨_, (by first | assumption | exact hS.st | exact hS.mo | exact hS.out | exact hS.sb | exact hS.ce (by first | assumption | omega) | exact hS.ceb (by first | assumption | omega) | exact hS.sh (by first | assumption | omega) | exact hS.shb (by first | assumption | omega) | exact hS.pl (by first | assumption | omega) | exact hS.plb (by first | assumption | omega) | exact hS.fl (by first | assumption | omega) | exact gup_s | (refine gup_t (by assumption) ?_; first | assumption | exact gup_s | (refine gup_t (by assumption) ?_; first | assumption | exact gup_s | (refine gup_t (by assumption) ?_; first | assumption | exact gup_s))))⟩) rfl (k_mreckon h0 hS hm hW hL hX hC) (Nat.le_of_ble_eq_true rfl) (Nat.le_of_ble_eq_true rfl) (Nat.le_of_ble_eq_true rfl) (Nat.le_of_ble_eq_true rfl) (Nat.le_of_ble_eq_true rfl) (fun M hS => ?_)
  obtain ⟨u, hS, hu⟩ := hS
  have hm := hm0.ne (NE.l 28 (by decide) u)
  refine ri_aload_n h d_Md_flat_4 rfl ?_
  refine ri_aload_n h d_Md_flat_5 rfl ?_
  refine ri_iload_n h d_Md_flat_6 rfl ?_
  refine ri_cVv_1 (r := (gR6, gT6, 44)) h d_Md_flat_7 cv_Md_121 (by first | exact hS.lcO | exact hS.lsO | exact hS.lpO | exact hS.cesO (by first | assumption | omega) | exact hS.cepO (by first | assumption | omega) | exact ⟨_, (by first | assumption | exact hS.st | exact hS.mo | exact hS.out | exact hS.sb | exact hS.ce (by first | assumption | omega) | exact hS.ceb (by first | assumption | omega) | exact hS.sh (by first | assumption | omega) | exact hS.shb (by first | assumption | omega) | exact hS.pl (by first | assumption | omega) | exact hS.plb (by first | assumption | omega) | exact hS.fl (by first | assumption | omega) | exact gup_s | (refine gup_t (by assumption) ?_; first | assumption | exact gup_s | (refine gup_t (by assumption) ?_; first | assumption | exact gup_s | (refine gup_t (by assumption) ?_; first | assumption | exact gup_s))))⟩) rfl (k_isCell0 h0 hS hm hW) (Nat.le_of_ble_eq_true rfl) (Nat.le_of_ble_eq_true rfl) (Nat.le_of_ble_eq_true rfl) (Nat.le_of_ble_eq_true rfl) (Nat.le_of_ble_eq_true rfl) ?_
  first | refine ri_ifB_eq h 21 d_Md_flat_10 (by decide) (fun c_10 => ?_) (fun c_10 => ?_) | refine ri_ifN_eq h 21 d_Md_flat_10 (by decide) (by omega) (fun c_10 => ?_) (fun c_10 => ?_) | refine ri_if_eq h 21 d_Md_flat_10 (by decide) (fun c_10 => ?_) (fun c_10 => ?_)
  · first
    | (exfalso; first | exact absurd c_10 (by decide) | omega)
    | (refine ri_iconstN h 1 d_Md_flat_21 rfl ?_
       refine ri_goto h 43 d_Md_flat_22 (by decide) ?_
       refine ri_pm_code h d_Md_flat_43 fl_Md_108 hS (fun M hS => ?_)
       refine ri_aload_n h d_Md_flat_46 rfl ?_
       refine ri_get h d_Md_flat_47 fl_Md_108 (by first | assumption | exact hS.mo | exact gup_s) (by rfl) ?_
       try dsimp only [MS.code, MS.set_code]
       first | refine ri_ifN_le h 55 d_Md_flat_50 (by decide) (by omega) (fun c_50 => ?_) (fun c_50 => ?_) | refine ri_if_le h 55 d_Md_flat_50 (by decide) (fun c_50 => ?_) (fun c_50 => ?_)
       · first
         | (exfalso; first | exact absurd c_50 (by decide) | omega)
         | (omega)
       · first
         | (exfalso; first | exact absurd c_50 (by decide) | omega)
         | (refine ri_iconstN h 0 d_Md_flat_53 rfl ?_
            refine ri_ireturn h d_Md_flat_54 (Nat.le_of_ble_eq_true rfl) (Nat.le_of_ble_eq_true rfl) ?_
            exact ⟨rfl, _, hS, u, rfl⟩))
  · first
    | (exfalso; first | exact absurd c_10 (by decide) | omega)
    | (refine ri_aload_n h d_Md_flat_13 rfl ?_
       refine ri_iload_n h d_Md_flat_14 rfl ?_
       refine ri_cVv_1 (r := (gR6, gT6, 44)) h d_Md_flat_15 cv_Md_125 (by first | exact hS.lcO | exact hS.lsO | exact hS.lpO | exact hS.cesO (by first | assumption | omega) | exact hS.cepO (by first | assumption | omega) | exact ⟨_, (by first | assumption | exact hS.st | exact hS.mo | exact hS.out | exact hS.sb | exact hS.ce (by first | assumption | omega) | exact hS.ceb (by first | assumption | omega) | exact hS.sh (by first | assumption | omega) | exact hS.shb (by first | assumption | omega) | exact hS.pl (by first | assumption | omega) | exact hS.plb (by first | assumption | omega) | exact hS.fl (by first | assumption | omega) | exact gup_s | (refine gup_t (by assumption) ?_; first | assumption | exact gup_s | (refine gup_t (by assumption) ?_; first | assumption | exact gup_s | (refine gup_t (by assumption) ?_; first | assumption | exact gup_s))))⟩) rfl (k_isLayer0 h0 hS hm) (Nat.le_of_ble_eq_true rfl) (Nat.le_of_ble_eq_true rfl) (Nat.le_of_ble_eq_true rfl) (Nat.le_of_ble_eq_true rfl) (Nat.le_of_ble_eq_true rfl) ?_
       first | refine ri_ifB_ne h 25 d_Md_flat_18 (by decide) (fun c_18 => ?_) (fun c_18 => ?_) | refine ri_ifN_ne h 25 d_Md_flat_18 (by decide) (by omega) (fun c_18 => ?_) (fun c_18 => ?_) | refine ri_if_ne h 25 d_Md_flat_18 (by decide) (fun c_18 => ?_) (fun c_18 => ?_)
       · first
         | (exfalso; first | exact absurd c_18 (by decide) | omega)
         | (exact absurd ⟨c_10, c_18⟩ hn)
       · first
         | (exfalso; first | exact absurd c_18 (by decide) | omega)
         | (refine ri_iconstN h 1 d_Md_flat_21 rfl ?_
            refine ri_goto h 43 d_Md_flat_22 (by decide) ?_
            refine ri_pm_code h d_Md_flat_43 fl_Md_108 hS (fun M hS => ?_)
            refine ri_aload_n h d_Md_flat_46 rfl ?_
            refine ri_get h d_Md_flat_47 fl_Md_108 (by first | assumption | exact hS.mo | exact gup_s) (by rfl) ?_
            try dsimp only [MS.code, MS.set_code]
            first | refine ri_ifN_le h 55 d_Md_flat_50 (by decide) (by omega) (fun c_50 => ?_) (fun c_50 => ?_) | refine ri_if_le h 55 d_Md_flat_50 (by decide) (fun c_50 => ?_) (fun c_50 => ?_)
            · first
              | (exfalso; first | exact absurd c_50 (by decide) | omega)
              | (omega)
            · first
              | (exfalso; first | exact absurd c_50 (by decide) | omega)
              | (refine ri_iconstN h 0 d_Md_flat_53 rfl ?_
                 refine ri_ireturn h d_Md_flat_54 (Nat.le_of_ble_eq_true rfl) (Nat.le_of_ble_eq_true rfl) ?_
                 exact ⟨rfl, _, hS, u, rfl⟩)))
theorem sz_gt {Q : CS} {c : Nat} : (nL (min (SZ Q (-1) c) 1000000) ≤ 3000) ↔ SZ Q (-1) c ≤ 3000 := (nL_le (b := 3000) (by omega) (by decide)).trans (by omega)
theorem k_mflat_no2 (h0 : g_0 l D s0) (hS : HS z ad Qc N M) (hm : MR0 Q N) (hW : WB Q) (hL : WL Q) (hX : WX Q) (hC : WSC Q) {c : Nat} (hc : c < Q.nC) {v : Int32} (hv : ¬ v < 0 ∧ v < Q.L) (hn : ¬ SZ Q (-1) c ≤ 3000) : Ct l D s0 y_Md_flat (Cond.code y_Md_flat b_Md_flat 3 (some .int)) rkM [.ref (ad 30 0), .int (nI c), .int v] M (fM z ad Qc (some (.int 0)) (fun N' => ∃ u, N' = (N.set_l (va_up N.l 28 u)).set_code 2)) := by
  have hm0 := hm
  have hb1 := hW.1
  have hc' : ∃ c', c' < Q.nC ∧ nI c = nI c' := ⟨c, hc, rfl⟩
  refine Ct.of h0 (by decide +kernel) rfl fun X hX h => ?_
  obtain ⟨p_, l', e_, R_, s_, m_, ar_, be_, me_, c_⟩ := X
  obtain rfl : l' = l := hX
  refine ri_aload_n h d_Md_flat_0 rfl ?_
  refine ri_dV0_0 (r := (gR6, gT6, 44)) h d_Md_flat_1 cv_Md_180 (by first | exact hS.lcO | exact hS.lsO | exact hS.lpO | exact hS.cesO (by first | assumption | omega) | exact hS.cepO (by first | assumption | omega) | exact ⟨_, (by first | assumption | exact hS.st | exact hS.mo | exact hS.out | exact hS.sb | exact hS.ce (by first | assumption | omega) | exact hS.ceb (by first | assumption | omega) | exact hS.sh (by first | assumption | omega) | exact hS.shb (by first | assumption | omega) | exact hS.pl (by first | assumption | omega) | exact hS.plb (by first | assumption | omega) | exact hS.fl (by first | assumption | omega) | exact gup_s | (refine gup_t (by assumption) ?_; first | assumption | exact gup_s | (refine gup_t (by assumption) ?_; first | assumption | exact gup_s | (refine gup_t (by assumption) ?_; first | assumption | exact gup_s))))⟩) rfl (k_mreckon h0 hS hm hW hL hX hC) (Nat.le_of_ble_eq_true rfl) (Nat.le_of_ble_eq_true rfl) (Nat.le_of_ble_eq_true rfl) (Nat.le_of_ble_eq_true rfl) (Nat.le_of_ble_eq_true rfl) (fun M hS => ?_)
  obtain ⟨u, hS, hu⟩ := hS
  have hm := hm0.ne (NE.l 28 (by decide) u)
  have h28 := hu c hc
  have hcn : ¬ nL (min (SZ Q (-1) c) 1000000) ≤ 3000 := fun q => hn (sz_gt.mp q)
  refine ri_aload_n h d_Md_flat_4 rfl ?_
  refine ri_aload_n h d_Md_flat_5 rfl ?_
  refine ri_iload_n h d_Md_flat_6 rfl ?_
  refine ri_cVv_1 (r := (gR6, gT6, 44)) h d_Md_flat_7 cv_Md_121 (by first | exact hS.lcO | exact hS.lsO | exact hS.lpO | exact hS.cesO (by first | assumption | omega) | exact hS.cepO (by first | assumption | omega) | exact ⟨_, (by first | assumption | exact hS.st | exact hS.mo | exact hS.out | exact hS.sb | exact hS.ce (by first | assumption | omega) | exact hS.ceb (by first | assumption | omega) | exact hS.sh (by first | assumption | omega) | exact hS.shb (by first | assumption | omega) | exact hS.pl (by first | assumption | omega) | exact hS.plb (by first | assumption | omega) | exact hS.fl (by first | assumption | omega) | exact gup_s | (refine gup_t (by assumption) ?_; first | assumption | exact gup_s | (refine gup_t (by assumption) ?_; first | assumption | exact gup_s | (refine gup_t (by assumption) ?_; first | assumption | exact gup_s))))⟩) rfl (k_isCell0 h0 hS hm hW) (Nat.le_of_ble_eq_true rfl) (Nat.le_of_ble_eq_true rfl) (Nat.le_of_ble_eq_true rfl) (Nat.le_of_ble_eq_true rfl) (Nat.le_of_ble_eq_true rfl) ?_
  first | refine ri_ifB_eq h 21 d_Md_flat_10 (by decide) (fun c_10 => ?_) (fun c_10 => ?_) | refine ri_ifN_eq h 21 d_Md_flat_10 (by decide) (by omega) (fun c_10 => ?_) (fun c_10 => ?_) | refine ri_if_eq h 21 d_Md_flat_10 (by decide) (fun c_10 => ?_) (fun c_10 => ?_)
  · first
    | (exfalso; first | exact absurd c_10 (by decide) | first | contradiction | omega)
    | (refine ri_iconstN h 1 d_Md_flat_21 rfl ?_
       refine ri_goto h 43 d_Md_flat_22 (by decide) ?_
       refine ri_pm_code h d_Md_flat_43 fl_Md_108 hS (fun M hS => ?_)
       refine ri_aload_n h d_Md_flat_46 rfl ?_
       refine ri_get h d_Md_flat_47 fl_Md_108 (by first | assumption | exact hS.mo | exact gup_s) (by rfl) ?_
       try dsimp only [MS.code, MS.set_code]
       first | refine ri_ifN_le h 55 d_Md_flat_50 (by decide) (by omega) (fun c_50 => ?_) (fun c_50 => ?_) | refine ri_if_le h 55 d_Md_flat_50 (by decide) (fun c_50 => ?_) (fun c_50 => ?_)
       · first
         | (exfalso; first | exact absurd c_50 (by decide) | first | contradiction | omega)
         | (omega)
       · first
         | (exfalso; first | exact absurd c_50 (by decide) | first | contradiction | omega)
         | (refine ri_iconstN h 0 d_Md_flat_53 rfl ?_
            refine ri_ireturn h d_Md_flat_54 (Nat.le_of_ble_eq_true rfl) (Nat.le_of_ble_eq_true rfl) ?_
            exact ⟨rfl, _, hS, u, rfl⟩))
  · first
    | (exfalso; first | exact absurd c_10 (by decide) | first | contradiction | omega)
    | (refine ri_aload_n h d_Md_flat_13 rfl ?_
       refine ri_iload_n h d_Md_flat_14 rfl ?_
       refine ri_cVv_1 (r := (gR6, gT6, 44)) h d_Md_flat_15 cv_Md_125 (by first | exact hS.lcO | exact hS.lsO | exact hS.lpO | exact hS.cesO (by first | assumption | omega) | exact hS.cepO (by first | assumption | omega) | exact ⟨_, (by first | assumption | exact hS.st | exact hS.mo | exact hS.out | exact hS.sb | exact hS.ce (by first | assumption | omega) | exact hS.ceb (by first | assumption | omega) | exact hS.sh (by first | assumption | omega) | exact hS.shb (by first | assumption | omega) | exact hS.pl (by first | assumption | omega) | exact hS.plb (by first | assumption | omega) | exact hS.fl (by first | assumption | omega) | exact gup_s | (refine gup_t (by assumption) ?_; first | assumption | exact gup_s | (refine gup_t (by assumption) ?_; first | assumption | exact gup_s | (refine gup_t (by assumption) ?_; first | assumption | exact gup_s))))⟩) rfl (k_isLayer0 h0 hS hm) (Nat.le_of_ble_eq_true rfl) (Nat.le_of_ble_eq_true rfl) (Nat.le_of_ble_eq_true rfl) (Nat.le_of_ble_eq_true rfl) (Nat.le_of_ble_eq_true rfl) ?_
       first | refine ri_ifB_ne h 25 d_Md_flat_18 (by decide) (fun c_18 => ?_) (fun c_18 => ?_) | refine ri_ifN_ne h 25 d_Md_flat_18 (by decide) (by omega) (fun c_18 => ?_) (fun c_18 => ?_) | refine ri_if_ne h 25 d_Md_flat_18 (by decide) (fun c_18 => ?_) (fun c_18 => ?_)
       · first
         | (exfalso; first | exact absurd c_18 (by decide) | first | contradiction | omega)
         | (refine ri_aload_n h d_Md_flat_25 rfl ?_
            refine ri_get h d_Md_flat_26 fl_Md_79 (by first | assumption | exact hS.mo | exact gup_s) (by rfl) ?_
            refine ri_iload_n h d_Md_flat_29 rfl ?_
            refine ri_laldE h _ d_Md_flat_30 (by first | assumption | exact hS.a28) (by first | rfl | assumption) (by first | assumption | omega) (by first | decide | omega) (by first | assumption | assumption | rfl) ?_
            refine ri_ldc2 h 3000 d_Md_flat_31 kl_Md_183 ?_
            refine ri_lcmp_le h 42 d_Md_flat_34 d_Md_flat_35 (by decide) (fun c_34 => ?_) (fun c_34 => ?_)
            · first
              | (exfalso; first | exact absurd c_34 (by decide) | first | contradiction | omega)
              | (refine ri_iconstN h 0 d_Md_flat_42 rfl ?_
                 refine ri_pm_code h d_Md_flat_43 fl_Md_108 hS (fun M hS => ?_)
                 refine ri_aload_n h d_Md_flat_46 rfl ?_
                 refine ri_get h d_Md_flat_47 fl_Md_108 (by first | assumption | exact hS.mo | exact gup_s) (by rfl) ?_
                 try dsimp only [MS.code, MS.set_code]
                 first | refine ri_ifN_le h 55 d_Md_flat_50 (by decide) (by omega) (fun c_50 => ?_) (fun c_50 => ?_) | refine ri_if_le h 55 d_Md_flat_50 (by decide) (fun c_50 => ?_) (fun c_50 => ?_)
                 · first
                   | (exfalso; first | exact absurd c_50 (by decide) | first | contradiction | omega)
                   | (omega)
                 · first
                   | (exfalso; first | exact absurd c_50 (by decide) | first | contradiction | omega)
                   | (refine ri_iconstN h 0 d_Md_flat_53 rfl ?_
                      refine ri_ireturn h d_Md_flat_54 (Nat.le_of_ble_eq_true rfl) (Nat.le_of_ble_eq_true rfl) ?_
                      exact ⟨rfl, _, hS, u, rfl⟩))
            · first
              | (exfalso; first | exact absurd c_34 (by decide) | first | contradiction | omega)
              | (refine ri_iconstN h 2 d_Md_flat_38 rfl ?_
                 refine ri_goto h 43 d_Md_flat_39 (by decide) ?_
                 refine ri_pm_code h d_Md_flat_43 fl_Md_108 hS (fun M hS => ?_)
                 refine ri_aload_n h d_Md_flat_46 rfl ?_
                 refine ri_get h d_Md_flat_47 fl_Md_108 (by first | assumption | exact hS.mo | exact gup_s) (by rfl) ?_
                 try dsimp only [MS.code, MS.set_code]
                 first | refine ri_ifN_le h 55 d_Md_flat_50 (by decide) (by omega) (fun c_50 => ?_) (fun c_50 => ?_) | refine ri_if_le h 55 d_Md_flat_50 (by decide) (fun c_50 => ?_) (fun c_50 => ?_)
                 · first
                   | (exfalso; first | exact absurd c_50 (by decide) | first | contradiction | omega)
                   | (omega)
                 · first
                   | (exfalso; first | exact absurd c_50 (by decide) | first | contradiction | omega)
                   | (refine ri_iconstN h 0 d_Md_flat_53 rfl ?_
                      refine ri_ireturn h d_Md_flat_54 (Nat.le_of_ble_eq_true rfl) (Nat.le_of_ble_eq_true rfl) ?_
                      exact ⟨rfl, _, hS, u, rfl⟩)))
       · first
         | (exfalso; first | exact absurd c_18 (by decide) | first | contradiction | omega)
         | (refine ri_iconstN h 1 d_Md_flat_21 rfl ?_
            refine ri_goto h 43 d_Md_flat_22 (by decide) ?_
            refine ri_pm_code h d_Md_flat_43 fl_Md_108 hS (fun M hS => ?_)
            refine ri_aload_n h d_Md_flat_46 rfl ?_
            refine ri_get h d_Md_flat_47 fl_Md_108 (by first | assumption | exact hS.mo | exact gup_s) (by rfl) ?_
            try dsimp only [MS.code, MS.set_code]
            first | refine ri_ifN_le h 55 d_Md_flat_50 (by decide) (by omega) (fun c_50 => ?_) (fun c_50 => ?_) | refine ri_if_le h 55 d_Md_flat_50 (by decide) (fun c_50 => ?_) (fun c_50 => ?_)
            · first
              | (exfalso; first | exact absurd c_50 (by decide) | first | contradiction | omega)
              | (omega)
            · first
              | (exfalso; first | exact absurd c_50 (by decide) | first | contradiction | omega)
              | (refine ri_iconstN h 0 d_Md_flat_53 rfl ?_
                 refine ri_ireturn h d_Md_flat_54 (Nat.le_of_ble_eq_true rfl) (Nat.le_of_ble_eq_true rfl) ?_
                 exact ⟨rfl, _, hS, u, rfl⟩)))
theorem k_mflat_ok (h0 : g_0 l D s0) (hS : HS z ad Qc N M) (hm : MR0 Q N) (hW : WB Q) (hL : WL Q) (hX : WX Q) (hC : WSC Q) {c : Nat} (hc : c < Q.nC) {v : Int32} (hv : ¬ v < 0 ∧ v < Q.L) (hn : SZ Q (-1) c ≤ 3000) : Ct l D s0 y_Md_flat (Cond.code y_Md_flat b_Md_flat 3 (some .int)) rkM [.ref (ad 30 0), .int (nI c), .int v] M (fM z ad Qc (some (.int (nI (FLn Q v 21 c (0, 0, 0)).length))) (fun N' => ∃ (u : Nat → Int64) (N1 : MS), NZ 2 ((N.set_l (va_up N.l 28 u)).set_code 0) N1 ∧ fLs Q N1 2 (FLn Q v 21 c (0, 0, 0)) ∧ N' = N1.set_hand (FLn Q v 21 c (0, 0, 0)).length)) := by
  have hm0 := hm
  have hb1 := hW.1
  have hc' : ∃ c', c' < Q.nC ∧ nI c = nI c' := ⟨c, hc, rfl⟩
  have hlen : (FLn Q v 21 c (0, 0, 0)).length ≤ 3000 := Nat.le_trans (FLn_lay hL 21 c (0, 0, 0)) (by rw [FLn_len hL hW 21 c _ hc (rho_lt hW)]; exact hn)
  refine Ct.of h0 (by decide +kernel) rfl fun X hX h => ?_
  obtain ⟨p_, l', e_, R_, s_, m_, ar_, be_, me_, c_⟩ := X
  obtain rfl : l' = l := hX
  refine ri_aload_n h d_Md_flat_0 rfl ?_
  refine ri_dV0_0 (r := (gR6, gT6, 44)) h d_Md_flat_1 cv_Md_180 (by first | exact hS.lcO | exact hS.lsO | exact hS.lpO | exact hS.cesO (by first | assumption | omega) | exact hS.cepO (by first | assumption | omega) | exact ⟨_, (by first | assumption | exact hS.st | exact hS.mo | exact hS.out | exact hS.sb | exact hS.ce (by first | assumption | omega) | exact hS.ceb (by first | assumption | omega) | exact hS.sh (by first | assumption | omega) | exact hS.shb (by first | assumption | omega) | exact hS.pl (by first | assumption | omega) | exact hS.plb (by first | assumption | omega) | exact hS.fl (by first | assumption | omega) | exact gup_s | (refine gup_t (by assumption) ?_; first | assumption | exact gup_s | (refine gup_t (by assumption) ?_; first | assumption | exact gup_s | (refine gup_t (by assumption) ?_; first | assumption | exact gup_s))))⟩) rfl (k_mreckon h0 hS hm hW hL hX hC) (Nat.le_of_ble_eq_true rfl) (Nat.le_of_ble_eq_true rfl) (Nat.le_of_ble_eq_true rfl) (Nat.le_of_ble_eq_true rfl) (Nat.le_of_ble_eq_true rfl) (fun M hS => ?_)
  obtain ⟨u, hS, hu⟩ := hS
  have hm := hm0.ne (NE.l 28 (by decide) u)
  have h28 := hu c hc
  have hcn : nL (min (SZ Q (-1) c) 1000000) ≤ 3000 := sz_gt.mpr hn
  refine ri_aload_n h d_Md_flat_4 rfl ?_
  refine ri_aload_n h d_Md_flat_5 rfl ?_
  refine ri_iload_n h d_Md_flat_6 rfl ?_
  refine ri_cVv_1 (r := (gR6, gT6, 44)) h d_Md_flat_7 cv_Md_121 (by first | exact hS.lcO | exact hS.lsO | exact hS.lpO | exact hS.cesO (by first | assumption | omega) | exact hS.cepO (by first | assumption | omega) | exact ⟨_, (by first | assumption | exact hS.st | exact hS.mo | exact hS.out | exact hS.sb | exact hS.ce (by first | assumption | omega) | exact hS.ceb (by first | assumption | omega) | exact hS.sh (by first | assumption | omega) | exact hS.shb (by first | assumption | omega) | exact hS.pl (by first | assumption | omega) | exact hS.plb (by first | assumption | omega) | exact hS.fl (by first | assumption | omega) | exact gup_s | (refine gup_t (by assumption) ?_; first | assumption | exact gup_s | (refine gup_t (by assumption) ?_; first | assumption | exact gup_s | (refine gup_t (by assumption) ?_; first | assumption | exact gup_s))))⟩) rfl (k_isCell0 h0 hS hm hW) (Nat.le_of_ble_eq_true rfl) (Nat.le_of_ble_eq_true rfl) (Nat.le_of_ble_eq_true rfl) (Nat.le_of_ble_eq_true rfl) (Nat.le_of_ble_eq_true rfl) ?_
  first | refine ri_ifB_eq h 21 d_Md_flat_10 (by decide) (fun c_10 => ?_) (fun c_10 => ?_) | refine ri_ifN_eq h 21 d_Md_flat_10 (by decide) (by omega) (fun c_10 => ?_) (fun c_10 => ?_) | refine ri_if_eq h 21 d_Md_flat_10 (by decide) (fun c_10 => ?_) (fun c_10 => ?_)
  · first
    | (exfalso; first | exact absurd c_10 (by decide) | first | contradiction | omega)
    | (refine ri_iconstN h 1 d_Md_flat_21 rfl ?_
       refine ri_goto h 43 d_Md_flat_22 (by decide) ?_
       refine ri_pm_code h d_Md_flat_43 fl_Md_108 hS (fun M hS => ?_)
       refine ri_aload_n h d_Md_flat_46 rfl ?_
       refine ri_get h d_Md_flat_47 fl_Md_108 (by first | assumption | exact hS.mo | exact gup_s) (by rfl) ?_
       try dsimp only [MS.code, MS.set_code]
       first | refine ri_ifN_le h 55 d_Md_flat_50 (by decide) (by omega) (fun c_50 => ?_) (fun c_50 => ?_) | refine ri_if_le h 55 d_Md_flat_50 (by decide) (fun c_50 => ?_) (fun c_50 => ?_)
       · first
         | (exfalso; first | exact absurd c_50 (by decide) | first | contradiction | omega)
         | (refine ri_aload_n h d_Md_flat_55 rfl ?_
            refine ri_aload_n h d_Md_flat_56 rfl ?_
            refine ri_iconstN h 2 d_Md_flat_57 rfl ?_
            refine ri_iload_n h d_Md_flat_58 rfl ?_
            refine ri_iload_n h d_Md_flat_59 rfl ?_
            refine ri_dVv_3 (r := (gR6, gT6, 44)) h d_Md_flat_60 cv_Md_185 (by first | exact hS.lcO | exact hS.lsO | exact hS.lpO | exact hS.cesO (by first | assumption | omega) | exact hS.cepO (by first | assumption | omega) | exact ⟨_, (by first | assumption | exact hS.st | exact hS.mo | exact hS.out | exact hS.sb | exact hS.ce (by first | assumption | omega) | exact hS.ceb (by first | assumption | omega) | exact hS.sh (by first | assumption | omega) | exact hS.shb (by first | assumption | omega) | exact hS.pl (by first | assumption | omega) | exact hS.plb (by first | assumption | omega) | exact hS.fl (by first | assumption | omega) | exact gup_s | (refine gup_t (by assumption) ?_; first | assumption | exact gup_s | (refine gup_t (by assumption) ?_; first | assumption | exact gup_s | (refine gup_t (by assumption) ?_; first | assumption | exact gup_s))))⟩) rfl (k_mlay (N := (N.set_l (va_up N.l 28 u)).set_code 0) h0 hS hm hW hL hX hC (show 2 < 3 by decide) hc hu hlen) (Nat.le_of_ble_eq_true rfl) (Nat.le_of_ble_eq_true rfl) (Nat.le_of_ble_eq_true rfl) (Nat.le_of_ble_eq_true rfl) (Nat.le_of_ble_eq_true rfl) (fun M hS => ?_)
            obtain ⟨N1, hS, hnz, hf⟩ := hS
            clear hm
            refine ri_pm_hand h d_Md_flat_63 fl_Md_188 hS (fun M hS => ?_)
            refine ri_aload_n h d_Md_flat_66 rfl ?_
            refine ri_get h d_Md_flat_67 fl_Md_188 (by first | assumption | exact hS.mo | exact gup_s) (by first | exact congrArg (fun x => some (Value.int (nI x))) hm.ha | rfl) ?_
            refine ri_ireturn h d_Md_flat_70 (Nat.le_of_ble_eq_true rfl) (Nat.le_of_ble_eq_true rfl) ?_
            exact ⟨rfl, _, hS, u, N1, hnz, hf, rfl⟩)
       · first
         | (exfalso; first | exact absurd c_50 (by decide) | first | contradiction | omega)
         | (refine ri_iconstN h 0 d_Md_flat_53 rfl ?_
            refine ri_ireturn h d_Md_flat_54 (Nat.le_of_ble_eq_true rfl) (Nat.le_of_ble_eq_true rfl) ?_
            exact ⟨rfl, rfl⟩))
  · first
    | (exfalso; first | exact absurd c_10 (by decide) | first | contradiction | omega)
    | (refine ri_aload_n h d_Md_flat_13 rfl ?_
       refine ri_iload_n h d_Md_flat_14 rfl ?_
       refine ri_cVv_1 (r := (gR6, gT6, 44)) h d_Md_flat_15 cv_Md_125 (by first | exact hS.lcO | exact hS.lsO | exact hS.lpO | exact hS.cesO (by first | assumption | omega) | exact hS.cepO (by first | assumption | omega) | exact ⟨_, (by first | assumption | exact hS.st | exact hS.mo | exact hS.out | exact hS.sb | exact hS.ce (by first | assumption | omega) | exact hS.ceb (by first | assumption | omega) | exact hS.sh (by first | assumption | omega) | exact hS.shb (by first | assumption | omega) | exact hS.pl (by first | assumption | omega) | exact hS.plb (by first | assumption | omega) | exact hS.fl (by first | assumption | omega) | exact gup_s | (refine gup_t (by assumption) ?_; first | assumption | exact gup_s | (refine gup_t (by assumption) ?_; first | assumption | exact gup_s | (refine gup_t (by assumption) ?_; first | assumption | exact gup_s))))⟩) rfl (k_isLayer0 h0 hS hm) (Nat.le_of_ble_eq_true rfl) (Nat.le_of_ble_eq_true rfl) (Nat.le_of_ble_eq_true rfl) (Nat.le_of_ble_eq_true rfl) (Nat.le_of_ble_eq_true rfl) ?_
       first | refine ri_ifB_ne h 25 d_Md_flat_18 (by decide) (fun c_18 => ?_) (fun c_18 => ?_) | refine ri_ifN_ne h 25 d_Md_flat_18 (by decide) (by omega) (fun c_18 => ?_) (fun c_18 => ?_) | refine ri_if_ne h 25 d_Md_flat_18 (by decide) (fun c_18 => ?_) (fun c_18 => ?_)
       · first
         | (exfalso; first | exact absurd c_18 (by decide) | first | contradiction | omega)
         | (refine ri_aload_n h d_Md_flat_25 rfl ?_
            refine ri_get h d_Md_flat_26 fl_Md_79 (by first | assumption | exact hS.mo | exact gup_s) (by rfl) ?_
            refine ri_iload_n h d_Md_flat_29 rfl ?_
            refine ri_laldE h _ d_Md_flat_30 (by first | assumption | exact hS.a28) (by first | rfl | assumption) (by first | assumption | omega) (by first | decide | omega) (by first | assumption | assumption | rfl) ?_
            refine ri_ldc2 h 3000 d_Md_flat_31 kl_Md_183 ?_
            refine ri_lcmp_le h 42 d_Md_flat_34 d_Md_flat_35 (by decide) (fun c_34 => ?_) (fun c_34 => ?_)
            · first
              | (exfalso; first | exact absurd c_34 (by decide) | first | contradiction | omega)
              | (refine ri_iconstN h 0 d_Md_flat_42 rfl ?_
                 refine ri_pm_code h d_Md_flat_43 fl_Md_108 hS (fun M hS => ?_)
                 refine ri_aload_n h d_Md_flat_46 rfl ?_
                 refine ri_get h d_Md_flat_47 fl_Md_108 (by first | assumption | exact hS.mo | exact gup_s) (by rfl) ?_
                 try dsimp only [MS.code, MS.set_code]
                 first | refine ri_ifN_le h 55 d_Md_flat_50 (by decide) (by omega) (fun c_50 => ?_) (fun c_50 => ?_) | refine ri_if_le h 55 d_Md_flat_50 (by decide) (fun c_50 => ?_) (fun c_50 => ?_)
                 · first
                   | (exfalso; first | exact absurd c_50 (by decide) | first | contradiction | omega)
                   | (refine ri_aload_n h d_Md_flat_55 rfl ?_
                      refine ri_aload_n h d_Md_flat_56 rfl ?_
                      refine ri_iconstN h 2 d_Md_flat_57 rfl ?_
                      refine ri_iload_n h d_Md_flat_58 rfl ?_
                      refine ri_iload_n h d_Md_flat_59 rfl ?_
                      refine ri_dVv_3 (r := (gR6, gT6, 44)) h d_Md_flat_60 cv_Md_185 (by first | exact hS.lcO | exact hS.lsO | exact hS.lpO | exact hS.cesO (by first | assumption | omega) | exact hS.cepO (by first | assumption | omega) | exact ⟨_, (by first | assumption | exact hS.st | exact hS.mo | exact hS.out | exact hS.sb | exact hS.ce (by first | assumption | omega) | exact hS.ceb (by first | assumption | omega) | exact hS.sh (by first | assumption | omega) | exact hS.shb (by first | assumption | omega) | exact hS.pl (by first | assumption | omega) | exact hS.plb (by first | assumption | omega) | exact hS.fl (by first | assumption | omega) | exact gup_s | (refine gup_t (by assumption) ?_; first | assumption | exact gup_s | (refine gup_t (by assumption) ?_; first | assumption | exact gup_s | (refine gup_t (by assumption) ?_; first | assumption | exact gup_s))))⟩) rfl (k_mlay (N := (N.set_l (va_up N.l 28 u)).set_code 0) h0 hS hm hW hL hX hC (show 2 < 3 by decide) hc hu hlen) (Nat.le_of_ble_eq_true rfl) (Nat.le_of_ble_eq_true rfl) (Nat.le_of_ble_eq_true rfl) (Nat.le_of_ble_eq_true rfl) (Nat.le_of_ble_eq_true rfl) (fun M hS => ?_)
                      obtain ⟨N1, hS, hnz, hf⟩ := hS
                      clear hm
                      refine ri_pm_hand h d_Md_flat_63 fl_Md_188 hS (fun M hS => ?_)
                      refine ri_aload_n h d_Md_flat_66 rfl ?_
                      refine ri_get h d_Md_flat_67 fl_Md_188 (by first | assumption | exact hS.mo | exact gup_s) (by first | exact congrArg (fun x => some (Value.int (nI x))) hm.ha | rfl) ?_
                      refine ri_ireturn h d_Md_flat_70 (Nat.le_of_ble_eq_true rfl) (Nat.le_of_ble_eq_true rfl) ?_
                      exact ⟨rfl, _, hS, u, N1, hnz, hf, rfl⟩)
                 · first
                   | (exfalso; first | exact absurd c_50 (by decide) | first | contradiction | omega)
                   | (refine ri_iconstN h 0 d_Md_flat_53 rfl ?_
                      refine ri_ireturn h d_Md_flat_54 (Nat.le_of_ble_eq_true rfl) (Nat.le_of_ble_eq_true rfl) ?_
                      exact ⟨rfl, rfl⟩))
            · first
              | (exfalso; first | exact absurd c_34 (by decide) | first | contradiction | omega)
              | (refine ri_iconstN h 2 d_Md_flat_38 rfl ?_
                 refine ri_goto h 43 d_Md_flat_39 (by decide) ?_
                 refine ri_pm_code h d_Md_flat_43 fl_Md_108 hS (fun M hS => ?_)
                 refine ri_aload_n h d_Md_flat_46 rfl ?_
                 refine ri_get h d_Md_flat_47 fl_Md_108 (by first | assumption | exact hS.mo | exact gup_s) (by rfl) ?_
                 try dsimp only [MS.code, MS.set_code]
                 first | refine ri_ifN_le h 55 d_Md_flat_50 (by decide) (by omega) (fun c_50 => ?_) (fun c_50 => ?_) | refine ri_if_le h 55 d_Md_flat_50 (by decide) (fun c_50 => ?_) (fun c_50 => ?_)
                 · first
                   | (exfalso; first | exact absurd c_50 (by decide) | first | contradiction | omega)
                   | (refine ri_aload_n h d_Md_flat_55 rfl ?_
                      refine ri_aload_n h d_Md_flat_56 rfl ?_
                      refine ri_iconstN h 2 d_Md_flat_57 rfl ?_
                      refine ri_iload_n h d_Md_flat_58 rfl ?_
                      refine ri_iload_n h d_Md_flat_59 rfl ?_
                      refine ri_dVv_3 (r := (gR6, gT6, 44)) h d_Md_flat_60 cv_Md_185 (by first | exact hS.lcO | exact hS.lsO | exact hS.lpO | exact hS.cesO (by first | assumption | omega) | exact hS.cepO (by first | assumption | omega) | exact ⟨_, (by first | assumption | exact hS.st | exact hS.mo | exact hS.out | exact hS.sb | exact hS.ce (by first | assumption | omega) | exact hS.ceb (by first | assumption | omega) | exact hS.sh (by first | assumption | omega) | exact hS.shb (by first | assumption | omega) | exact hS.pl (by first | assumption | omega) | exact hS.plb (by first | assumption | omega) | exact hS.fl (by first | assumption | omega) | exact gup_s | (refine gup_t (by assumption) ?_; first | assumption | exact gup_s | (refine gup_t (by assumption) ?_; first | assumption | exact gup_s | (refine gup_t (by assumption) ?_; first | assumption | exact gup_s))))⟩) rfl (k_mlay (N := (N.set_l (va_up N.l 28 u)).set_code 0) h0 hS hm hW hL hX hC (show 2 < 3 by decide) hc hu hlen) (Nat.le_of_ble_eq_true rfl) (Nat.le_of_ble_eq_true rfl) (Nat.le_of_ble_eq_true rfl) (Nat.le_of_ble_eq_true rfl) (Nat.le_of_ble_eq_true rfl) (fun M hS => ?_)
                      obtain ⟨N1, hS, hnz, hf⟩ := hS
                      clear hm
                      refine ri_pm_hand h d_Md_flat_63 fl_Md_188 hS (fun M hS => ?_)
                      refine ri_aload_n h d_Md_flat_66 rfl ?_
                      refine ri_get h d_Md_flat_67 fl_Md_188 (by first | assumption | exact hS.mo | exact gup_s) (by first | exact congrArg (fun x => some (Value.int (nI x))) hm.ha | rfl) ?_
                      refine ri_ireturn h d_Md_flat_70 (Nat.le_of_ble_eq_true rfl) (Nat.le_of_ble_eq_true rfl) ?_
                      exact ⟨rfl, _, hS, u, N1, hnz, hf, rfl⟩)
                 · first
                   | (exfalso; first | exact absurd c_50 (by decide) | first | contradiction | omega)
                   | (refine ri_iconstN h 0 d_Md_flat_53 rfl ?_
                      refine ri_ireturn h d_Md_flat_54 (Nat.le_of_ble_eq_true rfl) (Nat.le_of_ble_eq_true rfl) ?_
                      exact ⟨rfl, rfl⟩)))
       · first
         | (exfalso; first | exact absurd c_18 (by decide) | first | contradiction | omega)
         | (refine ri_iconstN h 1 d_Md_flat_21 rfl ?_
            refine ri_goto h 43 d_Md_flat_22 (by decide) ?_
            refine ri_pm_code h d_Md_flat_43 fl_Md_108 hS (fun M hS => ?_)
            refine ri_aload_n h d_Md_flat_46 rfl ?_
            refine ri_get h d_Md_flat_47 fl_Md_108 (by first | assumption | exact hS.mo | exact gup_s) (by rfl) ?_
            try dsimp only [MS.code, MS.set_code]
            first | refine ri_ifN_le h 55 d_Md_flat_50 (by decide) (by omega) (fun c_50 => ?_) (fun c_50 => ?_) | refine ri_if_le h 55 d_Md_flat_50 (by decide) (fun c_50 => ?_) (fun c_50 => ?_)
            · first
              | (exfalso; first | exact absurd c_50 (by decide) | first | contradiction | omega)
              | (refine ri_aload_n h d_Md_flat_55 rfl ?_
                 refine ri_aload_n h d_Md_flat_56 rfl ?_
                 refine ri_iconstN h 2 d_Md_flat_57 rfl ?_
                 refine ri_iload_n h d_Md_flat_58 rfl ?_
                 refine ri_iload_n h d_Md_flat_59 rfl ?_
                 refine ri_dVv_3 (r := (gR6, gT6, 44)) h d_Md_flat_60 cv_Md_185 (by first | exact hS.lcO | exact hS.lsO | exact hS.lpO | exact hS.cesO (by first | assumption | omega) | exact hS.cepO (by first | assumption | omega) | exact ⟨_, (by first | assumption | exact hS.st | exact hS.mo | exact hS.out | exact hS.sb | exact hS.ce (by first | assumption | omega) | exact hS.ceb (by first | assumption | omega) | exact hS.sh (by first | assumption | omega) | exact hS.shb (by first | assumption | omega) | exact hS.pl (by first | assumption | omega) | exact hS.plb (by first | assumption | omega) | exact hS.fl (by first | assumption | omega) | exact gup_s | (refine gup_t (by assumption) ?_; first | assumption | exact gup_s | (refine gup_t (by assumption) ?_; first | assumption | exact gup_s | (refine gup_t (by assumption) ?_; first | assumption | exact gup_s))))⟩) rfl (k_mlay (N := (N.set_l (va_up N.l 28 u)).set_code 0) h0 hS hm hW hL hX hC (show 2 < 3 by decide) hc hu hlen) (Nat.le_of_ble_eq_true rfl) (Nat.le_of_ble_eq_true rfl) (Nat.le_of_ble_eq_true rfl) (Nat.le_of_ble_eq_true rfl) (Nat.le_of_ble_eq_true rfl) (fun M hS => ?_)
                 obtain ⟨N1, hS, hnz, hf⟩ := hS
                 clear hm
                 refine ri_pm_hand h d_Md_flat_63 fl_Md_188 hS (fun M hS => ?_)
                 refine ri_aload_n h d_Md_flat_66 rfl ?_
                 refine ri_get h d_Md_flat_67 fl_Md_188 (by first | assumption | exact hS.mo | exact gup_s) (by first | exact congrArg (fun x => some (Value.int (nI x))) hm.ha | rfl) ?_
                 refine ri_ireturn h d_Md_flat_70 (Nat.le_of_ble_eq_true rfl) (Nat.le_of_ble_eq_true rfl) ?_
                 exact ⟨rfl, _, hS, u, N1, hnz, hf, rfl⟩)
            · first
              | (exfalso; first | exact absurd c_50 (by decide) | first | contradiction | omega)
              | (refine ri_iconstN h 0 d_Md_flat_53 rfl ?_
                 refine ri_ireturn h d_Md_flat_54 (Nat.le_of_ble_eq_true rfl) (Nat.le_of_ble_eq_true rfl) ?_
                 exact ⟨rfl, rfl⟩)))
end FFI
