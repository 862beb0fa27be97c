/-! merge and sort -/
def sl (f : Nat → Nat) (a b : Nat) : List Nat := (List.range' a (b - a)).map f
theorem sl_nil {f : Nat → Nat} {a b : Nat} (h : b ≤ a) : sl f a b = [] := by
  unfold sl
  rw [show b - a = 0 by omega]
  rfl
theorem sl_cons {f : Nat → Nat} {a b : Nat} (h : a < b) : sl f a b = f a :: sl f (a + 1) b := by
  unfold sl
  rw [show b - a = (b - (a + 1)) + 1 by omega, List.range'_succ]
  rfl
theorem sl_cong {f g : Nat → Nat} {a b : Nat} (h : ∀ i, a ≤ i → i < b → f i = g i) : sl f a b = sl g a b := by
  unfold sl
  refine List.map_congr_left (fun i hi => ?_)
  obtain ⟨h1, h2⟩ := List.mem_range'_1.mp hi
  exact h i h1 (by omega)
theorem sl_app {f : Nat → Nat} {a m b : Nat} (h1 : a ≤ m) (h2 : m ≤ b) : sl f a b = sl f a m ++ sl f m b := by
  unfold sl
  rw [← List.map_append, show m = a + 1 * (m - a) by omega, show (a + 1 * (m - a)) - a = m - a by omega, show b - (a + 1 * (m - a)) = b - m by omega, List.range'_append, show m - a + (b - m) = b - a by omega]
theorem sl_snoc {f : Nat → Nat} {a i : Nat} (h : a ≤ i) : sl f a (i + 1) = sl f a i ++ [f i] := by
  rw [sl_app h (Nat.le_succ i), sl_cons (Nat.lt_succ_self i), sl_nil (Nat.le_refl _)]
theorem sl_mem {f : Nat → Nat} {a b x : Nat} (h : x ∈ sl f a b) : ∃ i, a ≤ i ∧ i < b ∧ f i = x := by
  obtain ⟨i, hi, e⟩ := List.mem_map.mp h
  obtain ⟨h1, h2⟩ := List.mem_range'_1.mp hi
  exact ⟨i, h1, by omega, e⟩
theorem sl_len {f : Nat → Nat} {a b : Nat} : (sl f a b).length = b - a := by
  unfold sl
  rw [List.length_map, List.length_range']
/-- the flat shapes of a row: settled, well -/
def FO (Q : CS) (r : FlR) (w : Nat → It) : Prop := WFl Q.nS Q.sh r ∧ ∀ i, i < r.cnt → cIt r i (w i) ∧ itm Q (w i)
noncomputable abbrev kle (Q : CS) (w : Nat → It) (x y : Nat) : Bool := decide (lcmp (key Q (w x)) (key Q (w y)) ≠ 1)
theorem kle_t {Q : CS} {w : Nat → It} (a b c : Nat) (h1 : kle Q w a b = true) (h2 : kle Q w b c = true) : kle Q w a c = true := by
  rw [decide_eq_true_iff] at *
  exact lcmp_t _ _ _ h1 h2
theorem kle_o {Q : CS} {w : Nat → It} (a b : Nat) : (kle Q w a b || kle Q w b a) = true := by
  rw [Bool.or_eq_true, decide_eq_true_iff, decide_eq_true_iff]
  exact leK.tot _ _
theorem FlR.os2 (r : FlR) (o p p' : Nat → Nat) : ((r.set_ord o).set_spa p).set_spa p' = (r.set_ord o).set_spa p' := rfl
theorem FlR.os3 (r : FlR) (o o' p : Nat → Nat) : ((r.set_ord o).set_spa p).set_ord o' = (r.set_ord o').set_spa p := rfl
section SRT
variable {l : Launch} {D : gD} {s0 : State} {M : gH} {z : Nat} {ad : gA} {Q : CS} {N : MS}
theorem FO.op {r : FlR} {w : Nat → It} (h : FO Q r w) (g : Nat → FlR) (o p : Nat → Nat) : FO (Q.set_fl g) ((r.set_ord o).set_spa p) w := h
theorem k_cmp (h0 : g_0 l D s0) (hS : HS z ad Q N M) {j1 j2 i1 i2 : Nat} {r1 r2 : FlR} {w1 w2 : Nat → It} (hj1 : j1 < 3) (hj2 : j2 < 3) (hr1 : Q.fl j1 = r1) (hr2 : Q.fl j2 = r2) (hF1 : FO Q r1 w1) (hF2 : FO Q r2 w2) (hi1 : i1 < r1.cnt) (hi2 : i2 < r2.cnt) : Ct l D s0 y_Fl_compare (Cond.code y_Fl_compare b_Fl_compare 10 (some .int)) (rk 2 0 0) [.ref (ad 3 j1), .int (nI i1), .ref (ad 3 j2), .int (nI i2)] M (fR (some (.int (lcmp (key Q (w1 i1)) (key Q (w2 i2))))) M) := by
  subst hr1
  subst hr2
  exact k_compare h0 hS hj1 hj2 hF1.1 hF2.1 hi1 hi2 (hF1.2 i1 hi1).1 (hF2.2 i2 hi2).1 (hF1.2 i1 hi1).2 (hF2.2 i2 hi2).2
theorem k_merge (h0 : g_0 l D s0) {j : Nat} {r : FlR} {o p : Nat → Nat} {w : Nat → It} (hj : j < 3) (hS : HS z ad (Q.set_fl (va_up Q.fl j ((r.set_ord o).set_spa p))) N M) (hF : FO Q r w) (ho : ∀ i, i < r.cnt → o i < r.cnt) {a m b : Nat} (ham : a ≤ m) (hmb : m ≤ b) (hb : b ≤ r.cnt) : Ct l D s0 y_Fl_merge (Cond.code y_Fl_merge b_Fl_merge 8 none) (rk 3 0 0) [.ref (ad 3 j), .int (nI a), .int (nI m), .int (nI b)] M (fS none (fun M' => ∃ p', HS z ad (Q.set_fl (va_up Q.fl j ((r.set_ord o).set_spa p'))) N M' ∧ (∀ i, i < a ∨ b ≤ i → p' i = p i) ∧ sl p' a b = List.merge (sl o a m) (sl o m b) (kle Q w))) := by
  have hc3 : r.cnt ≤ 3000 := hF.1.1
  refine Ct.of h0 (by decide +kernel) rfl fun X hX h => ?_
  obtain ⟨p_, l', e_, R_, s_, m_, ar_, be_, me_, c_⟩ := X
  obtain rfl : l' = l := hX
  have LP : ∀ (q i lf rg : Nat), i + q = b → a ≤ lf → lf ≤ m → m ≤ rg → rg ≤ b → i + m = lf + rg → ∀ (M : gH) (p' : Nat → Nat), HS z ad (Q.set_fl (va_up Q.fl j ((r.set_ord o).set_spa p'))) N M → (∀ i', i' < a ∨ b ≤ i' → p' i' = p i') → sl p' a i ++ List.merge (sl o lf m) (sl o rg b) (kle Q w) = List.merge (sl o a m) (sl o m b) (kle Q w) → G (gzz D s0 (p_, l', e_, R_, s_, m_, ar_, be_, me_, c_) (rk 3 0 0) (fS none (fun M' => ∃ p', HS z ad (Q.set_fl (va_up Q.fl j ((r.set_ord o).set_spa p'))) N M' ∧ (∀ i, i < a ∨ b ≤ i → p' i = p i) ∧ sl p' a b = List.merge (sl o a m) (sl o m b) (kle Q w))) 8) 9 [(0, .ref (ad 3 j)), (1, .int (nI a)), (2, .int (nI m)), (3, .int (nI b)), (4, .int (nI lf)), (5, .int (nI rg)), (6, .int (nI i))] [] M 0 0 := by
    intro q
    induction q with
    | zero =>
      intro i lf rg hi h1 h2 h3 h4 h5 M p' hS hout hinv
      refine ri_iload h d_Fl_merge_9 rfl ?_
      refine ri_iload_n h d_Fl_merge_11 rfl ?_
      first | refine ri_icmpN_ge h 105 d_Fl_merge_12 (by decide) (by omega) (by omega) (fun c_12 => ?_) (fun c_12 => ?_) | refine ri_icmp_ge h 105 d_Fl_merge_12 (by decide) (fun c_12 => ?_) (fun c_12 => ?_)
      · refine ri_return h d_Fl_merge_105 (Nat.le_of_ble_eq_true rfl) (Nat.le_of_ble_eq_true rfl) ?_
        refine ⟨rfl, p', hS, hout, ?_⟩
        rw [show lf = m by omega, show rg = b by omega, sl_nil (Nat.le_refl m), sl_nil (Nat.le_refl b), List.nil_merge, List.append_nil] at hinv
        rw [← hinv, show i = b by omega]
      · omega
    | succ q ih =>
      intro i lf rg hi h1 h2 h3 h4 h5 M p' hS hout hinv
      have h_fl : (Q.set_fl (va_up Q.fl j ((r.set_ord o).set_spa p'))).fl j = (r.set_ord o).set_spa p' := va_up_s
      have hi3 : i < 3000 := by omega
      have hout' : ∀ x i', i' < a ∨ b ≤ i' → va_up p' i x i' = p i' := fun x i' h' => by rw [va_up_n (by omega)]; exact hout i' h'
      have hsl : ∀ x, sl (va_up p' i x) a (i + 1) = sl p' a i ++ [x] := fun x => by
        rw [sl_snoc (by omega), va_up_s, sl_cong (fun i' _ h' => va_up_n (by omega))]
      have KL : lf < m → sl p' a i ++ o lf :: List.merge (sl o (lf + 1) m) (sl o rg b) (kle Q w) = List.merge (sl o a m) (sl o m b) (kle Q w) → G (gzz D s0 (p_, l', e_, R_, s_, m_, ar_, be_, me_, c_) (rk 3 0 0) (fS none (fun M' => ∃ p', HS z ad (Q.set_fl (va_up Q.fl j ((r.set_ord o).set_spa p'))) N M' ∧ (∀ i, i < a ∨ b ≤ i → p' i = p i) ∧ sl p' a b = List.merge (sl o a m) (sl o m b) (kle Q w))) 8) 49 [(0, .ref (ad 3 j)), (1, .int (nI a)), (2, .int (nI m)), (3, .int (nI b)), (4, .int (nI lf)), (5, .int (nI rg)), (6, .int (nI i))] [] M 0 0 := by
        intro hl hv
        have hl3 : lf < 3000 := by omega
        refine ri_iconst h 1 d_Fl_merge_49 rfl ?_
        refine ri_goto h 54 d_Fl_merge_50 (by decide) ?_
        refine ri_istore h d_Fl_merge_54 (Nat.le_of_ble_eq_true rfl) ?_
        refine ri_aload_n h d_Fl_merge_56 rfl ?_
        refine ri_get h d_Fl_merge_57 fl_Fl_34 (by first | assumption | exact hS.fl_of (by first | assumption | omega) (by assumption) | exact hS.fl (by first | assumption | omega) | exact gup_s) (by rfl) ?_
        refine ri_iload h d_Fl_merge_60 rfl ?_
        refine ri_iload h d_Fl_merge_62 rfl ?_
        refine ri_if_eq h 77 d_Fl_merge_64 (by decide) (fun c_64 => ?_) (fun c_64 => ?_)
        · exact absurd c_64 (by decide)
        · refine ri_aload_n h d_Fl_merge_67 rfl ?_
          refine ri_get h d_Fl_merge_68 fl_Fl_31 (by first | assumption | exact hS.fl_of (by first | assumption | omega) (by assumption) | exact hS.fl (by first | assumption | omega) | exact gup_s) (by rfl) ?_
          refine ri_iload h d_Fl_merge_71 rfl ?_
          refine ri_ialdE h _ d_Fl_merge_73 (hS.flo_of hj h_fl) rfl hl3 (by decide) (v := nI (o lf)) rfl ?_
          refine ri_goto h 84 d_Fl_merge_74 (by decide) ?_
          refine ri_iast h _ d_Fl_merge_84 (hS.flp_of hj h_fl) rfl hi3 (by decide) ?_
          refine ri_gH2 (hS.p_flp hj h_fl i (o lf)) (fun M hS h_fl => ?_)
          have hS := hS.fl2
          rw [FlR.os2] at hS
          refine ri_iload h d_Fl_merge_85 rfl ?_
          refine ri_if_eq h 96 d_Fl_merge_87 (by decide) (fun c_87 => ?_) (fun c_87 => ?_)
          · exact absurd c_87 (by decide)
          · first | refine ri_iincN h d_Fl_merge_90 rfl (Nat.le_of_ble_eq_true rfl) ?_ | refine ri_iinc h _ d_Fl_merge_90 rfl rfl (Nat.le_of_ble_eq_true rfl) ?_
            refine ri_goto h 99 d_Fl_merge_93 (by decide) ?_
            first | refine ri_iincN h d_Fl_merge_99 rfl (Nat.le_of_ble_eq_true rfl) ?_ | refine ri_iinc h _ d_Fl_merge_99 rfl rfl (Nat.le_of_ble_eq_true rfl) ?_
            refine ri_goto h 9 d_Fl_merge_102 (by decide) ?_
            refine ri_ls [(0, .ref (ad 3 j)), (1, .int (nI a)), (2, .int (nI m)), (3, .int (nI b)), (4, .int (nI (lf + 1))), (5, .int (nI rg)), (6, .int (nI (i + 1)))] ⟨rfl, rfl, rfl, rfl, rfl, rfl, rfl, trivial⟩ (ih (i + 1) (lf + 1) rg (by omega) (by omega) (by omega) h3 h4 (by omega) M _ hS (hout' _) ?_)
            rw [hsl, List.append_assoc]
            exact hv
      have KR : rg < b → sl p' a i ++ o rg :: List.merge (sl o lf m) (sl o (rg + 1) b) (kle Q w) = List.merge (sl o a m) (sl o m b) (kle Q w) → G (gzz D s0 (p_, l', e_, R_, s_, m_, ar_, be_, me_, c_) (rk 3 0 0) (fS none (fun M' => ∃ p', HS z ad (Q.set_fl (va_up Q.fl j ((r.set_ord o).set_spa p'))) N M' ∧ (∀ i, i < a ∨ b ≤ i → p' i = p i) ∧ sl p' a b = List.merge (sl o a m) (sl o m b) (kle Q w))) 8) 53 [(0, .ref (ad 3 j)), (1, .int (nI a)), (2, .int (nI m)), (3, .int (nI b)), (4, .int (nI lf)), (5, .int (nI rg)), (6, .int (nI i))] [] M 0 0 := by
        intro hl hv
        have hl3 : rg < 3000 := by omega
        refine ri_iconst h 0 d_Fl_merge_53 rfl ?_
        refine ri_istore h d_Fl_merge_54 (Nat.le_of_ble_eq_true rfl) ?_
        refine ri_aload_n h d_Fl_merge_56 rfl ?_
        refine ri_get h d_Fl_merge_57 fl_Fl_34 (by first | assumption | exact hS.fl_of (by first | assumption | omega) (by assumption) | exact hS.fl (by first | assumption | omega) | exact gup_s) (by rfl) ?_
        refine ri_iload h d_Fl_merge_60 rfl ?_
        refine ri_iload h d_Fl_merge_62 rfl ?_
        refine ri_if_eq h 77 d_Fl_merge_64 (by decide) (fun c_64 => ?_) (fun c_64 => ?_)
        · refine ri_aload_n h d_Fl_merge_77 rfl ?_
          refine ri_get h d_Fl_merge_78 fl_Fl_31 (by first | assumption | exact hS.fl_of (by first | assumption | omega) (by assumption) | exact hS.fl (by first | assumption | omega) | exact gup_s) (by rfl) ?_
          refine ri_iload h d_Fl_merge_81 rfl ?_
          refine ri_ialdE h _ d_Fl_merge_83 (hS.flo_of hj h_fl) rfl hl3 (by decide) (v := nI (o rg)) rfl ?_
          refine ri_iast h _ d_Fl_merge_84 (hS.flp_of hj h_fl) rfl hi3 (by decide) ?_
          refine ri_gH2 (hS.p_flp hj h_fl i (o rg)) (fun M hS h_fl => ?_)
          have hS := hS.fl2
          rw [FlR.os2] at hS
          refine ri_iload h d_Fl_merge_85 rfl ?_
          refine ri_if_eq h 96 d_Fl_merge_87 (by decide) (fun c_87 => ?_) (fun c_87 => ?_)
          · first | refine ri_iincN h d_Fl_merge_96 rfl (Nat.le_of_ble_eq_true rfl) ?_ | refine ri_iinc h _ d_Fl_merge_96 rfl rfl (Nat.le_of_ble_eq_true rfl) ?_
            first | refine ri_iincN h d_Fl_merge_99 rfl (Nat.le_of_ble_eq_true rfl) ?_ | refine ri_iinc h _ d_Fl_merge_99 rfl rfl (Nat.le_of_ble_eq_true rfl) ?_
            refine ri_goto h 9 d_Fl_merge_102 (by decide) ?_
            refine ri_ls [(0, .ref (ad 3 j)), (1, .int (nI a)), (2, .int (nI m)), (3, .int (nI b)), (4, .int (nI lf)), (5, .int (nI (rg + 1))), (6, .int (nI (i + 1)))] ⟨rfl, rfl, rfl, rfl, rfl, rfl, rfl, trivial⟩ (ih (i + 1) lf (rg + 1) (by omega) h1 h2 (by omega) (by omega) (by omega) M _ hS (hout' _) ?_)
            rw [hsl, List.append_assoc]
            exact hv
          · exact absurd rfl c_87
        · exact absurd rfl c_64
      refine ri_iload h d_Fl_merge_9 rfl ?_
      refine ri_iload_n h d_Fl_merge_11 rfl ?_
      first | refine ri_icmpN_ge h 105 d_Fl_merge_12 (by decide) (by omega) (by omega) (fun c_12 => ?_) (fun c_12 => ?_) | refine ri_icmp_ge h 105 d_Fl_merge_12 (by decide) (fun c_12 => ?_) (fun c_12 => ?_)
      · omega
      · refine ri_iload h d_Fl_merge_15 rfl ?_
        refine ri_iload_n h d_Fl_merge_17 rfl ?_
        first | refine ri_icmpN_ge h 53 d_Fl_merge_18 (by decide) (by omega) (by omega) (fun c_18 => ?_) (fun c_18 => ?_) | refine ri_icmp_ge h 53 d_Fl_merge_18 (by decide) (fun c_18 => ?_) (fun c_18 => ?_)
        · refine ri_ls [(0, .ref (ad 3 j)), (1, .int (nI a)), (2, .int (nI m)), (3, .int (nI b)), (4, .int (nI lf)), (5, .int (nI rg)), (6, .int (nI i))] ⟨rfl, rfl, rfl, rfl, rfl, rfl, rfl, trivial⟩ (KR (by omega) ?_)
          rw [sl_nil (a := lf) (b := m) (by omega), sl_cons (show rg < b by omega), List.nil_merge] at hinv
          rw [sl_nil (a := lf) (b := m) (by omega), List.nil_merge]
          exact hinv
        · refine ri_iload h d_Fl_merge_21 rfl ?_
          refine ri_iload_n h d_Fl_merge_23 rfl ?_
          first | refine ri_icmpN_ge h 49 d_Fl_merge_24 (by decide) (by omega) (by omega) (fun c_24 => ?_) (fun c_24 => ?_) | refine ri_icmp_ge h 49 d_Fl_merge_24 (by decide) (fun c_24 => ?_) (fun c_24 => ?_)
          · refine ri_ls [(0, .ref (ad 3 j)), (1, .int (nI a)), (2, .int (nI m)), (3, .int (nI b)), (4, .int (nI lf)), (5, .int (nI rg)), (6, .int (nI i))] ⟨rfl, rfl, rfl, rfl, rfl, rfl, rfl, trivial⟩ (KL (by omega) ?_)
            rw [sl_nil (a := rg) (b := b) (by omega), sl_cons (show lf < m by omega), List.merge_right] at hinv
            rw [sl_nil (a := rg) (b := b) (by omega), List.merge_right]
            exact hinv
          · have hl3 : lf < 3000 := by omega
            have hr3 : rg < 3000 := by omega
            rw [sl_cons (show lf < m by omega), sl_cons (show rg < b by omega), List.cons_merge_cons] at hinv
            refine ri_aload_n h d_Fl_merge_27 rfl ?_
            refine ri_aload_n h d_Fl_merge_28 rfl ?_
            refine ri_get h d_Fl_merge_29 fl_Fl_31 (by first | assumption | exact hS.fl_of (by first | assumption | omega) (by assumption) | exact hS.fl (by first | assumption | omega) | exact gup_s) (by rfl) ?_
            refine ri_iload h d_Fl_merge_32 rfl ?_
            refine ri_ialdE h _ d_Fl_merge_34 (hS.flo_of hj h_fl) rfl hl3 (by decide) (v := nI (o lf)) rfl ?_
            refine ri_aload_n h d_Fl_merge_35 rfl ?_
            refine ri_aload_n h d_Fl_merge_36 rfl ?_
            refine ri_get h d_Fl_merge_37 fl_Fl_31 (by first | assumption | exact hS.fl_of (by first | assumption | omega) (by assumption) | exact hS.fl (by first | assumption | omega) | exact gup_s) (by rfl) ?_
            refine ri_iload h d_Fl_merge_40 rfl ?_
            refine ri_ialdE h _ d_Fl_merge_42 (hS.flo_of hj h_fl) rfl hr3 (by decide) (v := nI (o rg)) rfl ?_
            refine ri_cVv_3 (r := (gR2, gT2, 11)) h d_Fl_merge_43 cv_Fl_170 (by first | exact hS.lcO | exact hS.lsO | exact hS.lpO | exact hS.cesO (by first | assumption | omega) | exact hS.cepO (by first | assumption | omega) | exact ⟨_, (by first | assumption | exact hS.st | exact hS.mo | exact hS.out | exact hS.sb | exact hS.ce (by first | assumption | omega) | exact hS.ceb (by first | assumption | omega) | exact hS.sh (by first | assumption | omega) | exact hS.shb (by first | assumption | omega) | exact hS.pl (by first | assumption | omega) | exact hS.plb (by first | assumption | omega) | exact hS.fl (by first | assumption | omega) | exact gup_s | (refine gup_t (by assumption) ?_; first | assumption | exact gup_s | (refine gup_t (by assumption) ?_; first | assumption | exact gup_s | (refine gup_t (by assumption) ?_; first | assumption | exact gup_s))))⟩) rfl (k_cmp h0 hS hj hj h_fl h_fl (hF.op _ _ _) (hF.op _ _ _) (ho lf (by omega)) (ho rg (by omega))) (Nat.le_of_ble_eq_true rfl) (Nat.le_of_ble_eq_true rfl) (Nat.le_of_ble_eq_true rfl) (Nat.le_of_ble_eq_true rfl) (Nat.le_of_ble_eq_true rfl) ?_
            rcases lcmp_v (key Q (w (o lf))) (key Q (w (o rg))) with e | e | e
            · rw [show lcmp (key (Q.set_fl (va_up Q.fl j ((r.set_ord o).set_spa p'))) (w (o lf))) (key (Q.set_fl (va_up Q.fl j ((r.set_ord o).set_spa p'))) (w (o rg))) = -1 from e]
              refine ri_if_gt h 53 d_Fl_merge_46 (by decide) (fun c_46 => ?_) (fun c_46 => ?_)
              · exact absurd c_46 (by decide)
              · rw [if_pos (decide_eq_true (by rw [e]; decide)), ← sl_cons (show rg < b by omega)] at hinv
                exact ri_ls [(0, .ref (ad 3 j)), (1, .int (nI a)), (2, .int (nI m)), (3, .int (nI b)), (4, .int (nI lf)), (5, .int (nI rg)), (6, .int (nI i))] ⟨rfl, rfl, rfl, rfl, rfl, rfl, rfl, trivial⟩ (KL (by omega) hinv)
            · rw [show lcmp (key (Q.set_fl (va_up Q.fl j ((r.set_ord o).set_spa p'))) (w (o lf))) (key (Q.set_fl (va_up Q.fl j ((r.set_ord o).set_spa p'))) (w (o rg))) = 0 from e]
              refine ri_if_gt h 53 d_Fl_merge_46 (by decide) (fun c_46 => ?_) (fun c_46 => ?_)
              · exact absurd c_46 (by decide)
              · rw [if_pos (decide_eq_true (by rw [e]; decide)), ← sl_cons (show rg < b by omega)] at hinv
                exact ri_ls [(0, .ref (ad 3 j)), (1, .int (nI a)), (2, .int (nI m)), (3, .int (nI b)), (4, .int (nI lf)), (5, .int (nI rg)), (6, .int (nI i))] ⟨rfl, rfl, rfl, rfl, rfl, rfl, rfl, trivial⟩ (KL (by omega) hinv)
            · rw [show lcmp (key (Q.set_fl (va_up Q.fl j ((r.set_ord o).set_spa p'))) (w (o lf))) (key (Q.set_fl (va_up Q.fl j ((r.set_ord o).set_spa p'))) (w (o rg))) = 1 from e]
              refine ri_if_gt h 53 d_Fl_merge_46 (by decide) (fun c_46 => ?_) (fun c_46 => ?_)
              · rw [if_neg (by rw [decide_eq_true_iff]; exact fun q => q e), ← sl_cons (show lf < m by omega)] at hinv
                exact ri_ls [(0, .ref (ad 3 j)), (1, .int (nI a)), (2, .int (nI m)), (3, .int (nI b)), (4, .int (nI lf)), (5, .int (nI rg)), (6, .int (nI i))] ⟨rfl, rfl, rfl, rfl, rfl, rfl, rfl, trivial⟩ (KR (by omega) hinv)
              · exact absurd c_46 (by decide)
  refine ri_iload_n h d_Fl_merge_0 rfl ?_
  refine ri_istore h d_Fl_merge_1 (Nat.le_of_ble_eq_true rfl) ?_
  refine ri_iload_n h d_Fl_merge_3 rfl ?_
  refine ri_istore h d_Fl_merge_4 (Nat.le_of_ble_eq_true rfl) ?_
  refine ri_iload_n h d_Fl_merge_6 rfl ?_
  refine ri_istore h d_Fl_merge_7 (Nat.le_of_ble_eq_true rfl) ?_
  exact ri_ls [(0, .ref (ad 3 j)), (1, .int (nI a)), (2, .int (nI m)), (3, .int (nI b)), (4, .int (nI a)), (5, .int (nI m)), (6, .int (nI a))] ⟨rfl, rfl, rfl, rfl, rfl, rfl, rfl, trivial⟩ (LP (b - a) a a m (by omega) (Nat.le_refl _) ham (Nat.le_refl _) hmb (by omega) M p hS (fun _ _ => rfl) (by rw [sl_nil (Nat.le_refl a), List.nil_append]))
theorem k_minN (h0 : g_0 l D s0) (M : gH) {x y : Nat} (hx : x < 2 ^ 31) (hy : y < 2 ^ 31) : Ct l D s0 y_Mt_min_0 (Cond.code y_Mt_min_0 b_Mt_min_0 2 (some .int)) (rk 0 0 0) [.int (nI x), .int (nI y)] M (fR (some (.int (nI (min x y)))) M) := by
  have e : imin (nI x) (nI y) = nI (min x y) := by
    unfold imin
    split
    · rename_i q
      rw [Int32.lt_iff_toInt_lt, nI_toInt hx, nI_toInt hy] at q
      rw [show min x y = y by omega]
    · rename_i q
      rw [Int32.lt_iff_toInt_lt, nI_toInt hx, nI_toInt hy] at q
      rw [show min x y = x by omega]
  have := m_min_i h0 M (nI x) (nI y)
  rw [e] at this
  exact this
/-- sorted in blocks -/
def Blk (le : Nat → Nat → Bool) (o : Nat → Nat) (n v : Nat) : Prop := ∀ q, (sl o (v * q) (min (v * q + v) n)).Pairwise (fun x y => le x y = true)
theorem Blk.one {le : Nat → Nat → Bool} {o : Nat → Nat} {n : Nat} : Blk le o n 1 := by
  intro q
  by_cases h : 1 * q < n
  · rw [show min (1 * q + 1) n = 1 * q + 1 by omega, sl_cons (Nat.lt_succ_self _), sl_nil (Nat.le_refl _)]
    exact List.pairwise_singleton _ _
  · rw [sl_nil (by omega)]
    exact List.Pairwise.nil
theorem Blk.all {le : Nat → Nat → Bool} {o : Nat → Nat} {n v : Nat} (h : Blk le o n v) (hv : n ≤ v) : (sl o 0 n).Pairwise (fun x y => le x y = true) := by
  have := h 0
  rw [Nat.mul_zero, show min (0 + v) n = n by omega] at this
  exact this
theorem sl_idx {o : Nat → Nat} {n : Nat} (h : (sl o 0 n).Perm (List.range n)) : ∀ i, i < n → o i < n := by
  intro i hi
  have hm : o i ∈ sl o 0 n := List.mem_map.mpr ⟨i, List.mem_range'_1.mpr ⟨by omega, by omega⟩, rfl⟩
  exact List.mem_range.mp (h.mem_iff.mp hm)
theorem FlR.srt2 (r : FlR) (o p : Nat → Nat) (v : Int32) : ((r.set_ord o).set_spa p).set_srt v = ((r.set_ord o).set_spa p).set_srt v := rfl
theorem k_sort (h0 : g_0 l D s0) {j : Nat} {r : FlR} {w : Nat → It} (hj : j < 3) (hS : HS z ad Q N M) (hr : Q.fl j = r) (hF : FO Q r w) (hp : (sl r.ord 0 r.cnt).Perm (List.range r.cnt)) (hs : r.srt = 0 ∨ (r.srt = 1 ∧ (sl r.ord 0 r.cnt).Pairwise (fun x y => kle Q w x y = true))) : Ct l D s0 y_Fl_sort (Cond.code y_Fl_sort b_Fl_sort 3 none) (rk 4 0 0) [.ref (ad 3 j)] M (fS none (fun M' => ∃ o p, HS z ad (Q.set_fl (va_up Q.fl j (((r.set_ord o).set_spa p).set_srt 1))) N M' ∧ (sl o 0 r.cnt).Perm (List.range r.cnt) ∧ (sl o 0 r.cnt).Pairwise (fun x y => kle Q w x y = true))) := by
  have hc3 : r.cnt ≤ 3000 := hF.1.1
  rcases hs with hs | ⟨hs, hso⟩
  · refine Ct.of h0 (by decide +kernel) rfl fun X hX h => ?_
    obtain ⟨p_, l', e_, R_, s_, m_, ar_, be_, me_, c_⟩ := X
    obtain rfl : l' = l := hX
    have J20 : ∀ (v : Nat) (o : Nat → Nat), 1 ≤ v → v < r.cnt → (sl o 0 r.cnt).Perm (List.range r.cnt) → Blk (kle Q w) o r.cnt v → (∀ (M : gH) (o p : Nat → Nat), HS z ad (Q.set_fl (va_up Q.fl j ((r.set_ord o).set_spa p))) N M → (sl o 0 r.cnt).Perm (List.range r.cnt) → Blk (kle Q w) o r.cnt (v * 2) → G (gzz D s0 (p_, l', e_, R_, s_, m_, ar_, be_, me_, c_) (rk 4 0 0) (fS none (fun M' => ∃ o p, HS z ad (Q.set_fl (va_up Q.fl j (((r.set_ord o).set_spa p).set_srt 1))) N M' ∧ (sl o 0 r.cnt).Perm (List.range r.cnt) ∧ (sl o 0 r.cnt).Pairwise (fun x y => kle Q w x y = true))) 3) 10 [(0, .ref (ad 3 j)), (1, .int (nI (v * 2)))] [] M 0 0) → ∀ (f q : Nat), 2 * v * q < r.cnt + 2 * v → r.cnt ≤ 2 * v * q + f → ∀ (M : gH) (p : Nat → Nat), HS z ad (Q.set_fl (va_up Q.fl j ((r.set_ord o).set_spa p))) N M → (sl p 0 (min (2 * v * q) r.cnt)).Perm (sl o 0 (min (2 * v * q) r.cnt)) → (∀ q', q' < q → (sl p (2 * v * q') (min (2 * v * q' + 2 * v) r.cnt)).Pairwise (fun x y => kle Q w x y = true)) → G (gzz D s0 (p_, l', e_, R_, s_, m_, ar_, be_, me_, c_) (rk 4 0 0) (fS none (fun M' => ∃ o p, HS z ad (Q.set_fl (va_up Q.fl j (((r.set_ord o).set_spa p).set_srt 1))) N M' ∧ (sl o 0 r.cnt).Perm (List.range r.cnt) ∧ (sl o 0 r.cnt).Pairwise (fun x y => kle Q w x y = true))) 3) 20 [(0, .ref (ad 3 j)), (1, .int (nI v)), (2, .int (nI (2 * v * q)))] [] M 0 0 := by
      intro v o hv1 hv2 hpo hbo hout f
      have hoi := sl_idx hpo
      induction f with
      | zero =>
        intro q hq1 hq2 M p hS hpp hbp
        have h_fl : (Q.set_fl (va_up Q.fl j ((r.set_ord o).set_spa p))).fl j = (r.set_ord o).set_spa p := va_up_s
        have hcnt : ∀ x, nI (FlR.cnt ((r.set_ord o).set_spa p)) = x → nI r.cnt = x := fun _ h => h
        refine ri_iload_n h d_Fl_sort_20 rfl ?_
        refine ri_aload_n h d_Fl_sort_21 rfl ?_
        refine ri_get h d_Fl_sort_22 fl_Fl_37 (hS.fl_of hj h_fl) (v := .int (nI r.cnt)) rfl ?_
        first | refine ri_icmpN_ge h 64 d_Fl_sort_25 (by decide) (by omega) (by omega) (fun c_25 => ?_) (fun c_25 => ?_) | refine ri_icmp_ge h 64 d_Fl_sort_25 (by decide) (fun c_25 => ?_) (fun c_25 => ?_)
        · refine ri_aload_n h d_Fl_sort_64 rfl ?_
          refine ri_get h d_Fl_sort_65 fl_Fl_34 (by first | assumption | exact hS.fl_of (by first | assumption | omega) (by assumption) | exact hS.fl (by first | assumption | omega) | exact gup_s) (by rfl) ?_
          refine ri_iconstN h 0 d_Fl_sort_68 rfl ?_
          refine ri_aload_n h d_Fl_sort_69 rfl ?_
          refine ri_get h d_Fl_sort_70 fl_Fl_31 (by first | assumption | exact hS.fl_of (by first | assumption | omega) (by assumption) | exact hS.fl (by first | assumption | omega) | exact gup_s) (by rfl) ?_
          refine ri_iconstN h 0 d_Fl_sort_73 rfl ?_
          refine ri_aload_n h d_Fl_sort_74 rfl ?_
          refine ri_get h d_Fl_sort_75 fl_Fl_37 (hS.fl_of hj h_fl) (v := .int (nI r.cnt)) rfl ?_
          refine ri_copy (fun x : Nat => Value.int (nI x)) h 0 0 0 r.cnt d_Fl_sort_78 (by decide +kernel) (hS.flp_of hj h_fl) (hS.flo_of hj h_fl) rfl rfl rfl (by omega) (by omega) (by decide) (by decide) (fun i _ => Or.inl ⟨_, rfl, rfl⟩) (Nat.le_of_ble_eq_true rfl) (Nat.le_of_ble_eq_true rfl) ?_
          have hcp : HS z ad (Q.set_fl (va_up Q.fl j ((r.set_ord (va_cpy p o 0 0 r.cnt)).set_spa p))) N (gup M (ad 9 j) (ain 3000 (va_cpy p o 0 0 r.cnt))) := by
            have := hS.set_flo hj (va_cpy p o 0 0 r.cnt)
            rw [h_fl] at this
            exact HS.fl2 this
          refine ri_gH hcp (fun M hS => ?_)
          refine ri_iload_n h d_Fl_sort_81 rfl ?_
          refine ri_iconstN h 2 d_Fl_sort_82 rfl ?_
          first | refine ri_imulN h d_Fl_sort_83 ?_ | refine ri_imul h d_Fl_sort_83 ?_
          refine ri_istore_n h d_Fl_sort_84 (Nat.le_of_ble_eq_true rfl) ?_
          refine ri_goto h 10 d_Fl_sort_85 (by decide) ?_
          have hqn : min (2 * v * q) r.cnt = r.cnt := by omega
          rw [hqn] at hpp
          have hcs : ∀ a b, b ≤ r.cnt → sl (va_cpy p o 0 0 r.cnt) a b = sl p a b := fun a b hb => sl_cong (fun i _ hi => by rw [pk_cpy_in (by omega) (by omega)]; congr 1; omega)
          refine ri_ls [(0, .ref (ad 3 j)), (1, .int (nI (v * 2)))] ⟨rfl, rfl, trivial⟩ (hout M _ p hS ?_ ?_)
          · rw [hcs 0 r.cnt (Nat.le_refl _)]
            exact hpp.trans hpo
          · intro q'
            rw [hcs _ _ (Nat.min_le_right _ _), show v * 2 = 2 * v by omega]
            by_cases hq' : q' < q
            · exact hbp q' hq'
            · have : 2 * v * q ≤ 2 * v * q' := Nat.mul_le_mul_left _ (by omega)
              rw [sl_nil (by omega)]
              exact List.Pairwise.nil
        · omega
      | succ f ih =>
        intro q hq1 hq2 M p hS hpp hbp
        by_cases hqn : r.cnt ≤ 2 * v * q + f
        · exact ih q hq1 hqn M p hS hpp hbp
        have h_fl : (Q.set_fl (va_up Q.fl j ((r.set_ord o).set_spa p))).fl j = (r.set_ord o).set_spa p := va_up_s
        refine ri_iload_n h d_Fl_sort_20 rfl ?_
        refine ri_aload_n h d_Fl_sort_21 rfl ?_
        refine ri_get h d_Fl_sort_22 fl_Fl_37 (hS.fl_of hj h_fl) (v := .int (nI r.cnt)) rfl ?_
        first | refine ri_icmpN_ge h 64 d_Fl_sort_25 (by decide) (by omega) (by omega) (fun c_25 => ?_) (fun c_25 => ?_) | refine ri_icmp_ge h 64 d_Fl_sort_25 (by decide) (fun c_25 => ?_) (fun c_25 => ?_)
        · omega
        · refine ri_aload_n h d_Fl_sort_28 rfl ?_
          refine ri_iload_n h d_Fl_sort_29 rfl ?_
          refine ri_iload_n h d_Fl_sort_30 rfl ?_
          refine ri_iload_n h d_Fl_sort_31 rfl ?_
          first | refine ri_iaddN h d_Fl_sort_32 ?_ | refine ri_iadd h d_Fl_sort_32 ?_
          refine ri_aload_n h d_Fl_sort_33 rfl ?_
          refine ri_get h d_Fl_sort_34 fl_Fl_37 (hS.fl_of hj h_fl) (v := .int (nI r.cnt)) rfl ?_
          refine ri_cSv_2 h d_Fl_sort_37 cs_Fl_174 (k_minN h0 _ (by omega) (by omega)) (Nat.le_of_ble_eq_true rfl) (Nat.le_of_ble_eq_true rfl) (Nat.le_of_ble_eq_true rfl) (Nat.le_of_ble_eq_true rfl) (Nat.le_of_ble_eq_true rfl) ?_
          refine ri_iload_n h d_Fl_sort_40 rfl ?_
          refine ri_iconstN h 2 d_Fl_sort_41 rfl ?_
          refine ri_iload_n h d_Fl_sort_42 rfl ?_
          first | refine ri_imulN h d_Fl_sort_43 ?_ | refine ri_imul h d_Fl_sort_43 ?_
          first | refine ri_iaddN h d_Fl_sort_44 ?_ | refine ri_iadd h d_Fl_sort_44 ?_
          refine ri_aload_n h d_Fl_sort_45 rfl ?_
          refine ri_get h d_Fl_sort_46 fl_Fl_37 (hS.fl_of hj h_fl) (v := .int (nI r.cnt)) rfl ?_
          refine ri_cSv_2 h d_Fl_sort_49 cs_Fl_174 (k_minN h0 _ (by omega) (by omega)) (Nat.le_of_ble_eq_true rfl) (Nat.le_of_ble_eq_true rfl) (Nat.le_of_ble_eq_true rfl) (Nat.le_of_ble_eq_true rfl) (Nat.le_of_ble_eq_true rfl) ?_
          have hq2v : 2 * v * q < r.cnt := by omega
          refine ri_dV0_3 (r := (gR2, gT2, 11)) h d_Fl_sort_52 cv_Fl_179 (by first | exact hS.lcO | exact hS.lsO | exact hS.lpO | exact hS.cesO (by first | assumption | omega) | exact hS.cepO (by first | assumption | omega) | exact ⟨_, (by first | assumption | exact hS.st | exact hS.mo | exact hS.out | exact hS.sb | exact hS.ce (by first | assumption | omega) | exact hS.ceb (by first | assumption | omega) | exact hS.sh (by first | assumption | omega) | exact hS.shb (by first | assumption | omega) | exact hS.pl (by first | assumption | omega) | exact hS.plb (by first | assumption | omega) | exact hS.fl (by first | assumption | omega) | exact gup_s | (refine gup_t (by assumption) ?_; first | assumption | exact gup_s | (refine gup_t (by assumption) ?_; first | assumption | exact gup_s | (refine gup_t (by assumption) ?_; first | assumption | exact gup_s))))⟩) rfl (k_merge h0 hj hS hF hoi (show 2 * v * q ≤ min (2 * v * q + v) r.cnt by omega) (show min (2 * v * q + v) r.cnt ≤ min (2 * v * q + 2 * v) r.cnt by omega) (Nat.min_le_right _ _)) (Nat.le_of_ble_eq_true rfl) (Nat.le_of_ble_eq_true rfl) (Nat.le_of_ble_eq_true rfl) (Nat.le_of_ble_eq_true rfl) (Nat.le_of_ble_eq_true rfl) (fun M hS => ?_)
          obtain ⟨p', hS, hpo', hps⟩ := hS
          have hbo1 := hbo (2 * q)
          rw [show v * (2 * q) = 2 * v * q by rw [Nat.mul_comm 2 v, Nat.mul_assoc]] at hbo1
          have hbo2 : (sl o (min (2 * v * q + v) r.cnt) (min (2 * v * q + 2 * v) r.cnt)).Pairwise (fun x y => kle Q w x y = true) := by
            by_cases hle : 2 * v * q + v ≤ r.cnt
            · have := hbo (2 * q + 1)
              rw [show v * (2 * q + 1) = 2 * v * q + v by rw [Nat.mul_add, Nat.mul_one, Nat.mul_comm 2 v, Nat.mul_assoc]] at this
              rw [show min (2 * v * q + v) r.cnt = 2 * v * q + v by omega, show 2 * v * q + 2 * v = 2 * v * q + v + v by omega]
              exact this
            · rw [sl_nil (by omega)]
              exact List.Pairwise.nil
          have hmg := List.pairwise_merge (le := kle Q w) kle_t kle_o _ _ hbo1 hbo2
          rw [← hps] at hmg
          have e1 : 2 * v * (q + 1) = 2 * v * q + 2 * v := by rw [Nat.mul_add, Nat.mul_one]
          refine ri_iload_n h d_Fl_sort_55 rfl ?_
          refine ri_iconstN h 2 d_Fl_sort_56 rfl ?_
          refine ri_iload_n h d_Fl_sort_57 rfl ?_
          first | refine ri_imulN h d_Fl_sort_58 ?_ | refine ri_imul h d_Fl_sort_58 ?_
          first | refine ri_iaddN h d_Fl_sort_59 ?_ | refine ri_iadd h d_Fl_sort_59 ?_
          refine ri_istore_n h d_Fl_sort_60 (Nat.le_of_ble_eq_true rfl) ?_
          refine ri_goto h 20 d_Fl_sort_61 (by decide) ?_
          rw [show min (2 * v * q) r.cnt = 2 * v * q by omega] at hpp
          refine ri_ls [(0, .ref (ad 3 j)), (1, .int (nI v)), (2, .int (nI (2 * v * (q + 1))))] ⟨rfl, rfl, by rw [e1]; rfl, trivial⟩ (ih (q + 1) (by omega) (by omega) M p' hS ?_ ?_)
          · rw [e1, sl_app (f := p') (m := 2 * v * q) (by omega) (by omega), sl_app (f := o) (m := 2 * v * q) (by omega) (by omega)]
            refine List.Perm.append ?_ ?_
            · rw [sl_cong (fun i _ hi => hpo' i (Or.inl hi))]
              exact hpp
            · rw [hps, sl_app (f := o) (m := min (2 * v * q + v) r.cnt) (a := 2 * v * q) (b := min (2 * v * q + 2 * v) r.cnt) (by omega) (by omega)]
              exact List.merge_perm_append _
          · intro q' hq'
            rcases Nat.lt_or_eq_of_le (Nat.lt_succ_iff.mp hq') with hq' | rfl
            · have : 2 * v * (q' + 1) ≤ 2 * v * q := Nat.mul_le_mul_left _ (by omega)
              rw [Nat.mul_add, Nat.mul_one] at this
              rw [sl_cong (fun i _ hi => hpo' i (Or.inl (by omega)))]
              exact hbp q' hq'
            · exact hmg
    have J10 : ∀ (f v : Nat), 1 ≤ v → v ≤ 6000 → r.cnt ≤ v + f → ∀ (M : gH) (o p : Nat → Nat), HS z ad (Q.set_fl (va_up Q.fl j ((r.set_ord o).set_spa p))) N M → (sl o 0 r.cnt).Perm (List.range r.cnt) → Blk (kle Q w) o r.cnt v → G (gzz D s0 (p_, l', e_, R_, s_, m_, ar_, be_, me_, c_) (rk 4 0 0) (fS none (fun M' => ∃ o p, HS z ad (Q.set_fl (va_up Q.fl j (((r.set_ord o).set_spa p).set_srt 1))) N M' ∧ (sl o 0 r.cnt).Perm (List.range r.cnt) ∧ (sl o 0 r.cnt).Pairwise (fun x y => kle Q w x y = true))) 3) 10 [(0, .ref (ad 3 j)), (1, .int (nI v))] [] M 0 0 := by
      intro f
      induction f with
      | zero =>
        intro v hv1 hv2 hvf M o p hS hpo hbo
        have h_fl : (Q.set_fl (va_up Q.fl j ((r.set_ord o).set_spa p))).fl j = (r.set_ord o).set_spa p := va_up_s
        refine ri_iload_n h d_Fl_sort_10 rfl ?_
        refine ri_aload_n h d_Fl_sort_11 rfl ?_
        refine ri_get h d_Fl_sort_12 fl_Fl_37 (hS.fl_of hj h_fl) (v := .int (nI r.cnt)) rfl ?_
        first | refine ri_icmpN_ge h 88 d_Fl_sort_15 (by decide) (by omega) (by omega) (fun c_15 => ?_) (fun c_15 => ?_) | refine ri_icmp_ge h 88 d_Fl_sort_15 (by decide) (fun c_15 => ?_) (fun c_15 => ?_)
        · refine ri_aload_n h d_Fl_sort_88 rfl ?_
          refine ri_iconst h 1 d_Fl_sort_89 rfl ?_
          refine ri_p_srt h d_Fl_sort_90 fl_Fl_129 hS (by first | assumption | omega) (by first | assumption | rfl) (by first | exact Or.inl rfl | exact Or.inr rfl | assumption) (fun M hS h_fl => ?_)
          refine ri_return h d_Fl_sort_93 (Nat.le_of_ble_eq_true rfl) (Nat.le_of_ble_eq_true rfl) ?_
          exact ⟨rfl, o, p, hS.fl2, hpo, hbo.all (by omega)⟩
        · omega
      | succ f ih =>
        intro v hv1 hv2 hvf M o p hS hpo hbo
        by_cases hvn : r.cnt ≤ v + f
        · exact ih v hv1 hv2 hvn M o p hS hpo hbo
        have h_fl : (Q.set_fl (va_up Q.fl j ((r.set_ord o).set_spa p))).fl j = (r.set_ord o).set_spa p := va_up_s
        refine ri_iload_n h d_Fl_sort_10 rfl ?_
        refine ri_aload_n h d_Fl_sort_11 rfl ?_
        refine ri_get h d_Fl_sort_12 fl_Fl_37 (hS.fl_of hj h_fl) (v := .int (nI r.cnt)) rfl ?_
        first | refine ri_icmpN_ge h 88 d_Fl_sort_15 (by decide) (by omega) (by omega) (fun c_15 => ?_) (fun c_15 => ?_) | refine ri_icmp_ge h 88 d_Fl_sort_15 (by decide) (fun c_15 => ?_) (fun c_15 => ?_)
        · omega
        · refine ri_iconstN h 0 d_Fl_sort_18 rfl ?_
          refine ri_istore_n h d_Fl_sort_19 (Nat.le_of_ble_eq_true rfl) ?_
          exact ri_ls [(0, .ref (ad 3 j)), (1, .int (nI v)), (2, .int (nI (2 * v * 0)))] ⟨rfl, rfl, rfl, trivial⟩ (J20 v o hv1 (by omega) hpo hbo (fun M o p hS hpo hbo => ih (v * 2) (by omega) (by omega) (by omega) M o p hS hpo hbo) r.cnt 0 (by omega) (by omega) M p hS (by rw [Nat.mul_zero, Nat.zero_min]; exact List.Perm.refl _) (fun q' hq' => by omega))
    have h_fl : Q.fl j = r := hr
    refine ri_aload_n h d_Fl_sort_0 rfl ?_
    refine ri_get h d_Fl_sort_1 fl_Fl_129 (hS.fl_of hj h_fl) (v := .int 0) (congrArg (fun x => some (Value.int x)) hs) ?_
    refine ri_if_eq h 8 d_Fl_sort_4 (by decide) (fun c_4 => ?_) (fun c_4 => ?_)
    · refine ri_iconstN h 1 d_Fl_sort_8 rfl ?_
      refine ri_istore_n h d_Fl_sort_9 (Nat.le_of_ble_eq_true rfl) ?_
      have hS : HS z ad (Q.set_fl (va_up Q.fl j ((r.set_ord r.ord).set_spa r.spa))) N M := by
        have e : va_up Q.fl j ((r.set_ord r.ord).set_spa r.spa) = Q.fl := by rw [← hr]; exact va_up_id
        rw [e]
        exact hS
      exact ri_ls [(0, .ref (ad 3 j)), (1, .int (nI 1))] ⟨rfl, rfl, trivial⟩ (J10 r.cnt 1 (by decide) (by decide) (by omega) M r.ord r.spa hS hp Blk.one)
    · exact absurd rfl c_4
  · refine Ct.of h0 (by decide +kernel) rfl fun X hX h => ?_
    obtain ⟨p_, l', e_, R_, s_, m_, ar_, be_, me_, c_⟩ := X
    obtain rfl : l' = l := hX
    refine ri_aload_n h d_Fl_sort_0 rfl ?_
    refine ri_get h d_Fl_sort_1 fl_Fl_129 (hS.fl_of hj hr) (v := .int 1) (congrArg (fun x => some (Value.int x)) hs) ?_
    refine ri_if_eq h 8 d_Fl_sort_4 (by decide) (fun c_4 => ?_) (fun c_4 => ?_)
    · exact absurd c_4 (by decide)
    · refine ri_return h d_Fl_sort_7 (Nat.le_of_ble_eq_true rfl) (Nat.le_of_ble_eq_true rfl) ?_
      refine ⟨rfl, r.ord, r.spa, ?_, hp, hso⟩
      have e : va_up Q.fl j (((r.set_ord r.ord).set_spa r.spa).set_srt 1) = Q.fl := by rw [← hs, ← hr]; exact va_up_id
      rw [e]
      exact hS
end SRT
