/-! measuring: the class -/
abbrev mce (ce : Nat → CeR) (m : Nat → Int32) (sz : Nat → Nat) (b : Nat → BxR) : Nat → CeR := fun c => (((ce c).set_meas (m c)).set_size (sz c)).set_bx (b c)
abbrev mpl (pl : Nat → PlR) (pb : Nat → BxR) : Nat → PlR := fun p => (pl p).set_bx (pb p)
/-- the state with other flags, sizes and boxes -/
abbrev msQ (Q : CS) (m : Nat → Int32) (sz : Nat → Nat) (b pb : Nat → BxR) : CS := (Q.set_ce (mce Q.ce m sz b)).set_pl (mpl Q.pl pb)
theorem mce_m {ce : Nat → CeR} {m : Nat → Int32} {sz : Nat → Nat} {b : Nat → BxR} {c : Nat} {v : Int32} : va_up (mce ce m sz b) c ((mce ce m sz b c).set_meas v) = mce ce (va_up m c v) sz b := by
  funext d
  unfold mce va_up
  split
  · subst_vars; rfl
  · rfl
theorem mce_2 {ce : Nat → CeR} {m : Nat → Int32} {sz : Nat → Nat} {b : Nat → BxR} {c k k' : Nat} {bb bb' : BxR} : va_up (mce ce m (va_up sz c k) (va_up b c bb)) c ((((ce c).set_meas (m c)).set_size k').set_bx bb') = mce ce m (va_up sz c k') (va_up b c bb') := by
  funext d
  by_cases e : d = c
  · subst e
    rw [va_up_s]
    unfold mce
    rw [va_up_s, va_up_s]
  · rw [va_up_n e]
    unfold mce
    simp only [va_up_n e]
theorem mce_3 {ce : Nat → CeR} {m : Nat → Int32} {sz : Nat → Nat} {b : Nat → BxR} {c k' : Nat} {bb' : BxR} : va_up (mce ce m sz b) c ((((ce c).set_meas (m c)).set_size k').set_bx bb') = mce ce m (va_up sz c k') (va_up b c bb') := by
  funext d
  by_cases e : d = c
  · subst e
    rw [va_up_s]
    unfold mce
    rw [va_up_s, va_up_s]
  · rw [va_up_n e]
    unfold mce
    simp only [va_up_n e]
theorem mce_e {ce : Nat → CeR} {m : Nat → Int32} {sz : Nat → Nat} {b : Nat → BxR} {c k : Nat} {bb : BxR} : mce ce m (va_up sz c k) (va_up b c bb) c = (((ce c).set_meas (m c)).set_size k).set_bx bb := by
  unfold mce
  rw [va_up_s, va_up_s]
theorem mpl_b {pl : Nat → PlR} {pb : Nat → BxR} {p : Nat} {v : BxR} : va_up (mpl pl pb) p ((pl p).set_bx v) = mpl pl (va_up pb p v) := by
  funext d
  unfold mpl va_up
  split
  · subst_vars; rfl
  · rfl
theorem take_snoc {α : Type} : ∀ (xs : List α) (i : Nat) (h : i < xs.length), xs.take (i + 1) = xs.take i ++ [xs[i]]
  | [], i, h => absurd h (Nat.not_lt_zero _)
  | x :: xs, 0, _ => rfl
  | x :: xs, i + 1, h => by
    show x :: xs.take (i + 1) = x :: (xs.take i ++ [xs[i]'(Nat.lt_of_succ_lt_succ h)])
    rw [take_snoc xs i (Nat.lt_of_succ_lt_succ h)]
theorem onB_f {r : ShR} {lay : Int32} (h : son r.layer r.w (nI r.cnt) r.drop lay = 0) : onB r lay = false := by
  unfold onB
  rw [h]
  rfl
theorem onB_t {r : ShR} {lay : Int32} (h : ¬ son r.layer r.w (nI r.cnt) r.drop lay = 0) : onB r lay = true := by
  unfold onB
  refine decide_eq_true ?_
  unfold son at h ⊢
  by_cases hp : r.drop = 0 ∧ (if 0 < r.w then 2 else 3) ≤ nI r.cnt ∧ (lay = -1 ∨ lay = r.layer)
  · rw [if_pos hp]
  · rw [if_neg hp] at h
    exact absurd rfl h
section MEA
variable {l : Launch} {D : gD} {s0 : State} {M : gH} {z : Nat} {ad : gA} {Q : CS} {N : MS} {m : Nat → Int32} {sz : Nat → Nat} {b pb : Nat → BxR} {c : Nat} {lay : Int32}
theorem k_measureOwn (h0 : g_0 l D s0) (hW : WB Q) (hL : WL Q) (hX : WX Q) (hc : c < Q.nC) (hS : HS z ad (msQ Q m sz b pb) N M) : Ct l D s0 y_Cl_measureOwn (Cond.code y_Cl_measureOwn b_Cl_measureOwn 4 none) (rk 4 0 0) [.ref (ad 12 c), .int lay] M (fS none (fun M' => ∃ bb, HS z ad (msQ Q m (va_up sz c ((Q.ce c).ss.filter (fun s => onB (Q.sh s) lay)).length) (va_up b c bb) pb) N M' ∧ HB bb (fun x y => ∃ s, s ∈ (Q.ce c).ss ∧ onB (Q.sh s) lay = true ∧ SPt (Q.sh s) x y))) := by
  have hWc := hW.2.2.2 c hc
  refine Ct.of h0 (by decide +kernel) rfl fun X hX h => ?_
  obtain ⟨p_, l', e_, R_, s_, m_, ar_, be_, me_, c_⟩ := X
  obtain rfl : l' = l := hX
  have LP : ∀ (q i : Nat), i + q = (Q.ce c).ss.length → ∀ (M : gH) (bb : BxR) (k : Nat), k = (((Q.ce c).ss.take i).filter (fun s => onB (Q.sh s) lay)).length → k ≤ i → HS z ad (msQ Q m (va_up sz c k) (va_up b c bb) pb) N M → HB bb (fun x y => ∃ s, s ∈ (Q.ce c).ss.take i ∧ onB (Q.sh s) lay = true ∧ SPt (Q.sh s) x y) → G (gzz D s0 (p_, l', e_, R_, s_, m_, ar_, be_, me_, c_) (rk 4 0 0) (fS none (fun M' => ∃ bb, HS z ad (msQ Q m (va_up sz c ((Q.ce c).ss.filter (fun s => onB (Q.sh s) lay)).length) (va_up b c bb) pb) N M' ∧ HB bb (fun x y => ∃ s, s ∈ (Q.ce c).ss ∧ onB (Q.sh s) lay = true ∧ SPt (Q.sh s) x y))) 4) 14 [(0, .ref (ad 12 c)), (1, .int lay), (2, .int (nI i))] [] M 0 0 := by
    intro q
    induction q with
    | zero =>
      intro i hi M bb k hk hki hS hb
      have ht : (Q.ce c).ss.take i = (Q.ce c).ss := List.take_of_length_le (by omega)
      rw [ht] at hk hb
      subst hk
      refine ri_iload_n h d_Cl_measureOwn_14 rfl ?_
      refine ri_aload_n h d_Cl_measureOwn_15 rfl ?_
      refine ri_get h d_Cl_measureOwn_16 fl_Cl_12 (by first | assumption | exact hS.ce_of (by first | assumption | omega) (by assumption) | exact hS.ce (by first | assumption | omega) | exact gup_s) (by rfl) ?_
      refine ri_cVv_0 (r := (gR7, gT7, 3)) h d_Cl_measureOwn_19 cv_Cl_35 (by first | exact hS.lcO | exact hS.lsO | exact hS.lpO | exact hS.cesO (by first | assumption | omega) | exact hS.cepO (by first | assumption | omega) | exact ⟨_, (by first | assumption | exact hS.st | exact hS.mo | exact hS.out | exact hS.sb | exact hS.ce (by first | assumption | omega) | exact hS.ceb (by first | assumption | omega) | exact hS.sh (by first | assumption | omega) | exact hS.shb (by first | assumption | omega) | exact hS.pl (by first | assumption | omega) | exact hS.plb (by first | assumption | omega) | exact hS.fl (by first | assumption | omega) | exact gup_s | (refine gup_t (by assumption) ?_; first | assumption | exact gup_s | (refine gup_t (by assumption) ?_; first | assumption | exact gup_s | (refine gup_t (by assumption) ?_; first | assumption | exact gup_s))))⟩) rfl (k_size_cesE h0 hS hc (ss := (Q.ce c).ss) rfl) (Nat.le_of_ble_eq_true rfl) (Nat.le_of_ble_eq_true rfl) (Nat.le_of_ble_eq_true rfl) (Nat.le_of_ble_eq_true rfl) (Nat.le_of_ble_eq_true rfl) ?_
      first | refine ri_icmpN_ge h 72 d_Cl_measureOwn_22 (by decide) (by omega) (by omega) (fun c_22 => ?_) (fun c_22 => ?_) | refine ri_icmp_ge h 72 d_Cl_measureOwn_22 (by decide) (fun c_22 => ?_) (fun c_22 => ?_)
      · first
        | (exfalso; first | exact absurd c_22 (by decide) | omega)
        | (refine ri_return h d_Cl_measureOwn_72 (Nat.le_of_ble_eq_true rfl) (Nat.le_of_ble_eq_true rfl) ?_
           exact ⟨rfl, bb, hS, hb⟩)
      · first
        | (exfalso; first | exact absurd c_22 (by decide) | omega)
        | (omega)
    | succ q ih =>
      intro i hi M bb k hk hki hS hb
      have hil : i < (Q.ce c).ss.length := by omega
      have hs : (Q.ce c).ss[i] < Q.nS := hWc.2.2.1 _ (List.getElem_mem hil)
      have hXs := hX _ hs
      have ht := take_snoc (Q.ce c).ss i hil
      have h_ce : (msQ Q m (va_up sz c k) (va_up b c bb) pb).ce c = ((((Q.ce c).set_meas (m c)).set_size k).set_bx bb) := mce_e
      refine ri_iload_n h d_Cl_measureOwn_14 rfl ?_
      refine ri_aload_n h d_Cl_measureOwn_15 rfl ?_
      refine ri_get h d_Cl_measureOwn_16 fl_Cl_12 (by first | assumption | exact hS.ce_of (by first | assumption | omega) (by assumption) | exact hS.ce (by first | assumption | omega) | exact gup_s) (by rfl) ?_
      refine ri_cVv_0 (r := (gR7, gT7, 3)) h d_Cl_measureOwn_19 cv_Cl_35 (by first | exact hS.lcO | exact hS.lsO | exact hS.lpO | exact hS.cesO (by first | assumption | omega) | exact hS.cepO (by first | assumption | omega) | exact ⟨_, (by first | assumption | exact hS.st | exact hS.mo | exact hS.out | exact hS.sb | exact hS.ce (by first | assumption | omega) | exact hS.ceb (by first | assumption | omega) | exact hS.sh (by first | assumption | omega) | exact hS.shb (by first | assumption | omega) | exact hS.pl (by first | assumption | omega) | exact hS.plb (by first | assumption | omega) | exact hS.fl (by first | assumption | omega) | exact gup_s | (refine gup_t (by assumption) ?_; first | assumption | exact gup_s | (refine gup_t (by assumption) ?_; first | assumption | exact gup_s | (refine gup_t (by assumption) ?_; first | assumption | exact gup_s))))⟩) rfl (k_size_cesE h0 hS hc (ss := (Q.ce c).ss) rfl) (Nat.le_of_ble_eq_true rfl) (Nat.le_of_ble_eq_true rfl) (Nat.le_of_ble_eq_true rfl) (Nat.le_of_ble_eq_true rfl) (Nat.le_of_ble_eq_true rfl) ?_
      first | refine ri_icmpN_ge h 72 d_Cl_measureOwn_22 (by decide) (by omega) (by omega) (fun c_22 => ?_) (fun c_22 => ?_) | refine ri_icmp_ge h 72 d_Cl_measureOwn_22 (by decide) (fun c_22 => ?_) (fun c_22 => ?_)
      · omega
      · refine ri_aload_n h d_Cl_measureOwn_25 rfl ?_
        refine ri_get h d_Cl_measureOwn_26 fl_Cl_12 (by first | assumption | exact hS.ce_of (by first | assumption | omega) (by assumption) | exact hS.ce (by first | assumption | omega) | exact gup_s) (by rfl) ?_
        refine ri_iload_n h d_Cl_measureOwn_29 rfl ?_
        refine ri_cVv_1 (r := (gR7, gT7, 3)) h d_Cl_measureOwn_30 cv_Cl_38 (by first | exact hS.lcO | exact hS.lsO | exact hS.lpO | exact hS.cesO (by first | assumption | omega) | exact hS.cepO (by first | assumption | omega) | exact ⟨_, (by first | assumption | exact hS.st | exact hS.mo | exact hS.out | exact hS.sb | exact hS.ce (by first | assumption | omega) | exact hS.ceb (by first | assumption | omega) | exact hS.sh (by first | assumption | omega) | exact hS.shb (by first | assumption | omega) | exact hS.pl (by first | assumption | omega) | exact hS.plb (by first | assumption | omega) | exact hS.fl (by first | assumption | omega) | exact gup_s | (refine gup_t (by assumption) ?_; first | assumption | exact gup_s | (refine gup_t (by assumption) ?_; first | assumption | exact gup_s | (refine gup_t (by assumption) ?_; first | assumption | exact gup_s))))⟩) rfl (k_get_ces h0 hS hW hc hil) (Nat.le_of_ble_eq_true rfl) (Nat.le_of_ble_eq_true rfl) (Nat.le_of_ble_eq_true rfl) (Nat.le_of_ble_eq_true rfl) (Nat.le_of_ble_eq_true rfl) ?_
        refine ri_cast (r := (gR4, gT4, 10)) h d_Cl_measureOwn_33 (by first | assumption | exact hS.st | exact hS.mo | exact hS.out | exact hS.sb | exact hS.ce (by first | assumption | omega) | exact hS.ceb (by first | assumption | omega) | exact hS.sh (by first | assumption | omega) | exact hS.shb (by first | assumption | omega) | exact hS.pl (by first | assumption | omega) | exact hS.plb (by first | assumption | omega) | exact hS.fl (by first | assumption | omega) | exact gup_s | (refine gup_t (by assumption) ?_; first | assumption | exact gup_s | (refine gup_t (by assumption) ?_; first | assumption | exact gup_s | (refine gup_t (by assumption) ?_; first | assumption | exact gup_s)))) rfl (by decide +kernel) (by decide +kernel) ?_
        refine ri_astore_n h d_Cl_measureOwn_36 (Nat.le_of_ble_eq_true rfl) ?_
        refine ri_aload_n h d_Cl_measureOwn_37 rfl ?_
        refine ri_iload_n h d_Cl_measureOwn_38 rfl ?_
        refine ri_cVv_1 (r := (gR4, gT4, 10)) h d_Cl_measureOwn_39 cv_Cl_44 (by first | exact hS.lcO | exact hS.lsO | exact hS.lpO | exact hS.cesO (by first | assumption | omega) | exact hS.cepO (by first | assumption | omega) | exact ⟨_, (by first | assumption | exact hS.st | exact hS.mo | exact hS.out | exact hS.sb | exact hS.ce (by first | assumption | omega) | exact hS.ceb (by first | assumption | omega) | exact hS.sh (by first | assumption | omega) | exact hS.shb (by first | assumption | omega) | exact hS.pl (by first | assumption | omega) | exact hS.plb (by first | assumption | omega) | exact hS.fl (by first | assumption | omega) | exact gup_s | (refine gup_t (by assumption) ?_; first | assumption | exact gup_s | (refine gup_t (by assumption) ?_; first | assumption | exact gup_s | (refine gup_t (by assumption) ?_; first | assumption | exact gup_s))))⟩) rfl (k_isOn h0 (hS.sh hs) lay) (Nat.le_of_ble_eq_true rfl) (Nat.le_of_ble_eq_true rfl) (Nat.le_of_ble_eq_true rfl) (Nat.le_of_ble_eq_true rfl) (Nat.le_of_ble_eq_true rfl) ?_
        refine ri_if_eq h 66 d_Cl_measureOwn_42 (by decide) (fun c_42 => ?_) (fun c_42 => ?_)
        · first | refine ri_iincN h d_Cl_measureOwn_66 rfl (Nat.le_of_ble_eq_true rfl) ?_ | refine ri_iinc h _ d_Cl_measureOwn_66 rfl rfl (Nat.le_of_ble_eq_true rfl) ?_
          refine ri_goto h 14 d_Cl_measureOwn_69 (by decide) ?_
          refine ri_ls [(0, .ref (ad 12 c)), (1, .int lay), (2, .int (nI (i + 1)))] ⟨rfl, rfl, rfl, trivial⟩ (ih (i + 1) (by omega) _ bb k ?_ (by omega) hS (hb.cong fun x y => ?_))
          · rw [ht, List.filter_append, List.filter_cons_of_neg (by rw [show onB (Q.sh (Q.ce c).ss[i]) lay = false from onB_f c_42]; decide)]
            simpa using hk
          · rw [ht]
            constructor
            · rintro ⟨s, h1, h2, h3⟩
              exact ⟨s, List.mem_append_left _ h1, h2, h3⟩
            · rintro ⟨s, h1, h2, h3⟩
              rcases List.mem_append.mp h1 with h1 | h1
              · exact ⟨s, h1, h2, h3⟩
              · rw [List.mem_singleton.mp h1, show onB (Q.sh (Q.ce c).ss[i]) lay = false from onB_f c_42] at h2
                exact absurd h2 (by decide)
        · refine ri_aload_n h d_Cl_measureOwn_45 rfl ?_
          refine ri_dup h d_Cl_measureOwn_46 rfl ?_
          refine ri_get h d_Cl_measureOwn_47 fl_Cl_28 (by first | assumption | exact hS.ce_of (by first | assumption | omega) (by assumption) | exact hS.ce (by first | assumption | omega) | exact gup_s) (by rfl) ?_
          refine ri_iconstN h 1 d_Cl_measureOwn_50 rfl ?_
          first | refine ri_iaddN h d_Cl_measureOwn_51 ?_ | refine ri_iadd h d_Cl_measureOwn_51 ?_
          refine ri_p_size h d_Cl_measureOwn_52 fl_Cl_28 hS (by first | assumption | omega) (by first | assumption | rfl) (fun M hS h_ce => ?_)
          refine ri_aload_n h d_Cl_measureOwn_55 rfl ?_
          refine ri_get h d_Cl_measureOwn_56 fl_Cl_24 (by first | assumption | exact hS.ce_of (by first | assumption | omega) (by assumption) | exact hS.ce (by first | assumption | omega) | exact gup_s) (by rfl) ?_
          refine ri_aload_n h d_Cl_measureOwn_59 rfl ?_
          refine ri_get h d_Cl_measureOwn_60 fl_Cl_48 (by first | assumption | exact hS.sh_of (by first | assumption | omega) (by assumption) | exact hS.sh (by first | assumption | omega) | exact gup_s) (by rfl) ?_
          refine ri_cV0_1 (r := (gR0, gT0, 5)) h d_Cl_measureOwn_63 cv_Cl_49 (by first | exact hS.lcO | exact hS.lsO | exact hS.lpO | exact hS.cesO (by first | assumption | omega) | exact hS.cepO (by first | assumption | omega) | exact ⟨_, (by first | assumption | exact hS.st | exact hS.mo | exact hS.out | exact hS.sb | exact hS.ce (by first | assumption | omega) | exact hS.ceb (by first | assumption | omega) | exact hS.sh (by first | assumption | omega) | exact hS.shb (by first | assumption | omega) | exact hS.pl (by first | assumption | omega) | exact hS.plb (by first | assumption | omega) | exact hS.fl (by first | assumption | omega) | exact gup_s | (refine gup_t (by assumption) ?_; first | assumption | exact gup_s | (refine gup_t (by assumption) ?_; first | assumption | exact gup_s | (refine gup_t (by assumption) ?_; first | assumption | exact gup_s))))⟩) rfl (k_Bx_holdBox h0 (by first | assumption | exact hS.ceb_of (by first | assumption | omega) (by assumption) | exact hS.ceb (by first | assumption | omega) | exact hS.shb_of (by first | assumption | omega) (by assumption) | exact hS.shb (by first | assumption | omega) | exact hS.plb_of (by first | assumption | omega) (by assumption) | exact hS.plb (by first | assumption | omega) | exact hS.sb) (by first | assumption | exact hS.ceb_of (by first | assumption | omega) (by assumption) | exact hS.ceb (by first | assumption | omega) | exact hS.shb_of (by first | assumption | omega) (by assumption) | exact hS.shb (by first | assumption | omega) | exact hS.plb_of (by first | assumption | omega) (by assumption) | exact hS.plb (by first | assumption | omega) | exact hS.sb)) (Nat.le_of_ble_eq_true rfl) (Nat.le_of_ble_eq_true rfl) (Nat.le_of_ble_eq_true rfl) (Nat.le_of_ble_eq_true rfl) (Nat.le_of_ble_eq_true rfl) ?_
          first | refine ri_gH2 (hS.q_ceb (by first | assumption | omega) (by first | assumption | rfl) _ _ _ _ _) (fun M hS h_ce => ?_) | refine ri_gH2 (hS.q_shb (by first | assumption | omega) (by first | assumption | rfl) _ _ _ _ _) (fun M hS h_sh => ?_) | refine ri_gH2 (hS.q_plb (by first | assumption | omega) (by first | assumption | rfl) _ _ _ _ _) (fun M hS h_pl => ?_) | refine ri_gH (hS.q_sb _ _ _ _ _) (fun M hS => ?_)
          first | refine ri_iincN h d_Cl_measureOwn_66 rfl (Nat.le_of_ble_eq_true rfl) ?_ | refine ri_iinc h _ d_Cl_measureOwn_66 rfl rfl (Nat.le_of_ble_eq_true rfl) ?_
          refine ri_goto h 14 d_Cl_measureOwn_69 (by decide) ?_
          have hon : onB (Q.sh (Q.ce c).ss[i]) lay = true := onB_t c_42
          obtain ⟨x0, y0, hne⟩ := hXs.2.2.2 lay hon
          refine ri_ls [(0, .ref (ad 12 c)), (1, .int lay), (2, .int (nI (i + 1)))] ⟨rfl, rfl, rfl, trivial⟩ (ih (i + 1) (by omega) _ (bhold bb (Q.sh (Q.ce c).ss[i]).bx.x0 (Q.sh (Q.ce c).ss[i]).bx.y0 (Q.sh (Q.ce c).ss[i]).bx.x1 (Q.sh (Q.ce c).ss[i]).bx.y1) (k + 1) ?_ (by omega) (hS.ce2.cong (congrArg (fun f => (Q.set_ce f).set_pl (mpl Q.pl pb)) mce_2) rfl) ((hb.hold hXs.2.1 (hXs.2.1.ne hne)).cong fun x y => ?_))
          · rw [ht, List.filter_append, List.filter_cons_of_pos (p := fun s => onB (Q.sh s) lay) (a := (Q.ce c).ss[i]) hon]
            simp [hk]
          · rw [ht]
            constructor
            · rintro (⟨s, h1, h2, h3⟩ | h3)
              · exact ⟨s, List.mem_append_left _ h1, h2, h3⟩
              · exact ⟨_, List.mem_append_right _ (List.mem_singleton.mpr rfl), hon, h3⟩
            · rintro ⟨s, h1, h2, h3⟩
              rcases List.mem_append.mp h1 with h1 | h1
              · exact Or.inl ⟨s, h1, h2, h3⟩
              · rw [List.mem_singleton.mp h1] at h3
                exact Or.inr h3
  have h_ce : (msQ Q m sz b pb).ce c = (((Q.ce c).set_meas (m c)).set_size (sz c)).set_bx (b c) := rfl
  refine ri_aload_n h d_Cl_measureOwn_0 rfl ?_
  refine ri_iconstN h 0 d_Cl_measureOwn_1 rfl ?_
  refine ri_p_size h d_Cl_measureOwn_2 fl_Cl_28 hS (by first | assumption | omega) (by first | assumption | rfl) (fun M hS h_ce => ?_)
  refine ri_aload_n h d_Cl_measureOwn_5 rfl ?_
  refine ri_get h d_Cl_measureOwn_6 fl_Cl_24 (by first | assumption | exact hS.ce_of (by first | assumption | omega) (by assumption) | exact hS.ce (by first | assumption | omega) | exact gup_s) (by rfl) ?_
  refine ri_cV0_0 (r := (gR0, gT0, 5)) h d_Cl_measureOwn_9 cv_Cl_32 (by first | exact hS.lcO | exact hS.lsO | exact hS.lpO | exact hS.cesO (by first | assumption | omega) | exact hS.cepO (by first | assumption | omega) | exact ⟨_, (by first | assumption | exact hS.st | exact hS.mo | exact hS.out | exact hS.sb | exact hS.ce (by first | assumption | omega) | exact hS.ceb (by first | assumption | omega) | exact hS.sh (by first | assumption | omega) | exact hS.shb (by first | assumption | omega) | exact hS.pl (by first | assumption | omega) | exact hS.plb (by first | assumption | omega) | exact hS.fl (by first | assumption | omega) | exact gup_s | (refine gup_t (by assumption) ?_; first | assumption | exact gup_s | (refine gup_t (by assumption) ?_; first | assumption | exact gup_s | (refine gup_t (by assumption) ?_; first | assumption | exact gup_s))))⟩) rfl (k_Bx_clear h0 (by first | assumption | exact hS.ceb_of (by first | assumption | omega) (by assumption) | exact hS.ceb (by first | assumption | omega) | exact hS.shb_of (by first | assumption | omega) (by assumption) | exact hS.shb (by first | assumption | omega) | exact hS.plb_of (by first | assumption | omega) (by assumption) | exact hS.plb (by first | assumption | omega) | exact hS.sb)) (Nat.le_of_ble_eq_true rfl) (Nat.le_of_ble_eq_true rfl) (Nat.le_of_ble_eq_true rfl) (Nat.le_of_ble_eq_true rfl) (Nat.le_of_ble_eq_true rfl) ?_
  first | refine ri_gH2 (hS.q_ceb (by first | assumption | omega) (by first | assumption | rfl) _ _ _ _ _) (fun M hS h_ce => ?_) | refine ri_gH2 (hS.q_shb (by first | assumption | omega) (by first | assumption | rfl) _ _ _ _ _) (fun M hS h_sh => ?_) | refine ri_gH2 (hS.q_plb (by first | assumption | omega) (by first | assumption | rfl) _ _ _ _ _) (fun M hS h_pl => ?_) | refine ri_gH (hS.q_sb _ _ _ _ _) (fun M hS => ?_)
  refine ri_iconstN h 0 d_Cl_measureOwn_12 rfl ?_
  refine ri_istore_n h d_Cl_measureOwn_13 (Nat.le_of_ble_eq_true rfl) ?_
  exact ri_ls [(0, .ref (ad 12 c)), (1, .int lay), (2, .int (nI 0))] ⟨rfl, rfl, rfl, trivial⟩ (LP _ 0 (Nat.zero_add _) _ (bclear (b c)) 0 rfl (Nat.le_refl _) (hS.ce2.cong (congrArg (fun f => (Q.set_ce f).set_pl (mpl Q.pl pb)) mce_3) rfl) (Or.inl ⟨rfl, fun x y => by simp⟩))
theorem k_measureBox (h0 : g_0 l D s0) (hL : WL Q) {p : Nat} (hp : p < Q.nP) (hS : HS z ad (msQ Q m sz b pb) N M) : Ct l D s0 y_Pl_measureBox (Cond.code y_Pl_measureBox b_Pl_measureBox 1 none) (rk 4 0 0) [.ref (ad 24 p)] M (fS none (HS z ad (msQ Q m sz b (va_up pb p (pbx (Q.pl p) (b (Q.pl p).of)))) N)) := by
  obtain ⟨g1, g2, g3, g4, g5, -⟩ := hL.2.1 p hp
  have h_pl : (msQ Q m sz b pb).pl p = (Q.pl p).set_bx (pb p) := rfl
  have hof : (msQ Q m sz b pb).ce (Q.pl p).of = (((Q.ce (Q.pl p).of).set_meas (m (Q.pl p).of)).set_size (sz (Q.pl p).of)).set_bx (b (Q.pl p).of) := rfl
  refine Ct.of h0 (by decide +kernel) rfl fun X hX h => ?_
  obtain ⟨p_, l', e_, R_, s_, m_, ar_, be_, me_, c_⟩ := X
  obtain rfl : l' = l := hX
  refine ri_aload_n h d_Pl_measureBox_0 rfl ?_
  refine ri_get h d_Pl_measureBox_1 fl_Pl_10 (by first | assumption | exact hS.pl_of (by first | assumption | omega) (by assumption) | exact hS.pl (by first | assumption | omega) | exact gup_s) (by rfl) ?_
  refine ri_aload_n h d_Pl_measureBox_4 rfl ?_
  refine ri_get h d_Pl_measureBox_5 fl_Pl_23 (by first | assumption | exact hS.pl_of (by first | assumption | omega) (by assumption) | exact hS.pl (by first | assumption | omega) | exact gup_s) (by rfl) ?_
  refine ri_get h d_Pl_measureBox_8 fl_Pl_37 (by first | assumption | exact hS.ce_of (by first | assumption | omega) (by assumption) | exact hS.ce (by first | assumption | omega) | exact gup_s) (by rfl) ?_
  refine ri_aload_n h d_Pl_measureBox_11 rfl ?_
  refine ri_get h d_Pl_measureBox_12 fl_Pl_34 (by first | assumption | exact hS.pl_of (by first | assumption | omega) (by assumption) | exact hS.pl (by first | assumption | omega) | exact gup_s) (by rfl) ?_
  refine ri_aload_n h d_Pl_measureBox_15 rfl ?_
  refine ri_get h d_Pl_measureBox_16 fl_Pl_27 (by first | assumption | exact hS.pl_of (by first | assumption | omega) (by assumption) | exact hS.pl (by first | assumption | omega) | exact gup_s) (by rfl) ?_
  refine ri_aload_n h d_Pl_measureBox_19 rfl ?_
  refine ri_get h d_Pl_measureBox_20 fl_Pl_31 (by first | assumption | exact hS.pl_of (by first | assumption | omega) (by assumption) | exact hS.pl (by first | assumption | omega) | exact gup_s) (by rfl) ?_
  refine ri_cV0_4 (r := (gR0, gT0, 5)) h d_Pl_measureBox_23 cv_Pl_40 (by first | exact hS.lcO | exact hS.lsO | exact hS.lpO | exact hS.cesO (by first | assumption | omega) | exact hS.cepO (by first | assumption | omega) | exact ⟨_, (by first | assumption | exact hS.st | exact hS.mo | exact hS.out | exact hS.sb | exact hS.ce (by first | assumption | omega) | exact hS.ceb (by first | assumption | omega) | exact hS.sh (by first | assumption | omega) | exact hS.shb (by first | assumption | omega) | exact hS.pl (by first | assumption | omega) | exact hS.plb (by first | assumption | omega) | exact hS.fl (by first | assumption | omega) | exact gup_s | (refine gup_t (by assumption) ?_; first | assumption | exact gup_s | (refine gup_t (by assumption) ?_; first | assumption | exact gup_s | (refine gup_t (by assumption) ?_; first | assumption | exact gup_s))))⟩) rfl (k_Bx_become h0 (hS.plb_of hp h_pl) (hS.ceb_of g2 hof) (Q.pl p).turn g3 _ _) (Nat.le_of_ble_eq_true rfl) (Nat.le_of_ble_eq_true rfl) (Nat.le_of_ble_eq_true rfl) (Nat.le_of_ble_eq_true rfl) (Nat.le_of_ble_eq_true rfl) ?_
  refine ri_gH2 (hS.p_plb hp h_pl (bbecome (b (Q.pl p).of) (Q.pl p).turn (Q.pl p).x (Q.pl p).y)) (fun M hS h_pl => ?_)
  refine ri_aload_n h d_Pl_measureBox_26 rfl ?_
  refine ri_get h d_Pl_measureBox_27 fl_Pl_10 (by first | assumption | exact hS.pl_of (by first | assumption | omega) (by assumption) | exact hS.pl (by first | assumption | omega) | exact gup_s) (by rfl) ?_
  refine ri_aload_n h d_Pl_measureBox_30 rfl ?_
  refine ri_get h d_Pl_measureBox_31 fl_Pl_16 (by first | assumption | exact hS.pl_of (by first | assumption | omega) (by assumption) | exact hS.pl (by first | assumption | omega) | exact gup_s) (by rfl) ?_
  refine ri_iconstN h 1 d_Pl_measureBox_34 rfl ?_
  refine ri_isubN h d_Pl_measureBox_35 (show 1 ≤ (Q.pl p).cols from g4.1) ?_
  refine ri_i2l h d_Pl_measureBox_36 ?_
  refine ri_aload_n h d_Pl_measureBox_37 rfl ?_
  refine ri_get h d_Pl_measureBox_38 fl_Pl_44 (by first | assumption | exact hS.pl_of (by first | assumption | omega) (by assumption) | exact hS.pl (by first | assumption | omega) | exact gup_s) (by rfl) ?_
  refine ri_lmul h d_Pl_measureBox_41 ?_
  refine ri_aload_n h d_Pl_measureBox_42 rfl ?_
  refine ri_get h d_Pl_measureBox_43 fl_Pl_20 (by first | assumption | exact hS.pl_of (by first | assumption | omega) (by assumption) | exact hS.pl (by first | assumption | omega) | exact gup_s) (by rfl) ?_
  refine ri_iconstN h 1 d_Pl_measureBox_46 rfl ?_
  refine ri_isubN h d_Pl_measureBox_47 (show 1 ≤ (Q.pl p).rows from g5.1) ?_
  refine ri_i2l h d_Pl_measureBox_48 ?_
  refine ri_aload_n h d_Pl_measureBox_49 rfl ?_
  refine ri_get h d_Pl_measureBox_50 fl_Pl_47 (by first | assumption | exact hS.pl_of (by first | assumption | omega) (by assumption) | exact hS.pl (by first | assumption | omega) | exact gup_s) (by rfl) ?_
  refine ri_lmul h d_Pl_measureBox_53 ?_
  refine ri_cV0_2 (r := (gR0, gT0, 5)) h d_Pl_measureBox_54 cv_Pl_50 (by first | exact hS.lcO | exact hS.lsO | exact hS.lpO | exact hS.cesO (by first | assumption | omega) | exact hS.cepO (by first | assumption | omega) | exact ⟨_, (by first | assumption | exact hS.st | exact hS.mo | exact hS.out | exact hS.sb | exact hS.ce (by first | assumption | omega) | exact hS.ceb (by first | assumption | omega) | exact hS.sh (by first | assumption | omega) | exact hS.shb (by first | assumption | omega) | exact hS.pl (by first | assumption | omega) | exact hS.plb (by first | assumption | omega) | exact hS.fl (by first | assumption | omega) | exact gup_s | (refine gup_t (by assumption) ?_; first | assumption | exact gup_s | (refine gup_t (by assumption) ?_; first | assumption | exact gup_s | (refine gup_t (by assumption) ?_; first | assumption | exact gup_s))))⟩) rfl (k_Bx_stretch h0 (hS.plb_of hp h_pl) _ _) (Nat.le_of_ble_eq_true rfl) (Nat.le_of_ble_eq_true rfl) (Nat.le_of_ble_eq_true rfl) (Nat.le_of_ble_eq_true rfl) (Nat.le_of_ble_eq_true rfl) ?_
  refine ri_gH2 (hS.p_plb hp h_pl (pbx (Q.pl p) (b (Q.pl p).of))) (fun M hS h_pl => ?_)
  refine ri_return h d_Pl_measureBox_57 (Nat.le_of_ble_eq_true rfl) (Nat.le_of_ble_eq_true rfl) ?_
  exact ⟨rfl, hS.pl2.cong (congrArg (fun f => (Q.set_ce (mce Q.ce m sz b)).set_pl f) mpl_b) rfl⟩
theorem k_measureWith (h0 : g_0 l D s0) (hL : WL Q) (hc : c < Q.nC) {p : Nat} (hp : p < Q.nP) {k : Nat} {bb : BxR} (hne : (Q.pl p).of ≠ c) (hk : k ≤ 3001) (hz : sz (Q.pl p).of ≤ 3001) (hS : HS z ad (msQ Q m (va_up sz c k) (va_up b c bb) pb) N M) : Ct l D s0 y_Cl_measureWith (Cond.code y_Cl_measureWith b_Cl_measureWith 2 none) (rk 5 0 0) [.ref (ad 12 c), .ref (ad 24 p)] M (fS none (fun M' => (sz (Q.pl p).of = 0 ∧ HS z ad (msQ Q m (va_up sz c k) (va_up b c bb) pb) N M') ∨ (¬ sz (Q.pl p).of = 0 ∧ HS z ad (msQ Q m (va_up sz c (min (k + (Q.pl p).cols * (Q.pl p).rows * sz (Q.pl p).of) 3001)) (va_up b c (bhold bb (pbx (Q.pl p) (b (Q.pl p).of)).x0 (pbx (Q.pl p) (b (Q.pl p).of)).y0 (pbx (Q.pl p) (b (Q.pl p).of)).x1 (pbx (Q.pl p) (b (Q.pl p).of)).y1)) (va_up pb p (pbx (Q.pl p) (b (Q.pl p).of)))) N M'))) := by
  obtain ⟨g1, g2, g3, g4, g5, -⟩ := hL.2.1 p hp
  have h_ce : (msQ Q m (va_up sz c k) (va_up b c bb) pb).ce c = ((((Q.ce c).set_meas (m c)).set_size k).set_bx bb) := mce_e
  have hof : (msQ Q m (va_up sz c k) (va_up b c bb) pb).ce (Q.pl p).of = (((Q.ce (Q.pl p).of).set_meas (m (Q.pl p).of)).set_size (sz (Q.pl p).of)).set_bx (b (Q.pl p).of) := by
    show mce Q.ce m (va_up sz c k) (va_up b c bb) (Q.pl p).of = _
    unfold mce
    rw [va_up_n hne, va_up_n hne]
  have h_pl : (msQ Q m (va_up sz c k) (va_up b c bb) pb).pl p = (Q.pl p).set_bx (pb p) := rfl
  have hcr : (Q.pl p).cols * (Q.pl p).rows ≤ 400 := Nat.mul_le_mul g4.2 g5.2
  have hcz : (Q.pl p).cols * (Q.pl p).rows * sz (Q.pl p).of ≤ 400 * 3001 := Nat.mul_le_mul hcr hz
  refine Ct.of h0 (by decide +kernel) rfl fun X hX h => ?_
  obtain ⟨p_, l', e_, R_, s_, m_, ar_, be_, me_, c_⟩ := X
  obtain rfl : l' = l := hX
  refine ri_aload_n h d_Cl_measureWith_0 rfl ?_
  refine ri_get h d_Cl_measureWith_1 fl_Cl_53 (hS.pl_of hp h_pl) rfl ?_
  refine ri_get h d_Cl_measureWith_4 fl_Cl_28 (hS.ce_of g2 hof) rfl ?_
  refine ri_ifN_ne h 11 d_Cl_measureWith_7 (by decide) (show sz (Q.pl p).of < 2 ^ 31 by omega) (fun c_7 => ?_) (fun c_7 => ?_)
  · refine ri_aload_n h d_Cl_measureWith_11 rfl ?_
    refine ri_aload_n h d_Cl_measureWith_12 rfl ?_
    refine ri_get h d_Cl_measureWith_13 fl_Cl_28 (hS.ce_of hc h_ce) rfl ?_
    refine ri_aload_n h d_Cl_measureWith_16 rfl ?_
    refine ri_cVv_0 (r := (gR3, gT3, 9)) h d_Cl_measureWith_17 cv_Cl_59 (by first | exact hS.lcO | exact hS.lsO | exact hS.lpO | exact hS.cesO (by first | assumption | omega) | exact hS.cepO (by first | assumption | omega) | exact ⟨_, (by first | assumption | exact hS.st | exact hS.mo | exact hS.out | exact hS.sb | exact hS.ce (by first | assumption | omega) | exact hS.ceb (by first | assumption | omega) | exact hS.sh (by first | assumption | omega) | exact hS.shb (by first | assumption | omega) | exact hS.pl (by first | assumption | omega) | exact hS.plb (by first | assumption | omega) | exact hS.fl (by first | assumption | omega) | exact gup_s | (refine gup_t (by assumption) ?_; first | assumption | exact gup_s | (refine gup_t (by assumption) ?_; first | assumption | exact gup_s | (refine gup_t (by assumption) ?_; first | assumption | exact gup_s))))⟩) rfl (k_copies h0 (hS.pl_of hp h_pl)) (Nat.le_of_ble_eq_true rfl) (Nat.le_of_ble_eq_true rfl) (Nat.le_of_ble_eq_true rfl) (Nat.le_of_ble_eq_true rfl) (Nat.le_of_ble_eq_true rfl) ?_
    refine ri_aload_n h d_Cl_measureWith_20 rfl ?_
    refine ri_get h d_Cl_measureWith_21 fl_Cl_53 (hS.pl_of hp h_pl) rfl ?_
    refine ri_get h d_Cl_measureWith_24 fl_Cl_28 (hS.ce_of g2 hof) rfl ?_
    refine ri_imulN h d_Cl_measureWith_27 ?_
    refine ri_iaddN h d_Cl_measureWith_28 ?_
    refine ri_sipushN h 3001 d_Cl_measureWith_29 rfl ?_
    refine ri_cSv_2 h d_Cl_measureWith_32 cs_Cl_62 (m_min_i h0 _ _ _) (Nat.le_of_ble_eq_true rfl) (Nat.le_of_ble_eq_true rfl) (Nat.le_of_ble_eq_true rfl) (Nat.le_of_ble_eq_true rfl) (Nat.le_of_ble_eq_true rfl) ?_
    rw [show imin (nI (k + (Q.pl p).cols * (Q.pl p).rows * sz (Q.pl p).of)) (nI 3001) = nI (min (k + (Q.pl p).cols * (Q.pl p).rows * sz (Q.pl p).of) 3001) from imin_nI (by omega) (by decide)]
    refine ri_p_size h d_Cl_measureWith_35 fl_Cl_28 hS hc h_ce (fun M hS h_ce => ?_)
    have hS := hS.cong (congrArg (fun f => (Q.set_ce f).set_pl (mpl Q.pl pb)) mce_2) rfl
    refine ri_aload_n h d_Cl_measureWith_38 rfl ?_
    refine ri_dV0_0 (r := (gR3, gT3, 9)) h d_Cl_measureWith_39 cv_Cl_68 (by first | exact hS.lcO | exact hS.lsO | exact hS.lpO | exact hS.cesO (by first | assumption | omega) | exact hS.cepO (by first | assumption | omega) | exact ⟨_, (by first | assumption | exact hS.st | exact hS.mo | exact hS.out | exact hS.sb | exact hS.ce (by first | assumption | omega) | exact hS.ceb (by first | assumption | omega) | exact hS.sh (by first | assumption | omega) | exact hS.shb (by first | assumption | omega) | exact hS.pl (by first | assumption | omega) | exact hS.plb (by first | assumption | omega) | exact hS.fl (by first | assumption | omega) | exact gup_s | (refine gup_t (by assumption) ?_; first | assumption | exact gup_s | (refine gup_t (by assumption) ?_; first | assumption | exact gup_s | (refine gup_t (by assumption) ?_; first | assumption | exact gup_s))))⟩) rfl (k_measureBox h0 hL hp hS) (Nat.le_of_ble_eq_true rfl) (Nat.le_of_ble_eq_true rfl) (Nat.le_of_ble_eq_true rfl) (Nat.le_of_ble_eq_true rfl) (Nat.le_of_ble_eq_true rfl) (fun M hS => ?_)
    rw [show va_up b c bb (Q.pl p).of = b (Q.pl p).of from va_up_n hne] at hS
    have h_ce : (msQ Q m (va_up sz c (min (k + (Q.pl p).cols * (Q.pl p).rows * sz (Q.pl p).of) 3001)) (va_up b c bb) (va_up pb p (pbx (Q.pl p) (b (Q.pl p).of)))).ce c = ((((Q.ce c).set_meas (m c)).set_size (min (k + (Q.pl p).cols * (Q.pl p).rows * sz (Q.pl p).of) 3001)).set_bx bb) := mce_e
    have h_pl : (msQ Q m (va_up sz c (min (k + (Q.pl p).cols * (Q.pl p).rows * sz (Q.pl p).of) 3001)) (va_up b c bb) (va_up pb p (pbx (Q.pl p) (b (Q.pl p).of)))).pl p = (Q.pl p).set_bx (pbx (Q.pl p) (b (Q.pl p).of)) := by
      show (Q.pl p).set_bx (va_up pb p _ p) = _
      rw [va_up_s]
    refine ri_aload_n h d_Cl_measureWith_42 rfl ?_
    refine ri_get h d_Cl_measureWith_43 fl_Cl_24 (hS.ce_of hc h_ce) rfl ?_
    refine ri_aload_n h d_Cl_measureWith_46 rfl ?_
    refine ri_get h d_Cl_measureWith_47 fl_Cl_71 (hS.pl_of hp h_pl) rfl ?_
    refine ri_cV0_1 (r := (gR0, gT0, 5)) h d_Cl_measureWith_50 cv_Cl_49 (by first | exact hS.lcO | exact hS.lsO | exact hS.lpO | exact hS.cesO (by first | assumption | omega) | exact hS.cepO (by first | assumption | omega) | exact ⟨_, (by first | assumption | exact hS.st | exact hS.mo | exact hS.out | exact hS.sb | exact hS.ce (by first | assumption | omega) | exact hS.ceb (by first | assumption | omega) | exact hS.sh (by first | assumption | omega) | exact hS.shb (by first | assumption | omega) | exact hS.pl (by first | assumption | omega) | exact hS.plb (by first | assumption | omega) | exact hS.fl (by first | assumption | omega) | exact gup_s | (refine gup_t (by assumption) ?_; first | assumption | exact gup_s | (refine gup_t (by assumption) ?_; first | assumption | exact gup_s | (refine gup_t (by assumption) ?_; first | assumption | exact gup_s))))⟩) rfl (k_Bx_holdBox h0 (hS.ceb_of hc h_ce) (hS.plb_of hp h_pl)) (Nat.le_of_ble_eq_true rfl) (Nat.le_of_ble_eq_true rfl) (Nat.le_of_ble_eq_true rfl) (Nat.le_of_ble_eq_true rfl) (Nat.le_of_ble_eq_true rfl) ?_
    refine ri_gH2 (hS.p_ceb hc h_ce (bhold bb (pbx (Q.pl p) (b (Q.pl p).of)).x0 (pbx (Q.pl p) (b (Q.pl p).of)).y0 (pbx (Q.pl p) (b (Q.pl p).of)).x1 (pbx (Q.pl p) (b (Q.pl p).of)).y1)) (fun M hS h_ce => ?_)
    refine ri_return h d_Cl_measureWith_53 (Nat.le_of_ble_eq_true rfl) (Nat.le_of_ble_eq_true rfl) ?_
    exact ⟨rfl, Or.inr ⟨c_7, hS.cong (congrArg (fun f => (Q.set_ce f).set_pl (mpl Q.pl (va_up pb p (pbx (Q.pl p) (b (Q.pl p).of))))) mce_2) rfl⟩⟩
  · refine ri_return h d_Cl_measureWith_10 (Nat.le_of_ble_eq_true rfl) (Nat.le_of_ble_eq_true rfl) ?_
    exact ⟨rfl, Or.inl ⟨c_7, hS⟩⟩
end MEA
