/-! place: the class -/
abbrev snc (ce : Nat → CeR) (σ : Nat → Int32) : Nat → CeR := fun c => (ce c).set_seen (σ c)
theorem snc_up {ce : Nat → CeR} {σ : Nat → Int32} {c : Nat} {v : Int32} : va_up (snc ce σ) c ((snc ce σ c).set_seen v) = snc ce (va_up σ c v) := by
  funext d
  unfold snc va_up
  split
  · subst_vars; rfl
  · rfl
theorem snc_id {ce : Nat → CeR} : snc ce (fun c => (ce c).seen) = ce := rfl
theorem k_size_cepE {l : Launch} {D : gD} {s0 : State} {z : Nat} {ad : gA} {Q : CS} {N : MS} {M : gH} {i : Nat} (h0 : g_0 l D s0) (hS : HS z ad Q N M) (hc : i < Q.nC) {ps : List Nat} (e : (Q.ce i).ps = ps) : Ct l D s0 y_AL_size (Cond.code y_AL_size b_AL_size 1 (some .int)) (rk 0 0 0) [.ref (ad 15 i)] M (fR (some (.int (nI ps.length))) M) := e ▸ k_size_cep h0 hS hc
theorem k_size_cesE {l : Launch} {D : gD} {s0 : State} {z : Nat} {ad : gA} {Q : CS} {N : MS} {M : gH} {i : Nat} (h0 : g_0 l D s0) (hS : HS z ad Q N M) (hc : i < Q.nC) {ss : List Nat} (e : (Q.ce i).ss = ss) : Ct l D s0 y_AL_size (Cond.code y_AL_size b_AL_size 1 (some .int)) (rk 0 0 0) [.ref (ad 13 i)] M (fR (some (.int (nI ss.length))) M) := e ▸ k_size_ces h0 hS hc
theorem k_size_lcE {l : Launch} {D : gD} {s0 : State} {z : Nat} {ad : gA} {Q : CS} {N : MS} {M : gH} (h0 : g_0 l D s0) (hS : HS z ad Q N M) {n : Nat} (e : Q.nC = n) : Ct l D s0 y_AL_size (Cond.code y_AL_size b_AL_size 1 (some .int)) (rk 0 0 0) [.ref (ad 1 0)] M (fR (some (.int (nI n))) M) := e ▸ k_size_lc h0 hS
section PLA
variable {l : Launch} {D : gD} {s0 : State} {M : gH} {z : Nat} {ad : gA} {Q : CS} {N : MS}
/-- what isWithin answers, and what it has seen -/
def iwP (z : Nat) (ad : gA) (Q : CS) (N : MS) (w c : Nat) (σ : Nat → Int32) : gR → gH → Prop := fun r M' => ∃ (b : Int32) (σ' : Nat → Int32), r = .inl (some (.int b)) ∧ HS z ad (Q.set_ce (snc Q.ce σ')) N M' ∧ (∀ x, σ' x = 0 ∨ σ' x = 1) ∧ ((b = 1 ∧ Rch (Ed Q) c w) ∨ (b = 0 ∧ (∀ x, σ x = 1 → σ' x = 1) ∧ σ' c = 1 ∧ ∀ x, σ x = 0 → σ' x = 1 → x ≠ w ∧ ∀ y, Ed Q x y → σ' y = 1))
theorem k_isWithin (h0 : g_0 l D s0) (hW : WB Q) (hL : WL Q) {w : Nat} (hw : w < Q.nC) : ∀ (n c d : Nat) (σ : Nat → Int32) (M : gH), c < Q.nC → rnk (Ed Q) Q.nC c < n → d + rnk (Ed Q) Q.nC c ≤ 20 → (∀ x, σ x = 0 ∨ σ x = 1) → HS z ad (Q.set_ce (snc Q.ce σ)) N M → Ct l D s0 y_ST_isWithin (Cond.code y_ST_isWithin b_ST_isWithin 4 (some .boolean)) (rk (n + 4) 0 0) [.ref (ad 12 w), .ref (ad 12 c), .int (nI d)] M (iwP z ad Q N w c σ) := by
  intro n
  induction n with
  | zero => intro c d σ M hc hr; exact absurd hr (Nat.not_lt_zero _)
  | succ n ih =>
    intro c d σ M hc hr hd hσ hS
    have hWc := hW.2.2.2 c hc
    by_cases hcw : c = w
    · subst hcw
      refine Ct.of h0 (by decide +kernel) rfl fun X hX h => ?_
      obtain ⟨p_, l', e_, R_, s_, m_, ar_, be_, me_, c_⟩ := X
      obtain rfl : l' = l := hX
      refine ri_aload_n h d_ST_isWithin_0 rfl ?_
      refine ri_aload_n h d_ST_isWithin_1 rfl ?_
      refine ri_acmp_ne h 7 d_ST_isWithin_2 (by decide) (fun c_2 => ?_) (fun c_2 => ?_)
      · exact absurd rfl c_2
      · refine ri_iconstN h 1 d_ST_isWithin_5 rfl ?_
        refine ri_zreturn h d_ST_isWithin_6 (by first | exact Nat.le_of_ble_eq_true rfl | (dsimp only [rk]; omega)) (by first | exact Nat.le_of_ble_eq_true rfl | (dsimp only [rk]; omega)) (by first | rfl | assumption) ?_
        exact ⟨1, σ, rfl, hS, hσ, Or.inl ⟨rfl, Rch.refl⟩⟩
    · by_cases hs : σ c = 1
      · refine Ct.of h0 (by decide +kernel) rfl fun X hX h => ?_
        obtain ⟨p_, l', e_, R_, s_, m_, ar_, be_, me_, c_⟩ := X
        obtain rfl : l' = l := hX
        refine ri_aload_n h d_ST_isWithin_0 rfl ?_
        refine ri_aload_n h d_ST_isWithin_1 rfl ?_
        refine ri_acmp_ne h 7 d_ST_isWithin_2 (by decide) (fun c_2 => ?_) (fun c_2 => ?_)
        · refine ri_aload_n h d_ST_isWithin_7 rfl ?_
          refine ri_get h d_ST_isWithin_8 fl_ST_280 (by first | assumption | exact hS.ce_of (by first | assumption | omega) (by assumption) | exact hS.ce (by first | assumption | omega) | exact gup_s) (by rfl) ?_
          refine ri_if_ne h 20 d_ST_isWithin_11 (by decide) (fun c_11 => ?_) (fun c_11 => ?_)
          · first
            | (exfalso; first | exact absurd c_11 (by decide) | first | contradiction | exact absurd (hs.symm.trans c_11) (by decide) | omega)
            | (refine ri_iconstN h 0 d_ST_isWithin_20 rfl ?_
               refine ri_zreturn h d_ST_isWithin_21 (by first | exact Nat.le_of_ble_eq_true rfl | (dsimp only [rk]; omega)) (by first | exact Nat.le_of_ble_eq_true rfl | (dsimp only [rk]; omega)) (by first | rfl | assumption) ?_
               exact ⟨0, σ, rfl, hS, hσ, Or.inr ⟨rfl, fun x hx => hx, hs, fun x h1 h2 => absurd (h1.symm.trans h2) (by decide)⟩⟩)
          · first
            | (exfalso; first | exact absurd c_11 (by decide) | first | contradiction | exact absurd (hs.symm.trans c_11) (by decide) | omega)
            | (refine ri_iload_n h d_ST_isWithin_14 rfl ?_
               refine ri_bipushN h 20 d_ST_isWithin_15 rfl ?_
               first | refine ri_icmpN_le h 22 d_ST_isWithin_17 (by decide) (by omega) (by omega) (fun c_17 => ?_) (fun c_17 => ?_) | refine ri_icmp_le h 22 d_ST_isWithin_17 (by decide) (fun c_17 => ?_) (fun c_17 => ?_)
               · first
                 | (exfalso; first | exact absurd c_17 (by decide) | first | contradiction | exact absurd (hs.symm.trans c_11) (by decide) | omega)
                 | (omega)
               · first
                 | (exfalso; first | exact absurd c_17 (by decide) | first | contradiction | exact absurd (hs.symm.trans c_11) (by decide) | omega)
                 | (refine ri_iconstN h 0 d_ST_isWithin_20 rfl ?_
                    refine ri_zreturn h d_ST_isWithin_21 (by first | exact Nat.le_of_ble_eq_true rfl | (dsimp only [rk]; omega)) (by first | exact Nat.le_of_ble_eq_true rfl | (dsimp only [rk]; omega)) (by first | rfl | assumption) ?_
                    exact ⟨0, σ, rfl, hS, hσ, Or.inr ⟨rfl, fun x hx => hx, hs, fun x h1 h2 => absurd (h1.symm.trans h2) (by decide)⟩⟩))
        · exact absurd (hS.inj12 hc hw c_2) hcw
      · have hs : σ c = 0 := (hσ c).resolve_right hs
        refine Ct.of h0 (by decide +kernel) rfl fun X hX h => ?_
        obtain ⟨p_, l', e_, R_, s_, m_, ar_, be_, me_, c_⟩ := X
        obtain rfl : l' = l := hX
        have LP : ∀ (q i : Nat), i + q = (Q.ce c).ps.length → ∀ (M : gH) (σ' : Nat → Int32), HS z ad (Q.set_ce (snc Q.ce σ')) N M → (∀ x, σ' x = 0 ∨ σ' x = 1) → (∀ x, σ x = 1 → σ' x = 1) → σ' c = 1 → (∀ (j : Nat) (hj : j < (Q.ce c).ps.length), j < i → σ' (Q.pl (Q.ce c).ps[j]).of = 1) → (∀ x, σ x = 0 → σ' x = 1 → x = c ∨ (x ≠ w ∧ ∀ y, Ed Q x y → σ' y = 1)) → G (gzz D s0 (p_, l', e_, R_, s_, m_, ar_, be_, me_, c_) (rk (n + 1 + 4) 0 0) (iwP z ad Q N w c σ) 4) 29 [(0, .ref (ad 12 w)), (1, .ref (ad 12 c)), (2, .int (nI d)), (3, .int (nI i))] [] M 0 0 := by
          intro q
          induction q with
          | zero =>
            intro i hi M σ' hS hσ' hm hc1 hj hx
            refine ri_iload_n h d_ST_isWithin_29 rfl ?_
            refine ri_aload_n h d_ST_isWithin_30 rfl ?_
            refine ri_get h d_ST_isWithin_31 fl_ST_130 (by first | assumption | exact hS.ce_of (by first | assumption | omega) (by assumption) | exact hS.ce (by first | assumption | omega) | exact gup_s) (by rfl) ?_
            refine ri_cVv_0 (r := (gR7, gT7, 3)) h d_ST_isWithin_34 cv_ST_56 (by first | exact hS.lcO | exact hS.lsO | exact hS.lpO | exact hS.cesO (by first | assumption | omega) | exact hS.cepO (by first | assumption | omega) | exact ⟨_, (by first | assumption | exact hS.st | exact hS.mo | exact hS.out | exact hS.sb | exact hS.ce (by first | assumption | omega) | exact hS.ceb (by first | assumption | omega) | exact hS.sh (by first | assumption | omega) | exact hS.shb (by first | assumption | omega) | exact hS.pl (by first | assumption | omega) | exact hS.plb (by first | assumption | omega) | exact hS.fl (by first | assumption | omega) | exact gup_s | (refine gup_t (by assumption) ?_; first | assumption | exact gup_s | (refine gup_t (by assumption) ?_; first | assumption | exact gup_s | (refine gup_t (by assumption) ?_; first | assumption | exact gup_s))))⟩) rfl (k_size_cepE h0 hS hc (ps := (Q.ce c).ps) rfl) (by first | exact Nat.le_of_ble_eq_true rfl | (dsimp only [rk]; omega)) (by first | exact Nat.le_of_ble_eq_true rfl | (dsimp only [rk]; omega)) (by first | exact Nat.le_of_ble_eq_true rfl | (dsimp only [rk]; omega)) (by first | exact Nat.le_of_ble_eq_true rfl | (dsimp only [rk]; omega)) (by first | exact Nat.le_of_ble_eq_true rfl | (dsimp only [rk]; omega)) ?_
            first | refine ri_icmpN_ge h 72 d_ST_isWithin_37 (by decide) (by omega) (by omega) (fun c_37 => ?_) (fun c_37 => ?_) | refine ri_icmp_ge h 72 d_ST_isWithin_37 (by decide) (fun c_37 => ?_) (fun c_37 => ?_)
            · first
              | (exfalso; first | exact absurd c_37 (by decide) | omega)
              | (refine ri_iconstN h 0 d_ST_isWithin_72 rfl ?_
                 refine ri_zreturn h d_ST_isWithin_73 (by first | exact Nat.le_of_ble_eq_true rfl | (dsimp only [rk]; omega)) (by first | exact Nat.le_of_ble_eq_true rfl | (dsimp only [rk]; omega)) (by first | rfl | assumption) ?_
                 exact ⟨0, σ', rfl, hS, hσ', Or.inr ⟨rfl, hm, hc1, fun x h1 h2 => (hx x h1 h2).elim (fun e => e ▸ ⟨hcw, fun y hy => by obtain ⟨p, hp, rfl⟩ := (hL.ed hc).mp hy; obtain ⟨j, hj1, rfl⟩ := List.getElem_of_mem hp; exact hj j hj1 (by omega)⟩) id⟩⟩)
            · first
              | (exfalso; first | exact absurd c_37 (by decide) | omega)
              | (omega)
          | succ q ihq =>
            intro i hi M σ' hS hσ' hm hc1 hj hx
            have hil : i < (Q.ce c).ps.length := by omega
            have hpm : (Q.ce c).ps[i] ∈ (Q.ce c).ps := List.getElem_mem hil
            have hpP : (Q.ce c).ps[i] < Q.nP := hWc.2.2.2 _ hpm
            have hof : (Q.pl (Q.ce c).ps[i]).of < Q.nC := (hL.2.1 _ hpP).2.1
            have hed : Ed Q c (Q.pl (Q.ce c).ps[i]).of := (hL.ed hc).mpr ⟨_, hpm, rfl⟩
            have hrl := rnk_lt hL.2.2 hc hed
            refine ri_iload_n h d_ST_isWithin_29 rfl ?_
            refine ri_aload_n h d_ST_isWithin_30 rfl ?_
            refine ri_get h d_ST_isWithin_31 fl_ST_130 (by first | assumption | exact hS.ce_of (by first | assumption | omega) (by assumption) | exact hS.ce (by first | assumption | omega) | exact gup_s) (by rfl) ?_
            refine ri_cVv_0 (r := (gR7, gT7, 3)) h d_ST_isWithin_34 cv_ST_56 (by first | exact hS.lcO | exact hS.lsO | exact hS.lpO | exact hS.cesO (by first | assumption | omega) | exact hS.cepO (by first | assumption | omega) | exact ⟨_, (by first | assumption | exact hS.st | exact hS.mo | exact hS.out | exact hS.sb | exact hS.ce (by first | assumption | omega) | exact hS.ceb (by first | assumption | omega) | exact hS.sh (by first | assumption | omega) | exact hS.shb (by first | assumption | omega) | exact hS.pl (by first | assumption | omega) | exact hS.plb (by first | assumption | omega) | exact hS.fl (by first | assumption | omega) | exact gup_s | (refine gup_t (by assumption) ?_; first | assumption | exact gup_s | (refine gup_t (by assumption) ?_; first | assumption | exact gup_s | (refine gup_t (by assumption) ?_; first | assumption | exact gup_s))))⟩) rfl (k_size_cepE h0 hS hc (ps := (Q.ce c).ps) rfl) (by first | exact Nat.le_of_ble_eq_true rfl | (dsimp only [rk]; omega)) (by first | exact Nat.le_of_ble_eq_true rfl | (dsimp only [rk]; omega)) (by first | exact Nat.le_of_ble_eq_true rfl | (dsimp only [rk]; omega)) (by first | exact Nat.le_of_ble_eq_true rfl | (dsimp only [rk]; omega)) (by first | exact Nat.le_of_ble_eq_true rfl | (dsimp only [rk]; omega)) ?_
            first | refine ri_icmpN_ge h 72 d_ST_isWithin_37 (by decide) (by omega) (by omega) (fun c_37 => ?_) (fun c_37 => ?_) | refine ri_icmp_ge h 72 d_ST_isWithin_37 (by decide) (fun c_37 => ?_) (fun c_37 => ?_)
            · omega
            · refine ri_aload_n h d_ST_isWithin_40 rfl ?_
              refine ri_aload_n h d_ST_isWithin_41 rfl ?_
              refine ri_get h d_ST_isWithin_42 fl_ST_130 (by first | assumption | exact hS.ce_of (by first | assumption | omega) (by assumption) | exact hS.ce (by first | assumption | omega) | exact gup_s) (by rfl) ?_
              refine ri_iload_n h d_ST_isWithin_45 rfl ?_
              refine ri_cVv_1 (r := (gR7, gT7, 3)) h d_ST_isWithin_46 cv_ST_138 (by first | exact hS.lcO | exact hS.lsO | exact hS.lpO | exact hS.cesO (by first | assumption | omega) | exact hS.cepO (by first | assumption | omega) | exact ⟨_, (by first | assumption | exact hS.st | exact hS.mo | exact hS.out | exact hS.sb | exact hS.ce (by first | assumption | omega) | exact hS.ceb (by first | assumption | omega) | exact hS.sh (by first | assumption | omega) | exact hS.shb (by first | assumption | omega) | exact hS.pl (by first | assumption | omega) | exact hS.plb (by first | assumption | omega) | exact hS.fl (by first | assumption | omega) | exact gup_s | (refine gup_t (by assumption) ?_; first | assumption | exact gup_s | (refine gup_t (by assumption) ?_; first | assumption | exact gup_s | (refine gup_t (by assumption) ?_; first | assumption | exact gup_s))))⟩) rfl (k_get_cep h0 hS hW hc hil) (by first | exact Nat.le_of_ble_eq_true rfl | (dsimp only [rk]; omega)) (by first | exact Nat.le_of_ble_eq_true rfl | (dsimp only [rk]; omega)) (by first | exact Nat.le_of_ble_eq_true rfl | (dsimp only [rk]; omega)) (by first | exact Nat.le_of_ble_eq_true rfl | (dsimp only [rk]; omega)) (by first | exact Nat.le_of_ble_eq_true rfl | (dsimp only [rk]; omega)) ?_
              refine ri_cast (r := (gR3, gT3, 9)) h d_ST_isWithin_49 (by first | assumption | exact hS.st | exact hS.mo | exact hS.out | exact hS.sb | exact hS.ce (by first | assumption | omega) | exact hS.ceb (by first | assumption | omega) | exact hS.sh (by first | assumption | omega) | exact hS.shb (by first | assumption | omega) | exact hS.pl (by first | assumption | omega) | exact hS.plb (by first | assumption | omega) | exact hS.fl (by first | assumption | omega) | exact gup_s | (refine gup_t (by assumption) ?_; first | assumption | exact gup_s | (refine gup_t (by assumption) ?_; first | assumption | exact gup_s | (refine gup_t (by assumption) ?_; first | assumption | exact gup_s)))) rfl (by decide +kernel) (by decide +kernel) ?_
              refine ri_get h d_ST_isWithin_52 fl_ST_287 (by first | assumption | exact hS.pl_of (by first | assumption | omega) (by assumption) | exact hS.pl (by first | assumption | omega) | exact gup_s) (by rfl) ?_
              refine ri_iload_n h d_ST_isWithin_55 rfl ?_
              refine ri_iconstN h 1 d_ST_isWithin_56 rfl ?_
              first | refine ri_iaddN h d_ST_isWithin_57 ?_ | refine ri_iadd h d_ST_isWithin_57 ?_
              refine ri_callS h [.ref (ad 12 w), .ref (ad 12 (Q.pl (Q.ce c).ps[i]).of), .int (nI (d + 1))] [] d_ST_isWithin_58 cs_ST_283 rfl rfl (by decide) (by dsimp only [rk]; omega) (by dsimp only [rk]; omega) (by dsimp only [rk]; omega) (by dsimp only [rk]; omega) (ih _ (d + 1) σ' M hof (by omega) (by omega) hσ' hS) (fun E M' hp => by obtain ⟨b, σ2, e, -⟩ := hp; cases e) (fun v M hp => ?_)
              obtain ⟨b, σ2, e, hS, hσ2, hb⟩ := hp
              cases e
              rcases hb with ⟨rfl, hb⟩ | ⟨rfl, hb1, hb2, hb3⟩
              · refine ri_if_eq h 66 d_ST_isWithin_61 (by decide) (fun c_61 => ?_) (fun c_61 => ?_)
                · exact absurd c_61 (by decide)
                · refine ri_iconstN h 1 d_ST_isWithin_64 rfl ?_
                  refine ri_zreturn h d_ST_isWithin_65 (by first | exact Nat.le_of_ble_eq_true rfl | (dsimp only [rk]; omega)) (by first | exact Nat.le_of_ble_eq_true rfl | (dsimp only [rk]; omega)) (by first | rfl | assumption) ?_
                  exact ⟨1, σ2, rfl, hS, hσ2, Or.inl ⟨rfl, Rch.step hed hb⟩⟩
              · refine ri_if_eq h 66 d_ST_isWithin_61 (by decide) (fun c_61 => ?_) (fun c_61 => ?_)
                · first | refine ri_iincN h d_ST_isWithin_66 rfl (by first | exact Nat.le_of_ble_eq_true rfl | (dsimp only [rk]; omega)) ?_ | refine ri_iinc h _ d_ST_isWithin_66 rfl rfl (by first | exact Nat.le_of_ble_eq_true rfl | (dsimp only [rk]; omega)) ?_
                  refine ri_goto h 29 d_ST_isWithin_69 (by decide) ?_
                  refine ri_ls [(0, .ref (ad 12 w)), (1, .ref (ad 12 c)), (2, .int (nI d)), (3, .int (nI (i + 1)))] ⟨rfl, rfl, rfl, rfl, trivial⟩ (ihq (i + 1) (by omega) _ σ2 hS hσ2 (fun x h => hb1 x (hm x h)) (hb1 c hc1) (fun j hj1 hj2 => ?_) (fun x h1 h2 => ?_))
                  · rcases (show j < i ∨ j = i by omega) with q | rfl
                    · exact hb1 _ (hj j hj1 q)
                    · exact hb2
                  · rcases hσ' x with q | q
                    · exact Or.inr (hb3 x q h2)
                    · exact (hx x h1 q).imp id (fun r => ⟨r.1, fun y hy => hb1 y (r.2 y hy)⟩)
                · exact absurd rfl c_61
        refine ri_aload_n h d_ST_isWithin_0 rfl ?_
        refine ri_aload_n h d_ST_isWithin_1 rfl ?_
        refine ri_acmp_ne h 7 d_ST_isWithin_2 (by decide) (fun c_2 => ?_) (fun c_2 => ?_)
        · refine ri_aload_n h d_ST_isWithin_7 rfl ?_
          refine ri_get h d_ST_isWithin_8 fl_ST_280 (by first | assumption | exact hS.ce_of (by first | assumption | omega) (by assumption) | exact hS.ce (by first | assumption | omega) | exact gup_s) (by rfl) ?_
          refine ri_if_ne h 20 d_ST_isWithin_11 (by decide) (fun c_11 => ?_) (fun c_11 => ?_)
          · first | exact absurd hs c_11 | omega
          · refine ri_iload_n h d_ST_isWithin_14 rfl ?_
            refine ri_bipushN h 20 d_ST_isWithin_15 rfl ?_
            first | refine ri_icmpN_le h 22 d_ST_isWithin_17 (by decide) (by omega) (by omega) (fun c_17 => ?_) (fun c_17 => ?_) | refine ri_icmp_le h 22 d_ST_isWithin_17 (by decide) (fun c_17 => ?_) (fun c_17 => ?_)
            · refine ri_aload_n h d_ST_isWithin_22 rfl ?_
              refine ri_iconstN h 1 d_ST_isWithin_23 rfl ?_
              refine ri_p_seen h d_ST_isWithin_24 fl_ST_280 hS (by first | assumption | omega) (by first | assumption | rfl) (by first | exact Or.inl rfl | exact Or.inr rfl | assumption) (fun M hS h_ce => ?_)
              refine ri_iconstN h 0 d_ST_isWithin_27 rfl ?_
              refine ri_istore_n h d_ST_isWithin_28 (by first | exact Nat.le_of_ble_eq_true rfl | (dsimp only [rk]; omega)) ?_
              refine ri_ls [(0, .ref (ad 12 w)), (1, .ref (ad 12 c)), (2, .int (nI d)), (3, .int (nI 0))] ⟨rfl, rfl, rfl, rfl, trivial⟩ (LP (Q.ce c).ps.length 0 (by omega) _ (va_up σ c (nI 1)) (hS.cong (congrArg (fun f => Q.set_ce f) snc_up) rfl) (fun x => ?_) (fun x hx => ?_) va_up_s (fun j hj1 hj2 => by omega) (fun x h1 h2 => ?_))
              · unfold va_up
                split
                · exact Or.inr rfl
                · exact hσ x
              · unfold va_up
                split
                · rfl
                · exact hx
              · by_cases e : x = c
                · exact Or.inl e
                · rw [va_up_n e] at h2
                  exact absurd (h1.symm.trans h2) (by decide)
            · first | exact absurd hs c_11 | omega
        · exact absurd (hS.inj12 hc hw c_2) hcw
theorem k_would (h0 : g_0 l D s0) (hW : WB Q) (hL : WL Q) (hse : ∀ x, (Q.ce x).seen = 0 ∨ (Q.ce x).seen = 1) {c o : Nat} (hc : c < Q.nC) (ho : o < Q.nC) (hS : HS z ad Q N M) : Ct l D s0 y_ST_wouldHoldItself (Cond.code y_ST_wouldHoldItself b_ST_wouldHoldItself 4 (some .boolean)) (rk 30 0 0) [.ref (ad 0 0), .ref (ad 12 c), .ref (ad 12 o)] M (fun r M' => ∃ (b : Int32) (σ' : Nat → Int32), r = .inl (some (.int b)) ∧ HS z ad (Q.set_ce (snc Q.ce σ')) N M' ∧ (∀ x, σ' x = 0 ∨ σ' x = 1) ∧ ((b = 1 ∧ Rch (Ed Q) o c) ∨ (b = 0 ∧ ¬ Rch (Ed Q) o c))) := by
  have hb := hW.1
  refine Ct.of h0 (by decide +kernel) rfl fun X hX h => ?_
  obtain ⟨p_, l', e_, R_, s_, m_, ar_, be_, me_, c_⟩ := X
  obtain rfl : l' = l := hX
  have LP : ∀ (q i : Nat), i + q = Q.nC → ∀ (M : gH) (σ : Nat → Int32), HS z ad (Q.set_ce (snc Q.ce σ)) N M → (∀ x, σ x = 0 ∨ σ x = 1) → (∀ x, x < i → σ x = 0) → G (gzz D s0 (p_, l', e_, R_, s_, m_, ar_, be_, me_, c_) (rk 30 0 0) (fun r M' => ∃ (b : Int32) (σ' : Nat → Int32), r = .inl (some (.int b)) ∧ HS z ad (Q.set_ce (snc Q.ce σ')) N M' ∧ (∀ x, σ' x = 0 ∨ σ' x = 1) ∧ ((b = 1 ∧ Rch (Ed Q) o c) ∨ (b = 0 ∧ ¬ Rch (Ed Q) o c))) 4) 2 [(0, .ref (ad 0 0)), (1, .ref (ad 12 c)), (2, .ref (ad 12 o)), (3, .int (nI i))] [] M 0 0 := by
    intro q
    induction q with
    | zero =>
      intro i hi M σ hS hσ h1
      refine ri_iload_n h d_ST_wouldHoldItself_2 rfl ?_
      refine ri_aload_n h d_ST_wouldHoldItself_3 rfl ?_
      refine ri_get h d_ST_wouldHoldItself_4 fl_ST_10 (by first | assumption | exact hS.st | exact gup_s) (by rfl) ?_
      refine ri_cVv_0 (r := (gR7, gT7, 3)) h d_ST_wouldHoldItself_7 cv_ST_56 (by first | exact hS.lcO | exact hS.lsO | exact hS.lpO | exact hS.cesO (by first | assumption | omega) | exact hS.cepO (by first | assumption | omega) | exact ⟨_, (by first | assumption | exact hS.st | exact hS.mo | exact hS.out | exact hS.sb | exact hS.ce (by first | assumption | omega) | exact hS.ceb (by first | assumption | omega) | exact hS.sh (by first | assumption | omega) | exact hS.shb (by first | assumption | omega) | exact hS.pl (by first | assumption | omega) | exact hS.plb (by first | assumption | omega) | exact hS.fl (by first | assumption | omega) | exact gup_s | (refine gup_t (by assumption) ?_; first | assumption | exact gup_s | (refine gup_t (by assumption) ?_; first | assumption | exact gup_s | (refine gup_t (by assumption) ?_; first | assumption | exact gup_s))))⟩) rfl (k_size_lcE h0 hS (n := Q.nC) rfl) (Nat.le_of_ble_eq_true rfl) (Nat.le_of_ble_eq_true rfl) (Nat.le_of_ble_eq_true rfl) (Nat.le_of_ble_eq_true rfl) (Nat.le_of_ble_eq_true rfl) ?_
      first | refine ri_icmpN_ge h 34 d_ST_wouldHoldItself_10 (by decide) (by omega) (by omega) (fun c_10 => ?_) (fun c_10 => ?_) | refine ri_icmp_ge h 34 d_ST_wouldHoldItself_10 (by decide) (fun c_10 => ?_) (fun c_10 => ?_)
      · first
        | (exfalso; first | exact absurd c_10 (by decide) | omega)
        | (refine ri_aload_n h d_ST_wouldHoldItself_34 rfl ?_
           refine ri_aload_n h d_ST_wouldHoldItself_35 rfl ?_
           refine ri_iconstN h 0 d_ST_wouldHoldItself_36 rfl ?_
           refine ri_callS h [.ref (ad 12 c), .ref (ad 12 o), .int (nI 0)] [] d_ST_wouldHoldItself_37 cs_ST_283 rfl rfl (by decide) (by decide) (by decide) (by decide) (by decide) (k_isWithin h0 hW hL hc 21 o 0 σ M ho (by have := rnk_le (E := Ed Q) (n := Q.nC) (a := o); omega) (by have := rnk_le (E := Ed Q) (n := Q.nC) (a := o); omega) hσ hS) (fun E M' hp => by obtain ⟨b, σ2, e, -⟩ := hp; cases e) (fun v M hp => ?_)
           obtain ⟨b, σ2, e, hS, hσ2, hb⟩ := hp
           cases e
           have hb01 : b = 0 ∨ b = 1 := hb.elim (fun q => Or.inr q.1) (fun q => Or.inl q.1)
           have hn : narrow .boolean (.int b) = .int b := by rcases hb01 with rfl | rfl <;> rfl
           refine ri_zreturn h d_ST_wouldHoldItself_40 (Nat.le_of_ble_eq_true rfl) (Nat.le_of_ble_eq_true rfl) (by first | rfl | assumption) ?_
           refine ⟨b, σ2, rfl, hS, hσ2, hb.imp id (fun q => ⟨q.1, fun r => ?_⟩)⟩
           obtain ⟨-, -, q2, q3⟩ := q
           have := r.ind (P := fun x => x < Q.nC ∧ σ2 x = 1) ⟨ho, q2⟩ (fun x y hx e => ⟨by obtain ⟨p, hp, -, rfl⟩ := e; exact (hL.2.1 p hp).2.1, (q3 x (h1 x (by omega)) hx.2).2 y e⟩)
           exact (q3 c (h1 c (by omega)) this.2).1 rfl)
      · first
        | (exfalso; first | exact absurd c_10 (by decide) | omega)
        | (omega)
    | succ q ih =>
      intro i hi M σ hS hσ h1
      have hi2 : i < Q.nC := by omega
      refine ri_iload_n h d_ST_wouldHoldItself_2 rfl ?_
      refine ri_aload_n h d_ST_wouldHoldItself_3 rfl ?_
      refine ri_get h d_ST_wouldHoldItself_4 fl_ST_10 (by first | assumption | exact hS.st | exact gup_s) (by rfl) ?_
      refine ri_cVv_0 (r := (gR7, gT7, 3)) h d_ST_wouldHoldItself_7 cv_ST_56 (by first | exact hS.lcO | exact hS.lsO | exact hS.lpO | exact hS.cesO (by first | assumption | omega) | exact hS.cepO (by first | assumption | omega) | exact ⟨_, (by first | assumption | exact hS.st | exact hS.mo | exact hS.out | exact hS.sb | exact hS.ce (by first | assumption | omega) | exact hS.ceb (by first | assumption | omega) | exact hS.sh (by first | assumption | omega) | exact hS.shb (by first | assumption | omega) | exact hS.pl (by first | assumption | omega) | exact hS.plb (by first | assumption | omega) | exact hS.fl (by first | assumption | omega) | exact gup_s | (refine gup_t (by assumption) ?_; first | assumption | exact gup_s | (refine gup_t (by assumption) ?_; first | assumption | exact gup_s | (refine gup_t (by assumption) ?_; first | assumption | exact gup_s))))⟩) rfl (k_size_lcE h0 hS (n := Q.nC) rfl) (Nat.le_of_ble_eq_true rfl) (Nat.le_of_ble_eq_true rfl) (Nat.le_of_ble_eq_true rfl) (Nat.le_of_ble_eq_true rfl) (Nat.le_of_ble_eq_true rfl) ?_
      first | refine ri_icmpN_ge h 34 d_ST_wouldHoldItself_10 (by decide) (by omega) (by omega) (fun c_10 => ?_) (fun c_10 => ?_) | refine ri_icmp_ge h 34 d_ST_wouldHoldItself_10 (by decide) (fun c_10 => ?_) (fun c_10 => ?_)
      · omega
      · refine ri_aload_n h d_ST_wouldHoldItself_13 rfl ?_
        refine ri_get h d_ST_wouldHoldItself_14 fl_ST_10 (by first | assumption | exact hS.st | exact gup_s) (by rfl) ?_
        refine ri_iload_n h d_ST_wouldHoldItself_17 rfl ?_
        refine ri_cVv_1 (r := (gR7, gT7, 3)) h d_ST_wouldHoldItself_18 cv_ST_138 (by first | exact hS.lcO | exact hS.lsO | exact hS.lpO | exact hS.cesO (by first | assumption | omega) | exact hS.cepO (by first | assumption | omega) | exact ⟨_, (by first | assumption | exact hS.st | exact hS.mo | exact hS.out | exact hS.sb | exact hS.ce (by first | assumption | omega) | exact hS.ceb (by first | assumption | omega) | exact hS.sh (by first | assumption | omega) | exact hS.shb (by first | assumption | omega) | exact hS.pl (by first | assumption | omega) | exact hS.plb (by first | assumption | omega) | exact hS.fl (by first | assumption | omega) | exact gup_s | (refine gup_t (by assumption) ?_; first | assumption | exact gup_s | (refine gup_t (by assumption) ?_; first | assumption | exact gup_s | (refine gup_t (by assumption) ?_; first | assumption | exact gup_s))))⟩) rfl (by first | exact k_get_lc h0 hS hW (by first | assumption | omega) | exact k_get_ls h0 hS hW (by first | assumption | omega) | exact k_get_lp h0 hS hW (by first | assumption | omega) | exact k_get_ces h0 hS hW (by first | assumption | omega) (by first | assumption | omega) | exact k_get_cep h0 hS hW (by first | assumption | omega) (by first | assumption | omega)) (by exact Nat.le_of_ble_eq_true rfl) (by exact Nat.le_of_ble_eq_true rfl) (by exact Nat.le_of_ble_eq_true rfl) (by exact Nat.le_of_ble_eq_true rfl) (by exact Nat.le_of_ble_eq_true rfl) ?_
        refine ri_cast (r := (gR1, gT1, 6)) h d_ST_wouldHoldItself_21 (by first | assumption | exact hS.st | exact hS.mo | exact hS.out | exact hS.sb | exact hS.ce (by first | assumption | omega) | exact hS.ceb (by first | assumption | omega) | exact hS.sh (by first | assumption | omega) | exact hS.shb (by first | assumption | omega) | exact hS.pl (by first | assumption | omega) | exact hS.plb (by first | assumption | omega) | exact hS.fl (by first | assumption | omega) | exact gup_s | (refine gup_t (by assumption) ?_; first | assumption | exact gup_s | (refine gup_t (by assumption) ?_; first | assumption | exact gup_s | (refine gup_t (by assumption) ?_; first | assumption | exact gup_s)))) rfl (by decide +kernel) (by decide +kernel) ?_
        refine ri_iconstN h 0 d_ST_wouldHoldItself_24 rfl ?_
        refine ri_p_seen h d_ST_wouldHoldItself_25 fl_ST_280 hS (by first | assumption | omega) (by first | assumption | rfl) (by first | exact Or.inl rfl | exact Or.inr rfl | assumption) (fun M hS h_ce => ?_)
        first | refine ri_iincN h d_ST_wouldHoldItself_28 rfl (Nat.le_of_ble_eq_true rfl) ?_ | refine ri_iinc h _ d_ST_wouldHoldItself_28 rfl rfl (Nat.le_of_ble_eq_true rfl) ?_
        refine ri_goto h 2 d_ST_wouldHoldItself_31 (by decide) ?_
        refine ri_ls [(0, .ref (ad 0 0)), (1, .ref (ad 12 c)), (2, .ref (ad 12 o)), (3, .int (nI (i + 1)))] ⟨rfl, rfl, rfl, rfl, trivial⟩ (ih (i + 1) (by omega) _ (va_up σ i (nI 0)) (hS.cong (congrArg (fun f => Q.set_ce f) snc_up) rfl) (fun x => ?_) (fun x hx => ?_))
        · unfold va_up
          split
          · exact Or.inl rfl
          · exact hσ x
        · unfold va_up
          split
          · rfl
          · exact h1 x (by omega)
  refine ri_iconstN h 0 d_ST_wouldHoldItself_0 rfl ?_
  refine ri_istore_n h d_ST_wouldHoldItself_1 (Nat.le_of_ble_eq_true rfl) ?_
  exact ri_ls [(0, .ref (ad 0 0)), (1, .ref (ad 12 c)), (2, .ref (ad 12 o)), (3, .int (nI 0))] ⟨rfl, rfl, rfl, rfl, trivial⟩ (LP Q.nC 0 (by omega) M (fun x => (Q.ce x).seen) hS hse (fun x hx => by omega))
theorem k_place_no1 (h0 : g_0 l D s0) (hS : HS z ad Q N M) (hW : WB Q) {p o : Int32} {x y : Int64} {t : Int32} (hn : ¬ ((∃ c, c < Q.nC ∧ p = nI c) ∧ ∃ c, c < Q.nC ∧ o = nI c)) : Ct l D s0 y_ST_place (Cond.code y_ST_place b_ST_place 11 (some .int)) rkC [.ref (ad 0 0), .int p, .int o, .long x, .long y, .int t] M (fE eIO M) := by
  refine Ct.of h0 (by decide +kernel) rfl fun X hX h => ?_
  obtain ⟨p_, l', e_, R_, s_, m_, ar_, be_, me_, c_⟩ := X
  obtain rfl : l' = l := hX
  by_cases hp : ∃ c, c < Q.nC ∧ p = nI c
  · obtain ⟨c, hc, rfl⟩ := id hp
    refine ri_aload_n h d_ST_place_0 rfl ?_
    refine ri_iload_n h d_ST_place_1 rfl ?_
    refine ri_cVv_1 (r := (gR5, gT5, 8)) h d_ST_place_2 cv_ST_74 (by first | exact hS.lcO | exact hS.lsO | exact hS.lpO | exact hS.cesO (by first | assumption | omega) | exact hS.cepO (by first | assumption | omega) | exact ⟨_, (by first | assumption | exact hS.st | exact hS.mo | exact hS.out | exact hS.sb | exact hS.ce (by first | assumption | omega) | exact hS.ceb (by first | assumption | omega) | exact hS.sh (by first | assumption | omega) | exact hS.shb (by first | assumption | omega) | exact hS.pl (by first | assumption | omega) | exact hS.plb (by first | assumption | omega) | exact hS.fl (by first | assumption | omega) | exact gup_s | (refine gup_t (by assumption) ?_; first | assumption | exact gup_s | (refine gup_t (by assumption) ?_; first | assumption | exact gup_s | (refine gup_t (by assumption) ?_; first | assumption | exact gup_s))))⟩) rfl (k_known_ok h0 hS hW hc) (Nat.le_of_ble_eq_true rfl) (Nat.le_of_ble_eq_true rfl) (Nat.le_of_ble_eq_true rfl) (Nat.le_of_ble_eq_true rfl) (Nat.le_of_ble_eq_true rfl) ?_
    refine ri_astore h d_ST_place_5 (Nat.le_of_ble_eq_true rfl) ?_
    refine ri_aload_n h d_ST_place_7 rfl ?_
    refine ri_iload_n h d_ST_place_8 rfl ?_
    refine ri_eV_1 (r := (gR5, gT5, 8)) h d_ST_place_9 cv_ST_74 (by first | exact hS.lcO | exact hS.lsO | exact hS.lpO | exact hS.cesO (by first | assumption | omega) | exact hS.cepO (by first | assumption | omega) | exact ⟨_, (by first | assumption | exact hS.st | exact hS.mo | exact hS.out | exact hS.sb | exact hS.ce (by first | assumption | omega) | exact hS.ceb (by first | assumption | omega) | exact hS.sh (by first | assumption | omega) | exact hS.shb (by first | assumption | omega) | exact hS.pl (by first | assumption | omega) | exact hS.plb (by first | assumption | omega) | exact hS.fl (by first | assumption | omega) | exact gup_s | (refine gup_t (by assumption) ?_; first | assumption | exact gup_s | (refine gup_t (by assumption) ?_; first | assumption | exact gup_s | (refine gup_t (by assumption) ?_; first | assumption | exact gup_s))))⟩) rfl (k_known_no h0 hS hW (fun ho => hn ⟨hp, ho⟩)) (Nat.le_of_ble_eq_true rfl) (Nat.le_of_ble_eq_true rfl) (Nat.le_of_ble_eq_true rfl) (Nat.le_of_ble_eq_true rfl) (Nat.le_of_ble_eq_true rfl) ?_
    exact ⟨rfl, rfl⟩
  · refine ri_aload_n h d_ST_place_0 rfl ?_
    refine ri_iload_n h d_ST_place_1 rfl ?_
    refine ri_eV_1 (r := (gR5, gT5, 8)) h d_ST_place_2 cv_ST_74 (by first | exact hS.lcO | exact hS.lsO | exact hS.lpO | exact hS.cesO (by first | assumption | omega) | exact hS.cepO (by first | assumption | omega) | exact ⟨_, (by first | assumption | exact hS.st | exact hS.mo | exact hS.out | exact hS.sb | exact hS.ce (by first | assumption | omega) | exact hS.ceb (by first | assumption | omega) | exact hS.sh (by first | assumption | omega) | exact hS.shb (by first | assumption | omega) | exact hS.pl (by first | assumption | omega) | exact hS.plb (by first | assumption | omega) | exact hS.fl (by first | assumption | omega) | exact gup_s | (refine gup_t (by assumption) ?_; first | assumption | exact gup_s | (refine gup_t (by assumption) ?_; first | assumption | exact gup_s | (refine gup_t (by assumption) ?_; first | assumption | exact gup_s))))⟩) rfl (k_known_no h0 hS hW hp) (Nat.le_of_ble_eq_true rfl) (Nat.le_of_ble_eq_true rfl) (Nat.le_of_ble_eq_true rfl) (Nat.le_of_ble_eq_true rfl) (Nat.le_of_ble_eq_true rfl) ?_
    exact ⟨rfl, rfl⟩
theorem k_place_no2 (h0 : g_0 l D s0) (hS : HS z ad Q N M) (hW : WB Q) {c o : Nat} (hc : c < Q.nC) (ho : o < Q.nC) {x y : Int64} {t : Int32} (hn : ¬ Q.nP < 80) : Ct l D s0 y_ST_place (Cond.code y_ST_place b_ST_place 11 (some .int)) rkC [.ref (ad 0 0), .int (nI c), .int (nI o), .long x, .long y, .int t] M (fE eIS M) := by
  have hb := hW.2.2.1
  refine Ct.of h0 (by decide +kernel) rfl fun X hX h => ?_
  obtain ⟨p_, l', e_, R_, s_, m_, ar_, be_, me_, c_⟩ := X
  obtain rfl : l' = l := hX
  refine ri_aload_n h d_ST_place_0 rfl ?_
  refine ri_iload_n h d_ST_place_1 rfl ?_
  refine ri_cVv_1 (r := (gR5, gT5, 8)) h d_ST_place_2 cv_ST_74 (by first | exact hS.lcO | exact hS.lsO | exact hS.lpO | exact hS.cesO (by first | assumption | omega) | exact hS.cepO (by first | assumption | omega) | exact ⟨_, (by first | assumption | exact hS.st | exact hS.mo | exact hS.out | exact hS.sb | exact hS.ce (by first | assumption | omega) | exact hS.ceb (by first | assumption | omega) | exact hS.sh (by first | assumption | omega) | exact hS.shb (by first | assumption | omega) | exact hS.pl (by first | assumption | omega) | exact hS.plb (by first | assumption | omega) | exact hS.fl (by first | assumption | omega) | exact gup_s | (refine gup_t (by assumption) ?_; first | assumption | exact gup_s | (refine gup_t (by assumption) ?_; first | assumption | exact gup_s | (refine gup_t (by assumption) ?_; first | assumption | exact gup_s))))⟩) rfl (k_known_ok h0 hS hW hc) (Nat.le_of_ble_eq_true rfl) (Nat.le_of_ble_eq_true rfl) (Nat.le_of_ble_eq_true rfl) (Nat.le_of_ble_eq_true rfl) (Nat.le_of_ble_eq_true rfl) ?_
  refine ri_astore h d_ST_place_5 (Nat.le_of_ble_eq_true rfl) ?_
  refine ri_aload_n h d_ST_place_7 rfl ?_
  refine ri_iload_n h d_ST_place_8 rfl ?_
  refine ri_cVv_1 (r := (gR5, gT5, 8)) h d_ST_place_9 cv_ST_74 (by first | exact hS.lcO | exact hS.lsO | exact hS.lpO | exact hS.cesO (by first | assumption | omega) | exact hS.cepO (by first | assumption | omega) | exact ⟨_, (by first | assumption | exact hS.st | exact hS.mo | exact hS.out | exact hS.sb | exact hS.ce (by first | assumption | omega) | exact hS.ceb (by first | assumption | omega) | exact hS.sh (by first | assumption | omega) | exact hS.shb (by first | assumption | omega) | exact hS.pl (by first | assumption | omega) | exact hS.plb (by first | assumption | omega) | exact hS.fl (by first | assumption | omega) | exact gup_s | (refine gup_t (by assumption) ?_; first | assumption | exact gup_s | (refine gup_t (by assumption) ?_; first | assumption | exact gup_s | (refine gup_t (by assumption) ?_; first | assumption | exact gup_s))))⟩) rfl (k_known_ok h0 hS hW ho) (Nat.le_of_ble_eq_true rfl) (Nat.le_of_ble_eq_true rfl) (Nat.le_of_ble_eq_true rfl) (Nat.le_of_ble_eq_true rfl) (Nat.le_of_ble_eq_true rfl) ?_
  refine ri_astore h d_ST_place_12 (Nat.le_of_ble_eq_true rfl) ?_
  refine ri_aload_n h d_ST_place_14 rfl ?_
  refine ri_get h d_ST_place_15 fl_ST_19 (by first | assumption | exact hS.st | exact gup_s) (by rfl) ?_
  refine ri_cVv_0 (r := (gR7, gT7, 3)) h d_ST_place_18 cv_ST_56 (by first | exact hS.lcO | exact hS.lsO | exact hS.lpO | exact hS.cesO (by first | assumption | omega) | exact hS.cepO (by first | assumption | omega) | exact ⟨_, (by first | assumption | exact hS.st | exact hS.mo | exact hS.out | exact hS.sb | exact hS.ce (by first | assumption | omega) | exact hS.ceb (by first | assumption | omega) | exact hS.sh (by first | assumption | omega) | exact hS.shb (by first | assumption | omega) | exact hS.pl (by first | assumption | omega) | exact hS.plb (by first | assumption | omega) | exact hS.fl (by first | assumption | omega) | exact gup_s | (refine gup_t (by assumption) ?_; first | assumption | exact gup_s | (refine gup_t (by assumption) ?_; first | assumption | exact gup_s | (refine gup_t (by assumption) ?_; first | assumption | exact gup_s))))⟩) rfl (by first | exact k_size_lc h0 hS | exact k_size_ls h0 hS | exact k_size_lp h0 hS | exact k_size_ces h0 hS (by first | assumption | omega) | exact k_size_cep h0 hS (by first | assumption | omega) | exact k_size_ces_of h0 hS (by first | assumption | omega) (by assumption) | exact k_size_cep_of h0 hS (by first | assumption | omega) (by assumption)) (by exact Nat.le_of_ble_eq_true rfl) (by exact Nat.le_of_ble_eq_true rfl) (by exact Nat.le_of_ble_eq_true rfl) (by exact Nat.le_of_ble_eq_true rfl) (by exact Nat.le_of_ble_eq_true rfl) ?_
  refine ri_bipushN h 80 d_ST_place_21 rfl ?_
  first | refine ri_icmpN_lt h 36 d_ST_place_23 (by decide) (by omega) (by omega) (fun c_23 => ?_) (fun c_23 => ?_) | refine ri_icmp_lt h 36 d_ST_place_23 (by decide) (fun c_23 => ?_) (fun c_23 => ?_)
  · omega
  · refine ri_throw h tw_113 d_ST_place_26 d_ST_place_29 d_ST_place_30 d_ST_place_32 d_ST_place_35 (Nat.le_of_ble_eq_true rfl) (Nat.le_of_ble_eq_true rfl) (Nat.le_of_ble_eq_true rfl) (Nat.le_of_ble_eq_true rfl) ?_
    exact ⟨rfl, rfl⟩
theorem k_place_no3 (h0 : g_0 l D s0) (hS : HS z ad Q N M) (hW : WB Q) {c o : Nat} (hc : c < Q.nC) (ho : o < Q.nC) {x y : Int64} {t : Int32} (hp : Q.nP < 80) (hn : ¬ (nearB x ∧ nearB y ∧ ¬ t < 0 ∧ t < 8)) : Ct l D s0 y_ST_place (Cond.code y_ST_place b_ST_place 11 (some .int)) rkC [.ref (ad 0 0), .int (nI c), .int (nI o), .long x, .long y, .int t] M (fE eIA M) := by
  refine Ct.of h0 (by decide +kernel) rfl fun X hX h => ?_
  obtain ⟨p_, l', e_, R_, s_, m_, ar_, be_, me_, c_⟩ := X
  obtain rfl : l' = l := hX
  refine ri_aload_n h d_ST_place_0 rfl ?_
  refine ri_iload_n h d_ST_place_1 rfl ?_
  refine ri_cVv_1 (r := (gR5, gT5, 8)) h d_ST_place_2 cv_ST_74 (by first | exact hS.lcO | exact hS.lsO | exact hS.lpO | exact hS.cesO (by first | assumption | omega) | exact hS.cepO (by first | assumption | omega) | exact ⟨_, (by first | assumption | exact hS.st | exact hS.mo | exact hS.out | exact hS.sb | exact hS.ce (by first | assumption | omega) | exact hS.ceb (by first | assumption | omega) | exact hS.sh (by first | assumption | omega) | exact hS.shb (by first | assumption | omega) | exact hS.pl (by first | assumption | omega) | exact hS.plb (by first | assumption | omega) | exact hS.fl (by first | assumption | omega) | exact gup_s | (refine gup_t (by assumption) ?_; first | assumption | exact gup_s | (refine gup_t (by assumption) ?_; first | assumption | exact gup_s | (refine gup_t (by assumption) ?_; first | assumption | exact gup_s))))⟩) rfl (k_known_ok h0 hS hW hc) (Nat.le_of_ble_eq_true rfl) (Nat.le_of_ble_eq_true rfl) (Nat.le_of_ble_eq_true rfl) (Nat.le_of_ble_eq_true rfl) (Nat.le_of_ble_eq_true rfl) ?_
  refine ri_astore h d_ST_place_5 (Nat.le_of_ble_eq_true rfl) ?_
  refine ri_aload_n h d_ST_place_7 rfl ?_
  refine ri_iload_n h d_ST_place_8 rfl ?_
  refine ri_cVv_1 (r := (gR5, gT5, 8)) h d_ST_place_9 cv_ST_74 (by first | exact hS.lcO | exact hS.lsO | exact hS.lpO | exact hS.cesO (by first | assumption | omega) | exact hS.cepO (by first | assumption | omega) | exact ⟨_, (by first | assumption | exact hS.st | exact hS.mo | exact hS.out | exact hS.sb | exact hS.ce (by first | assumption | omega) | exact hS.ceb (by first | assumption | omega) | exact hS.sh (by first | assumption | omega) | exact hS.shb (by first | assumption | omega) | exact hS.pl (by first | assumption | omega) | exact hS.plb (by first | assumption | omega) | exact hS.fl (by first | assumption | omega) | exact gup_s | (refine gup_t (by assumption) ?_; first | assumption | exact gup_s | (refine gup_t (by assumption) ?_; first | assumption | exact gup_s | (refine gup_t (by assumption) ?_; first | assumption | exact gup_s))))⟩) rfl (k_known_ok h0 hS hW ho) (Nat.le_of_ble_eq_true rfl) (Nat.le_of_ble_eq_true rfl) (Nat.le_of_ble_eq_true rfl) (Nat.le_of_ble_eq_true rfl) (Nat.le_of_ble_eq_true rfl) ?_
  refine ri_astore h d_ST_place_12 (Nat.le_of_ble_eq_true rfl) ?_
  refine ri_aload_n h d_ST_place_14 rfl ?_
  refine ri_get h d_ST_place_15 fl_ST_19 (by first | assumption | exact hS.st | exact gup_s) (by rfl) ?_
  refine ri_cVv_0 (r := (gR7, gT7, 3)) h d_ST_place_18 cv_ST_56 (by first | exact hS.lcO | exact hS.lsO | exact hS.lpO | exact hS.cesO (by first | assumption | omega) | exact hS.cepO (by first | assumption | omega) | exact ⟨_, (by first | assumption | exact hS.st | exact hS.mo | exact hS.out | exact hS.sb | exact hS.ce (by first | assumption | omega) | exact hS.ceb (by first | assumption | omega) | exact hS.sh (by first | assumption | omega) | exact hS.shb (by first | assumption | omega) | exact hS.pl (by first | assumption | omega) | exact hS.plb (by first | assumption | omega) | exact hS.fl (by first | assumption | omega) | exact gup_s | (refine gup_t (by assumption) ?_; first | assumption | exact gup_s | (refine gup_t (by assumption) ?_; first | assumption | exact gup_s | (refine gup_t (by assumption) ?_; first | assumption | exact gup_s))))⟩) rfl (by first | exact k_size_lc h0 hS | exact k_size_ls h0 hS | exact k_size_lp h0 hS | exact k_size_ces h0 hS (by first | assumption | omega) | exact k_size_cep h0 hS (by first | assumption | omega) | exact k_size_ces_of h0 hS (by first | assumption | omega) (by assumption) | exact k_size_cep_of h0 hS (by first | assumption | omega) (by assumption)) (by exact Nat.le_of_ble_eq_true rfl) (by exact Nat.le_of_ble_eq_true rfl) (by exact Nat.le_of_ble_eq_true rfl) (by exact Nat.le_of_ble_eq_true rfl) (by exact Nat.le_of_ble_eq_true rfl) ?_
  refine ri_bipushN h 80 d_ST_place_21 rfl ?_
  first | refine ri_icmpN_lt h 36 d_ST_place_23 (by decide) (by omega) (by omega) (fun c_23 => ?_) (fun c_23 => ?_) | refine ri_icmp_lt h 36 d_ST_place_23 (by decide) (fun c_23 => ?_) (fun c_23 => ?_)
  · by_cases hx : nearB x
    · by_cases hy : nearB y
      · refine ri_lload_n h d_ST_place_36 rfl ?_
        refine ri_cS0_1 h d_ST_place_37 cs_ST_115 (k_near_ok h0 (by assumption)) (Nat.le_of_ble_eq_true rfl) (Nat.le_of_ble_eq_true rfl) (Nat.le_of_ble_eq_true rfl) (Nat.le_of_ble_eq_true rfl) (Nat.le_of_ble_eq_true rfl) ?_
        refine ri_lload h d_ST_place_40 rfl ?_
        refine ri_cS0_1 h d_ST_place_42 cs_ST_115 (k_near_ok h0 (by assumption)) (Nat.le_of_ble_eq_true rfl) (Nat.le_of_ble_eq_true rfl) (Nat.le_of_ble_eq_true rfl) (Nat.le_of_ble_eq_true rfl) (Nat.le_of_ble_eq_true rfl) ?_
        refine ri_iload h d_ST_place_45 rfl ?_
        refine ri_if_lt h 57 d_ST_place_47 (by decide) (fun c_47 => ?_) (fun c_47 => ?_)
        · refine ri_throw h tw_119 d_ST_place_57 d_ST_place_60 d_ST_place_61 d_ST_place_63 d_ST_place_66 (Nat.le_of_ble_eq_true rfl) (Nat.le_of_ble_eq_true rfl) (Nat.le_of_ble_eq_true rfl) (Nat.le_of_ble_eq_true rfl) ?_
          exact ⟨rfl, rfl⟩
        · refine ri_iload h d_ST_place_50 rfl ?_
          refine ri_bipushN h 8 d_ST_place_52 rfl ?_
          refine ri_icmp_lt h 67 d_ST_place_54 (by decide) (fun c_54 => ?_) (fun c_54 => ?_)
          · exact absurd ⟨hx, hy, c_47, c_54⟩ hn
          · refine ri_throw h tw_119 d_ST_place_57 d_ST_place_60 d_ST_place_61 d_ST_place_63 d_ST_place_66 (Nat.le_of_ble_eq_true rfl) (Nat.le_of_ble_eq_true rfl) (Nat.le_of_ble_eq_true rfl) (Nat.le_of_ble_eq_true rfl) ?_
            exact ⟨rfl, rfl⟩
      · refine ri_lload_n h d_ST_place_36 rfl ?_
        refine ri_cS0_1 h d_ST_place_37 cs_ST_115 (k_near_ok h0 (by assumption)) (Nat.le_of_ble_eq_true rfl) (Nat.le_of_ble_eq_true rfl) (Nat.le_of_ble_eq_true rfl) (Nat.le_of_ble_eq_true rfl) (Nat.le_of_ble_eq_true rfl) ?_
        refine ri_lload h d_ST_place_40 rfl ?_
        refine ri_eS_1 h d_ST_place_42 cs_ST_115 (k_near_no h0 hy) (Nat.le_of_ble_eq_true rfl) (Nat.le_of_ble_eq_true rfl) (Nat.le_of_ble_eq_true rfl) (Nat.le_of_ble_eq_true rfl) (Nat.le_of_ble_eq_true rfl) ?_
        exact ⟨rfl, rfl⟩
    · refine ri_lload_n h d_ST_place_36 rfl ?_
      refine ri_eS_1 h d_ST_place_37 cs_ST_115 (k_near_no h0 hx) (Nat.le_of_ble_eq_true rfl) (Nat.le_of_ble_eq_true rfl) (Nat.le_of_ble_eq_true rfl) (Nat.le_of_ble_eq_true rfl) (Nat.le_of_ble_eq_true rfl) ?_
      exact ⟨rfl, rfl⟩
  · omega
theorem k_place_0 (h0 : g_0 l D s0) (hS : HS z ad Q N M) (hW : WB Q) (hL : WL Q) (hse : ∀ x, (Q.ce x).seen = 0 ∨ (Q.ce x).seen = 1) {c o : Nat} (hc : c < Q.nC) (ho : o < Q.nC) {x y : Int64} {t : Nat} (hp : Q.nP < 80) (hx : nearB x) (hy : nearB y) (ht : t < 8) (hr : Rch (Ed Q) o c) : Ct l D s0 y_ST_place (Cond.code y_ST_place b_ST_place 11 (some .int)) rkC [.ref (ad 0 0), .int (nI c), .int (nI o), .long x, .long y, .int (nI t)] M (fS (some (.int (-1))) (fun M' => ∃ σ', HS z ad (Q.set_ce (snc Q.ce σ')) N M' ∧ ∀ x, σ' x = 0 ∨ σ' x = 1)) := by
  refine Ct.of h0 (by decide +kernel) rfl fun X hX h => ?_
  obtain ⟨p_, l', e_, R_, s_, m_, ar_, be_, me_, c_⟩ := X
  obtain rfl : l' = l := hX
  refine ri_aload_n h d_ST_place_0 rfl ?_
  refine ri_iload_n h d_ST_place_1 rfl ?_
  refine ri_cVv_1 (r := (gR5, gT5, 8)) h d_ST_place_2 cv_ST_74 (by first | exact hS.lcO | exact hS.lsO | exact hS.lpO | exact hS.cesO (by first | assumption | omega) | exact hS.cepO (by first | assumption | omega) | exact ⟨_, (by first | assumption | exact hS.st | exact hS.mo | exact hS.out | exact hS.sb | exact hS.ce (by first | assumption | omega) | exact hS.ceb (by first | assumption | omega) | exact hS.sh (by first | assumption | omega) | exact hS.shb (by first | assumption | omega) | exact hS.pl (by first | assumption | omega) | exact hS.plb (by first | assumption | omega) | exact hS.fl (by first | assumption | omega) | exact gup_s | (refine gup_t (by assumption) ?_; first | assumption | exact gup_s | (refine gup_t (by assumption) ?_; first | assumption | exact gup_s | (refine gup_t (by assumption) ?_; first | assumption | exact gup_s))))⟩) rfl (k_known_ok h0 hS hW hc) (Nat.le_of_ble_eq_true rfl) (Nat.le_of_ble_eq_true rfl) (Nat.le_of_ble_eq_true rfl) (Nat.le_of_ble_eq_true rfl) (Nat.le_of_ble_eq_true rfl) ?_
  refine ri_astore h d_ST_place_5 (Nat.le_of_ble_eq_true rfl) ?_
  refine ri_aload_n h d_ST_place_7 rfl ?_
  refine ri_iload_n h d_ST_place_8 rfl ?_
  refine ri_cVv_1 (r := (gR5, gT5, 8)) h d_ST_place_9 cv_ST_74 (by first | exact hS.lcO | exact hS.lsO | exact hS.lpO | exact hS.cesO (by first | assumption | omega) | exact hS.cepO (by first | assumption | omega) | exact ⟨_, (by first | assumption | exact hS.st | exact hS.mo | exact hS.out | exact hS.sb | exact hS.ce (by first | assumption | omega) | exact hS.ceb (by first | assumption | omega) | exact hS.sh (by first | assumption | omega) | exact hS.shb (by first | assumption | omega) | exact hS.pl (by first | assumption | omega) | exact hS.plb (by first | assumption | omega) | exact hS.fl (by first | assumption | omega) | exact gup_s | (refine gup_t (by assumption) ?_; first | assumption | exact gup_s | (refine gup_t (by assumption) ?_; first | assumption | exact gup_s | (refine gup_t (by assumption) ?_; first | assumption | exact gup_s))))⟩) rfl (k_known_ok h0 hS hW ho) (Nat.le_of_ble_eq_true rfl) (Nat.le_of_ble_eq_true rfl) (Nat.le_of_ble_eq_true rfl) (Nat.le_of_ble_eq_true rfl) (Nat.le_of_ble_eq_true rfl) ?_
  refine ri_astore h d_ST_place_12 (Nat.le_of_ble_eq_true rfl) ?_
  refine ri_aload_n h d_ST_place_14 rfl ?_
  refine ri_get h d_ST_place_15 fl_ST_19 (by first | assumption | exact hS.st | exact gup_s) (by rfl) ?_
  refine ri_cVv_0 (r := (gR7, gT7, 3)) h d_ST_place_18 cv_ST_56 (by first | exact hS.lcO | exact hS.lsO | exact hS.lpO | exact hS.cesO (by first | assumption | omega) | exact hS.cepO (by first | assumption | omega) | exact ⟨_, (by first | assumption | exact hS.st | exact hS.mo | exact hS.out | exact hS.sb | exact hS.ce (by first | assumption | omega) | exact hS.ceb (by first | assumption | omega) | exact hS.sh (by first | assumption | omega) | exact hS.shb (by first | assumption | omega) | exact hS.pl (by first | assumption | omega) | exact hS.plb (by first | assumption | omega) | exact hS.fl (by first | assumption | omega) | exact gup_s | (refine gup_t (by assumption) ?_; first | assumption | exact gup_s | (refine gup_t (by assumption) ?_; first | assumption | exact gup_s | (refine gup_t (by assumption) ?_; first | assumption | exact gup_s))))⟩) rfl (by first | exact k_size_lc h0 hS | exact k_size_ls h0 hS | exact k_size_lp h0 hS | exact k_size_ces h0 hS (by first | assumption | omega) | exact k_size_cep h0 hS (by first | assumption | omega) | exact k_size_ces_of h0 hS (by first | assumption | omega) (by assumption) | exact k_size_cep_of h0 hS (by first | assumption | omega) (by assumption)) (by exact Nat.le_of_ble_eq_true rfl) (by exact Nat.le_of_ble_eq_true rfl) (by exact Nat.le_of_ble_eq_true rfl) (by exact Nat.le_of_ble_eq_true rfl) (by exact Nat.le_of_ble_eq_true rfl) ?_
  refine ri_bipushN h 80 d_ST_place_21 rfl ?_
  first | refine ri_icmpN_lt h 36 d_ST_place_23 (by decide) (by omega) (by omega) (fun c_23 => ?_) (fun c_23 => ?_) | refine ri_icmp_lt h 36 d_ST_place_23 (by decide) (fun c_23 => ?_) (fun c_23 => ?_)
  · refine ri_lload_n h d_ST_place_36 rfl ?_
    refine ri_cS0_1 h d_ST_place_37 cs_ST_115 (k_near_ok h0 (by assumption)) (Nat.le_of_ble_eq_true rfl) (Nat.le_of_ble_eq_true rfl) (Nat.le_of_ble_eq_true rfl) (Nat.le_of_ble_eq_true rfl) (Nat.le_of_ble_eq_true rfl) ?_
    refine ri_lload h d_ST_place_40 rfl ?_
    refine ri_cS0_1 h d_ST_place_42 cs_ST_115 (k_near_ok h0 (by assumption)) (Nat.le_of_ble_eq_true rfl) (Nat.le_of_ble_eq_true rfl) (Nat.le_of_ble_eq_true rfl) (Nat.le_of_ble_eq_true rfl) (Nat.le_of_ble_eq_true rfl) ?_
    refine ri_iload h d_ST_place_45 rfl ?_
    refine ri_ifM_lt h 57 d_ST_place_47 (by decide) (by omega) (fun c_47 => ?_) (fun c_47 => ?_)
    · exact c_47.elim
    · refine ri_iload h d_ST_place_50 rfl ?_
      refine ri_bipushN h 8 d_ST_place_52 rfl ?_
      first | refine ri_icmpN_lt h 67 d_ST_place_54 (by decide) (by omega) (by omega) (fun c_54 => ?_) (fun c_54 => ?_) | refine ri_icmp_lt h 67 d_ST_place_54 (by decide) (fun c_54 => ?_) (fun c_54 => ?_)
      · refine ri_aload_n h d_ST_place_67 rfl ?_
        refine ri_aload h d_ST_place_68 rfl ?_
        refine ri_aload h d_ST_place_70 rfl ?_
        refine ri_callV (r := (gR5, gT5, 8)) h [.ref (ad 12 c), .ref (ad 12 o)] [] d_ST_place_72 cv_ST_121 hS.st rfl rfl rfl (by decide) (by decide) (by decide) (by decide) (by decide) (k_would h0 hW hL hse hc ho hS) (fun E M' hp => by obtain ⟨b, σ2, e, -⟩ := hp; cases e) (fun v M hp => ?_)
        obtain ⟨b, σ2, e, hS, hσ2, hb⟩ := hp
        cases e
        rcases hb with ⟨rfl, -⟩ | ⟨rfl, hb⟩
        · refine ri_if_eq h 80 d_ST_place_75 (by decide) (fun c_75 => ?_) (fun c_75 => ?_)
          · exact absurd c_75 (by decide)
          · refine ri_iconst h (-1) d_ST_place_78 rfl ?_
            refine ri_ireturn h d_ST_place_79 (Nat.le_of_ble_eq_true rfl) (Nat.le_of_ble_eq_true rfl) ?_
            exact ⟨rfl, σ2, hS, hσ2⟩
        · exact absurd hr hb
      · omega
  · omega
theorem k_place_ok (h0 : g_0 l D s0) (hz : gz s0 z) (hS : HS z ad Q N M) (hW : WB Q) (hT : WTQ Q) (hL : WL Q) (hse : ∀ x, (Q.ce x).seen = 0 ∨ (Q.ce x).seen = 1) {c o : Nat} (hc : c < Q.nC) (ho : o < Q.nC) {x y : Int64} {t : Nat} (hp : Q.nP < 80) (hx : nearB x) (hy : nearB y) (ht : t < 8) (hr : ¬ Rch (Ed Q) o c) : Ct l D s0 y_ST_place (Cond.code y_ST_place b_ST_place 11 (some .int)) rkC [.ref (ad 0 0), .int (nI c), .int (nI o), .long x, .long y, .int (nI t)] M (fS (some (.int (nI Q.nP))) (fun M' => ∃ (σ' : Nat → Int32) (ad' : gA), Ko ad ad' ∧ HS z ad' ((Q.set_ce (snc Q.ce σ')).addP c (r0P c o x y t)) N M' ∧ ∀ x, σ' x = 0 ∨ σ' x = 1)) := by
  have hW4 := hW.2.2.2 c hc
  refine Ct.of h0 (by decide +kernel) rfl fun X hX h => ?_
  obtain ⟨p_, l', e_, R_, s_, m_, ar_, be_, me_, c_⟩ := X
  obtain rfl : l' = l := hX
  refine ri_aload_n h d_ST_place_0 rfl ?_
  refine ri_iload_n h d_ST_place_1 rfl ?_
  refine ri_cVv_1 (r := (gR5, gT5, 8)) h d_ST_place_2 cv_ST_74 (by first | exact hS.lcO | exact hS.lsO | exact hS.lpO | exact hS.cesO (by first | assumption | omega) | exact hS.cepO (by first | assumption | omega) | exact ⟨_, (by first | assumption | exact hS.st | exact hS.mo | exact hS.out | exact hS.sb | exact hS.ce (by first | assumption | omega) | exact hS.ceb (by first | assumption | omega) | exact hS.sh (by first | assumption | omega) | exact hS.shb (by first | assumption | omega) | exact hS.pl (by first | assumption | omega) | exact hS.plb (by first | assumption | omega) | exact hS.fl (by first | assumption | omega) | exact gup_s | (refine gup_t (by assumption) ?_; first | assumption | exact gup_s | (refine gup_t (by assumption) ?_; first | assumption | exact gup_s | (refine gup_t (by assumption) ?_; first | assumption | exact gup_s))))⟩) rfl (k_known_ok h0 hS hW hc) (Nat.le_of_ble_eq_true rfl) (Nat.le_of_ble_eq_true rfl) (Nat.le_of_ble_eq_true rfl) (Nat.le_of_ble_eq_true rfl) (Nat.le_of_ble_eq_true rfl) ?_
  refine ri_astore h d_ST_place_5 (Nat.le_of_ble_eq_true rfl) ?_
  refine ri_aload_n h d_ST_place_7 rfl ?_
  refine ri_iload_n h d_ST_place_8 rfl ?_
  refine ri_cVv_1 (r := (gR5, gT5, 8)) h d_ST_place_9 cv_ST_74 (by first | exact hS.lcO | exact hS.lsO | exact hS.lpO | exact hS.cesO (by first | assumption | omega) | exact hS.cepO (by first | assumption | omega) | exact ⟨_, (by first | assumption | exact hS.st | exact hS.mo | exact hS.out | exact hS.sb | exact hS.ce (by first | assumption | omega) | exact hS.ceb (by first | assumption | omega) | exact hS.sh (by first | assumption | omega) | exact hS.shb (by first | assumption | omega) | exact hS.pl (by first | assumption | omega) | exact hS.plb (by first | assumption | omega) | exact hS.fl (by first | assumption | omega) | exact gup_s | (refine gup_t (by assumption) ?_; first | assumption | exact gup_s | (refine gup_t (by assumption) ?_; first | assumption | exact gup_s | (refine gup_t (by assumption) ?_; first | assumption | exact gup_s))))⟩) rfl (k_known_ok h0 hS hW ho) (Nat.le_of_ble_eq_true rfl) (Nat.le_of_ble_eq_true rfl) (Nat.le_of_ble_eq_true rfl) (Nat.le_of_ble_eq_true rfl) (Nat.le_of_ble_eq_true rfl) ?_
  refine ri_astore h d_ST_place_12 (Nat.le_of_ble_eq_true rfl) ?_
  refine ri_aload_n h d_ST_place_14 rfl ?_
  refine ri_get h d_ST_place_15 fl_ST_19 (by first | assumption | exact hS.st | exact gup_s) (by rfl) ?_
  refine ri_cVv_0 (r := (gR7, gT7, 3)) h d_ST_place_18 cv_ST_56 (by first | exact hS.lcO | exact hS.lsO | exact hS.lpO | exact hS.cesO (by first | assumption | omega) | exact hS.cepO (by first | assumption | omega) | exact ⟨_, (by first | assumption | exact hS.st | exact hS.mo | exact hS.out | exact hS.sb | exact hS.ce (by first | assumption | omega) | exact hS.ceb (by first | assumption | omega) | exact hS.sh (by first | assumption | omega) | exact hS.shb (by first | assumption | omega) | exact hS.pl (by first | assumption | omega) | exact hS.plb (by first | assumption | omega) | exact hS.fl (by first | assumption | omega) | exact gup_s | (refine gup_t (by assumption) ?_; first | assumption | exact gup_s | (refine gup_t (by assumption) ?_; first | assumption | exact gup_s | (refine gup_t (by assumption) ?_; first | assumption | exact gup_s))))⟩) rfl (by first | exact k_size_lc h0 hS | exact k_size_ls h0 hS | exact k_size_lp h0 hS | exact k_size_ces h0 hS (by first | assumption | omega) | exact k_size_cep h0 hS (by first | assumption | omega) | exact k_size_ces_of h0 hS (by first | assumption | omega) (by assumption) | exact k_size_cep_of h0 hS (by first | assumption | omega) (by assumption)) (by exact Nat.le_of_ble_eq_true rfl) (by exact Nat.le_of_ble_eq_true rfl) (by exact Nat.le_of_ble_eq_true rfl) (by exact Nat.le_of_ble_eq_true rfl) (by exact Nat.le_of_ble_eq_true rfl) ?_
  refine ri_bipushN h 80 d_ST_place_21 rfl ?_
  first | refine ri_icmpN_lt h 36 d_ST_place_23 (by decide) (by omega) (by omega) (fun c_23 => ?_) (fun c_23 => ?_) | refine ri_icmp_lt h 36 d_ST_place_23 (by decide) (fun c_23 => ?_) (fun c_23 => ?_)
  · refine ri_lload_n h d_ST_place_36 rfl ?_
    refine ri_cS0_1 h d_ST_place_37 cs_ST_115 (k_near_ok h0 (by assumption)) (Nat.le_of_ble_eq_true rfl) (Nat.le_of_ble_eq_true rfl) (Nat.le_of_ble_eq_true rfl) (Nat.le_of_ble_eq_true rfl) (Nat.le_of_ble_eq_true rfl) ?_
    refine ri_lload h d_ST_place_40 rfl ?_
    refine ri_cS0_1 h d_ST_place_42 cs_ST_115 (k_near_ok h0 (by assumption)) (Nat.le_of_ble_eq_true rfl) (Nat.le_of_ble_eq_true rfl) (Nat.le_of_ble_eq_true rfl) (Nat.le_of_ble_eq_true rfl) (Nat.le_of_ble_eq_true rfl) ?_
    refine ri_iload h d_ST_place_45 rfl ?_
    refine ri_ifM_lt h 57 d_ST_place_47 (by decide) (by omega) (fun c_47 => ?_) (fun c_47 => ?_)
    · exact c_47.elim
    · refine ri_iload h d_ST_place_50 rfl ?_
      refine ri_bipushN h 8 d_ST_place_52 rfl ?_
      first | refine ri_icmpN_lt h 67 d_ST_place_54 (by decide) (by omega) (by omega) (fun c_54 => ?_) (fun c_54 => ?_) | refine ri_icmp_lt h 67 d_ST_place_54 (by decide) (fun c_54 => ?_) (fun c_54 => ?_)
      · refine ri_aload_n h d_ST_place_67 rfl ?_
        refine ri_aload h d_ST_place_68 rfl ?_
        refine ri_aload h d_ST_place_70 rfl ?_
        refine ri_callV (r := (gR5, gT5, 8)) h [.ref (ad 12 c), .ref (ad 12 o)] [] d_ST_place_72 cv_ST_121 hS.st rfl rfl rfl (by decide) (by decide) (by decide) (by decide) (by decide) (k_would h0 hW hL hse hc ho hS) (fun E M' hp => by obtain ⟨b, σ2, e, -⟩ := hp; cases e) (fun v M hp => ?_)
        obtain ⟨b, σ2, e, hS, hσ2, hb⟩ := hp
        cases e
        rcases hb with ⟨rfl, hb⟩ | ⟨rfl, -⟩
        · exact absurd hb hr
        · first | refine ri_ifB_eq h 80 d_ST_place_75 (by decide) (fun c_75 => ?_) (fun c_75 => ?_) | refine ri_ifN_eq h 80 d_ST_place_75 (by decide) (by omega) (fun c_75 => ?_) (fun c_75 => ?_) | refine ri_if_eq h 80 d_ST_place_75 (by decide) (fun c_75 => ?_) (fun c_75 => ?_)
          · refine ri_new h d_ST_place_80 nw_ST_125 (Nat.le_of_ble_eq_true rfl) (Nat.le_of_ble_eq_true rfl) (fun q_80 hq_80 => ?_)
            refine ri_dup h d_ST_place_83 rfl ?_
            refine ri_aload h d_ST_place_84 rfl ?_
            refine ri_lload_n h d_ST_place_86 rfl ?_
            refine ri_lload h d_ST_place_87 rfl ?_
            refine ri_iload h d_ST_place_89 rfl ?_
            refine ri_callI h [.ref (ad 12 o), .long x, .long y, .int (nI t)] [.ref q_80] d_ST_place_91 ci_ST_127 rfl rfl (Nat.le_of_ble_eq_true rfl) (Nat.le_of_ble_eq_true rfl) (Nat.le_of_ble_eq_true rfl) (Nat.le_of_ble_eq_true rfl) (Nat.le_of_ble_eq_true rfl) (k_Pl_init h0 (ad 12 o) x y (nI t) gup_s) fV_x ?_
            rintro v9 M9 ⟨hv9, q1, hF, rfl⟩
            cases hv9
            obtain ⟨ad', e1, e2, hC⟩ := hS.newPlace (of := o) (x := x) (y := y) (turn := t) hT c hq_80 hF
            refine ri_gen (P := HSP z ad' (Q.set_ce (snc Q.ce σ2)) N _) hC (fun M hC => ?_)
            have u0 := e2 0 0 ⟨by omega, by omega, by omega⟩
            have u1 := e2 12 c ⟨fun _ _ => hc, by omega, by omega⟩
            rw [← u0, ← u1, ← e1]
            have hS := hC.hs
            refine ri_astore h d_ST_place_94 (Nat.le_of_ble_eq_true rfl) ?_
            refine ri_aload_n h d_ST_place_96 rfl ?_
            refine ri_get h d_ST_place_97 fl_ST_19 (by first | assumption | exact hS.st | exact gup_s) (by rfl) ?_
            refine ri_aload h d_ST_place_100 rfl ?_
            refine ri_N (fun hNN => ?_)
            have hMz := Mz hz hNN
            refine ri_dVv_1 (r := (gR7, gT7, 3)) h d_ST_place_102 cv_ST_70 (by first | exact hS.lcO | exact hS.lsO | exact hS.lpO | exact hS.cesO (by first | assumption | omega) | exact hS.cepO (by first | assumption | omega) | exact ⟨_, (by first | assumption | exact hS.st | exact hS.mo | exact hS.out | exact hS.sb | exact hS.ce (by first | assumption | omega) | exact hS.ceb (by first | assumption | omega) | exact hS.sh (by first | assumption | omega) | exact hS.shb (by first | assumption | omega) | exact hS.pl (by first | assumption | omega) | exact hS.plb (by first | assumption | omega) | exact hS.fl (by first | assumption | omega) | exact gup_s | (refine gup_t (by assumption) ?_; first | assumption | exact gup_s | (refine gup_t (by assumption) ?_; first | assumption | exact gup_s | (refine gup_t (by assumption) ?_; first | assumption | exact gup_s))))⟩) rfl (k_addP h0 hz hMz hC (show Q.nP < 200 by omega)) (Nat.le_of_ble_eq_true rfl) (Nat.le_of_ble_eq_true rfl) (Nat.le_of_ble_eq_true rfl) (Nat.le_of_ble_eq_true rfl) (Nat.le_of_ble_eq_true rfl) (fun M hS => ?_)
            refine ri_pop h d_ST_place_105 rfl ?_
            refine ri_aload h d_ST_place_106 rfl ?_
            refine ri_get h d_ST_place_108 fl_ST_130 (by first | assumption | exact hS.ce_of (by first | assumption | omega) (by assumption) | exact hS.ce (by first | assumption | omega) | exact gup_s) (by rfl) ?_
            refine ri_aload h d_ST_place_111 rfl ?_
            refine ri_N (fun hNN => ?_)
            have hMz := Mz hz hNN
            refine ri_dVv_1 (r := (gR7, gT7, 3)) h d_ST_place_113 cv_ST_70 (by first | exact hS.lcO | exact hS.lsO | exact hS.lpO | exact hS.cesO (by first | assumption | omega) | exact hS.cepO (by first | assumption | omega) | exact ⟨_, (by first | assumption | exact hS.st | exact hS.mo | exact hS.out | exact hS.sb | exact hS.ce (by first | assumption | omega) | exact hS.ceb (by first | assumption | omega) | exact hS.sh (by first | assumption | omega) | exact hS.shb (by first | assumption | omega) | exact hS.pl (by first | assumption | omega) | exact hS.plb (by first | assumption | omega) | exact hS.fl (by first | assumption | omega) | exact gup_s | (refine gup_t (by assumption) ?_; first | assumption | exact gup_s | (refine gup_t (by assumption) ?_; first | assumption | exact gup_s | (refine gup_t (by assumption) ?_; first | assumption | exact gup_s))))⟩) rfl (k_addCP (s := Q.nP) h0 hz hMz hS hc (Nat.lt_succ_self _) (fun s hs => Nat.lt_succ_of_lt (hW4.2.2.2 s hs)) (Nat.lt_of_le_of_lt hW4.2.1 (by decide))) (Nat.le_of_ble_eq_true rfl) (Nat.le_of_ble_eq_true rfl) (Nat.le_of_ble_eq_true rfl) (Nat.le_of_ble_eq_true rfl) (Nat.le_of_ble_eq_true rfl) (fun M hS => ?_)
            refine ri_pop h d_ST_place_116 rfl ?_
            refine ri_aload_n h d_ST_place_117 rfl ?_
            refine ri_get h d_ST_place_118 fl_ST_19 (by first | assumption | exact hS.st | exact gup_s) (by rfl) ?_
            refine ri_cVv_0 (r := (gR7, gT7, 3)) h d_ST_place_121 cv_ST_56 (by first | exact hS.lcO | exact hS.lsO | exact hS.lpO | exact hS.cesO (by first | assumption | omega) | exact hS.cepO (by first | assumption | omega) | exact ⟨_, (by first | assumption | exact hS.st | exact hS.mo | exact hS.out | exact hS.sb | exact hS.ce (by first | assumption | omega) | exact hS.ceb (by first | assumption | omega) | exact hS.sh (by first | assumption | omega) | exact hS.shb (by first | assumption | omega) | exact hS.pl (by first | assumption | omega) | exact hS.plb (by first | assumption | omega) | exact hS.fl (by first | assumption | omega) | exact gup_s | (refine gup_t (by assumption) ?_; first | assumption | exact gup_s | (refine gup_t (by assumption) ?_; first | assumption | exact gup_s | (refine gup_t (by assumption) ?_; first | assumption | exact gup_s))))⟩) rfl (by first | exact k_size_lc h0 hS | exact k_size_ls h0 hS | exact k_size_lp h0 hS | exact k_size_ces h0 hS (by first | assumption | omega) | exact k_size_cep h0 hS (by first | assumption | omega) | exact k_size_ces_of h0 hS (by first | assumption | omega) (by assumption) | exact k_size_cep_of h0 hS (by first | assumption | omega) (by assumption)) (by exact Nat.le_of_ble_eq_true rfl) (by exact Nat.le_of_ble_eq_true rfl) (by exact Nat.le_of_ble_eq_true rfl) (by exact Nat.le_of_ble_eq_true rfl) (by exact Nat.le_of_ble_eq_true rfl) ?_
            refine ri_iconstN h 1 d_ST_place_124 rfl ?_
            first | refine ri_isubN h d_ST_place_125 (by first | omega | exact Nat.le_add_left _ _) ?_ | refine ri_isub h d_ST_place_125 ?_
            refine ri_ireturn h d_ST_place_126 (Nat.le_of_ble_eq_true rfl) (Nat.le_of_ble_eq_true rfl) ?_
            exact ⟨rfl, σ2, ad', Ko.of e2, hS, hσ2⟩
          · exact absurd rfl c_75
      · omega
  · omega
end PLA
