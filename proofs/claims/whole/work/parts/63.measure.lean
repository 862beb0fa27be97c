/-! measure and measureCells -/
/-- a cell that is measured -/
def dnC (Q : CS) (lay : Int32) (sz : Nat → Nat) (b : Nat → BxR) (x : Nat) : Prop := sz x = min (SZ Q lay x) 3001 ∧ HB (b x) (PT Q lay x)
theorem cap3 {A S k s w : Nat} (hk : k = min A 3001) (hs : s = min S 3001) (hw : 1 ≤ w) : min (k + w * s) 3001 = min (A + w * S) 3001 := by
  by_cases h : S ≤ 3001
  · rw [hs, Nat.min_eq_left h]
    omega
  · rw [hs, show min S 3001 = 3001 by omega]
    have h1 : 1 * 3001 ≤ w * 3001 := Nat.mul_le_mul_right _ hw
    have h2 : 1 * S ≤ w * S := Nat.mul_le_mul_right _ hw
    omega
section MEB
variable {l : Launch} {D : gD} {s0 : State} {M : gH} {z : Nat} {ad : gA} {Q : CS} {N : MS} {lay : Int32}
def msP (z : Nat) (ad : gA) (Q : CS) (N : MS) (lay : Int32) (c : Nat) (m : Nat → Int32) (sz : Nat → Nat) (b : Nat → BxR) : gR → gH → Prop := fS none (fun M' => ∃ (m' : Nat → Int32) (sz' : Nat → Nat) (b' pb' : Nat → BxR), HS z ad (msQ Q m' sz' b' pb') N M' ∧ (∀ x, m' x = 0 ∨ m' x = 1) ∧ m' c = 1 ∧ (∀ x, x < Q.nC → Rch (Ed Q) c x → m' x = 1 → dnC Q lay sz' b' x) ∧ ∀ x, (m x = 1 ∨ ¬ Rch (Ed Q) c x) → m' x = m x ∧ sz' x = sz x ∧ b' x = b x)
theorem k_measure (h0 : g_0 l D s0) (hW : WB Q) (hL : WL Q) (hX : WX Q) : ∀ (n c d : Nat) (m : Nat → Int32) (sz : Nat → Nat) (b pb : Nat → BxR) (M : gH), c < Q.nC → rho Q c < n → d + rho Q c ≤ 20 → (∀ x, m x = 0 ∨ m x = 1) → (∀ x, x < Q.nC → Rch (Ed Q) c x → m x = 1 → dnC Q lay sz b x) → HS z ad (msQ Q m sz b pb) N M → Ct l D s0 y_ST_measure (Cond.code y_ST_measure b_ST_measure 5 none) (rk (n + 6) 0 0) [.ref (ad 12 c), .int lay, .int (nI d)] M (msP z ad Q N lay c m sz b) := by
  intro n
  induction n with
  | zero => intro c d m sz b pb M hc hr; exact absurd hr (Nat.not_lt_zero _)
  | succ n ih =>
    intro c d m sz b pb M hc hr hd hm hdn hS
    have hWc := hW.2.2.2 c hc
    by_cases hmc : m c = 1
    · refine Ct.of h0 (by decide +kernel) rfl fun X hX h => ?_
      obtain ⟨p_, l', e_, R_, s_, m_, ar_, be_, me_, c_⟩ := X
      obtain rfl : l' = l := hX
      refine ri_aload_n h d_ST_measure_0 rfl ?_
      refine ri_get h d_ST_measure_1 fl_ST_291 (by first | assumption | exact hS.ce_of (by first | assumption | omega) (by assumption) | exact hS.ce (by first | assumption | omega) | exact gup_s) (by rfl) ?_
      refine ri_if_ne h 13 d_ST_measure_4 (by decide) (fun c_4 => ?_) (fun c_4 => ?_)
      · refine ri_return h d_ST_measure_13 (by first | (dsimp only [rk]; omega) | omega | exact Nat.le_of_ble_eq_true rfl) (by first | (dsimp only [rk]; omega) | omega | exact Nat.le_of_ble_eq_true rfl) ?_
        exact ⟨rfl, m, sz, b, pb, hS, hm, hmc, hdn, fun x _ => ⟨rfl, rfl, rfl⟩⟩
      · exact absurd (hmc.symm.trans c_4) (by decide)
    · have hmc : m c = 0 := (hm c).resolve_right hmc
      refine Ct.of h0 (by decide +kernel) rfl fun X hX h => ?_
      obtain ⟨p_, l', e_, R_, s_, m_, ar_, be_, me_, c_⟩ := X
      obtain rfl : l' = l := hX
      have LP : ∀ (q i : Nat), i + q = (Q.ce c).ps.length → ∀ (M : gH) (m1 : Nat → Int32) (sz1 : Nat → Nat) (b1 pb1 : Nat → BxR), HS z ad (msQ Q m1 sz1 b1 pb1) N M → (∀ x, m1 x = 0 ∨ m1 x = 1) → m1 c = 1 → sz1 c = min (((Q.ce c).ss.filter (fun s => onB (Q.sh s) lay)).length + (((Q.ce c).ps.take i).map (fun p => (Q.pl p).cols * (Q.pl p).rows * SZ Q lay (Q.pl p).of)).sum) 3001 → HB (b1 c) (fun x y => (∃ s, s ∈ (Q.ce c).ss ∧ onB (Q.sh s) lay = true ∧ SPt (Q.sh s) x y) ∨ ∃ p, p ∈ (Q.ce c).ps.take i ∧ PIm (Q.pl p) (PT Q lay (Q.pl p).of) x y) → (∀ x, x < Q.nC → x ≠ c → Rch (Ed Q) c x → m1 x = 1 → dnC Q lay sz1 b1 x) → (∀ x, (m x = 1 ∨ ¬ Rch (Ed Q) c x) → m1 x = m x ∧ sz1 x = sz x ∧ b1 x = b x) → G (gzz D s0 (p_, l', e_, R_, s_, m_, ar_, be_, me_, c_) (rk (n + 1 + 6) 0 0) (msP z ad Q N lay c m sz b) 5) 26 [(0, .ref (ad 12 c)), (1, .int lay), (2, .int (nI d)), (3, .int (nI i))] [] M 0 0 := by
        intro q
        induction q with
        | zero =>
          intro i hi M m1 sz1 b1 pb1 hS h01 hc1 hsz hb hx hfr
          have ht : (Q.ce c).ps.take i = (Q.ce c).ps := List.take_of_length_le (by omega)
          rw [ht, ← SZ_eq hW hL hc] at hsz
          rw [ht] at hb
          have hb := hb.cong (fun x y => (PT_eq hW hL hc x y).symm)
          refine ri_iload_n h d_ST_measure_26 rfl ?_
          refine ri_aload_n h d_ST_measure_27 rfl ?_
          refine ri_get h d_ST_measure_28 fl_ST_130 (by first | assumption | exact hS.ce_of (by first | assumption | omega) (by assumption) | exact hS.ce (by first | assumption | omega) | exact gup_s) (by rfl) ?_
          refine ri_cVv_0 (r := (gR7, gT7, 3)) h d_ST_measure_31 cv_ST_56 (by first | exact hS.lcO | exact hS.lsO | exact hS.lpO | exact hS.cesO (by first | assumption | omega) | exact hS.cepO (by first | assumption | omega) | exact ⟨_, (by first | assumption | exact hS.st | exact hS.mo | exact hS.out | exact hS.sb | exact hS.ce (by first | assumption | omega) | exact hS.ceb (by first | assumption | omega) | exact hS.sh (by first | assumption | omega) | exact hS.shb (by first | assumption | omega) | exact hS.pl (by first | assumption | omega) | exact hS.plb (by first | assumption | omega) | exact hS.fl (by first | assumption | omega) | exact gup_s | (refine gup_t (by assumption) ?_; first | assumption | exact gup_s | (refine gup_t (by assumption) ?_; first | assumption | exact gup_s | (refine gup_t (by assumption) ?_; first | assumption | exact gup_s))))⟩) rfl (k_size_cepE h0 hS hc (ps := (Q.ce c).ps) rfl) (by first | (dsimp only [rk]; omega) | omega | exact Nat.le_of_ble_eq_true rfl) (by first | (dsimp only [rk]; omega) | omega | exact Nat.le_of_ble_eq_true rfl) (by first | (dsimp only [rk]; omega) | omega | exact Nat.le_of_ble_eq_true rfl) (by first | (dsimp only [rk]; omega) | omega | exact Nat.le_of_ble_eq_true rfl) (by first | (dsimp only [rk]; omega) | omega | exact Nat.le_of_ble_eq_true rfl) ?_
          first | refine ri_icmpN_ge h 74 d_ST_measure_34 (by decide) (by omega) (by omega) (fun c_34 => ?_) (fun c_34 => ?_) | refine ri_icmp_ge h 74 d_ST_measure_34 (by decide) (fun c_34 => ?_) (fun c_34 => ?_)
          · first
            | (exfalso; first | exact absurd c_34 (by decide) | omega)
            | (refine ri_return h d_ST_measure_74 (by first | (dsimp only [rk]; omega) | omega | exact Nat.le_of_ble_eq_true rfl) (by first | (dsimp only [rk]; omega) | omega | exact Nat.le_of_ble_eq_true rfl) ?_
               exact ⟨rfl, m1, sz1, b1, pb1, hS, h01, hc1, fun x h1 h2 h3 => (Classical.em (x = c)).elim (fun e => by rw [e]; exact ⟨hsz, hb⟩) (fun e => hx x h1 e h2 h3), hfr⟩)
          · first
            | (exfalso; first | exact absurd c_34 (by decide) | omega)
            | (omega)
        | succ q ihq =>
          intro i hi M m1 sz1 b1 pb1 hS h01 hc1 hsz hb hx hfr
          have hil : i < (Q.ce c).ps.length := by omega
          have hpm : (Q.ce c).ps[i] ∈ (Q.ce c).ps := List.getElem_mem hil
          obtain ⟨hpP, hof, hrl⟩ := hL.mem hc hpm
          have hed : Ed Q c (Q.pl (Q.ce c).ps[i]).of := (hL.ed hc).mpr ⟨_, hpm, rfl⟩
          have hnr : ¬ Rch (Ed Q) (Q.pl (Q.ce c).ps[i]).of c := hL.2.2 _ _ hed
          have hne : (Q.pl (Q.ce c).ps[i]).of ≠ c := fun e => hnr (by rw [e]; exact Rch.refl)
          have ht := take_snoc (Q.ce c).ps i hil
          obtain ⟨-, -, g3, g4, g5, -⟩ := hL.2.1 _ hpP
          refine ri_iload_n h d_ST_measure_26 rfl ?_
          refine ri_aload_n h d_ST_measure_27 rfl ?_
          refine ri_get h d_ST_measure_28 fl_ST_130 (by first | assumption | exact hS.ce_of (by first | assumption | omega) (by assumption) | exact hS.ce (by first | assumption | omega) | exact gup_s) (by rfl) ?_
          refine ri_cVv_0 (r := (gR7, gT7, 3)) h d_ST_measure_31 cv_ST_56 (by first | exact hS.lcO | exact hS.lsO | exact hS.lpO | exact hS.cesO (by first | assumption | omega) | exact hS.cepO (by first | assumption | omega) | exact ⟨_, (by first | assumption | exact hS.st | exact hS.mo | exact hS.out | exact hS.sb | exact hS.ce (by first | assumption | omega) | exact hS.ceb (by first | assumption | omega) | exact hS.sh (by first | assumption | omega) | exact hS.shb (by first | assumption | omega) | exact hS.pl (by first | assumption | omega) | exact hS.plb (by first | assumption | omega) | exact hS.fl (by first | assumption | omega) | exact gup_s | (refine gup_t (by assumption) ?_; first | assumption | exact gup_s | (refine gup_t (by assumption) ?_; first | assumption | exact gup_s | (refine gup_t (by assumption) ?_; first | assumption | exact gup_s))))⟩) rfl (k_size_cepE h0 hS hc (ps := (Q.ce c).ps) rfl) (by first | (dsimp only [rk]; omega) | omega | exact Nat.le_of_ble_eq_true rfl) (by first | (dsimp only [rk]; omega) | omega | exact Nat.le_of_ble_eq_true rfl) (by first | (dsimp only [rk]; omega) | omega | exact Nat.le_of_ble_eq_true rfl) (by first | (dsimp only [rk]; omega) | omega | exact Nat.le_of_ble_eq_true rfl) (by first | (dsimp only [rk]; omega) | omega | exact Nat.le_of_ble_eq_true rfl) ?_
          first | refine ri_icmpN_ge h 74 d_ST_measure_34 (by decide) (by omega) (by omega) (fun c_34 => ?_) (fun c_34 => ?_) | refine ri_icmp_ge h 74 d_ST_measure_34 (by decide) (fun c_34 => ?_) (fun c_34 => ?_)
          · omega
          · refine ri_aload_n h d_ST_measure_37 rfl ?_
            refine ri_get h d_ST_measure_38 fl_ST_130 (by first | assumption | exact hS.ce_of (by first | assumption | omega) (by assumption) | exact hS.ce (by first | assumption | omega) | exact gup_s) (by rfl) ?_
            refine ri_iload_n h d_ST_measure_41 rfl ?_
            refine ri_cVv_1 (r := (gR7, gT7, 3)) h d_ST_measure_42 cv_ST_138 (by first | exact hS.lcO | exact hS.lsO | exact hS.lpO | exact hS.cesO (by first | assumption | omega) | exact hS.cepO (by first | assumption | omega) | exact ⟨_, (by first | assumption | exact hS.st | exact hS.mo | exact hS.out | exact hS.sb | exact hS.ce (by first | assumption | omega) | exact hS.ceb (by first | assumption | omega) | exact hS.sh (by first | assumption | omega) | exact hS.shb (by first | assumption | omega) | exact hS.pl (by first | assumption | omega) | exact hS.plb (by first | assumption | omega) | exact hS.fl (by first | assumption | omega) | exact gup_s | (refine gup_t (by assumption) ?_; first | assumption | exact gup_s | (refine gup_t (by assumption) ?_; first | assumption | exact gup_s | (refine gup_t (by assumption) ?_; first | assumption | exact gup_s))))⟩) rfl (k_get_cep h0 hS hW hc hil) (by first | (dsimp only [rk]; omega) | omega | exact Nat.le_of_ble_eq_true rfl) (by first | (dsimp only [rk]; omega) | omega | exact Nat.le_of_ble_eq_true rfl) (by first | (dsimp only [rk]; omega) | omega | exact Nat.le_of_ble_eq_true rfl) (by first | (dsimp only [rk]; omega) | omega | exact Nat.le_of_ble_eq_true rfl) (by first | (dsimp only [rk]; omega) | omega | exact Nat.le_of_ble_eq_true rfl) ?_
            refine ri_cast (r := (gR3, gT3, 9)) h d_ST_measure_45 (by first | assumption | exact hS.st | exact hS.mo | exact hS.out | exact hS.sb | exact hS.ce (by first | assumption | omega) | exact hS.ceb (by first | assumption | omega) | exact hS.sh (by first | assumption | omega) | exact hS.shb (by first | assumption | omega) | exact hS.pl (by first | assumption | omega) | exact hS.plb (by first | assumption | omega) | exact hS.fl (by first | assumption | omega) | exact gup_s | (refine gup_t (by assumption) ?_; first | assumption | exact gup_s | (refine gup_t (by assumption) ?_; first | assumption | exact gup_s | (refine gup_t (by assumption) ?_; first | assumption | exact gup_s)))) rfl (by decide +kernel) (by decide +kernel) ?_
            refine ri_astore h d_ST_measure_48 (by first | (dsimp only [rk]; omega) | omega | exact Nat.le_of_ble_eq_true rfl) ?_
            refine ri_aload h d_ST_measure_50 rfl ?_
            refine ri_get h d_ST_measure_52 fl_ST_287 (by first | assumption | exact hS.pl_of (by first | assumption | omega) (by assumption) | exact hS.pl (by first | assumption | omega) | exact gup_s) (by rfl) ?_
            refine ri_iload_n h d_ST_measure_55 rfl ?_
            refine ri_iload_n h d_ST_measure_56 rfl ?_
            refine ri_iconstN h 1 d_ST_measure_57 rfl ?_
            first | refine ri_iaddN h d_ST_measure_58 ?_ | refine ri_iadd h d_ST_measure_58 ?_
            refine ri_callS h [.ref (ad 12 (Q.pl (Q.ce c).ps[i]).of), .int lay, .int (nI (d + 1))] [] d_ST_measure_59 cs_ST_294 rfl rfl (by decide) (by dsimp only [rk]; omega) (by dsimp only [rk]; omega) (by dsimp only [rk]; omega) (by dsimp only [rk]; omega) (ih _ (d + 1) m1 sz1 b1 pb1 M hof (by omega) (by omega) h01 (fun x h1 h2 h3 => hx x h1 (fun e => hnr (by rw [e] at h2; exact h2)) (Rch.step hed h2) h3) hS) (fun E M' hp => by cases hp.1) (fun v M hp => ?_)
            obtain ⟨hv, m2, sz2, b2, pb2, hS, h012, hm2, hdn2, hfr2⟩ := hp
            cases hv
            obtain ⟨u1, u2, u3⟩ := hfr2 c (Or.inl hc1)
            obtain ⟨d1, d2⟩ := hdn2 _ hof Rch.refl hm2
            have hS := hS.cong (Q' := msQ Q m2 (va_up sz2 c (sz1 c)) (va_up b2 c (b1 c)) pb2) (by rw [← u2, ← u3, va_up_id, va_up_id]) rfl
            have hx2 : ∀ x, x < Q.nC → x ≠ c → Rch (Ed Q) c x → m2 x = 1 → dnC Q lay sz2 b2 x := by
              intro x h1 h2 h3 h4
              by_cases e : Rch (Ed Q) (Q.pl (Q.ce c).ps[i]).of x
              · exact hdn2 x h1 e h4
              · obtain ⟨w1, w2, w3⟩ := hfr2 x (Or.inr e)
                unfold dnC
                rw [w2, w3]
                exact hx x h1 h2 h3 (w1 ▸ h4)
            have hfr3 : ∀ x, (m x = 1 ∨ ¬ Rch (Ed Q) c x) → m2 x = m x ∧ sz2 x = sz x ∧ b2 x = b x := by
              intro x hx
              obtain ⟨w1, w2, w3⟩ := hfr x hx
              obtain ⟨w4, w5, w6⟩ := hfr2 x (hx.imp (fun e => w1.trans e) (fun e r => e (Rch.step hed r)))
              exact ⟨w4.trans w1, w5.trans w2, w6.trans w3⟩
            refine ri_aload_n h d_ST_measure_62 rfl ?_
            refine ri_aload h d_ST_measure_63 rfl ?_
            refine ri_dV0_1 (r := (gR1, gT1, 6)) h d_ST_measure_65 cv_ST_301 (by first | exact hS.lcO | exact hS.lsO | exact hS.lpO | exact hS.cesO (by first | assumption | omega) | exact hS.cepO (by first | assumption | omega) | exact ⟨_, (by first | assumption | exact hS.st | exact hS.mo | exact hS.out | exact hS.sb | exact hS.ce (by first | assumption | omega) | exact hS.ceb (by first | assumption | omega) | exact hS.sh (by first | assumption | omega) | exact hS.shb (by first | assumption | omega) | exact hS.pl (by first | assumption | omega) | exact hS.plb (by first | assumption | omega) | exact hS.fl (by first | assumption | omega) | exact gup_s | (refine gup_t (by assumption) ?_; first | assumption | exact gup_s | (refine gup_t (by assumption) ?_; first | assumption | exact gup_s | (refine gup_t (by assumption) ?_; first | assumption | exact gup_s))))⟩) rfl (k_measureWith h0 hL hc hpP hne (by omega) (by omega) hS) (by first | (dsimp only [rk]; omega) | omega | exact Nat.le_of_ble_eq_true rfl) (by first | (dsimp only [rk]; omega) | omega | exact Nat.le_of_ble_eq_true rfl) (by first | (dsimp only [rk]; omega) | omega | exact Nat.le_of_ble_eq_true rfl) (by first | (dsimp only [rk]; omega) | omega | exact Nat.le_of_ble_eq_true rfl) (by first | (dsimp only [rk]; omega) | omega | exact Nat.le_of_ble_eq_true rfl) (fun M hS => ?_)
            have hlt : ∀ (M : gH) (k' : Nat) (bb' : BxR) (pb' : Nat → BxR), HS z ad (msQ Q m2 (va_up sz2 c k') (va_up b2 c bb') pb') N M → k' = min (((Q.ce c).ss.filter (fun s => onB (Q.sh s) lay)).length + (((Q.ce c).ps.take (i + 1)).map (fun p => (Q.pl p).cols * (Q.pl p).rows * SZ Q lay (Q.pl p).of)).sum) 3001 → HB bb' (fun x y => (∃ s, s ∈ (Q.ce c).ss ∧ onB (Q.sh s) lay = true ∧ SPt (Q.sh s) x y) ∨ ∃ p, p ∈ (Q.ce c).ps.take (i + 1) ∧ PIm (Q.pl p) (PT Q lay (Q.pl p).of) x y) → G (gzz D s0 (p_, l', e_, R_, s_, m_, ar_, be_, me_, c_) (rk (n + 1 + 6) 0 0) (msP z ad Q N lay c m sz b) 5) 26 [(0, .ref (ad 12 c)), (1, .int lay), (2, .int (nI d)), (3, .int (nI (i + 1)))] [] M 0 0 := by
              intro M k' bb' pb' hS hk' hb'
              refine ihq (i + 1) (by omega) M m2 (va_up sz2 c k') (va_up b2 c bb') pb' hS h012 (u1.trans hc1) (va_up_s.trans hk') (by rw [va_up_s]; exact hb') (fun x h1 h2 h3 h4 => ?_) (fun x hx => ?_)
              · unfold dnC
                rw [va_up_n h2, va_up_n h2]
                exact hx2 x h1 h2 h3 h4
              · have e : x ≠ c := by
                  rintro rfl
                  rcases hx with hx | hx
                  · exact absurd (hmc.symm.trans hx) (by decide)
                  · exact hx Rch.refl
                rw [va_up_n e, va_up_n e]
                exact hfr3 x hx
            have hAk : sz1 c = min (((Q.ce c).ss.filter (fun s => onB (Q.sh s) lay)).length + (((Q.ce c).ps.take i).map (fun p => (Q.pl p).cols * (Q.pl p).rows * SZ Q lay (Q.pl p).of)).sum) 3001 := hsz
            have hcr : 1 ≤ (Q.pl (Q.ce c).ps[i]).cols * (Q.pl (Q.ce c).ps[i]).rows := Nat.mul_pos g4.1 g5.1
            have hcap := cap3 hAk d1 hcr
            have hsum : ((Q.ce c).ss.filter (fun s => onB (Q.sh s) lay)).length + (((Q.ce c).ps.take (i + 1)).map (fun p => (Q.pl p).cols * (Q.pl p).rows * SZ Q lay (Q.pl p).of)).sum = ((Q.ce c).ss.filter (fun s => onB (Q.sh s) lay)).length + (((Q.ce c).ps.take i).map (fun p => (Q.pl p).cols * (Q.pl p).rows * SZ Q lay (Q.pl p).of)).sum + (Q.pl (Q.ce c).ps[i]).cols * (Q.pl (Q.ce c).ps[i]).rows * SZ Q lay (Q.pl (Q.ce c).ps[i]).of := by
              rw [ht, List.map_append, List.sum_append]
              simp only [List.map_cons, List.map_nil, List.sum_cons, List.sum_nil]
              omega
            first | refine ri_iincN h d_ST_measure_68 rfl (by first | (dsimp only [rk]; omega) | omega | exact Nat.le_of_ble_eq_true rfl) ?_ | refine ri_iinc h _ d_ST_measure_68 rfl rfl (by first | (dsimp only [rk]; omega) | omega | exact Nat.le_of_ble_eq_true rfl) ?_
            refine ri_goto h 26 d_ST_measure_71 (by decide) ?_
            refine ri_ls [(0, .ref (ad 12 c)), (1, .int lay), (2, .int (nI d)), (3, .int (nI (i + 1)))] ⟨rfl, rfl, rfl, rfl, trivial⟩ ?_
            rcases hS with ⟨e0, hS⟩ | ⟨e0, hS⟩
            · have hS0 : SZ Q lay (Q.pl (Q.ce c).ps[i]).of = 0 := by omega
              have hP0 := (SZ_0 hL hX 21 _ hof).mp hS0
              refine hlt M _ _ _ hS ?_ (hb.cong fun x y => ?_)
              · rw [hsum, hS0, Nat.mul_zero, Nat.add_zero]
                exact hAk
              · rw [ht]
                refine or_congr Iff.rfl ⟨?_, ?_⟩
                · rintro ⟨p, h1, h2⟩
                  exact ⟨p, List.mem_append_left _ h1, h2⟩
                · rintro ⟨p, h1, h2⟩
                  rcases List.mem_append.mp h1 with h1 | h1
                  · exact ⟨p, h1, h2⟩
                  · rw [List.mem_singleton.mp h1] at h2
                    obtain ⟨x', y', i', j', h2, -⟩ := h2
                    exact absurd h2 (hP0 x' y')
            · have hne0 : ¬ ∀ x y, ¬ PT Q lay (Q.pl (Q.ce c).ps[i]).of x y := fun q => e0 (by have : SZ Q lay (Q.pl (Q.ce c).ps[i]).of = 0 := (SZ_0 hL hX 21 _ hof).mpr q; omega)
              have hn0 : (b2 (Q.pl (Q.ce c).ps[i]).of).n = 0 := by
                rcases d2 with ⟨-, w⟩ | ⟨w, -⟩
                · exact absurd w hne0
                · exact w
              have hpl := d2.place hL hpP hn0 (PT_b hL hX 21 _ hof) (by omega)
              refine hlt M _ _ _ hS (by rw [hsum]; exact hcap) ((hb.hold hpl.1 hpl.2).cong fun x y => ?_)
              rw [ht]
              constructor
              · rintro ((h1 | ⟨p, h1, h2⟩) | h2)
                · exact Or.inl h1
                · exact Or.inr ⟨p, List.mem_append_left _ h1, h2⟩
                · exact Or.inr ⟨_, List.mem_append_right _ (List.mem_singleton.mpr rfl), h2⟩
              · rintro (h1 | ⟨p, h1, h2⟩)
                · exact Or.inl (Or.inl h1)
                · rcases List.mem_append.mp h1 with h1 | h1
                  · exact Or.inl (Or.inr ⟨p, h1, h2⟩)
                  · rw [List.mem_singleton.mp h1] at h2
                    exact Or.inr h2
      refine ri_aload_n h d_ST_measure_0 rfl ?_
      refine ri_get h d_ST_measure_1 fl_ST_291 (by first | assumption | exact hS.ce_of (by first | assumption | omega) (by assumption) | exact hS.ce (by first | assumption | omega) | exact gup_s) (by rfl) ?_
      refine ri_if_ne h 13 d_ST_measure_4 (by decide) (fun c_4 => ?_) (fun c_4 => ?_)
      · first | exact absurd hmc c_4 | omega
      · refine ri_iload_n h d_ST_measure_7 rfl ?_
        refine ri_bipushN h 20 d_ST_measure_8 rfl ?_
        first | refine ri_icmpN_le h 14 d_ST_measure_10 (by decide) (by omega) (by omega) (fun c_10 => ?_) (fun c_10 => ?_) | refine ri_icmp_le h 14 d_ST_measure_10 (by decide) (fun c_10 => ?_) (fun c_10 => ?_)
        · refine ri_aload_n h d_ST_measure_14 rfl ?_
          refine ri_iconstN h 1 d_ST_measure_15 rfl ?_
          refine ri_p_meas h d_ST_measure_16 fl_ST_291 hS (by first | assumption | omega) (by first | assumption | rfl) (by first | exact Or.inl rfl | exact Or.inr rfl | assumption) (fun M hS h_ce => ?_)
          refine ri_aload_n h d_ST_measure_19 rfl ?_
          refine ri_iload_n h d_ST_measure_20 rfl ?_
          have hS := hS.cong (congrArg (fun f => (Q.set_ce f).set_pl (mpl Q.pl pb)) mce_m) rfl
          refine ri_dV0_1 (r := (gR1, gT1, 6)) h d_ST_measure_21 cv_ST_298 (by first | exact hS.lcO | exact hS.lsO | exact hS.lpO | exact hS.cesO (by first | assumption | omega) | exact hS.cepO (by first | assumption | omega) | exact ⟨_, (by first | assumption | exact hS.st | exact hS.mo | exact hS.out | exact hS.sb | exact hS.ce (by first | assumption | omega) | exact hS.ceb (by first | assumption | omega) | exact hS.sh (by first | assumption | omega) | exact hS.shb (by first | assumption | omega) | exact hS.pl (by first | assumption | omega) | exact hS.plb (by first | assumption | omega) | exact hS.fl (by first | assumption | omega) | exact gup_s | (refine gup_t (by assumption) ?_; first | assumption | exact gup_s | (refine gup_t (by assumption) ?_; first | assumption | exact gup_s | (refine gup_t (by assumption) ?_; first | assumption | exact gup_s))))⟩) rfl (k_measureOwn (m := va_up m c (nI 1)) (sz := sz) (b := b) (pb := pb) h0 hW hL hX hc hS) (by first | (dsimp only [rk]; omega) | omega | exact Nat.le_of_ble_eq_true rfl) (by first | (dsimp only [rk]; omega) | omega | exact Nat.le_of_ble_eq_true rfl) (by first | (dsimp only [rk]; omega) | omega | exact Nat.le_of_ble_eq_true rfl) (by first | (dsimp only [rk]; omega) | omega | exact Nat.le_of_ble_eq_true rfl) (by first | (dsimp only [rk]; omega) | omega | exact Nat.le_of_ble_eq_true rfl) (fun M hS => ?_)
          obtain ⟨bb, hS, hbb⟩ := hS
          refine ri_iconstN h 0 d_ST_measure_24 rfl ?_
          refine ri_istore_n h d_ST_measure_25 (by first | (dsimp only [rk]; omega) | omega | exact Nat.le_of_ble_eq_true rfl) ?_
          have hlen : ((Q.ce c).ss.filter (fun s => onB (Q.sh s) lay)).length ≤ 120 := Nat.le_trans (List.length_filter_le _ _) hWc.1
          refine ri_ls [(0, .ref (ad 12 c)), (1, .int lay), (2, .int (nI d)), (3, .int (nI 0))] ⟨rfl, rfl, rfl, rfl, trivial⟩ (LP _ 0 (Nat.zero_add _) _ _ _ _ _ hS (fun x => ?_) va_up_s (va_up_s.trans ?_) (by rw [va_up_s]; exact hbb.cong fun x y => ⟨Or.inl, fun q => q.elim id (fun ⟨p, h1, _⟩ => absurd h1 (by simp))⟩) (fun x h1 h2 h3 h4 => ?_) (fun x hx => ?_))
          · unfold va_up
            split
            · exact Or.inr rfl
            · exact hm x
          · simp only [List.take_zero, List.map_nil, List.sum_nil]
            omega
          · rw [va_up_n h2] at h4
            unfold dnC
            rw [va_up_n h2, va_up_n h2]
            exact hdn x h1 h3 h4
          · have e : x ≠ c := by
              rintro rfl
              rcases hx with hx | hx
              · exact absurd (hmc.symm.trans hx) (by decide)
              · exact hx Rch.refl
            rw [va_up_n e, va_up_n e, va_up_n e]
            exact ⟨rfl, rfl, rfl⟩
        · first | exact absurd hmc c_4 | omega
/-- all cells measured -/
abbrev mcP (z : Nat) (ad : gA) (Q : CS) (N : MS) (lay : Int32) : gH → Prop := fun M' => ∃ (m : Nat → Int32) (sz : Nat → Nat) (b pb : Nat → BxR), HS z ad (msQ Q m sz b pb) N M' ∧ (∀ x, m x = 0 ∨ m x = 1) ∧ ∀ x, x < Q.nC → dnC Q lay sz b x
theorem k_measureCells (h0 : g_0 l D s0) (hW : WB Q) (hL : WL Q) (hX : WX Q) (hme : ∀ x, (Q.ce x).meas = 0 ∨ (Q.ce x).meas = 1) (hS : HS z ad Q N M) : Ct l D s0 y_ST_measureCells (Cond.code y_ST_measureCells b_ST_measureCells 3 none) (rk 40 0 0) [.ref (ad 0 0), .int lay] M (fS none (mcP z ad Q N lay)) := by
  have hb := hW.1
  refine Ct.of h0 (by decide +kernel) rfl fun X hX h => ?_
  obtain ⟨p_, l', e_, R_, s_, m_, ar_, be_, me_, c_⟩ := X
  obtain rfl : l' = l := hX
  have L2 : ∀ (q i : Nat), i + q = Q.nC → ∀ (M : gH) (m : Nat → Int32) (sz : Nat → Nat) (b pb : Nat → BxR), HS z ad (msQ Q m sz b pb) N M → (∀ x, m x = 0 ∨ m x = 1) → (∀ x, x < Q.nC → m x = 1 → dnC Q lay sz b x) → (∀ x, x < i → m x = 1) → G (gzz D s0 (p_, l', e_, R_, s_, m_, ar_, be_, me_, c_) (rk 40 0 0) (fS none (mcP z ad Q N lay)) 3) 36 [(0, .ref (ad 0 0)), (1, .int lay), (2, .int (nI i))] [] M 0 0 := by
    intro q
    induction q with
    | zero =>
      intro i hi M m sz b pb hS h01 hdn hlt
      refine ri_iload_n h d_ST_measureCells_36 rfl ?_
      refine ri_aload_n h d_ST_measureCells_37 rfl ?_
      refine ri_get h d_ST_measureCells_38 fl_ST_10 (by first | assumption | exact hS.st | exact gup_s) (by rfl) ?_
      refine ri_cVv_0 (r := (gR7, gT7, 3)) h d_ST_measureCells_41 cv_ST_56 (by first | exact hS.lcO | exact hS.lsO | exact hS.lpO | exact hS.cesO (by first | assumption | omega) | exact hS.cepO (by first | assumption | omega) | exact ⟨_, (by first | assumption | exact hS.st | exact hS.mo | exact hS.out | exact hS.sb | exact hS.ce (by first | assumption | omega) | exact hS.ceb (by first | assumption | omega) | exact hS.sh (by first | assumption | omega) | exact hS.shb (by first | assumption | omega) | exact hS.pl (by first | assumption | omega) | exact hS.plb (by first | assumption | omega) | exact hS.fl (by first | assumption | omega) | exact gup_s | (refine gup_t (by assumption) ?_; first | assumption | exact gup_s | (refine gup_t (by assumption) ?_; first | assumption | exact gup_s | (refine gup_t (by assumption) ?_; first | assumption | exact gup_s))))⟩) rfl (k_size_lcE h0 hS (n := Q.nC) rfl) (Nat.le_of_ble_eq_true rfl) (Nat.le_of_ble_eq_true rfl) (Nat.le_of_ble_eq_true rfl) (Nat.le_of_ble_eq_true rfl) (Nat.le_of_ble_eq_true rfl) ?_
      first | refine ri_icmpN_ge h 69 d_ST_measureCells_44 (by decide) (by omega) (by omega) (fun c_44 => ?_) (fun c_44 => ?_) | refine ri_icmp_ge h 69 d_ST_measureCells_44 (by decide) (fun c_44 => ?_) (fun c_44 => ?_)
      · first
        | (exfalso; first | exact absurd c_44 (by decide) | omega)
        | (refine ri_return h d_ST_measureCells_69 (Nat.le_of_ble_eq_true rfl) (Nat.le_of_ble_eq_true rfl) ?_
           exact ⟨rfl, m, sz, b, pb, hS, h01, fun x hx => hdn x hx (hlt x (by omega))⟩)
      · first
        | (exfalso; first | exact absurd c_44 (by decide) | omega)
        | (omega)
    | succ q ih =>
      intro i hi M m sz b pb hS h01 hdn hlt
      have hiC : i < Q.nC := by omega
      have hrl := rho_lt (c := i) hW
      refine ri_iload_n h d_ST_measureCells_36 rfl ?_
      refine ri_aload_n h d_ST_measureCells_37 rfl ?_
      refine ri_get h d_ST_measureCells_38 fl_ST_10 (by first | assumption | exact hS.st | exact gup_s) (by rfl) ?_
      refine ri_cVv_0 (r := (gR7, gT7, 3)) h d_ST_measureCells_41 cv_ST_56 (by first | exact hS.lcO | exact hS.lsO | exact hS.lpO | exact hS.cesO (by first | assumption | omega) | exact hS.cepO (by first | assumption | omega) | exact ⟨_, (by first | assumption | exact hS.st | exact hS.mo | exact hS.out | exact hS.sb | exact hS.ce (by first | assumption | omega) | exact hS.ceb (by first | assumption | omega) | exact hS.sh (by first | assumption | omega) | exact hS.shb (by first | assumption | omega) | exact hS.pl (by first | assumption | omega) | exact hS.plb (by first | assumption | omega) | exact hS.fl (by first | assumption | omega) | exact gup_s | (refine gup_t (by assumption) ?_; first | assumption | exact gup_s | (refine gup_t (by assumption) ?_; first | assumption | exact gup_s | (refine gup_t (by assumption) ?_; first | assumption | exact gup_s))))⟩) rfl (k_size_lcE h0 hS (n := Q.nC) rfl) (Nat.le_of_ble_eq_true rfl) (Nat.le_of_ble_eq_true rfl) (Nat.le_of_ble_eq_true rfl) (Nat.le_of_ble_eq_true rfl) (Nat.le_of_ble_eq_true rfl) ?_
      first | refine ri_icmpN_ge h 69 d_ST_measureCells_44 (by decide) (by omega) (by omega) (fun c_44 => ?_) (fun c_44 => ?_) | refine ri_icmp_ge h 69 d_ST_measureCells_44 (by decide) (fun c_44 => ?_) (fun c_44 => ?_)
      · omega
      · refine ri_aload_n h d_ST_measureCells_47 rfl ?_
        refine ri_get h d_ST_measureCells_48 fl_ST_10 (by first | assumption | exact hS.st | exact gup_s) (by rfl) ?_
        refine ri_iload_n h d_ST_measureCells_51 rfl ?_
        refine ri_cVv_1 (r := (gR7, gT7, 3)) h d_ST_measureCells_52 cv_ST_138 (by first | exact hS.lcO | exact hS.lsO | exact hS.lpO | exact hS.cesO (by first | assumption | omega) | exact hS.cepO (by first | assumption | omega) | exact ⟨_, (by first | assumption | exact hS.st | exact hS.mo | exact hS.out | exact hS.sb | exact hS.ce (by first | assumption | omega) | exact hS.ceb (by first | assumption | omega) | exact hS.sh (by first | assumption | omega) | exact hS.shb (by first | assumption | omega) | exact hS.pl (by first | assumption | omega) | exact hS.plb (by first | assumption | omega) | exact hS.fl (by first | assumption | omega) | exact gup_s | (refine gup_t (by assumption) ?_; first | assumption | exact gup_s | (refine gup_t (by assumption) ?_; first | assumption | exact gup_s | (refine gup_t (by assumption) ?_; first | assumption | exact gup_s))))⟩) rfl (by first | exact k_get_lc h0 hS hW (by first | assumption | omega) | exact k_get_ls h0 hS hW (by first | assumption | omega) | exact k_get_lp h0 hS hW (by first | assumption | omega) | exact k_get_ces h0 hS hW (by first | assumption | omega) (by first | assumption | omega) | exact k_get_cep h0 hS hW (by first | assumption | omega) (by first | assumption | omega)) (by exact Nat.le_of_ble_eq_true rfl) (by exact Nat.le_of_ble_eq_true rfl) (by exact Nat.le_of_ble_eq_true rfl) (by exact Nat.le_of_ble_eq_true rfl) (by exact Nat.le_of_ble_eq_true rfl) ?_
        refine ri_cast (r := (gR1, gT1, 6)) h d_ST_measureCells_55 (by first | assumption | exact hS.st | exact hS.mo | exact hS.out | exact hS.sb | exact hS.ce (by first | assumption | omega) | exact hS.ceb (by first | assumption | omega) | exact hS.sh (by first | assumption | omega) | exact hS.shb (by first | assumption | omega) | exact hS.pl (by first | assumption | omega) | exact hS.plb (by first | assumption | omega) | exact hS.fl (by first | assumption | omega) | exact gup_s | (refine gup_t (by assumption) ?_; first | assumption | exact gup_s | (refine gup_t (by assumption) ?_; first | assumption | exact gup_s | (refine gup_t (by assumption) ?_; first | assumption | exact gup_s)))) rfl (by decide +kernel) (by decide +kernel) ?_
        refine ri_iload_n h d_ST_measureCells_58 rfl ?_
        refine ri_iconstN h 0 d_ST_measureCells_59 rfl ?_
        refine ri_callS h [.ref (ad 12 i), .int lay, .int (nI 0)] [] d_ST_measureCells_60 cs_ST_294 rfl rfl (by decide) (by decide) (by decide) (by decide) (by decide) (k_measure h0 hW hL hX 21 i 0 m sz b pb M hiC hrl (by omega) h01 (fun x h1 _ h3 => hdn x h1 h3) hS) (fun E M' hp => by cases hp.1) (fun v M hp => ?_)
        obtain ⟨hv, m2, sz2, b2, pb2, hS, h012, hm2, hdn2, hfr2⟩ := hp
        cases hv
        first | refine ri_iincN h d_ST_measureCells_63 rfl (Nat.le_of_ble_eq_true rfl) ?_ | refine ri_iinc h _ d_ST_measureCells_63 rfl rfl (Nat.le_of_ble_eq_true rfl) ?_
        refine ri_goto h 36 d_ST_measureCells_66 (by decide) ?_
        refine ri_ls [(0, .ref (ad 0 0)), (1, .int lay), (2, .int (nI (i + 1)))] ⟨rfl, rfl, rfl, trivial⟩ (ih (i + 1) (by omega) _ m2 sz2 b2 pb2 hS h012 (fun x h1 h2 => ?_) (fun x hx => ?_))
        · by_cases e : Rch (Ed Q) i x
          · exact hdn2 x h1 e h2
          · obtain ⟨w1, w2, w3⟩ := hfr2 x (Or.inr e)
            unfold dnC
            rw [w2, w3]
            exact hdn x h1 (w1 ▸ h2)
        · rcases (show x < i ∨ x = i by omega) with e | rfl
          · exact (hfr2 x (Or.inl (hlt x e))).1.trans (hlt x e)
          · exact hm2
  have L1 : ∀ (q i : Nat), i + q = Q.nC → ∀ (M : gH) (m : Nat → Int32), HS z ad (msQ Q m (fun x => (Q.ce x).size) (fun x => (Q.ce x).bx) (fun p => (Q.pl p).bx)) N M → (∀ x, m x = 0 ∨ m x = 1) → (∀ x, x < i → m x = 0) → G (gzz D s0 (p_, l', e_, R_, s_, m_, ar_, be_, me_, c_) (rk 40 0 0) (fS none (mcP z ad Q N lay)) 3) 2 [(0, .ref (ad 0 0)), (1, .int lay), (2, .int (nI i))] [] M 0 0 := by
    intro q
    induction q with
    | zero =>
      intro i hi M m hS h01 hlt
      refine ri_iload_n h d_ST_measureCells_2 rfl ?_
      refine ri_aload_n h d_ST_measureCells_3 rfl ?_
      refine ri_get h d_ST_measureCells_4 fl_ST_10 (by first | assumption | exact hS.st | exact gup_s) (by rfl) ?_
      refine ri_cVv_0 (r := (gR7, gT7, 3)) h d_ST_measureCells_7 cv_ST_56 (by first | exact hS.lcO | exact hS.lsO | exact hS.lpO | exact hS.cesO (by first | assumption | omega) | exact hS.cepO (by first | assumption | omega) | exact ⟨_, (by first | assumption | exact hS.st | exact hS.mo | exact hS.out | exact hS.sb | exact hS.ce (by first | assumption | omega) | exact hS.ceb (by first | assumption | omega) | exact hS.sh (by first | assumption | omega) | exact hS.shb (by first | assumption | omega) | exact hS.pl (by first | assumption | omega) | exact hS.plb (by first | assumption | omega) | exact hS.fl (by first | assumption | omega) | exact gup_s | (refine gup_t (by assumption) ?_; first | assumption | exact gup_s | (refine gup_t (by assumption) ?_; first | assumption | exact gup_s | (refine gup_t (by assumption) ?_; first | assumption | exact gup_s))))⟩) rfl (k_size_lcE h0 hS (n := Q.nC) rfl) (Nat.le_of_ble_eq_true rfl) (Nat.le_of_ble_eq_true rfl) (Nat.le_of_ble_eq_true rfl) (Nat.le_of_ble_eq_true rfl) (Nat.le_of_ble_eq_true rfl) ?_
      first | refine ri_icmpN_ge h 34 d_ST_measureCells_10 (by decide) (by omega) (by omega) (fun c_10 => ?_) (fun c_10 => ?_) | refine ri_icmp_ge h 34 d_ST_measureCells_10 (by decide) (fun c_10 => ?_) (fun c_10 => ?_)
      · first
        | (exfalso; first | exact absurd c_10 (by decide) | omega)
        | (refine ri_iconstN h 0 d_ST_measureCells_34 rfl ?_
           refine ri_istore_n h d_ST_measureCells_35 (Nat.le_of_ble_eq_true rfl) ?_
           exact ri_ls [(0, .ref (ad 0 0)), (1, .int lay), (2, .int (nI 0))] ⟨rfl, rfl, rfl, trivial⟩ (L2 Q.nC 0 (by omega) _ m _ _ _ hS h01 (fun x h1 h2 => absurd ((hlt x (by omega)).symm.trans h2) (by decide)) (fun x hx => by omega)))
      · first
        | (exfalso; first | exact absurd c_10 (by decide) | omega)
        | (omega)
    | succ q ih =>
      intro i hi M m hS h01 hlt
      have hiC : i < Q.nC := by omega
      refine ri_iload_n h d_ST_measureCells_2 rfl ?_
      refine ri_aload_n h d_ST_measureCells_3 rfl ?_
      refine ri_get h d_ST_measureCells_4 fl_ST_10 (by first | assumption | exact hS.st | exact gup_s) (by rfl) ?_
      refine ri_cVv_0 (r := (gR7, gT7, 3)) h d_ST_measureCells_7 cv_ST_56 (by first | exact hS.lcO | exact hS.lsO | exact hS.lpO | exact hS.cesO (by first | assumption | omega) | exact hS.cepO (by first | assumption | omega) | exact ⟨_, (by first | assumption | exact hS.st | exact hS.mo | exact hS.out | exact hS.sb | exact hS.ce (by first | assumption | omega) | exact hS.ceb (by first | assumption | omega) | exact hS.sh (by first | assumption | omega) | exact hS.shb (by first | assumption | omega) | exact hS.pl (by first | assumption | omega) | exact hS.plb (by first | assumption | omega) | exact hS.fl (by first | assumption | omega) | exact gup_s | (refine gup_t (by assumption) ?_; first | assumption | exact gup_s | (refine gup_t (by assumption) ?_; first | assumption | exact gup_s | (refine gup_t (by assumption) ?_; first | assumption | exact gup_s))))⟩) rfl (k_size_lcE h0 hS (n := Q.nC) rfl) (Nat.le_of_ble_eq_true rfl) (Nat.le_of_ble_eq_true rfl) (Nat.le_of_ble_eq_true rfl) (Nat.le_of_ble_eq_true rfl) (Nat.le_of_ble_eq_true rfl) ?_
      first | refine ri_icmpN_ge h 34 d_ST_measureCells_10 (by decide) (by omega) (by omega) (fun c_10 => ?_) (fun c_10 => ?_) | refine ri_icmp_ge h 34 d_ST_measureCells_10 (by decide) (fun c_10 => ?_) (fun c_10 => ?_)
      · omega
      · refine ri_aload_n h d_ST_measureCells_13 rfl ?_
        refine ri_get h d_ST_measureCells_14 fl_ST_10 (by first | assumption | exact hS.st | exact gup_s) (by rfl) ?_
        refine ri_iload_n h d_ST_measureCells_17 rfl ?_
        refine ri_cVv_1 (r := (gR7, gT7, 3)) h d_ST_measureCells_18 cv_ST_138 (by first | exact hS.lcO | exact hS.lsO | exact hS.lpO | exact hS.cesO (by first | assumption | omega) | exact hS.cepO (by first | assumption | omega) | exact ⟨_, (by first | assumption | exact hS.st | exact hS.mo | exact hS.out | exact hS.sb | exact hS.ce (by first | assumption | omega) | exact hS.ceb (by first | assumption | omega) | exact hS.sh (by first | assumption | omega) | exact hS.shb (by first | assumption | omega) | exact hS.pl (by first | assumption | omega) | exact hS.plb (by first | assumption | omega) | exact hS.fl (by first | assumption | omega) | exact gup_s | (refine gup_t (by assumption) ?_; first | assumption | exact gup_s | (refine gup_t (by assumption) ?_; first | assumption | exact gup_s | (refine gup_t (by assumption) ?_; first | assumption | exact gup_s))))⟩) rfl (by first | exact k_get_lc h0 hS hW (by first | assumption | omega) | exact k_get_ls h0 hS hW (by first | assumption | omega) | exact k_get_lp h0 hS hW (by first | assumption | omega) | exact k_get_ces h0 hS hW (by first | assumption | omega) (by first | assumption | omega) | exact k_get_cep h0 hS hW (by first | assumption | omega) (by first | assumption | omega)) (by exact Nat.le_of_ble_eq_true rfl) (by exact Nat.le_of_ble_eq_true rfl) (by exact Nat.le_of_ble_eq_true rfl) (by exact Nat.le_of_ble_eq_true rfl) (by exact Nat.le_of_ble_eq_true rfl) ?_
        refine ri_cast (r := (gR1, gT1, 6)) h d_ST_measureCells_21 (by first | assumption | exact hS.st | exact hS.mo | exact hS.out | exact hS.sb | exact hS.ce (by first | assumption | omega) | exact hS.ceb (by first | assumption | omega) | exact hS.sh (by first | assumption | omega) | exact hS.shb (by first | assumption | omega) | exact hS.pl (by first | assumption | omega) | exact hS.plb (by first | assumption | omega) | exact hS.fl (by first | assumption | omega) | exact gup_s | (refine gup_t (by assumption) ?_; first | assumption | exact gup_s | (refine gup_t (by assumption) ?_; first | assumption | exact gup_s | (refine gup_t (by assumption) ?_; first | assumption | exact gup_s)))) rfl (by decide +kernel) (by decide +kernel) ?_
        refine ri_iconstN h 0 d_ST_measureCells_24 rfl ?_
        refine ri_p_meas h d_ST_measureCells_25 fl_ST_291 hS (by first | assumption | omega) (by first | assumption | rfl) (by first | exact Or.inl rfl | exact Or.inr rfl | assumption) (fun M hS h_ce => ?_)
        first | refine ri_iincN h d_ST_measureCells_28 rfl (Nat.le_of_ble_eq_true rfl) ?_ | refine ri_iinc h _ d_ST_measureCells_28 rfl rfl (Nat.le_of_ble_eq_true rfl) ?_
        refine ri_goto h 2 d_ST_measureCells_31 (by decide) ?_
        refine ri_ls [(0, .ref (ad 0 0)), (1, .int lay), (2, .int (nI (i + 1)))] ⟨rfl, rfl, rfl, trivial⟩ (ih (i + 1) (by omega) _ (va_up m i (nI 0)) (hS.cong (congrArg (fun f => (Q.set_ce f).set_pl Q.pl) mce_m) rfl) (fun x => ?_) (fun x hx => ?_))
        · unfold va_up
          split
          · exact Or.inl rfl
          · exact h01 x
        · unfold va_up
          split
          · rfl
          · exact hlt x (by omega)
  refine ri_iconstN h 0 d_ST_measureCells_0 rfl ?_
  refine ri_istore_n h d_ST_measureCells_1 (Nat.le_of_ble_eq_true rfl) ?_
  exact ri_ls [(0, .ref (ad 0 0)), (1, .int lay), (2, .int (nI 0))] ⟨rfl, rfl, rfl, trivial⟩ (L1 Q.nC 0 (by omega) M (fun x => (Q.ce x).meas) hS hme (fun x hx => by omega))
/-- box of the class -/
theorem k_box_no1 (h0 : g_0 l D s0) (hS : HS z ad Q N M) (hW : WB Q) {p v w : Int32} (hn : ¬ ((∃ c, c < Q.nC ∧ p = nI c) ∧ (¬ v < 0 ∧ v < Q.L) ∧ ¬ w < 0 ∧ w ≤ nI 3)) : Ct l D s0 y_ST_box (Cond.code y_ST_box b_ST_box 5 (some .long)) rkC [.ref (ad 0 0), .int p, .int v, .int w] M (fE eIO M) := by
  refine Ct.of h0 (by decide +kernel) rfl fun X hX h => ?_
  obtain ⟨p_, l', e_, R_, s_, m_, ar_, be_, me_, c_⟩ := X
  obtain rfl : l' = l := hX
  by_cases hp : ∃ c, c < Q.nC ∧ p = nI c
  · obtain ⟨c, hc, rfl⟩ := id hp
    refine ri_aload_n h d_ST_box_0 rfl ?_
    refine ri_iload_n h d_ST_box_1 rfl ?_
    refine ri_cVv_1 (r := (gR5, gT5, 8)) h d_ST_box_2 cv_ST_74 (by first | exact hS.lcO | exact hS.lsO | exact hS.lpO | exact hS.cesO (by first | assumption | omega) | exact hS.cepO (by first | assumption | omega) | exact ⟨_, (by first | assumption | exact hS.st | exact hS.mo | exact hS.out | exact hS.sb | exact hS.ce (by first | assumption | omega) | exact hS.ceb (by first | assumption | omega) | exact hS.sh (by first | assumption | omega) | exact hS.shb (by first | assumption | omega) | exact hS.pl (by first | assumption | omega) | exact hS.plb (by first | assumption | omega) | exact hS.fl (by first | assumption | omega) | exact gup_s | (refine gup_t (by assumption) ?_; first | assumption | exact gup_s | (refine gup_t (by assumption) ?_; first | assumption | exact gup_s | (refine gup_t (by assumption) ?_; first | assumption | exact gup_s))))⟩) rfl (k_known_ok h0 hS hW hc) (Nat.le_of_ble_eq_true rfl) (Nat.le_of_ble_eq_true rfl) (Nat.le_of_ble_eq_true rfl) (Nat.le_of_ble_eq_true rfl) (Nat.le_of_ble_eq_true rfl) ?_
    refine ri_astore h d_ST_box_5 (Nat.le_of_ble_eq_true rfl) ?_
    refine ri_aload_n h d_ST_box_7 rfl ?_
    refine ri_iload_n h d_ST_box_8 rfl ?_
    by_cases hv : ¬ v < 0 ∧ v < Q.L
    · refine ri_cV0_1 (r := (gR5, gT5, 8)) h d_ST_box_9 cv_ST_78 (by first | exact hS.lcO | exact hS.lsO | exact hS.lpO | exact hS.cesO (by first | assumption | omega) | exact hS.cepO (by first | assumption | omega) | exact ⟨_, (by first | assumption | exact hS.st | exact hS.mo | exact hS.out | exact hS.sb | exact hS.ce (by first | assumption | omega) | exact hS.ceb (by first | assumption | omega) | exact hS.sh (by first | assumption | omega) | exact hS.shb (by first | assumption | omega) | exact hS.pl (by first | assumption | omega) | exact hS.plb (by first | assumption | omega) | exact hS.fl (by first | assumption | omega) | exact gup_s | (refine gup_t (by assumption) ?_; first | assumption | exact gup_s | (refine gup_t (by assumption) ?_; first | assumption | exact gup_s | (refine gup_t (by assumption) ?_; first | assumption | exact gup_s))))⟩) rfl (k_layer_ok h0 hS hv) (Nat.le_of_ble_eq_true rfl) (Nat.le_of_ble_eq_true rfl) (Nat.le_of_ble_eq_true rfl) (Nat.le_of_ble_eq_true rfl) (Nat.le_of_ble_eq_true rfl) ?_
      refine ri_iload_n h d_ST_box_12 rfl ?_
      refine ri_if_lt h 21 d_ST_box_13 (by decide) (fun c_13 => ?_) (fun c_13 => ?_)
      · refine ri_throw h tw_158 d_ST_box_21 d_ST_box_24 d_ST_box_25 d_ST_box_27 d_ST_box_30 (Nat.le_of_ble_eq_true rfl) (Nat.le_of_ble_eq_true rfl) (Nat.le_of_ble_eq_true rfl) (Nat.le_of_ble_eq_true rfl) ?_
        exact ⟨rfl, rfl⟩
      · refine ri_iload_n h d_ST_box_16 rfl ?_
        refine ri_iconstN h 3 d_ST_box_17 rfl ?_
        refine ri_icmp_le h 31 d_ST_box_18 (by decide) (fun c_18 => ?_) (fun c_18 => ?_)
        · exact absurd ⟨hp, hv, c_13, c_18⟩ hn
        · refine ri_throw h tw_158 d_ST_box_21 d_ST_box_24 d_ST_box_25 d_ST_box_27 d_ST_box_30 (Nat.le_of_ble_eq_true rfl) (Nat.le_of_ble_eq_true rfl) (Nat.le_of_ble_eq_true rfl) (Nat.le_of_ble_eq_true rfl) ?_
          exact ⟨rfl, rfl⟩
    · refine ri_eV_1 (r := (gR5, gT5, 8)) h d_ST_box_9 cv_ST_78 (by first | exact hS.lcO | exact hS.lsO | exact hS.lpO | exact hS.cesO (by first | assumption | omega) | exact hS.cepO (by first | assumption | omega) | exact ⟨_, (by first | assumption | exact hS.st | exact hS.mo | exact hS.out | exact hS.sb | exact hS.ce (by first | assumption | omega) | exact hS.ceb (by first | assumption | omega) | exact hS.sh (by first | assumption | omega) | exact hS.shb (by first | assumption | omega) | exact hS.pl (by first | assumption | omega) | exact hS.plb (by first | assumption | omega) | exact hS.fl (by first | assumption | omega) | exact gup_s | (refine gup_t (by assumption) ?_; first | assumption | exact gup_s | (refine gup_t (by assumption) ?_; first | assumption | exact gup_s | (refine gup_t (by assumption) ?_; first | assumption | exact gup_s))))⟩) rfl (k_layer_no h0 hS hv) (Nat.le_of_ble_eq_true rfl) (Nat.le_of_ble_eq_true rfl) (Nat.le_of_ble_eq_true rfl) (Nat.le_of_ble_eq_true rfl) (Nat.le_of_ble_eq_true rfl) ?_
      exact ⟨rfl, rfl⟩
  · refine ri_aload_n h d_ST_box_0 rfl ?_
    refine ri_iload_n h d_ST_box_1 rfl ?_
    refine ri_eV_1 (r := (gR5, gT5, 8)) h d_ST_box_2 cv_ST_74 (by first | exact hS.lcO | exact hS.lsO | exact hS.lpO | exact hS.cesO (by first | assumption | omega) | exact hS.cepO (by first | assumption | omega) | exact ⟨_, (by first | assumption | exact hS.st | exact hS.mo | exact hS.out | exact hS.sb | exact hS.ce (by first | assumption | omega) | exact hS.ceb (by first | assumption | omega) | exact hS.sh (by first | assumption | omega) | exact hS.shb (by first | assumption | omega) | exact hS.pl (by first | assumption | omega) | exact hS.plb (by first | assumption | omega) | exact hS.fl (by first | assumption | omega) | exact gup_s | (refine gup_t (by assumption) ?_; first | assumption | exact gup_s | (refine gup_t (by assumption) ?_; first | assumption | exact gup_s | (refine gup_t (by assumption) ?_; first | assumption | exact gup_s))))⟩) rfl (k_known_no h0 hS hW hp) (Nat.le_of_ble_eq_true rfl) (Nat.le_of_ble_eq_true rfl) (Nat.le_of_ble_eq_true rfl) (Nat.le_of_ble_eq_true rfl) (Nat.le_of_ble_eq_true rfl) ?_
    exact ⟨rfl, rfl⟩
/-- the class's outcomes where the state was measured -/
abbrev fSM (z : Nat) (ad : gA) (Q : CS) (N : MS) (v : Option Value) : gR → gH → Prop := fS v (fun M' => ∃ (m : Nat → Int32) (sz : Nat → Nat) (b pb : Nat → BxR), HS z ad (msQ Q m sz b pb) N M' ∧ ∀ x, m x = 0 ∨ m x = 1)
abbrev fEM (z : Nat) (ad : gA) (Q : CS) (N : MS) (E : String) : gR → gH → Prop := fun r M' => r = .inr E ∧ ∃ (m : Nat → Int32) (sz : Nat → Nat) (b pb : Nat → BxR), HS z ad (msQ Q m sz b pb) N M' ∧ ∀ x, m x = 0 ∨ m x = 1
theorem k_box_no2 (h0 : g_0 l D s0) (hS : HS z ad Q N M) (hW : WB Q) (hL : WL Q) (hX : WX Q) (hme : ∀ x, (Q.ce x).meas = 0 ∨ (Q.ce x).meas = 1) {c : Nat} (hc : c < Q.nC) {v : Int32} (hv : ¬ v < 0 ∧ v < Q.L) {w : Nat} (hw : w < 4) (hn : SZ Q v c = 0) : Ct l D s0 y_ST_box (Cond.code y_ST_box b_ST_box 5 (some .long)) rkC [.ref (ad 0 0), .int (nI c), .int v, .int (nI w)] M (fEM z ad Q N eIS) := by
  refine Ct.of h0 (by decide +kernel) rfl fun X hX h => ?_
  obtain ⟨p_, l', e_, R_, s_, m_, ar_, be_, me_, c_⟩ := X
  obtain rfl : l' = l := hX
  refine ri_aload_n h d_ST_box_0 rfl ?_
  refine ri_iload_n h d_ST_box_1 rfl ?_
  refine ri_cVv_1 (r := (gR5, gT5, 8)) h d_ST_box_2 cv_ST_74 (by first | exact hS.lcO | exact hS.lsO | exact hS.lpO | exact hS.cesO (by first | assumption | omega) | exact hS.cepO (by first | assumption | omega) | exact ⟨_, (by first | assumption | exact hS.st | exact hS.mo | exact hS.out | exact hS.sb | exact hS.ce (by first | assumption | omega) | exact hS.ceb (by first | assumption | omega) | exact hS.sh (by first | assumption | omega) | exact hS.shb (by first | assumption | omega) | exact hS.pl (by first | assumption | omega) | exact hS.plb (by first | assumption | omega) | exact hS.fl (by first | assumption | omega) | exact gup_s | (refine gup_t (by assumption) ?_; first | assumption | exact gup_s | (refine gup_t (by assumption) ?_; first | assumption | exact gup_s | (refine gup_t (by assumption) ?_; first | assumption | exact gup_s))))⟩) rfl (k_known_ok h0 hS hW hc) (Nat.le_of_ble_eq_true rfl) (Nat.le_of_ble_eq_true rfl) (Nat.le_of_ble_eq_true rfl) (Nat.le_of_ble_eq_true rfl) (Nat.le_of_ble_eq_true rfl) ?_
  refine ri_astore h d_ST_box_5 (Nat.le_of_ble_eq_true rfl) ?_
  refine ri_aload_n h d_ST_box_7 rfl ?_
  refine ri_iload_n h d_ST_box_8 rfl ?_
  refine ri_cV0_1 (r := (gR5, gT5, 8)) h d_ST_box_9 cv_ST_78 (by first | exact hS.lcO | exact hS.lsO | exact hS.lpO | exact hS.cesO (by first | assumption | omega) | exact hS.cepO (by first | assumption | omega) | exact ⟨_, (by first | assumption | exact hS.st | exact hS.mo | exact hS.out | exact hS.sb | exact hS.ce (by first | assumption | omega) | exact hS.ceb (by first | assumption | omega) | exact hS.sh (by first | assumption | omega) | exact hS.shb (by first | assumption | omega) | exact hS.pl (by first | assumption | omega) | exact hS.plb (by first | assumption | omega) | exact hS.fl (by first | assumption | omega) | exact gup_s | (refine gup_t (by assumption) ?_; first | assumption | exact gup_s | (refine gup_t (by assumption) ?_; first | assumption | exact gup_s | (refine gup_t (by assumption) ?_; first | assumption | exact gup_s))))⟩) rfl (k_layer_ok h0 hS hv) (Nat.le_of_ble_eq_true rfl) (Nat.le_of_ble_eq_true rfl) (Nat.le_of_ble_eq_true rfl) (Nat.le_of_ble_eq_true rfl) (Nat.le_of_ble_eq_true rfl) ?_
  refine ri_iload_n h d_ST_box_12 rfl ?_
  refine ri_ifM_lt h 21 d_ST_box_13 (by decide) (by omega) (fun c_13 => ?_) (fun c_13 => ?_)
  · exact c_13.elim
  · refine ri_iload_n h d_ST_box_16 rfl ?_
    refine ri_iconstN h 3 d_ST_box_17 rfl ?_
    first | refine ri_icmpN_le h 31 d_ST_box_18 (by decide) (by omega) (by omega) (fun c_18 => ?_) (fun c_18 => ?_) | refine ri_icmp_le h 31 d_ST_box_18 (by decide) (fun c_18 => ?_) (fun c_18 => ?_)
    · refine ri_aload_n h d_ST_box_31 rfl ?_
      refine ri_iload_n h d_ST_box_32 rfl ?_
      refine ri_dV0_1 (r := (gR5, gT5, 8)) h d_ST_box_33 cv_ST_160 (by first | exact hS.lcO | exact hS.lsO | exact hS.lpO | exact hS.cesO (by first | assumption | omega) | exact hS.cepO (by first | assumption | omega) | exact ⟨_, (by first | assumption | exact hS.st | exact hS.mo | exact hS.out | exact hS.sb | exact hS.ce (by first | assumption | omega) | exact hS.ceb (by first | assumption | omega) | exact hS.sh (by first | assumption | omega) | exact hS.shb (by first | assumption | omega) | exact hS.pl (by first | assumption | omega) | exact hS.plb (by first | assumption | omega) | exact hS.fl (by first | assumption | omega) | exact gup_s | (refine gup_t (by assumption) ?_; first | assumption | exact gup_s | (refine gup_t (by assumption) ?_; first | assumption | exact gup_s | (refine gup_t (by assumption) ?_; first | assumption | exact gup_s))))⟩) rfl (k_measureCells h0 hW hL hX hme hS) (Nat.le_of_ble_eq_true rfl) (Nat.le_of_ble_eq_true rfl) (Nat.le_of_ble_eq_true rfl) (Nat.le_of_ble_eq_true rfl) (Nat.le_of_ble_eq_true rfl) (fun M hS => ?_)
      obtain ⟨m, sz, b, pb, hS, h01, hdn⟩ := hS
      obtain ⟨d1, d2⟩ := hdn c hc
      have hsz : sz c = 0 := by rw [d1, hn]; rfl
      have hce : (msQ Q m sz b pb).ce c = (((Q.ce c).set_meas (m c)).set_size (sz c)).set_bx (b c) := rfl
      refine ri_aload h d_ST_box_36 rfl ?_
      refine ri_get h d_ST_box_38 fl_ST_163 (hS.ce_of hc hce) rfl ?_
      refine ri_ifN_ne h 54 d_ST_box_41 (by decide) (show sz c < 2 ^ 31 by omega) (fun c_41 => ?_) (fun c_41 => ?_)
      · exact absurd hsz c_41
      · refine ri_throw h tw_165 d_ST_box_44 d_ST_box_47 d_ST_box_48 d_ST_box_50 d_ST_box_53 (Nat.le_of_ble_eq_true rfl) (Nat.le_of_ble_eq_true rfl) (Nat.le_of_ble_eq_true rfl) (Nat.le_of_ble_eq_true rfl) ?_
        exact ⟨rfl, m, sz, b, pb, hS, h01⟩
    · omega
theorem k_box_ok (h0 : g_0 l D s0) (hS : HS z ad Q N M) (hW : WB Q) (hL : WL Q) (hX : WX Q) (hme : ∀ x, (Q.ce x).meas = 0 ∨ (Q.ce x).meas = 1) {c : Nat} (hc : c < Q.nC) {v : Int32} (hv : ¬ v < 0 ∧ v < Q.L) {w : Nat} (hw : w < 4) (hn : ¬ SZ Q v c = 0) {bb : BxR} (hbb : HB bb (PT Q v c)) : Ct l D s0 y_ST_box (Cond.code y_ST_box b_ST_box 5 (some .long)) rkC [.ref (ad 0 0), .int (nI c), .int v, .int (nI w)] M (fSM z ad Q N (some (.long (bside w bb.x0 bb.y0 bb.x1 bb.y1)))) := by
  refine Ct.of h0 (by decide +kernel) rfl fun X hX h => ?_
  obtain ⟨p_, l', e_, R_, s_, m_, ar_, be_, me_, c_⟩ := X
  obtain rfl : l' = l := hX
  refine ri_aload_n h d_ST_box_0 rfl ?_
  refine ri_iload_n h d_ST_box_1 rfl ?_
  refine ri_cVv_1 (r := (gR5, gT5, 8)) h d_ST_box_2 cv_ST_74 (by first | exact hS.lcO | exact hS.lsO | exact hS.lpO | exact hS.cesO (by first | assumption | omega) | exact hS.cepO (by first | assumption | omega) | exact ⟨_, (by first | assumption | exact hS.st | exact hS.mo | exact hS.out | exact hS.sb | exact hS.ce (by first | assumption | omega) | exact hS.ceb (by first | assumption | omega) | exact hS.sh (by first | assumption | omega) | exact hS.shb (by first | assumption | omega) | exact hS.pl (by first | assumption | omega) | exact hS.plb (by first | assumption | omega) | exact hS.fl (by first | assumption | omega) | exact gup_s | (refine gup_t (by assumption) ?_; first | assumption | exact gup_s | (refine gup_t (by assumption) ?_; first | assumption | exact gup_s | (refine gup_t (by assumption) ?_; first | assumption | exact gup_s))))⟩) rfl (k_known_ok h0 hS hW hc) (Nat.le_of_ble_eq_true rfl) (Nat.le_of_ble_eq_true rfl) (Nat.le_of_ble_eq_true rfl) (Nat.le_of_ble_eq_true rfl) (Nat.le_of_ble_eq_true rfl) ?_
  refine ri_astore h d_ST_box_5 (Nat.le_of_ble_eq_true rfl) ?_
  refine ri_aload_n h d_ST_box_7 rfl ?_
  refine ri_iload_n h d_ST_box_8 rfl ?_
  refine ri_cV0_1 (r := (gR5, gT5, 8)) h d_ST_box_9 cv_ST_78 (by first | exact hS.lcO | exact hS.lsO | exact hS.lpO | exact hS.cesO (by first | assumption | omega) | exact hS.cepO (by first | assumption | omega) | exact ⟨_, (by first | assumption | exact hS.st | exact hS.mo | exact hS.out | exact hS.sb | exact hS.ce (by first | assumption | omega) | exact hS.ceb (by first | assumption | omega) | exact hS.sh (by first | assumption | omega) | exact hS.shb (by first | assumption | omega) | exact hS.pl (by first | assumption | omega) | exact hS.plb (by first | assumption | omega) | exact hS.fl (by first | assumption | omega) | exact gup_s | (refine gup_t (by assumption) ?_; first | assumption | exact gup_s | (refine gup_t (by assumption) ?_; first | assumption | exact gup_s | (refine gup_t (by assumption) ?_; first | assumption | exact gup_s))))⟩) rfl (k_layer_ok h0 hS hv) (Nat.le_of_ble_eq_true rfl) (Nat.le_of_ble_eq_true rfl) (Nat.le_of_ble_eq_true rfl) (Nat.le_of_ble_eq_true rfl) (Nat.le_of_ble_eq_true rfl) ?_
  refine ri_iload_n h d_ST_box_12 rfl ?_
  refine ri_ifM_lt h 21 d_ST_box_13 (by decide) (by omega) (fun c_13 => ?_) (fun c_13 => ?_)
  · exact c_13.elim
  · refine ri_iload_n h d_ST_box_16 rfl ?_
    refine ri_iconstN h 3 d_ST_box_17 rfl ?_
    first | refine ri_icmpN_le h 31 d_ST_box_18 (by decide) (by omega) (by omega) (fun c_18 => ?_) (fun c_18 => ?_) | refine ri_icmp_le h 31 d_ST_box_18 (by decide) (fun c_18 => ?_) (fun c_18 => ?_)
    · refine ri_aload_n h d_ST_box_31 rfl ?_
      refine ri_iload_n h d_ST_box_32 rfl ?_
      refine ri_dV0_1 (r := (gR5, gT5, 8)) h d_ST_box_33 cv_ST_160 (by first | exact hS.lcO | exact hS.lsO | exact hS.lpO | exact hS.cesO (by first | assumption | omega) | exact hS.cepO (by first | assumption | omega) | exact ⟨_, (by first | assumption | exact hS.st | exact hS.mo | exact hS.out | exact hS.sb | exact hS.ce (by first | assumption | omega) | exact hS.ceb (by first | assumption | omega) | exact hS.sh (by first | assumption | omega) | exact hS.shb (by first | assumption | omega) | exact hS.pl (by first | assumption | omega) | exact hS.plb (by first | assumption | omega) | exact hS.fl (by first | assumption | omega) | exact gup_s | (refine gup_t (by assumption) ?_; first | assumption | exact gup_s | (refine gup_t (by assumption) ?_; first | assumption | exact gup_s | (refine gup_t (by assumption) ?_; first | assumption | exact gup_s))))⟩) rfl (k_measureCells h0 hW hL hX hme hS) (Nat.le_of_ble_eq_true rfl) (Nat.le_of_ble_eq_true rfl) (Nat.le_of_ble_eq_true rfl) (Nat.le_of_ble_eq_true rfl) (Nat.le_of_ble_eq_true rfl) (fun M hS => ?_)
      obtain ⟨m, sz, b, pb, hS, h01, hdn⟩ := hS
      obtain ⟨d1, d2⟩ := hdn c hc
      have hsz : ¬ sz c = 0 := by omega
      have hsz2 : sz c ≤ 3001 := by omega
      have hbn : (b c).n = 0 := by
        rcases d2 with ⟨-, q⟩ | ⟨q, -⟩
        · exact absurd ((SZ_0 hL hX 21 c hc).mpr q) hn
        · exact q
      have hbe : b c = bb := (d2.uniq hbb).2 hbn
      have hce : (msQ Q m sz b pb).ce c = (((Q.ce c).set_meas (m c)).set_size (sz c)).set_bx bb := by rw [← hbe]
      refine ri_aload h d_ST_box_36 rfl ?_
      refine ri_get h d_ST_box_38 fl_ST_163 (hS.ce_of hc hce) rfl ?_
      refine ri_ifN_ne h 54 d_ST_box_41 (by decide) (show sz c < 2 ^ 31 by omega) (fun c_41 => ?_) (fun c_41 => ?_)
      · refine ri_aload h d_ST_box_54 rfl ?_
        refine ri_get h d_ST_box_56 fl_ST_167 (hS.ce_of hc hce) rfl ?_
        refine ri_iload_n h d_ST_box_59 rfl ?_
        refine ri_cVv_1 (r := (gR0, gT0, 5)) h d_ST_box_60 cv_ST_170 (by first | exact hS.lcO | exact hS.lsO | exact hS.lpO | exact hS.cesO (by first | assumption | omega) | exact hS.cepO (by first | assumption | omega) | exact ⟨_, (by first | assumption | exact hS.st | exact hS.mo | exact hS.out | exact hS.sb | exact hS.ce (by first | assumption | omega) | exact hS.ceb (by first | assumption | omega) | exact hS.sh (by first | assumption | omega) | exact hS.shb (by first | assumption | omega) | exact hS.pl (by first | assumption | omega) | exact hS.plb (by first | assumption | omega) | exact hS.fl (by first | assumption | omega) | exact gup_s | (refine gup_t (by assumption) ?_; first | assumption | exact gup_s | (refine gup_t (by assumption) ?_; first | assumption | exact gup_s | (refine gup_t (by assumption) ?_; first | assumption | exact gup_s))))⟩) rfl (k_Bx_side h0 (hS.ceb_of hc hce) w hw) (Nat.le_of_ble_eq_true rfl) (Nat.le_of_ble_eq_true rfl) (Nat.le_of_ble_eq_true rfl) (Nat.le_of_ble_eq_true rfl) (Nat.le_of_ble_eq_true rfl) ?_
        refine ri_lreturn h d_ST_box_63 (Nat.le_of_ble_eq_true rfl) (Nat.le_of_ble_eq_true rfl) ?_
        exact ⟨rfl, m, sz, b, pb, hS, h01⟩
      · exact absurd c_41 hsz
    · omega
end MEB
