/-! The model's arrays, the hand left out; sizes reckoned -/
def MR0 (Q : CS) (N : MS) : Prop := N.layers = Q.L ∧ N.cells = Q.nC ∧ N.shapes = Q.nS ∧ N.places = Q.nP ∧
  (∀ s, s < Q.nS → N.i 3 s = nI (Q.sh s).cell ∧ N.i 4 s = (Q.sh s).layer ∧ N.l 5 s = (Q.sh s).w ∧ N.i 6 s = (Q.sh s).ends ∧ N.i 7 s = nI (Q.sh s).cnt ∧ N.i 8 s = (Q.sh s).drop ∧ ∀ k, k < (Q.sh s).cnt → N.l 9 (24 * s + k) = (Q.sh s).xs k ∧ N.l 10 (24 * s + k) = (Q.sh s).ys k) ∧
  (∀ s, Q.nS ≤ s → N.i 8 s = 0) ∧
  (∀ p, p < Q.nP → N.i 12 p = nI (Q.pl p).cell ∧ N.i 13 p = nI (Q.pl p).of ∧ N.l 14 p = (Q.pl p).x ∧ N.l 15 p = (Q.pl p).y ∧ N.i 16 p = nI (Q.pl p).turn ∧ N.i 17 p = nI (Q.pl p).cols ∧ N.i 18 p = nI (Q.pl p).rows ∧ N.l 19 p = (Q.pl p).dx ∧ N.l 20 p = (Q.pl p).dy)
section MR0s
variable {Q : CS} {N N' N2 : MS} {s p k : Nat}
theorem MR.m0 (h : MR Q N) : MR0 Q N := ⟨h.1, h.2.1, h.2.2.1, h.2.2.2.1, h.2.2.2.2.1, h.2.2.2.2.2.1, h.2.2.2.2.2.2.1⟩
theorem MR0.la (h : MR0 Q N) : N.layers = Q.L := h.1
theorem MR0.nc (h : MR0 Q N) : N.cells = Q.nC := h.2.1
theorem MR0.ns (h : MR0 Q N) : N.shapes = Q.nS := h.2.2.1
theorem MR0.np (h : MR0 Q N) : N.places = Q.nP := h.2.2.2.1
theorem MR0.shs (h : MR0 Q N) (hs : s < Q.nS) : N.i 3 s = nI (Q.sh s).cell ∧ N.i 4 s = (Q.sh s).layer ∧ N.l 5 s = (Q.sh s).w ∧ N.i 6 s = (Q.sh s).ends ∧ N.i 7 s = nI (Q.sh s).cnt ∧ N.i 8 s = (Q.sh s).drop ∧ ∀ k, k < (Q.sh s).cnt → N.l 9 (24 * s + k) = (Q.sh s).xs k ∧ N.l 10 (24 * s + k) = (Q.sh s).ys k := h.2.2.2.2.1 s hs
theorem MR0.pls (h : MR0 Q N) (hp : p < Q.nP) : N.i 12 p = nI (Q.pl p).cell ∧ N.i 13 p = nI (Q.pl p).of ∧ N.l 14 p = (Q.pl p).x ∧ N.l 15 p = (Q.pl p).y ∧ N.i 16 p = nI (Q.pl p).turn ∧ N.i 17 p = nI (Q.pl p).cols ∧ N.i 18 p = nI (Q.pl p).rows ∧ N.l 19 p = (Q.pl p).dx ∧ N.l 20 p = (Q.pl p).dy := h.2.2.2.2.2.2 p hp
theorem MR0.i3 (h : MR0 Q N) (hs : s < Q.nS) : N.i 3 s = nI (Q.sh s).cell := (h.shs hs).1
theorem MR0.i4 (h : MR0 Q N) (hs : s < Q.nS) : N.i 4 s = (Q.sh s).layer := (h.shs hs).2.1
theorem MR0.i5 (h : MR0 Q N) (hs : s < Q.nS) : N.l 5 s = (Q.sh s).w := (h.shs hs).2.2.1
theorem MR0.i6 (h : MR0 Q N) (hs : s < Q.nS) : N.i 6 s = (Q.sh s).ends := (h.shs hs).2.2.2.1
theorem MR0.i7 (h : MR0 Q N) (hs : s < Q.nS) : N.i 7 s = nI (Q.sh s).cnt := (h.shs hs).2.2.2.2.1
theorem MR0.i8 (h : MR0 Q N) (hs : s < Q.nS) : N.i 8 s = (Q.sh s).drop := (h.shs hs).2.2.2.2.2.1
theorem MR0.i9 (h : MR0 Q N) (hs : s < Q.nS) (hk : k < (Q.sh s).cnt) : N.l 9 (24 * s + k) = (Q.sh s).xs k := ((h.shs hs).2.2.2.2.2.2 k hk).1
theorem MR0.i10 (h : MR0 Q N) (hs : s < Q.nS) (hk : k < (Q.sh s).cnt) : N.l 10 (24 * s + k) = (Q.sh s).ys k := ((h.shs hs).2.2.2.2.2.2 k hk).2
theorem MR0.i12 (h : MR0 Q N) (hp : p < Q.nP) : N.i 12 p = nI (Q.pl p).cell := (h.pls hp).1
theorem MR0.i13 (h : MR0 Q N) (hp : p < Q.nP) : N.i 13 p = nI (Q.pl p).of := (h.pls hp).2.1
theorem MR0.i14 (h : MR0 Q N) (hp : p < Q.nP) : N.l 14 p = (Q.pl p).x := (h.pls hp).2.2.1
theorem MR0.i15 (h : MR0 Q N) (hp : p < Q.nP) : N.l 15 p = (Q.pl p).y := (h.pls hp).2.2.2.1
theorem MR0.i16 (h : MR0 Q N) (hp : p < Q.nP) : N.i 16 p = nI (Q.pl p).turn := (h.pls hp).2.2.2.2.1
theorem MR0.i17 (h : MR0 Q N) (hp : p < Q.nP) : N.i 17 p = nI (Q.pl p).cols := (h.pls hp).2.2.2.2.2.1
theorem MR0.i18 (h : MR0 Q N) (hp : p < Q.nP) : N.i 18 p = nI (Q.pl p).rows := (h.pls hp).2.2.2.2.2.2.1
theorem MR0.i19 (h : MR0 Q N) (hp : p < Q.nP) : N.l 19 p = (Q.pl p).dx := (h.pls hp).2.2.2.2.2.2.2.1
theorem MR0.i20 (h : MR0 Q N) (hp : p < Q.nP) : N.l 20 p = (Q.pl p).dy := (h.pls hp).2.2.2.2.2.2.2.2
/-- only the arrays of the reckoning differ -/
def NE (N N' : MS) : Prop := N'.layers = N.layers ∧ N'.cells = N.cells ∧ N'.shapes = N.shapes ∧ N'.places = N.places ∧ N'.hand = N.hand ∧ N'.out = N.out ∧ N'.code = N.code ∧ ∀ f, f < 22 → N'.i f = N.i f ∧ N'.l f = N.l f
theorem NE.rfl : NE N N := ⟨Eq.refl _, Eq.refl _, Eq.refl _, Eq.refl _, Eq.refl _, Eq.refl _, Eq.refl _, fun _ _ => ⟨Eq.refl _, Eq.refl _⟩⟩
theorem NE.trans (h : NE N N') (h2 : NE N' N2) : NE N N2 := ⟨h2.1.trans h.1, h2.2.1.trans h.2.1, h2.2.2.1.trans h.2.2.1, h2.2.2.2.1.trans h.2.2.2.1, h2.2.2.2.2.1.trans h.2.2.2.2.1, h2.2.2.2.2.2.1.trans h.2.2.2.2.2.1, h2.2.2.2.2.2.2.1.trans h.2.2.2.2.2.2.1, fun f hf => ⟨(h2.2.2.2.2.2.2.2 f hf).1.trans (h.2.2.2.2.2.2.2 f hf).1, (h2.2.2.2.2.2.2.2 f hf).2.trans (h.2.2.2.2.2.2.2 f hf).2⟩⟩
theorem NE.i (f : Nat) (hf : 22 ≤ f) (g : Nat → Int32) : NE N (N.set_i (va_up N.i f g)) := ⟨Eq.refl _, Eq.refl _, Eq.refl _, Eq.refl _, Eq.refl _, Eq.refl _, Eq.refl _, fun _ h => ⟨va_up_n (by omega), Eq.refl _⟩⟩
theorem NE.l (f : Nat) (hf : 22 ≤ f) (g : Nat → Int64) : NE N (N.set_l (va_up N.l f g)) := ⟨Eq.refl _, Eq.refl _, Eq.refl _, Eq.refl _, Eq.refl _, Eq.refl _, Eq.refl _, fun _ h => ⟨Eq.refl _, va_up_n (by omega)⟩⟩
theorem MR0.ne (h : MR0 Q N) (e : NE N N') : MR0 Q N' := by
  obtain ⟨e1, e2, e3, e4, -, -, -, e5⟩ := e
  refine ⟨e1.trans h.1, e2.trans h.2.1, e3.trans h.2.2.1, e4.trans h.2.2.2.1, fun s hs => ?_, fun s hs => ?_, fun p hp => ?_⟩
  · rw [(e5 3 (by omega)).1, (e5 4 (by omega)).1, (e5 5 (by omega)).2, (e5 6 (by omega)).1, (e5 7 (by omega)).1, (e5 8 (by omega)).1, (e5 9 (by omega)).2, (e5 10 (by omega)).2]
    exact h.shs hs
  · rw [(e5 8 (by omega)).1]
    exact h.2.2.2.2.2.1 s hs
  · rw [(e5 12 (by omega)).1, (e5 13 (by omega)).1, (e5 14 (by omega)).2, (e5 15 (by omega)).2, (e5 16 (by omega)).1, (e5 17 (by omega)).1, (e5 18 (by omega)).1, (e5 19 (by omega)).2, (e5 20 (by omega)).2]
    exact h.pls hp
end MR0s
/-- long numbers out of counting ones -/
abbrev nL (n : Nat) : Int64 := Int64.ofNat n
theorem nL_add (a b : Nat) : nL a + nL b = nL (a + b) := (Int64.ofNat_add a b).symm
theorem nL_mul (a b : Nat) : nL a * nL b = nL (a * b) := (Int64.ofNat_mul a b).symm
theorem nL_toInt {a : Nat} (h : a < 2 ^ 62) : (nL a).toInt = a := Int64.toInt_ofNat_of_lt (by omega)
theorem nL_nI {a : Nat} (h : a < 2 ^ 31) : (nI a).toInt64 = nL a := Int64.toInt.inj (by rw [nI_64 h, nL_toInt (by omega)])
theorem nL_le {a b : Nat} (ha : a < 2 ^ 62) (hb : b < 2 ^ 62) : nL a ≤ nL b ↔ a ≤ b := by
  rw [Int64.le_iff_toInt_le, nL_toInt ha, nL_toInt hb]
  omega
theorem nL_inj {a b : Nat} (ha : a < 2 ^ 62) (hb : b < 2 ^ 62) : nL a = nL b ↔ a = b := by
  constructor
  · intro h
    have := congrArg Int64.toInt h
    rw [nL_toInt ha, nL_toInt hb] at this
    omega
  · rintro rfl; rfl
theorem onB_iff {r : ShR} (hc : r.cnt ≤ 24) : onB r (-1) = true ↔ r.drop = 0 ∧ (if 0 < r.w then 2 else 3) ≤ r.cnt := by
  unfold onB
  rw [decide_eq_true_iff]
  have e2 : ((2 : Int32) ≤ nI r.cnt) ↔ 2 ≤ r.cnt := by
    rw [Int32.le_iff_toInt_le, nI_toInt (by omega), show (2 : Int32).toInt = 2 by decide]
    omega
  have e3 : ((3 : Int32) ≤ nI r.cnt) ↔ 3 ≤ r.cnt := by
    rw [Int32.le_iff_toInt_le, nI_toInt (by omega), show (3 : Int32).toInt = 3 by decide]
    omega
  unfold son
  by_cases hw : 0 < r.w
  · simp only [hw, if_true, e2]
    by_cases h : r.drop = 0 ∧ 2 ≤ r.cnt
    · simp [h]
    · rw [if_neg (fun q => h ⟨q.1, q.2.1⟩)]
      exact ⟨fun q => absurd q (by decide), fun q => absurd q h⟩
  · simp only [hw, if_false, e3]
    by_cases h : r.drop = 0 ∧ 3 ≤ r.cnt
    · simp [h]
    · rw [if_neg (fun q => h ⟨q.1, q.2.1⟩)]
      exact ⟨fun q => absurd q (by decide), fun q => absurd q h⟩
section RES
variable {l : Launch} {D : gD} {s0 : State} {M : gH} {z : Nat} {ad : gA} {Q Qc : CS} {N : MS}
theorem k_mempty (h0 : g_0 l D s0) (hS : HS z ad Qc N M) (hm : MR0 Q N) (hW : WB Q) {s : Nat} (hs : s < Q.nS) (hc : (Q.sh s).cnt ≤ 24) : Ct l D s0 y_Md_isEmpty (Cond.code y_Md_isEmpty b_Md_isEmpty 2 (some .boolean)) (rk 0 0 0) [.ref (ad 30 0), .int (nI s)] M (fR (some (.int (bI (onB (Q.sh s) (-1) = false)))) M) := by
  have hb := hW.2.1
  have e := onB_iff (r := Q.sh s) hc
  have hV : ∀ {v : Int32} {M' : gH}, v = bI (onB (Q.sh s) (-1) = false) → M' = M → fR (some (.int (bI (onB (Q.sh s) (-1) = false)))) M (.inl (some (.int v))) M' := fun h1 h2 => ⟨by rw [h1], h2⟩
  by_cases hd : (Q.sh s).drop = 0
  · by_cases hw : 0 < (Q.sh s).w
    · rw [if_pos hw] at e
      refine Ct.of h0 (by decide +kernel) rfl fun X hX h => ?_
      obtain ⟨p_, l', e_, R_, s_, m_, ar_, be_, me_, c_⟩ := X
      obtain rfl : l' = l := hX
      refine ri_aload_n h d_Md_isEmpty_0 rfl ?_
      refine ri_get h d_Md_isEmpty_1 fl_Md_26 (by first | assumption | exact hS.mo | exact gup_s) (by rfl) ?_
      refine ri_iload_n h d_Md_isEmpty_4 rfl ?_
      refine ri_zaldE h _ d_Md_isEmpty_5 (by first | assumption | exact hS.a8) (by first | rfl | assumption) (by first | assumption | omega) (by first | decide | omega) (by first | assumption | exact hm.i8 (by first | assumption | omega) | rfl) ?_
      refine ri_if_ne h 34 d_Md_isEmpty_6 (by decide) (fun c_6 => ?_) (fun c_6 => ?_)
      · first | exact absurd hd c_6 | exact absurd c_6 (Int64.not_le.mpr hw)
      · refine ri_aload_n h d_Md_isEmpty_9 rfl ?_
        refine ri_get h d_Md_isEmpty_10 fl_Md_23 (by first | assumption | exact hS.mo | exact gup_s) (by rfl) ?_
        refine ri_iload_n h d_Md_isEmpty_13 rfl ?_
        refine ri_ialdE h _ d_Md_isEmpty_14 (by first | assumption | exact hS.a7) (by first | rfl | assumption) (by first | assumption | omega) (by first | decide | omega) (by first | assumption | exact hm.i7 (by first | assumption | omega) | rfl) ?_
        refine ri_aload_n h d_Md_isEmpty_15 rfl ?_
        refine ri_get h d_Md_isEmpty_16 fl_Md_16 (by first | assumption | exact hS.mo | exact gup_s) (by rfl) ?_
        refine ri_iload_n h d_Md_isEmpty_19 rfl ?_
        refine ri_laldE h _ d_Md_isEmpty_20 (by first | assumption | exact hS.a5) (by first | rfl | assumption) (by first | assumption | omega) (by first | decide | omega) (by first | assumption | exact hm.i5 (by first | assumption | omega) | rfl) ?_
        refine ri_lconst h 0 d_Md_isEmpty_21 rfl ?_
        refine ri_lcmp_le h 30 d_Md_isEmpty_22 d_Md_isEmpty_23 (by decide) (fun c_22 => ?_) (fun c_22 => ?_)
        · first | exact absurd hd c_22 | exact absurd c_22 (Int64.not_le.mpr hw)
        · refine ri_iconstN h 2 d_Md_isEmpty_26 rfl ?_
          refine ri_goto h 31 d_Md_isEmpty_27 (by decide) ?_
          first | refine ri_icmpN_ge h 38 d_Md_isEmpty_31 (by decide) (by omega) (by omega) (fun c_31 => ?_) (fun c_31 => ?_) | refine ri_icmp_ge h 38 d_Md_isEmpty_31 (by decide) (fun c_31 => ?_) (fun c_31 => ?_)
          · refine ri_iconstN h 0 d_Md_isEmpty_38 rfl ?_
            refine ri_zreturn h d_Md_isEmpty_39 (Nat.le_of_ble_eq_true rfl) (Nat.le_of_ble_eq_true rfl) (by first | rfl | assumption) ?_
            first | exact hV (bI_1 (by rw [Bool.eq_false_iff]; exact fun q => c_31 (e.mp q).2)).symm rfl | exact hV (bI_0 (by rw [e.mpr ⟨hd, c_31⟩]; decide)).symm rfl
          · refine ri_iconstN h 1 d_Md_isEmpty_34 rfl ?_
            refine ri_goto h 39 d_Md_isEmpty_35 (by decide) ?_
            refine ri_zreturn h d_Md_isEmpty_39 (Nat.le_of_ble_eq_true rfl) (Nat.le_of_ble_eq_true rfl) (by first | rfl | assumption) ?_
            first | exact hV (bI_1 (by rw [Bool.eq_false_iff]; exact fun q => c_31 (e.mp q).2)).symm rfl | exact hV (bI_0 (by rw [e.mpr ⟨hd, c_31⟩]; decide)).symm rfl
    · rw [if_neg hw] at e
      refine Ct.of h0 (by decide +kernel) rfl fun X hX h => ?_
      obtain ⟨p_, l', e_, R_, s_, m_, ar_, be_, me_, c_⟩ := X
      obtain rfl : l' = l := hX
      refine ri_aload_n h d_Md_isEmpty_0 rfl ?_
      refine ri_get h d_Md_isEmpty_1 fl_Md_26 (by first | assumption | exact hS.mo | exact gup_s) (by rfl) ?_
      refine ri_iload_n h d_Md_isEmpty_4 rfl ?_
      refine ri_zaldE h _ d_Md_isEmpty_5 (by first | assumption | exact hS.a8) (by first | rfl | assumption) (by first | assumption | omega) (by first | decide | omega) (by first | assumption | exact hm.i8 (by first | assumption | omega) | rfl) ?_
      refine ri_if_ne h 34 d_Md_isEmpty_6 (by decide) (fun c_6 => ?_) (fun c_6 => ?_)
      · first | exact absurd hd c_6 | exact absurd (Int64.not_lt.mp hw) c_6
      · refine ri_aload_n h d_Md_isEmpty_9 rfl ?_
        refine ri_get h d_Md_isEmpty_10 fl_Md_23 (by first | assumption | exact hS.mo | exact gup_s) (by rfl) ?_
        refine ri_iload_n h d_Md_isEmpty_13 rfl ?_
        refine ri_ialdE h _ d_Md_isEmpty_14 (by first | assumption | exact hS.a7) (by first | rfl | assumption) (by first | assumption | omega) (by first | decide | omega) (by first | assumption | exact hm.i7 (by first | assumption | omega) | rfl) ?_
        refine ri_aload_n h d_Md_isEmpty_15 rfl ?_
        refine ri_get h d_Md_isEmpty_16 fl_Md_16 (by first | assumption | exact hS.mo | exact gup_s) (by rfl) ?_
        refine ri_iload_n h d_Md_isEmpty_19 rfl ?_
        refine ri_laldE h _ d_Md_isEmpty_20 (by first | assumption | exact hS.a5) (by first | rfl | assumption) (by first | assumption | omega) (by first | decide | omega) (by first | assumption | exact hm.i5 (by first | assumption | omega) | rfl) ?_
        refine ri_lconst h 0 d_Md_isEmpty_21 rfl ?_
        refine ri_lcmp_le h 30 d_Md_isEmpty_22 d_Md_isEmpty_23 (by decide) (fun c_22 => ?_) (fun c_22 => ?_)
        · refine ri_iconstN h 3 d_Md_isEmpty_30 rfl ?_
          first | refine ri_icmpN_ge h 38 d_Md_isEmpty_31 (by decide) (by omega) (by omega) (fun c_31 => ?_) (fun c_31 => ?_) | refine ri_icmp_ge h 38 d_Md_isEmpty_31 (by decide) (fun c_31 => ?_) (fun c_31 => ?_)
          · refine ri_iconstN h 0 d_Md_isEmpty_38 rfl ?_
            refine ri_zreturn h d_Md_isEmpty_39 (Nat.le_of_ble_eq_true rfl) (Nat.le_of_ble_eq_true rfl) (by first | rfl | assumption) ?_
            first | exact hV (bI_1 (by rw [Bool.eq_false_iff]; exact fun q => c_31 (e.mp q).2)).symm rfl | exact hV (bI_0 (by rw [e.mpr ⟨hd, c_31⟩]; decide)).symm rfl
          · refine ri_iconstN h 1 d_Md_isEmpty_34 rfl ?_
            refine ri_goto h 39 d_Md_isEmpty_35 (by decide) ?_
            refine ri_zreturn h d_Md_isEmpty_39 (Nat.le_of_ble_eq_true rfl) (Nat.le_of_ble_eq_true rfl) (by first | rfl | assumption) ?_
            first | exact hV (bI_1 (by rw [Bool.eq_false_iff]; exact fun q => c_31 (e.mp q).2)).symm rfl | exact hV (bI_0 (by rw [e.mpr ⟨hd, c_31⟩]; decide)).symm rfl
        · first | exact absurd hd c_22 | exact absurd (Int64.not_lt.mp hw) c_22
  · refine Ct.of h0 (by decide +kernel) rfl fun X hX h => ?_
    obtain ⟨p_, l', e_, R_, s_, m_, ar_, be_, me_, c_⟩ := X
    obtain rfl : l' = l := hX
    refine ri_aload_n h d_Md_isEmpty_0 rfl ?_
    refine ri_get h d_Md_isEmpty_1 fl_Md_26 (by first | assumption | exact hS.mo | exact gup_s) (by rfl) ?_
    refine ri_iload_n h d_Md_isEmpty_4 rfl ?_
    refine ri_zaldE h _ d_Md_isEmpty_5 (by first | assumption | exact hS.a8) (by first | rfl | assumption) (by first | assumption | omega) (by first | decide | omega) (by first | assumption | exact hm.i8 (by first | assumption | omega) | rfl) ?_
    refine ri_if_ne h 34 d_Md_isEmpty_6 (by decide) (fun c_6 => ?_) (fun c_6 => ?_)
    · refine ri_iconstN h 1 d_Md_isEmpty_34 rfl ?_
      refine ri_goto h 39 d_Md_isEmpty_35 (by decide) ?_
      refine ri_zreturn h d_Md_isEmpty_39 (Nat.le_of_ble_eq_true rfl) (Nat.le_of_ble_eq_true rfl) (by first | rfl | assumption) ?_
      exact hV (bI_1 (by rw [Bool.eq_false_iff]; exact fun q => hd (e.mp q).1)).symm rfl
    · exact absurd c_6 hd
end RES
