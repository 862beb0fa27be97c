/-! The points of a cell are those of its flat shapes; equal keys, equal sides -/
theorem ifc {α : Type} {P P' : Prop} [Decidable P] [Decidable P'] {a b : α} (h : P ↔ P') : (if P then a else b) = if P' then a else b := by
  by_cases q : P
  · rw [if_pos q, if_pos (h.mp q)]
  · rw [if_neg q, if_neg (fun x => q (h.mpr x))]
theorem tXi_lin {k : Nat} (hk : k < 8) (a b c d : Int) : tXi k (a + c) (b + d) = tXi k a b + tXi k c d ∧ tYi k (a + c) (b + d) = tYi k a b + tYi k c d := by
  rcases (show k = 0 ∨ k = 1 ∨ k = 2 ∨ k = 3 ∨ k = 4 ∨ k = 5 ∨ k = 6 ∨ k = 7 by omega) with rfl | rfl | rfl | rfl | rfl | rfl | rfl | rfl <;> simp only [tXi, tYi] <;> refine ⟨?_, ?_⟩ <;> first | exact trivial | omega
theorem tXi_both {u t : Nat} (hu : u < 8) (ht : t < 8) (a b : Int) : tXi u (tXi t a b) (tYi t a b) = tXi (bth u t) a b ∧ tYi u (tXi t a b) (tYi t a b) = tYi (bth u t) a b := by
  rcases (show u = 0 ∨ u = 1 ∨ u = 2 ∨ u = 3 ∨ u = 4 ∨ u = 5 ∨ u = 6 ∨ u = 7 by omega) with rfl | rfl | rfl | rfl | rfl | rfl | rfl | rfl <;> rcases (show t = 0 ∨ t = 1 ∨ t = 2 ∨ t = 3 ∨ t = 4 ∨ t = 5 ∨ t = 6 ∨ t = 7 by omega) with rfl | rfl | rfl | rfl | rfl | rfl | rfl | rfl <;> (constructor <;> first | rfl | exact Int.neg_neg _)
theorem tXi_mv {u t : Nat} (hu : u < 8) (ht : t < 8) (X Y x y I J : Int) : tXi u (X + tXi t x y + I) (Y + tYi t x y + J) = tXi u (X + I) (Y + J) + tXi (bth u t) x y ∧ tYi u (X + tXi t x y + I) (Y + tYi t x y + J) = tYi u (X + I) (Y + J) + tYi (bth u t) x y := by
  rw [show X + tXi t x y + I = (X + I) + tXi t x y by omega, show Y + tYi t x y + J = (Y + J) + tYi t x y by omega, (tXi_lin hu _ _ _ _).1, (tXi_lin hu _ _ _ _).2, (tXi_both hu ht _ _).1, (tXi_both hu ht _ _).2]
  exact ⟨rfl, rfl⟩
theorem tXi_ne {t : Nat} (ht : t < 8) {a b c d : Int} (X Y : Int) (h : ¬ (a = c ↔ b = d)) : ¬ (X + tXi t a b = X + tXi t c d ↔ Y + tYi t a b = Y + tYi t c d) := by
  rcases (show t = 0 ∨ t = 1 ∨ t = 2 ∨ t = 3 ∨ t = 4 ∨ t = 5 ∨ t = 6 ∨ t = 7 by omega) with rfl | rfl | rfl | rfl | rfl | rfl | rfl | rfl <;> simp only [tXi, tYi] <;> omega
theorem posF_mem {Q : CS} {c p i j : Nat} (hp : p < Q.nP) (hz : nzP Q c p = true) (hi : i < (Q.pl p).cols) (hj : j < (Q.pl p).rows) : (p, i, j) ∈ posF Q c 0 :=
  List.mem_flatMap.mpr ⟨p, List.mem_filter.mpr ⟨List.mem_range'_1.mpr ⟨by omega, by omega⟩, hz⟩, List.mem_flatMap.mpr ⟨j, List.mem_range'_1.mpr ⟨by omega, by omega⟩, List.mem_map.mpr ⟨i, List.mem_range'_1.mpr ⟨by omega, by omega⟩, rfl⟩⟩⟩
section FPT
variable {Q : CS}
theorem FLn_pt (hW : WB Q) (hL : WL Q) (hX : WX Q) : ∀ (n c : Nat) (t : Tm) (B : Int), c < Q.nC → rho Q c < n → Tb t B → B + 20000000 * n ≤ 800000000000 → ∀ x y, (∃ w, w ∈ FLn Q (-1) n c t ∧ IPt Q w x y) ↔ TIm t.1 t.2.1.toInt t.2.2.toInt (PTn Q (-1) n c) x y
  | 0, _, _, _, _, hr, _, _, _, _ => absurd hr (Nat.not_lt_zero _)
  | n + 1, c, t, B, hc, hr, hB, hB2, x, y => by
    constructor
    · rintro ⟨w, hw, hp⟩
      rcases List.mem_append.mp hw with h | h
      · obtain ⟨s, h1, rfl⟩ := List.mem_map.mp h
        obtain ⟨h2, h3⟩ := List.mem_filter.mp h1
        obtain ⟨x', y', q1, q2, q3⟩ := hp
        exact ⟨x', y', Or.inl ⟨s, h2, h3, q1⟩, q2, q3⟩
      · obtain ⟨e, h1, h2⟩ := List.mem_flatMap.mp h
        obtain ⟨g1, -, -, g4, g5⟩ := mem_posF h1
        have hn := nxt_b hL g1 g4 g5 hB (by omega)
        have hps := posF_ps hL hc h1
        have hm := hL.mem hc hps
        obtain ⟨x', y', q1, q2, q3⟩ := (FLn_pt hW hL hX n _ _ (B + 20000000) hm.2.1 (by omega) hn.1 (by omega) x y).mp ⟨w, h2, hp⟩
        obtain ⟨-, -, f1, -⟩ := hL.2.1 e.1 g1
        have mv := tXi_mv hB.1 f1 (Q.pl e.1).x.toInt (Q.pl e.1).y.toInt x' y' (e.2.1 * (Q.pl e.1).dx.toInt) (e.2.2 * (Q.pl e.1).dy.toInt)
        refine ⟨(Q.pl e.1).x.toInt + tXi (Q.pl e.1).turn x' y' + e.2.1 * (Q.pl e.1).dx.toInt, (Q.pl e.1).y.toInt + tYi (Q.pl e.1).turn x' y' + e.2.2 * (Q.pl e.1).dy.toInt, Or.inr ⟨e.1, hps, x', y', e.2.1, e.2.2, q1, g4, g5, rfl, rfl⟩, ?_, ?_⟩
        · rw [mv.1, q2, hn.2.1, Int.add_assoc]
          rfl
        · rw [mv.2, q3, hn.2.2, Int.add_assoc]
          rfl
    · rintro ⟨x1, y1, h, e1, e2⟩
      rcases h with ⟨s, h2, h3, q1⟩ | ⟨p, hp, x', y', i, j, q1, hi, hj, e3, e4⟩
      · exact ⟨(s, t), List.mem_append_left _ (List.mem_map.mpr ⟨s, List.mem_filter.mpr ⟨h2, h3⟩, rfl⟩), ⟨x1, y1, q1, e1, e2⟩⟩
      · have hm := hL.mem hc hp
        have hps := (hL.ps hc).mp hp
        have hn := nxt_b hL hm.1 hi hj hB (by omega)
        have hz : nzP Q c p = true := by
          unfold nzP
          rw [Bool.and_eq_true, decide_eq_true_iff, decide_eq_true_iff]
          refine ⟨hps.2, fun h0 => ?_⟩
          exact (SZ_0 (lay := -1) hL hX n _ hm.2.1).mp (by rw [SZn_st hL n 21 _ hm.2.1 (by omega) (rho_lt hW)]; exact h0) _ _ q1
        obtain ⟨-, -, f1, -⟩ := hL.2.1 p hm.1
        have mv := tXi_mv hB.1 f1 (Q.pl p).x.toInt (Q.pl p).y.toInt x' y' (i * (Q.pl p).dx.toInt) (j * (Q.pl p).dy.toInt)
        obtain ⟨w, hw, hiw⟩ := (FLn_pt hW hL hX n (Q.pl p).of (nxt t (Q.pl p) i j) (B + 20000000) hm.2.1 (by omega) hn.1 (by omega) x y).mpr ⟨x', y', q1, by rw [e1, e3, e4, mv.1, hn.2.1, Int.add_assoc]; rfl, by rw [e2, e3, e4, mv.2, hn.2.2, Int.add_assoc]; rfl⟩
        exact ⟨w, List.mem_append_right _ (List.mem_flatMap.mpr ⟨(p, i, j), posF_mem hm.1 hz hi hj, hw⟩), hiw⟩
theorem FL_pt (hW : WF Q) {c : Nat} (hc : c < Q.nC) (x y : Int) : (∃ w, w ∈ FLn Q (-1) 21 c (0, 0, 0) ∧ IPt Q w x y) ↔ PT Q (-1) c x y := by
  rw [FLn_pt hW.wb hW.wl hW.wx 21 c (0, 0, 0) 0 hc (rho_lt hW.wb) ⟨by decide, by decide, by decide, by decide, by decide⟩ (by omega) x y]
  have e : ((0 : Int64).toInt) = 0 := by decide
  constructor
  · rintro ⟨x', y', h, e1, e2⟩
    rw [e] at e1 e2
    obtain rfl : x = x' := by rw [e1]; show 0 + x' = x'; omega
    obtain rfl : y = y' := by rw [e2]; show 0 + y' = y'; omega
    exact h
  · intro h
    refine ⟨x, y, h, ?_, ?_⟩
    · rw [e]; show x = 0 + x; omega
    · rw [e]; show y = 0 + y; omega
theorem nX_i {r : ShR} {t j : Nat} (hw : WPt r) (ht : t < 8) (hj : j < r.cnt) : nX r t j = tXi t (r.xs j).toInt (r.ys j).toInt ∧ nY r t j = tYi t (r.xs j).toInt (r.ys j).toInt := by
  have h1 := near_i (hw.1 j hj).1
  have h2 := near_i (hw.1 j hj).2
  exact t_tX ht (by omega) (by omega) (by omega) (by omega)
/-- a piece, walked the other way -/
theorem two_rev {ax ay bx by_ h f g x y : Int} (hd : ¬ (ax = bx ↔ ay = by_)) (ht : two ax ay bx by_ h f g x y) : (∃ y', two bx by_ ax ay h g f x y') ∧ ∃ x', two bx by_ ax ay h g f x' y := by
  unfold two at ht ⊢
  by_cases e : ay = by_
  · subst e
    rw [if_pos rfl] at ht
    simp only [if_pos rfl]
    rcases (show ax < bx ∨ bx < ax by omega) with q | q
    · rw [if_pos q] at ht
      rw [if_neg (show ¬ bx < ax by omega)]
      rcases ht with ⟨rfl, rfl⟩ | ⟨rfl, rfl⟩
      · exact ⟨⟨ay + h, Or.inr ⟨by omega, rfl⟩⟩, ⟨bx - -1 * g, Or.inl ⟨rfl, rfl⟩⟩⟩
      · exact ⟨⟨ay - h, Or.inl ⟨by omega, rfl⟩⟩, ⟨ax + -1 * f, Or.inr ⟨rfl, rfl⟩⟩⟩
    · rw [if_neg (show ¬ ax < bx by omega)] at ht
      rw [if_pos q]
      rcases ht with ⟨rfl, rfl⟩ | ⟨rfl, rfl⟩
      · exact ⟨⟨ay + h, Or.inr ⟨by omega, rfl⟩⟩, ⟨bx - 1 * g, Or.inl ⟨rfl, rfl⟩⟩⟩
      · exact ⟨⟨ay - h, Or.inl ⟨by omega, rfl⟩⟩, ⟨ax + 1 * f, Or.inr ⟨rfl, rfl⟩⟩⟩
  · obtain rfl : ax = bx := by omega
    rw [if_neg e] at ht
    have e' : ¬ by_ = ay := fun q => e q.symm
    simp only [if_neg e']
    rcases (show ay < by_ ∨ by_ < ay by omega) with q | q
    · rw [if_pos q] at ht
      rw [if_neg (show ¬ by_ < ay by omega)]
      rcases ht with ⟨rfl, rfl⟩ | ⟨rfl, rfl⟩
      · exact ⟨⟨by_ - -1 * g, Or.inl ⟨rfl, rfl⟩⟩, ⟨ax + h, Or.inr ⟨rfl, by omega⟩⟩⟩
      · exact ⟨⟨ay + -1 * f, Or.inr ⟨rfl, rfl⟩⟩, ⟨ax - h, Or.inl ⟨rfl, by omega⟩⟩⟩
    · rw [if_neg (show ¬ ay < by_ by omega)] at ht
      rw [if_pos q]
      rcases ht with ⟨rfl, rfl⟩ | ⟨rfl, rfl⟩
      · exact ⟨⟨by_ - 1 * g, Or.inl ⟨rfl, rfl⟩⟩, ⟨ax + h, Or.inr ⟨rfl, by omega⟩⟩⟩
      · exact ⟨⟨ay + 1 * f, Or.inr ⟨rfl, rfl⟩⟩, ⟨ax - h, Or.inl ⟨rfl, by omega⟩⟩⟩
/-- shapes with the same key reach as far -/
theorem keyR_prj {r r' : ShR} {t t' : Nat} {X Y X' Y' : Int} (hw : WPt r) (hw' : WPt r') (ht : t < 8) (ht' : t' < 8) (h0 : 0 < r.cnt) (hk : keyR r t X Y = keyR r' t' X' Y') {x y : Int} (h : TIm t X Y (SPt r) x y) : (∃ y', TIm t' X' Y' (SPt r') x y') ∧ ∃ x', TIm t' X' Y' (SPt r') x' y := by
  obtain ⟨kd, -⟩ := keyR_eq.mp hk
  obtain ⟨f, s, ha, hp⟩ := (same_key h0 kd).mp hk
  obtain ⟨-, kw, ke, kc⟩ := kd
  have hpt : ∀ k, k < r.cnt → X + tXi t (r.xs k).toInt (r.ys k).toInt = X' + tXi t' (r'.xs (oix r.cnt f s k)).toInt (r'.ys (oix r.cnt f s k)).toInt ∧ Y + tYi t (r.xs k).toInt (r.ys k).toInt = Y' + tYi t' (r'.xs (oix r.cnt f s k)).toInt (r'.ys (oix r.cnt f s k)).toInt := fun k hk => by
    have h1 := nX_i hw ht hk
    have h2 := nX_i (j := oix r.cnt f s k) hw' ht' (by rw [← kc]; exact oix_lt h0)
    have h3 := hp k hk
    rw [h1.1, h1.2, h2.1, h2.2] at h3
    exact h3
  obtain ⟨x0, y0, hs, e1, e2⟩ := h
  rcases hs with ⟨hpos, k, k1, k2, hpc⟩ | ⟨hpos, k, k2, rfl, rfl⟩
  · have hpos' : 0 < r'.w := by rw [← kw]; exact hpos
    have hT : TIm t X Y (PcP r k) x y := ⟨x0, y0, hpc, e1, e2⟩
    obtain ⟨⟨y2, T1⟩, x2, T2⟩ := (two_t hw hpos k1 k2 ht X Y).2 x y hT
    have hin : ∀ k', 1 ≤ k' → k' < r'.cnt → ∀ a b, TIm t' X' Y' (PcP r' k') a b → TIm t' X' Y' (SPt r') a b := fun k' h1 h2 a b ⟨u, v, q1, q2, q3⟩ => ⟨u, v, Or.inl ⟨hpos', k', h1, h2, q1⟩, q2, q3⟩
    have ha : (f = 0 ∧ s = 1) ∨ (f = r.cnt - 1 ∧ s = -1) := by
      rcases ha with ⟨-, q⟩ | ⟨q, -⟩
      · exact q
      · exact absurd hpos q
    rcases ha with ⟨rfl, rfl⟩ | ⟨rfl, rfl⟩
    · have p1 := hpt (k - 1) (by omega)
      have p2 := hpt k k2
      rw [oix_0 (by omega)] at p1 p2
      have eb : pBefore r k = pBefore r' k := by unfold pBefore; rw [ke, kw]
      have eh : pBehind r k = pBehind r' k := by unfold pBehind; rw [ke, kw, kc]
      rw [p1.1, p1.2, p2.1, p2.2, eb, eh, kw] at T1 T2
      have k2' : k < r'.cnt := by omega
      have W := (two_t hw' hpos' k1 k2' ht' X' Y').1
      exact ⟨⟨y2, hin k k1 k2' _ _ (W _ _ T1)⟩, x2, hin k k1 k2' _ _ (W _ _ T2)⟩
    · have p1 := hpt (k - 1) (by omega)
      have p2 := hpt k k2
      rw [oix_r (by omega)] at p1 p2
      obtain ⟨k', hk'⟩ : ∃ k', k' = r.cnt - k := ⟨_, rfl⟩
      rw [show r.cnt - 1 - (k - 1) = k' by omega] at p1
      rw [show r.cnt - 1 - k = k' - 1 by omega] at p2
      have k1' : 1 ≤ k' := by omega
      have k2' : k' < r'.cnt := by omega
      have eb : pBefore r k = pBehind r' k' := by
        unfold pBefore pBehind
        rw [ke, kw]
        by_cases q : k = 1
        · rw [ifc (show (r'.ends = 1 ∧ k = 1) ↔ (r'.ends = 1 ∧ k' = r'.cnt - 1) from and_congr_right fun _ => by omega)]
        · rw [ifc (show (r'.ends = 1 ∧ k = 1) ↔ (r'.ends = 1 ∧ k' = r'.cnt - 1) from and_congr_right fun _ => by omega)]
      have eh : pBehind r k = pBefore r' k' := by
        unfold pBefore pBehind
        rw [ke, kw, ifc (show (r'.ends = 1 ∧ k = r.cnt - 1) ↔ (r'.ends = 1 ∧ k' = 1) from and_congr_right fun _ => by omega)]
      rw [p1.1, p1.2, p2.1, p2.2, eb, eh, kw] at T1 T2
      have W := (two_t hw' hpos' k1' k2' ht' X' Y').1
      have hne : ¬ ((r'.xs k').toInt = (r'.xs (k' - 1)).toInt ↔ (r'.ys k').toInt = (r'.ys (k' - 1)).toInt) := by
        have := hw'.2.2 hpos' k' k1' k2'
        intro q
        apply this
        rw [← Int64.toInt_inj, ← Int64.toInt_inj]
        exact ⟨fun e => (q.mp e.symm).symm, fun e => (q.mpr e.symm).symm⟩
      have hne' := tXi_ne ht' X' Y' hne
      obtain ⟨⟨y3, R1⟩, -⟩ := two_rev hne' T1
      obtain ⟨-, x3, R2⟩ := two_rev hne' T2
      exact ⟨⟨y3, hin k' k1' k2' _ _ (W _ _ R1)⟩, x3, hin k' k1' k2' _ _ (W _ _ R2)⟩
  · have hpos' : ¬ 0 < r'.w := by rw [← kw]; exact hpos
    have hp := hpt k k2
    have hin : TIm t' X' Y' (SPt r') x y := ⟨_, _, Or.inr ⟨hpos', oix r.cnt f s k, by rw [← kc]; exact oix_lt h0, rfl, rfl⟩, by rw [e1, hp.1], by rw [e2, hp.2]⟩
    exact ⟨⟨y, hin⟩, x, hin⟩
/-- the keys of a cell that is moved to zero -/
noncomputable def keys (Q : CS) (b : Nat → BxR) (c : Nat) : List (List Int) := ((FLn Q (-1) 21 c (0, 0, 0)).map (zit (b c).x0 (b c).y0)).map (key Q)
theorem keys_prj (hW : WF Q) {b : Nat → BxR} {c d : Nat} (hc : c < Q.nC) (hd : d < Q.nC) (hBc : HB (b c) (PT Q (-1) c)) (hBd : HB (b d) (PT Q (-1) d)) (hp : (keys Q b c).Perm (keys Q b d)) {x y : Int} (h : PT Q (-1) c x y) : (∃ y', PT Q (-1) d (x - (b c).x0.toInt + (b d).x0.toInt) y') ∧ ∃ x', PT Q (-1) d x' (y - (b c).y0.toInt + (b d).y0.toInt) := by
  obtain ⟨w, hw, x1, y1, q1, q2, q3⟩ := (FL_pt hW hc x y).mpr h
  obtain ⟨a1, a2, a3, a4, a5, a6, a7, a8, a9, a10, a11⟩ := zit_ok (b := b) hW hc hBc hw
  have hm : key Q (zit (b c).x0 (b c).y0 w) ∈ keys Q b d := hp.subset (List.mem_map.mpr ⟨_, List.mem_map.mpr ⟨w, hw, rfl⟩, rfl⟩)
  obtain ⟨w1, hw1, hk⟩ := List.mem_map.mp hm
  obtain ⟨w', hw', rfl⟩ := List.mem_map.mp hw1
  obtain ⟨b1, b2, b3, b4, b5, b6, b7, b8, b9, b10, b11⟩ := zit_ok (b := b) hW hd hBd hw'
  have hk : keyR (Q.sh w.1) w.2.1 (w.2.2.1 - (b c).x0).toInt (w.2.2.2 - (b c).y0).toInt = keyR (Q.sh w'.1) w'.2.1 (w'.2.2.1 - (b d).x0).toInt (w'.2.2.2 - (b d).y0).toInt := hk.symm
  obtain ⟨⟨y2, u1, v1, r1, r2, r3⟩, x2, u2, v2, s1, s2, s3⟩ := keyR_prj (x := x - (b c).x0.toInt) (y := y - (b c).y0.toInt) a7 b7 a2 b2 a4 hk ⟨x1, y1, q1, by rw [q2, a9]; omega, by rw [q3, a10]; omega⟩
  rw [b9] at r2 s2
  rw [b10] at r3 s3
  exact ⟨⟨y2 + (b d).y0.toInt, (FL_pt hW hd _ _).mp ⟨w', hw', u1, v1, r1, by rw [r2]; omega, by rw [r3]; omega⟩⟩, x2 + (b d).x0.toInt, (FL_pt hW hd _ _).mp ⟨w', hw', u2, v2, s1, by rw [s2]; omega, by rw [s3]; omega⟩⟩
theorem keys_le (hW : WF Q) {b : Nat → BxR} {c d : Nat} (hc : c < Q.nC) (hd : d < Q.nC) (hBc : HB (b c) (PT Q (-1) c)) (hBd : HB (b d) (PT Q (-1) d)) (hp : (keys Q b c).Perm (keys Q b d)) (hn : (b c).n = 0) (hn' : (b d).n = 0) : (b c).x1.toInt - (b c).x0.toInt ≤ (b d).x1.toInt - (b d).x0.toInt ∧ (b c).y1.toInt - (b c).y0.toInt ≤ (b d).y1.toInt - (b d).y0.toInt := by
  obtain ⟨-, -, ⟨y1, h1⟩, -, ⟨x1, h2⟩⟩ := hBc.at hn
  obtain ⟨hle, -⟩ := hBd.at hn'
  obtain ⟨⟨y2, g1⟩, -⟩ := keys_prj hW hc hd hBc hBd hp h1
  obtain ⟨-, x2, g2⟩ := keys_prj hW hc hd hBc hBd hp h2
  have a1 := (hle _ _ g1).2.1
  have a2 := (hle _ _ g2).2.2.2
  omega
theorem keys_wh (hW : WF Q) {b : Nat → BxR} {c d : Nat} (hc : c < Q.nC) (hd : d < Q.nC) (hBc : HB (b c) (PT Q (-1) c)) (hBd : HB (b d) (PT Q (-1) d)) (hp : (keys Q b c).Perm (keys Q b d)) (hn : (b c).n = 0) (hn' : (b d).n = 0) : (b c).x1 - (b c).x0 = (b d).x1 - (b d).x0 ∧ (b c).y1 - (b c).y0 = (b d).y1 - (b d).y0 := by
  have h1 := keys_le hW hc hd hBc hBd hp hn hn'
  have h2 := keys_le hW hd hc hBd hBc hp.symm hn' hn
  have hb : ∀ e, e < Q.nC → HB (b e) (PT Q (-1) e) → (b e).n = 0 → ((b e).x1 - (b e).x0).toInt = (b e).x1.toInt - (b e).x0.toInt ∧ ((b e).y1 - (b e).y0).toInt = (b e).y1.toInt - (b e).y0.toInt := fun e he hB hn => by
    obtain ⟨-, ⟨y0, g1⟩, ⟨y1, g2⟩, ⟨x0, g3⟩, ⟨x1, g4⟩⟩ := hB.at hn
    have p1 := PT_b (lay := -1) hW.wl hW.wx 21 e he _ _ g1
    have p2 := PT_b (lay := -1) hW.wl hW.wx 21 e he _ _ g2
    have p3 := PT_b (lay := -1) hW.wl hW.wx 21 e he _ _ g3
    have p4 := PT_b (lay := -1) hW.wl hW.wx 21 e he _ _ g4
    exact ⟨t_sub (by omega) (by omega), t_sub (by omega) (by omega)⟩
  have b1 := hb c hc hBc hn
  have b2 := hb d hd hBd hn'
  exact ⟨Int64.toInt_inj.mp (by rw [b1.1, b2.1]; omega), Int64.toInt_inj.mp (by rw [b1.2, b2.2]; omega)⟩
theorem keys_len (hW : WF Q) {b : Nat → BxR} {c : Nat} (hc : c < Q.nC) : (keys Q b c).length = SZ Q (-1) c := by
  unfold keys
  rw [List.length_map, List.length_map, FLn_len hW.wl hW.wb 21 c _ hc (rho_lt hW.wb)]
end FPT
