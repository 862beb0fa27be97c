/-! Pieces of paths, turned -/
theorem HB.ext {b : BxR} {P P' : Pts} (h : HB b P) (h1 : ∀ x y, P x y → P' x y) (h2 : ∀ x y, P' x y → (∃ y', P x y') ∧ ∃ x', P x' y) : HB b P' := by
  rcases h with ⟨a1, a2⟩ | ⟨a1, a2, ⟨y3, a3⟩, ⟨y4, a4⟩, ⟨x5, a5⟩, ⟨x6, a6⟩⟩
  · exact Or.inl ⟨a1, fun x y hp => by obtain ⟨⟨y', q⟩, -⟩ := h2 x y hp; exact a2 _ _ q⟩
  · refine Or.inr ⟨a1, fun x y hp => ?_, ⟨y3, h1 _ _ a3⟩, ⟨y4, h1 _ _ a4⟩, ⟨x5, h1 _ _ a5⟩, ⟨x6, h1 _ _ a6⟩⟩
    obtain ⟨⟨y', q1⟩, ⟨x', q2⟩⟩ := h2 x y hp
    have := a2 _ _ q1
    have := a2 _ _ q2
    omega
theorem HB.pt (x y : Int64) : HB (x, y, x, y, 0) (fun a b => a = x.toInt ∧ b = y.toInt) := Or.inr ⟨rfl, fun a b h => by obtain ⟨rfl, rfl⟩ := h; exact ⟨Int.le_refl _, Int.le_refl _, Int.le_refl _, Int.le_refl _⟩, ⟨_, rfl, rfl⟩, ⟨_, rfl, rfl⟩, ⟨_, rfl, rfl⟩, ⟨_, rfl, rfl⟩⟩
/-- points turned and moved -/
def TIm (k : Nat) (X Y : Int) (P : Pts) : Pts := fun x y => ∃ x' y', P x' y' ∧ x = X + tXi k x' y' ∧ y = Y + tYi k x' y'
/-- what the points of a shape need -/
def WPt (r : ShR) : Prop := (∀ k, k < r.cnt → nearB (r.xs k) ∧ nearB (r.ys k)) ∧ (r.w = 0 ∨ wideB r.w) ∧ (0 < r.w → ∀ k, 1 ≤ k → k < r.cnt → ¬ ((r.xs (k - 1) = r.xs k) ↔ (r.ys (k - 1) = r.ys k)))
section PIE
variable {r : ShR} {k : Nat}
theorem half_i (h : wideB r.w) : (r.w / 2).toInt = r.w.toInt / 2 ∧ 1 ≤ (r.w / 2).toInt ∧ (r.w / 2).toInt ≤ 500 := by
  obtain ⟨h1, h2, -⟩ := h
  rw [Int64.lt_iff_toInt_lt] at h1 h2
  have e1 : (2 : Int64).toInt = 2 := by decide
  have e2 : (1000 : Int64).toInt = 1000 := by decide
  have e3 : (r.w / 2).toInt = r.w.toInt / 2 := by
    rw [Int64.toInt_div, e1, Int.tdiv_eq_ediv_of_nonneg (by omega), bm64 (by omega) (by omega)]
  omega
theorem bf_i (h : wideB r.w) : (pBefore r k).toInt = (if r.ends = 1 ∧ k = 1 then (r.w / 2).toInt else 0) ∧ 0 ≤ (pBefore r k).toInt ∧ (pBefore r k).toInt ≤ 500 := by
  have := half_i h
  unfold pBefore
  split
  · exact ⟨rfl, by omega, by omega⟩
  · exact ⟨rfl, by decide, by decide⟩
theorem bh_i (h : wideB r.w) : (pBehind r k).toInt = (if r.ends = 1 ∧ k = r.cnt - 1 then (r.w / 2).toInt else 0) ∧ 0 ≤ (pBehind r k).toInt ∧ (pBehind r k).toInt ≤ 500 := by
  have := half_i h
  unfold pBehind
  split
  · exact ⟨rfl, by omega, by omega⟩
  · exact ⟨rfl, by decide, by decide⟩
theorem m1 (v : Int64) : (1 : Int32).toInt64 * v = v := by rw [show (1 : Int32).toInt64 = 1 by decide]; exact Int64.one_mul v
theorem m0 (v : Int64) : (0 : Int32).toInt64 * v = 0 := by rw [show (0 : Int32).toInt64 = 0 by decide]; exact Int64.zero_mul
theorem mn (v : Int64) : (-1 : Int32).toInt64 * v = -v := by rw [show (-1 : Int32).toInt64 = -1 by decide]; rw [Int64.neg_mul, Int64.one_mul]
theorem z1 (a v : Int) : a = a - 0 * v := by omega
theorem z2 (a v : Int) : a - v = a - 1 * v := by omega
theorem z3 (a v : Int) : a + v = a - -1 * v := by omega
theorem z4 (a v : Int) : a = a + 0 * v := by omega
theorem z5 (a v : Int) : a + v = a + 1 * v := by omega
theorem z6 (a v : Int) : a - v = a + -1 * v := by omega
theorem z7 {a b : Int} (h : a < b) : 0 < 1 * (b - a) := by omega
theorem z8 {a b : Int} (h : b < a) : 0 < -1 * (b - a) := by omega
theorem pcg {a v : Int64} (ha : -1000000 ≤ a.toInt ∧ a.toInt ≤ 1000000) (hv : 0 ≤ v.toInt ∧ v.toInt ≤ 500) : (a - v).toInt = a.toInt - v.toInt ∧ (a + v).toInt = a.toInt + v.toInt ∧ (a - -v).toInt = a.toInt + v.toInt ∧ (a + -v).toInt = a.toInt - v.toInt ∧ (a - 0).toInt = a.toInt ∧ (a + 0).toInt = a.toInt := by
  have en : (-v).toInt = -v.toInt := t_neg (by omega) (by omega)
  have e0 : (0 : Int64).toInt = 0 := by decide
  refine ⟨t_sub (by omega) (by omega), t_add (by omega) (by omega), ?_, ?_, ?_, ?_⟩
  · rw [t_sub (by rw [en]; omega) (by rw [en]; omega), en]; omega
  · rw [t_add (by rw [en]; omega) (by rw [en]; omega), en]; omega
  · rw [t_sub (by rw [e0]; omega) (by rw [e0]; omega), e0]; omega
  · rw [t_add (by rw [e0]; omega) (by rw [e0]; omega), e0]; omega
theorem pcd {a b : Int64} (ha : -1000000 ≤ a.toInt ∧ a.toInt ≤ 1000000) (hb : -1000000 ≤ b.toInt ∧ b.toInt ≤ 1000000) : (a - b).toInt = a.toInt - b.toInt := t_sub (by omega) (by omega)
/-- a piece lies along one axis -/
theorem pc_dir (hw : WPt r) (hp : 0 < r.w) (h1 : 1 ≤ k) (h2 : k < r.cnt) : ∃ sx sy : Int, (((sx = 1 ∨ sx = -1) ∧ sy = 0 ∧ (r.ys (k - 1)).toInt = (r.ys k).toInt ∧ 0 < sx * ((r.xs k).toInt - (r.xs (k - 1)).toInt) ∧ (pCx r k).toInt = 0 ∧ (pCy r k).toInt = (r.w / 2).toInt) ∨ ((sy = 1 ∨ sy = -1) ∧ sx = 0 ∧ (r.xs (k - 1)).toInt = (r.xs k).toInt ∧ 0 < sy * ((r.ys k).toInt - (r.ys (k - 1)).toInt) ∧ (pCx r k).toInt = (r.w / 2).toInt ∧ (pCy r k).toInt = 0)) ∧ (pAx r k).toInt = (r.xs (k - 1)).toInt - sx * (pBefore r k).toInt ∧ (pAy r k).toInt = (r.ys (k - 1)).toInt - sy * (pBefore r k).toInt ∧ (pBx r k).toInt = (r.xs k).toInt + sx * (pBehind r k).toInt ∧ (pBy r k).toInt = (r.ys k).toInt + sy * (pBehind r k).toInt := by
  obtain ⟨w1, w2, w3⟩ := hw
  have hwd : wideB r.w := by
    rcases w2 with w2 | w2
    · rw [w2] at hp; exact absurd hp (by decide)
    · exact w2
  have hx := w3 hp k h1 h2
  have n1 := near_i (w1 k h2).1
  have n2 := near_i (w1 k h2).2
  have n3 := near_i (w1 (k - 1) (by omega)).1
  have n4 := near_i (w1 (k - 1) (by omega)).2
  have b1 := bf_i (k := k) hwd
  have b2 := bh_i (k := k) hwd
  have dx : (r.xs k - r.xs (k - 1)).toInt = (r.xs k).toInt - (r.xs (k - 1)).toInt := pcd n1 n3
  have dy : (r.ys k - r.ys (k - 1)).toInt = (r.ys k).toInt - (r.ys (k - 1)).toInt := pcd n2 n4
  have i1 := pcg n3 b1.2
  have i2 := pcg n4 b1.2
  have i3 := pcg n1 b2.2
  have i4 := pcg n2 b2.2
  by_cases hX : r.xs (k - 1) = r.xs k
  · have hY : ¬ r.ys (k - 1) = r.ys k := fun e => hx ⟨fun _ => e, fun _ => hX⟩
    have hY' : ¬ (r.ys (k - 1)).toInt = (r.ys k).toInt := fun e => hY (Int64.toInt.inj e)
    have sX : pSx r k = 0 := jsgn_z (by rw [dx, hX]; exact Int.sub_self _)
    have cX : (pCx r k).toInt = (r.w / 2).toInt := by unfold pCx; rw [if_pos sX]
    rcases Int.lt_or_gt_of_ne hY' with q | q
    · have sY : pSy r k = 1 := jsgn_p (by rw [dy]; exact Int.sub_pos_of_lt q)
      refine ⟨0, 1, Or.inr ⟨Or.inl rfl, rfl, by rw [hX], z7 q, cX, by unfold pCy; rw [sY]; rfl⟩, ?_⟩
      unfold pAx pAy pBx pBy
      rw [sX, sY, m0, m1, m0, m1]
      exact ⟨i1.2.2.2.2.1.trans (z1 _ _), i2.1.trans (z2 _ _), i3.2.2.2.2.2.trans (z4 _ _), i4.2.1.trans (z5 _ _)⟩
    · have sY : pSy r k = -1 := jsgn_n (by rw [dy]; exact Int.sub_neg_of_lt q)
      refine ⟨0, -1, Or.inr ⟨Or.inr rfl, rfl, by rw [hX], z8 q, cX, by unfold pCy; rw [sY]; rfl⟩, ?_⟩
      unfold pAx pAy pBx pBy
      rw [sX, sY, m0, mn, m0, mn]
      exact ⟨i1.2.2.2.2.1.trans (z1 _ _), i2.2.2.1.trans (z3 _ _), i3.2.2.2.2.2.trans (z4 _ _), i4.2.2.2.1.trans (z6 _ _)⟩
  · have hY : r.ys (k - 1) = r.ys k := Classical.byContradiction fun e => hx ⟨fun q => absurd q hX, fun q => absurd q e⟩
    have hX' : ¬ (r.xs (k - 1)).toInt = (r.xs k).toInt := fun e => hX (Int64.toInt.inj e)
    have sY : pSy r k = 0 := jsgn_z (by rw [dy, hY]; exact Int.sub_self _)
    have cY : (pCy r k).toInt = (r.w / 2).toInt := by unfold pCy; rw [if_pos sY]
    rcases Int.lt_or_gt_of_ne hX' with q | q
    · have sX : pSx r k = 1 := jsgn_p (by rw [dx]; exact Int.sub_pos_of_lt q)
      refine ⟨1, 0, Or.inl ⟨Or.inl rfl, rfl, by rw [hY], z7 q, by unfold pCx; rw [sX]; rfl, cY⟩, ?_⟩
      unfold pAx pAy pBx pBy
      rw [sX, sY, m0, m1, m0, m1]
      exact ⟨i1.1.trans (z2 _ _), i2.2.2.2.2.1.trans (z1 _ _), i3.2.1.trans (z5 _ _), i4.2.2.2.2.2.trans (z4 _ _)⟩
    · have sX : pSx r k = -1 := jsgn_n (by rw [dx]; exact Int.sub_neg_of_lt q)
      refine ⟨-1, 0, Or.inl ⟨Or.inr rfl, rfl, by rw [hY], z8 q, by unfold pCx; rw [sX]; rfl, cY⟩, ?_⟩
      unfold pAx pAy pBx pBy
      rw [sX, sY, m0, mn, m0, mn]
      exact ⟨i1.2.2.1.trans (z3 _ _), i2.2.2.2.2.1.trans (z1 _ _), i3.2.2.2.1.trans (z6 _ _), i4.2.2.2.2.2.trans (z4 _ _)⟩
end PIE
/-- eight points about two -/
def pc8 (ax ay bx by_ cx cy : Int) : Pts := fun x y => ∃ e f : Int, (e = 1 ∨ e = -1) ∧ (f = 1 ∨ f = -1) ∧ ((x = ax + e * cx ∧ y = ay + f * cy) ∨ (x = bx + e * cx ∧ y = by_ + f * cy))
theorem pc8_t {k : Nat} (hk : k < 8) {X Y ax ay bx by_ cx cy : Int} (x y : Int) : TIm k X Y (pc8 ax ay bx by_ cx cy) x y ↔ pc8 (X + tXi k ax ay) (Y + tYi k ax ay) (X + tXi k bx by_) (Y + tYi k bx by_) (if k % 2 = 0 then cx else cy) (if k % 2 = 0 then cy else cx) x y := by
  rcases (show k = 0 ∨ k = 1 ∨ k = 2 ∨ k = 3 ∨ k = 4 ∨ k = 5 ∨ k = 6 ∨ k = 7 by omega) with rfl | rfl | rfl | rfl | rfl | rfl | rfl | rfl
  · constructor
    · rintro ⟨x', y', ⟨e, f, he, hf, h⟩, hx, hy⟩
      refine ⟨e, f, by omega, by omega, ?_⟩
      rcases h with ⟨rfl, rfl⟩ | ⟨rfl, rfl⟩
      · exact Or.inl ⟨hx.trans (by show X + tXi 0 (ax + e * cx) (ay + f * cy) = X + tXi 0 ax ay + (e) * cx; simp only [tXi, Int.neg_mul]; omega), hy.trans (by show Y + tYi 0 (ax + e * cx) (ay + f * cy) = Y + tYi 0 ax ay + (f) * cy; simp only [tYi, Int.neg_mul]; omega)⟩
      · exact Or.inr ⟨hx.trans (by show X + tXi 0 (bx + e * cx) (by_ + f * cy) = X + tXi 0 bx by_ + (e) * cx; simp only [tXi, Int.neg_mul]; omega), hy.trans (by show Y + tYi 0 (bx + e * cx) (by_ + f * cy) = Y + tYi 0 bx by_ + (f) * cy; simp only [tYi, Int.neg_mul]; omega)⟩
    · rintro ⟨e, f, he, hf, h⟩
      rcases h with ⟨hx, hy⟩ | ⟨hx, hy⟩
      · refine ⟨ax + (e) * cx, ay + (f) * cy, ⟨e, f, by omega, by omega, Or.inl ⟨rfl, rfl⟩⟩, hx.trans ?_, hy.trans ?_⟩
        · show X + tXi 0 ax ay + e * cx = X + tXi 0 (ax + (e) * cx) (ay + (f) * cy)
          simp only [tXi, Int.neg_mul]
          omega
        · show Y + tYi 0 ax ay + f * cy = Y + tYi 0 (ax + (e) * cx) (ay + (f) * cy)
          simp only [tYi, Int.neg_mul]
          omega
      · refine ⟨bx + (e) * cx, by_ + (f) * cy, ⟨e, f, by omega, by omega, Or.inr ⟨rfl, rfl⟩⟩, hx.trans ?_, hy.trans ?_⟩
        · show X + tXi 0 bx by_ + e * cx = X + tXi 0 (bx + (e) * cx) (by_ + (f) * cy)
          simp only [tXi, Int.neg_mul]
          omega
        · show Y + tYi 0 bx by_ + f * cy = Y + tYi 0 (bx + (e) * cx) (by_ + (f) * cy)
          simp only [tYi, Int.neg_mul]
          omega
  · constructor
    · rintro ⟨x', y', ⟨e, f, he, hf, h⟩, hx, hy⟩
      refine ⟨-f, e, by omega, by omega, ?_⟩
      rcases h with ⟨rfl, rfl⟩ | ⟨rfl, rfl⟩
      · exact Or.inl ⟨hx.trans (by show X + tXi 1 (ax + e * cx) (ay + f * cy) = X + tXi 1 ax ay + (-f) * cy; simp only [tXi, Int.neg_mul]; omega), hy.trans (by show Y + tYi 1 (ax + e * cx) (ay + f * cy) = Y + tYi 1 ax ay + (e) * cx; simp only [tYi, Int.neg_mul]; omega)⟩
      · exact Or.inr ⟨hx.trans (by show X + tXi 1 (bx + e * cx) (by_ + f * cy) = X + tXi 1 bx by_ + (-f) * cy; simp only [tXi, Int.neg_mul]; omega), hy.trans (by show Y + tYi 1 (bx + e * cx) (by_ + f * cy) = Y + tYi 1 bx by_ + (e) * cx; simp only [tYi, Int.neg_mul]; omega)⟩
    · rintro ⟨e, f, he, hf, h⟩
      rcases h with ⟨hx, hy⟩ | ⟨hx, hy⟩
      · refine ⟨ax + (f) * cx, ay + (-e) * cy, ⟨f, -e, by omega, by omega, Or.inl ⟨rfl, rfl⟩⟩, hx.trans ?_, hy.trans ?_⟩
        · show X + tXi 1 ax ay + e * cy = X + tXi 1 (ax + (f) * cx) (ay + (-e) * cy)
          simp only [tXi, Int.neg_mul]
          omega
        · show Y + tYi 1 ax ay + f * cx = Y + tYi 1 (ax + (f) * cx) (ay + (-e) * cy)
          simp only [tYi, Int.neg_mul]
          omega
      · refine ⟨bx + (f) * cx, by_ + (-e) * cy, ⟨f, -e, by omega, by omega, Or.inr ⟨rfl, rfl⟩⟩, hx.trans ?_, hy.trans ?_⟩
        · show X + tXi 1 bx by_ + e * cy = X + tXi 1 (bx + (f) * cx) (by_ + (-e) * cy)
          simp only [tXi, Int.neg_mul]
          omega
        · show Y + tYi 1 bx by_ + f * cx = Y + tYi 1 (bx + (f) * cx) (by_ + (-e) * cy)
          simp only [tYi, Int.neg_mul]
          omega
  · constructor
    · rintro ⟨x', y', ⟨e, f, he, hf, h⟩, hx, hy⟩
      refine ⟨-e, -f, by omega, by omega, ?_⟩
      rcases h with ⟨rfl, rfl⟩ | ⟨rfl, rfl⟩
      · exact Or.inl ⟨hx.trans (by show X + tXi 2 (ax + e * cx) (ay + f * cy) = X + tXi 2 ax ay + (-e) * cx; simp only [tXi, Int.neg_mul]; omega), hy.trans (by show Y + tYi 2 (ax + e * cx) (ay + f * cy) = Y + tYi 2 ax ay + (-f) * cy; simp only [tYi, Int.neg_mul]; omega)⟩
      · exact Or.inr ⟨hx.trans (by show X + tXi 2 (bx + e * cx) (by_ + f * cy) = X + tXi 2 bx by_ + (-e) * cx; simp only [tXi, Int.neg_mul]; omega), hy.trans (by show Y + tYi 2 (bx + e * cx) (by_ + f * cy) = Y + tYi 2 bx by_ + (-f) * cy; simp only [tYi, Int.neg_mul]; omega)⟩
    · rintro ⟨e, f, he, hf, h⟩
      rcases h with ⟨hx, hy⟩ | ⟨hx, hy⟩
      · refine ⟨ax + (-e) * cx, ay + (-f) * cy, ⟨-e, -f, by omega, by omega, Or.inl ⟨rfl, rfl⟩⟩, hx.trans ?_, hy.trans ?_⟩
        · show X + tXi 2 ax ay + e * cx = X + tXi 2 (ax + (-e) * cx) (ay + (-f) * cy)
          simp only [tXi, Int.neg_mul]
          omega
        · show Y + tYi 2 ax ay + f * cy = Y + tYi 2 (ax + (-e) * cx) (ay + (-f) * cy)
          simp only [tYi, Int.neg_mul]
          omega
      · refine ⟨bx + (-e) * cx, by_ + (-f) * cy, ⟨-e, -f, by omega, by omega, Or.inr ⟨rfl, rfl⟩⟩, hx.trans ?_, hy.trans ?_⟩
        · show X + tXi 2 bx by_ + e * cx = X + tXi 2 (bx + (-e) * cx) (by_ + (-f) * cy)
          simp only [tXi, Int.neg_mul]
          omega
        · show Y + tYi 2 bx by_ + f * cy = Y + tYi 2 (bx + (-e) * cx) (by_ + (-f) * cy)
          simp only [tYi, Int.neg_mul]
          omega
  · constructor
    · rintro ⟨x', y', ⟨e, f, he, hf, h⟩, hx, hy⟩
      refine ⟨f, -e, by omega, by omega, ?_⟩
      rcases h with ⟨rfl, rfl⟩ | ⟨rfl, rfl⟩
      · exact Or.inl ⟨hx.trans (by show X + tXi 3 (ax + e * cx) (ay + f * cy) = X + tXi 3 ax ay + (f) * cy; simp only [tXi, Int.neg_mul]; omega), hy.trans (by show Y + tYi 3 (ax + e * cx) (ay + f * cy) = Y + tYi 3 ax ay + (-e) * cx; simp only [tYi, Int.neg_mul]; omega)⟩
      · exact Or.inr ⟨hx.trans (by show X + tXi 3 (bx + e * cx) (by_ + f * cy) = X + tXi 3 bx by_ + (f) * cy; simp only [tXi, Int.neg_mul]; omega), hy.trans (by show Y + tYi 3 (bx + e * cx) (by_ + f * cy) = Y + tYi 3 bx by_ + (-e) * cx; simp only [tYi, Int.neg_mul]; omega)⟩
    · rintro ⟨e, f, he, hf, h⟩
      rcases h with ⟨hx, hy⟩ | ⟨hx, hy⟩
      · refine ⟨ax + (-f) * cx, ay + (e) * cy, ⟨-f, e, by omega, by omega, Or.inl ⟨rfl, rfl⟩⟩, hx.trans ?_, hy.trans ?_⟩
        · show X + tXi 3 ax ay + e * cy = X + tXi 3 (ax + (-f) * cx) (ay + (e) * cy)
          simp only [tXi, Int.neg_mul]
          omega
        · show Y + tYi 3 ax ay + f * cx = Y + tYi 3 (ax + (-f) * cx) (ay + (e) * cy)
          simp only [tYi, Int.neg_mul]
          omega
      · refine ⟨bx + (-f) * cx, by_ + (e) * cy, ⟨-f, e, by omega, by omega, Or.inr ⟨rfl, rfl⟩⟩, hx.trans ?_, hy.trans ?_⟩
        · show X + tXi 3 bx by_ + e * cy = X + tXi 3 (bx + (-f) * cx) (by_ + (e) * cy)
          simp only [tXi, Int.neg_mul]
          omega
        · show Y + tYi 3 bx by_ + f * cx = Y + tYi 3 (bx + (-f) * cx) (by_ + (e) * cy)
          simp only [tYi, Int.neg_mul]
          omega
  · constructor
    · rintro ⟨x', y', ⟨e, f, he, hf, h⟩, hx, hy⟩
      refine ⟨e, -f, by omega, by omega, ?_⟩
      rcases h with ⟨rfl, rfl⟩ | ⟨rfl, rfl⟩
      · exact Or.inl ⟨hx.trans (by show X + tXi 4 (ax + e * cx) (ay + f * cy) = X + tXi 4 ax ay + (e) * cx; simp only [tXi, Int.neg_mul]; omega), hy.trans (by show Y + tYi 4 (ax + e * cx) (ay + f * cy) = Y + tYi 4 ax ay + (-f) * cy; simp only [tYi, Int.neg_mul]; omega)⟩
      · exact Or.inr ⟨hx.trans (by show X + tXi 4 (bx + e * cx) (by_ + f * cy) = X + tXi 4 bx by_ + (e) * cx; simp only [tXi, Int.neg_mul]; omega), hy.trans (by show Y + tYi 4 (bx + e * cx) (by_ + f * cy) = Y + tYi 4 bx by_ + (-f) * cy; simp only [tYi, Int.neg_mul]; omega)⟩
    · rintro ⟨e, f, he, hf, h⟩
      rcases h with ⟨hx, hy⟩ | ⟨hx, hy⟩
      · refine ⟨ax + (e) * cx, ay + (-f) * cy, ⟨e, -f, by omega, by omega, Or.inl ⟨rfl, rfl⟩⟩, hx.trans ?_, hy.trans ?_⟩
        · show X + tXi 4 ax ay + e * cx = X + tXi 4 (ax + (e) * cx) (ay + (-f) * cy)
          simp only [tXi, Int.neg_mul]
          omega
        · show Y + tYi 4 ax ay + f * cy = Y + tYi 4 (ax + (e) * cx) (ay + (-f) * cy)
          simp only [tYi, Int.neg_mul]
          omega
      · refine ⟨bx + (e) * cx, by_ + (-f) * cy, ⟨e, -f, by omega, by omega, Or.inr ⟨rfl, rfl⟩⟩, hx.trans ?_, hy.trans ?_⟩
        · show X + tXi 4 bx by_ + e * cx = X + tXi 4 (bx + (e) * cx) (by_ + (-f) * cy)
          simp only [tXi, Int.neg_mul]
          omega
        · show Y + tYi 4 bx by_ + f * cy = Y + tYi 4 (bx + (e) * cx) (by_ + (-f) * cy)
          simp only [tYi, Int.neg_mul]
          omega
  · constructor
    · rintro ⟨x', y', ⟨e, f, he, hf, h⟩, hx, hy⟩
      refine ⟨f, e, by omega, by omega, ?_⟩
      rcases h with ⟨rfl, rfl⟩ | ⟨rfl, rfl⟩
      · exact Or.inl ⟨hx.trans (by show X + tXi 5 (ax + e * cx) (ay + f * cy) = X + tXi 5 ax ay + (f) * cy; simp only [tXi, Int.neg_mul]; omega), hy.trans (by show Y + tYi 5 (ax + e * cx) (ay + f * cy) = Y + tYi 5 ax ay + (e) * cx; simp only [tYi, Int.neg_mul]; omega)⟩
      · exact Or.inr ⟨hx.trans (by show X + tXi 5 (bx + e * cx) (by_ + f * cy) = X + tXi 5 bx by_ + (f) * cy; simp only [tXi, Int.neg_mul]; omega), hy.trans (by show Y + tYi 5 (bx + e * cx) (by_ + f * cy) = Y + tYi 5 bx by_ + (e) * cx; simp only [tYi, Int.neg_mul]; omega)⟩
    · rintro ⟨e, f, he, hf, h⟩
      rcases h with ⟨hx, hy⟩ | ⟨hx, hy⟩
      · refine ⟨ax + (f) * cx, ay + (e) * cy, ⟨f, e, by omega, by omega, Or.inl ⟨rfl, rfl⟩⟩, hx.trans ?_, hy.trans ?_⟩
        · show X + tXi 5 ax ay + e * cy = X + tXi 5 (ax + (f) * cx) (ay + (e) * cy)
          simp only [tXi, Int.neg_mul]
          omega
        · show Y + tYi 5 ax ay + f * cx = Y + tYi 5 (ax + (f) * cx) (ay + (e) * cy)
          simp only [tYi, Int.neg_mul]
          omega
      · refine ⟨bx + (f) * cx, by_ + (e) * cy, ⟨f, e, by omega, by omega, Or.inr ⟨rfl, rfl⟩⟩, hx.trans ?_, hy.trans ?_⟩
        · show X + tXi 5 bx by_ + e * cy = X + tXi 5 (bx + (f) * cx) (by_ + (e) * cy)
          simp only [tXi, Int.neg_mul]
          omega
        · show Y + tYi 5 bx by_ + f * cx = Y + tYi 5 (bx + (f) * cx) (by_ + (e) * cy)
          simp only [tYi, Int.neg_mul]
          omega
  · constructor
    · rintro ⟨x', y', ⟨e, f, he, hf, h⟩, hx, hy⟩
      refine ⟨-e, f, by omega, by omega, ?_⟩
      rcases h with ⟨rfl, rfl⟩ | ⟨rfl, rfl⟩
      · exact Or.inl ⟨hx.trans (by show X + tXi 6 (ax + e * cx) (ay + f * cy) = X + tXi 6 ax ay + (-e) * cx; simp only [tXi, Int.neg_mul]; omega), hy.trans (by show Y + tYi 6 (ax + e * cx) (ay + f * cy) = Y + tYi 6 ax ay + (f) * cy; simp only [tYi, Int.neg_mul]; omega)⟩
      · exact Or.inr ⟨hx.trans (by show X + tXi 6 (bx + e * cx) (by_ + f * cy) = X + tXi 6 bx by_ + (-e) * cx; simp only [tXi, Int.neg_mul]; omega), hy.trans (by show Y + tYi 6 (bx + e * cx) (by_ + f * cy) = Y + tYi 6 bx by_ + (f) * cy; simp only [tYi, Int.neg_mul]; omega)⟩
    · rintro ⟨e, f, he, hf, h⟩
      rcases h with ⟨hx, hy⟩ | ⟨hx, hy⟩
      · refine ⟨ax + (-e) * cx, ay + (f) * cy, ⟨-e, f, by omega, by omega, Or.inl ⟨rfl, rfl⟩⟩, hx.trans ?_, hy.trans ?_⟩
        · show X + tXi 6 ax ay + e * cx = X + tXi 6 (ax + (-e) * cx) (ay + (f) * cy)
          simp only [tXi, Int.neg_mul]
          omega
        · show Y + tYi 6 ax ay + f * cy = Y + tYi 6 (ax + (-e) * cx) (ay + (f) * cy)
          simp only [tYi, Int.neg_mul]
          omega
      · refine ⟨bx + (-e) * cx, by_ + (f) * cy, ⟨-e, f, by omega, by omega, Or.inr ⟨rfl, rfl⟩⟩, hx.trans ?_, hy.trans ?_⟩
        · show X + tXi 6 bx by_ + e * cx = X + tXi 6 (bx + (-e) * cx) (by_ + (f) * cy)
          simp only [tXi, Int.neg_mul]
          omega
        · show Y + tYi 6 bx by_ + f * cy = Y + tYi 6 (bx + (-e) * cx) (by_ + (f) * cy)
          simp only [tYi, Int.neg_mul]
          omega
  · constructor
    · rintro ⟨x', y', ⟨e, f, he, hf, h⟩, hx, hy⟩
      refine ⟨-f, -e, by omega, by omega, ?_⟩
      rcases h with ⟨rfl, rfl⟩ | ⟨rfl, rfl⟩
      · exact Or.inl ⟨hx.trans (by show X + tXi 7 (ax + e * cx) (ay + f * cy) = X + tXi 7 ax ay + (-f) * cy; simp only [tXi, Int.neg_mul]; omega), hy.trans (by show Y + tYi 7 (ax + e * cx) (ay + f * cy) = Y + tYi 7 ax ay + (-e) * cx; simp only [tYi, Int.neg_mul]; omega)⟩
      · exact Or.inr ⟨hx.trans (by show X + tXi 7 (bx + e * cx) (by_ + f * cy) = X + tXi 7 bx by_ + (-f) * cy; simp only [tXi, Int.neg_mul]; omega), hy.trans (by show Y + tYi 7 (bx + e * cx) (by_ + f * cy) = Y + tYi 7 bx by_ + (-e) * cx; simp only [tYi, Int.neg_mul]; omega)⟩
    · rintro ⟨e, f, he, hf, h⟩
      rcases h with ⟨hx, hy⟩ | ⟨hx, hy⟩
      · refine ⟨ax + (-f) * cx, ay + (-e) * cy, ⟨-f, -e, by omega, by omega, Or.inl ⟨rfl, rfl⟩⟩, hx.trans ?_, hy.trans ?_⟩
        · show X + tXi 7 ax ay + e * cy = X + tXi 7 (ax + (-f) * cx) (ay + (-e) * cy)
          simp only [tXi, Int.neg_mul]
          omega
        · show Y + tYi 7 ax ay + f * cx = Y + tYi 7 (ax + (-f) * cx) (ay + (-e) * cy)
          simp only [tYi, Int.neg_mul]
          omega
      · refine ⟨bx + (-f) * cx, by_ + (-e) * cy, ⟨-f, -e, by omega, by omega, Or.inr ⟨rfl, rfl⟩⟩, hx.trans ?_, hy.trans ?_⟩
        · show X + tXi 7 bx by_ + e * cy = X + tXi 7 (bx + (-f) * cx) (by_ + (-e) * cy)
          simp only [tXi, Int.neg_mul]
          omega
        · show Y + tYi 7 bx by_ + f * cx = Y + tYi 7 (bx + (-f) * cx) (by_ + (-e) * cy)
          simp only [tYi, Int.neg_mul]
          omega
/-- the two points that the model holds for a piece -/
def two (ax ay bx by_ h bf bh : Int) : Pts := fun x y => if ay = by_ then (x = ax - (if ax < bx then 1 else -1) * bf ∧ y = ay - h) ∨ (x = bx + (if ax < bx then 1 else -1) * bh ∧ y = ay + h) else (x = ax - h ∧ y = ay - (if ay < by_ then 1 else -1) * bf) ∨ (x = ax + h ∧ y = by_ + (if ay < by_ then 1 else -1) * bh)
/-- they span the piece's points: sx, sy its way, before the turn -/
theorem two_pc {ax ay bx by_ h bf bh sx sy cx cy : Int} (hd : ((sx = 1 ∨ sx = -1) ∧ sy = 0 ∧ ay = by_ ∧ 0 < sx * (bx - ax) ∧ cx = 0 ∧ cy = h) ∨ ((sy = 1 ∨ sy = -1) ∧ sx = 0 ∧ ax = bx ∧ 0 < sy * (by_ - ay) ∧ cx = h ∧ cy = 0)) : (∀ x y, two ax ay bx by_ h bf bh x y → pc8 (ax - sx * bf) (ay - sy * bf) (bx + sx * bh) (by_ + sy * bh) cx cy x y) ∧ ∀ x y, pc8 (ax - sx * bf) (ay - sy * bf) (bx + sx * bh) (by_ + sy * bh) cx cy x y → (∃ y', two ax ay bx by_ h bf bh x y') ∧ ∃ x', two ax ay bx by_ h bf bh x' y := by
  rcases hd with ⟨hs, hsy, rfl, hl, hcx, hcy⟩ | ⟨hs, hsx, rfl, hl, hcx, hcy⟩
  · have hw : (if ax < bx then (1 : Int) else -1) = sx := by
      rcases hs with rfl | rfl
      · rw [if_pos (by omega)]
      · rw [if_neg (by omega)]
    have ht : ∀ x y, two ax ay bx ay h bf bh x y ↔ (x = ax - sx * bf ∧ y = ay - h) ∨ (x = bx + sx * bh ∧ y = ay + h) := by
      intro x y
      unfold two
      rw [if_pos rfl, hw]
    constructor
    · intro x y hxy
      rcases (ht x y).mp hxy with ⟨rfl, rfl⟩ | ⟨rfl, rfl⟩
      · exact ⟨1, -1, Or.inl rfl, Or.inr rfl, Or.inl ⟨by omega, by rw [hsy]; omega⟩⟩
      · exact ⟨1, 1, Or.inl rfl, Or.inl rfl, Or.inr ⟨by omega, by rw [hsy]; omega⟩⟩
    · rintro x y ⟨e, f, he, hf, h8⟩
      have hx : x = ax - sx * bf ∨ x = bx + sx * bh := by rcases he with rfl | rfl <;> rcases h8 with h8 | h8 <;> omega
      have hy : y = ay - h ∨ y = ay + h := by rw [hsy] at h8; rcases hf with rfl | rfl <;> rcases h8 with h8 | h8 <;> omega
      constructor
      · rcases hx with hx | hx
        · exact ⟨ay - h, (ht _ _).mpr (Or.inl ⟨hx, rfl⟩)⟩
        · exact ⟨ay + h, (ht _ _).mpr (Or.inr ⟨hx, rfl⟩)⟩
      · rcases hy with hy | hy
        · exact ⟨ax - sx * bf, (ht _ _).mpr (Or.inl ⟨rfl, hy⟩)⟩
        · exact ⟨bx + sx * bh, (ht _ _).mpr (Or.inr ⟨rfl, hy⟩)⟩
  · have hne : ¬ ay = by_ := by
      rintro rfl
      rw [Int.sub_self, Int.mul_zero] at hl
      exact absurd hl (Int.lt_irrefl _)
    have hw : (if ay < by_ then (1 : Int) else -1) = sy := by
      rcases hs with rfl | rfl
      · rw [if_pos (by omega)]
      · rw [if_neg (by omega)]
    have ht : ∀ x y, two ax ay ax by_ h bf bh x y ↔ (x = ax - h ∧ y = ay - sy * bf) ∨ (x = ax + h ∧ y = by_ + sy * bh) := by
      intro x y
      unfold two
      rw [if_neg hne, hw]
    constructor
    · intro x y hxy
      rcases (ht x y).mp hxy with ⟨rfl, rfl⟩ | ⟨rfl, rfl⟩
      · exact ⟨-1, 1, Or.inr rfl, Or.inl rfl, Or.inl ⟨by rw [hsx]; omega, by omega⟩⟩
      · exact ⟨1, 1, Or.inl rfl, Or.inl rfl, Or.inr ⟨by rw [hsx]; omega, by omega⟩⟩
    · rintro x y ⟨e, f, he, hf, h8⟩
      have hy : y = ay - sy * bf ∨ y = by_ + sy * bh := by rcases hf with rfl | rfl <;> rcases h8 with h8 | h8 <;> omega
      have hx : x = ax - h ∨ x = ax + h := by rw [hsx] at h8; rcases he with rfl | rfl <;> rcases h8 with h8 | h8 <;> omega
      constructor
      · rcases hx with hx | hx
        · exact ⟨ay - sy * bf, (ht _ _).mpr (Or.inl ⟨hx, rfl⟩)⟩
        · exact ⟨by_ + sy * bh, (ht _ _).mpr (Or.inr ⟨hx, rfl⟩)⟩
      · rcases hy with hy | hy
        · exact ⟨ax - h, (ht _ _).mpr (Or.inl ⟨rfl, hy⟩)⟩
        · exact ⟨ax + h, (ht _ _).mpr (Or.inr ⟨rfl, hy⟩)⟩
/-- a path's piece, turned: what the model holds spans it -/
theorem two_t {r : ShR} {k : Nat} (hw : WPt r) (hp : 0 < r.w) (h1 : 1 ≤ k) (h2 : k < r.cnt) {t : Nat} (ht : t < 8) (X Y : Int) : (∀ x y, two (X + tXi t (r.xs (k - 1)).toInt (r.ys (k - 1)).toInt) (Y + tYi t (r.xs (k - 1)).toInt (r.ys (k - 1)).toInt) (X + tXi t (r.xs k).toInt (r.ys k).toInt) (Y + tYi t (r.xs k).toInt (r.ys k).toInt) (r.w / 2).toInt (pBefore r k).toInt (pBehind r k).toInt x y → TIm t X Y (PcP r k) x y) ∧ ∀ x y, TIm t X Y (PcP r k) x y → (∃ y', two (X + tXi t (r.xs (k - 1)).toInt (r.ys (k - 1)).toInt) (Y + tYi t (r.xs (k - 1)).toInt (r.ys (k - 1)).toInt) (X + tXi t (r.xs k).toInt (r.ys k).toInt) (Y + tYi t (r.xs k).toInt (r.ys k).toInt) (r.w / 2).toInt (pBefore r k).toInt (pBehind r k).toInt x y') ∧ ∃ x', two (X + tXi t (r.xs (k - 1)).toInt (r.ys (k - 1)).toInt) (Y + tYi t (r.xs (k - 1)).toInt (r.ys (k - 1)).toInt) (X + tXi t (r.xs k).toInt (r.ys k).toInt) (Y + tYi t (r.xs k).toInt (r.ys k).toInt) (r.w / 2).toInt (pBefore r k).toInt (pBehind r k).toInt x' y := by
  obtain ⟨sx, sy, hd, a1, a2, a3, a4⟩ := pc_dir hw hp h1 h2
  have hT : ∀ x y, TIm t X Y (PcP r k) x y ↔ pc8 (X + tXi t (pAx r k).toInt (pAy r k).toInt) (Y + tYi t (pAx r k).toInt (pAy r k).toInt) (X + tXi t (pBx r k).toInt (pBy r k).toInt) (Y + tYi t (pBx r k).toInt (pBy r k).toInt) (if t % 2 = 0 then (pCx r k).toInt else (pCy r k).toInt) (if t % 2 = 0 then (pCy r k).toInt else (pCx r k).toInt) x y := fun x y => pc8_t ht x y
  rw [a1, a2, a3, a4] at hT
  generalize (r.xs (k - 1)).toInt = x1 at *
  generalize (r.ys (k - 1)).toInt = y1 at *
  generalize (r.xs k).toInt = x2 at *
  generalize (r.ys k).toInt = y2 at *
  generalize (pBefore r k).toInt = bf at *
  generalize (pBehind r k).toInt = bh at *
  generalize (r.w / 2).toInt = hh at *
  generalize (pCx r k).toInt = cx at *
  generalize (pCy r k).toInt = cy at *
  clear a1 a2 a3 a4 hw hp h1 h2
  have key : ∃ sx' sy' cx' cy' : Int, (((sx' = 1 ∨ sx' = -1) ∧ sy' = 0 ∧ Y + tYi t x1 y1 = Y + tYi t x2 y2 ∧ 0 < sx' * ((X + tXi t x2 y2) - (X + tXi t x1 y1)) ∧ cx' = 0 ∧ cy' = hh) ∨ ((sy' = 1 ∨ sy' = -1) ∧ sx' = 0 ∧ X + tXi t x1 y1 = X + tXi t x2 y2 ∧ 0 < sy' * ((Y + tYi t x2 y2) - (Y + tYi t x1 y1)) ∧ cx' = hh ∧ cy' = 0)) ∧ ∀ x y, TIm t X Y (PcP r k) x y ↔ pc8 ((X + tXi t x1 y1) - sx' * bf) ((Y + tYi t x1 y1) - sy' * bf) ((X + tXi t x2 y2) + sx' * bh) ((Y + tYi t x2 y2) + sy' * bh) cx' cy' x y := by
    rcases (show t = 0 ∨ t = 1 ∨ t = 2 ∨ t = 3 ∨ t = 4 ∨ t = 5 ∨ t = 6 ∨ t = 7 by omega) with rfl | rfl | rfl | rfl | rfl | rfl | rfl | rfl
    · refine ⟨sx, sy, cx, cy, ?_, fun x y => (hT x y).trans ?_⟩
      · simp only [tXi, tYi]
        rcases hd with ⟨q1, q2, q3, q4, q5, q6⟩ | ⟨q1, q2, q3, q4, q5, q6⟩
        · exact Or.inl ⟨by omega, by omega, by omega, by (rcases q1 with rfl | rfl <;> omega), by omega, by omega⟩
        · exact Or.inr ⟨by omega, by omega, by omega, by (rcases q1 with rfl | rfl <;> omega), by omega, by omega⟩
      · refine Eq.to_iff ?_
        congr 1
        all_goals simp only [tXi, tYi, Int.neg_mul] <;> first | rfl | omega
    · refine ⟨-sy, sx, cy, cx, ?_, fun x y => (hT x y).trans ?_⟩
      · simp only [tXi, tYi]
        rcases hd with ⟨q1, q2, q3, q4, q5, q6⟩ | ⟨q1, q2, q3, q4, q5, q6⟩
        · exact Or.inr ⟨by omega, by omega, by omega, by (rcases q1 with rfl | rfl <;> omega), by omega, by omega⟩
        · exact Or.inl ⟨by omega, by omega, by omega, by (rcases q1 with rfl | rfl <;> omega), by omega, by omega⟩
      · refine Eq.to_iff ?_
        congr 1
        all_goals simp only [tXi, tYi, Int.neg_mul] <;> first | rfl | omega
    · refine ⟨-sx, -sy, cx, cy, ?_, fun x y => (hT x y).trans ?_⟩
      · simp only [tXi, tYi]
        rcases hd with ⟨q1, q2, q3, q4, q5, q6⟩ | ⟨q1, q2, q3, q4, q5, q6⟩
        · exact Or.inl ⟨by omega, by omega, by omega, by (rcases q1 with rfl | rfl <;> omega), by omega, by omega⟩
        · exact Or.inr ⟨by omega, by omega, by omega, by (rcases q1 with rfl | rfl <;> omega), by omega, by omega⟩
      · refine Eq.to_iff ?_
        congr 1
        all_goals simp only [tXi, tYi, Int.neg_mul] <;> first | rfl | omega
    · refine ⟨sy, -sx, cy, cx, ?_, fun x y => (hT x y).trans ?_⟩
      · simp only [tXi, tYi]
        rcases hd with ⟨q1, q2, q3, q4, q5, q6⟩ | ⟨q1, q2, q3, q4, q5, q6⟩
        · exact Or.inr ⟨by omega, by omega, by omega, by (rcases q1 with rfl | rfl <;> omega), by omega, by omega⟩
        · exact Or.inl ⟨by omega, by omega, by omega, by (rcases q1 with rfl | rfl <;> omega), by omega, by omega⟩
      · refine Eq.to_iff ?_
        congr 1
        all_goals simp only [tXi, tYi, Int.neg_mul] <;> first | rfl | omega
    · refine ⟨sx, -sy, cx, cy, ?_, fun x y => (hT x y).trans ?_⟩
      · simp only [tXi, tYi]
        rcases hd with ⟨q1, q2, q3, q4, q5, q6⟩ | ⟨q1, q2, q3, q4, q5, q6⟩
        · exact Or.inl ⟨by omega, by omega, by omega, by (rcases q1 with rfl | rfl <;> omega), by omega, by omega⟩
        · exact Or.inr ⟨by omega, by omega, by omega, by (rcases q1 with rfl | rfl <;> omega), by omega, by omega⟩
      · refine Eq.to_iff ?_
        congr 1
        all_goals simp only [tXi, tYi, Int.neg_mul] <;> first | rfl | omega
    · refine ⟨sy, sx, cy, cx, ?_, fun x y => (hT x y).trans ?_⟩
      · simp only [tXi, tYi]
        rcases hd with ⟨q1, q2, q3, q4, q5, q6⟩ | ⟨q1, q2, q3, q4, q5, q6⟩
        · exact Or.inr ⟨by omega, by omega, by omega, by (rcases q1 with rfl | rfl <;> omega), by omega, by omega⟩
        · exact Or.inl ⟨by omega, by omega, by omega, by (rcases q1 with rfl | rfl <;> omega), by omega, by omega⟩
      · refine Eq.to_iff ?_
        congr 1
        all_goals simp only [tXi, tYi, Int.neg_mul] <;> first | rfl | omega
    · refine ⟨-sx, sy, cx, cy, ?_, fun x y => (hT x y).trans ?_⟩
      · simp only [tXi, tYi]
        rcases hd with ⟨q1, q2, q3, q4, q5, q6⟩ | ⟨q1, q2, q3, q4, q5, q6⟩
        · exact Or.inl ⟨by omega, by omega, by omega, by (rcases q1 with rfl | rfl <;> omega), by omega, by omega⟩
        · exact Or.inr ⟨by omega, by omega, by omega, by (rcases q1 with rfl | rfl <;> omega), by omega, by omega⟩
      · refine Eq.to_iff ?_
        congr 1
        all_goals simp only [tXi, tYi, Int.neg_mul] <;> first | rfl | omega
    · refine ⟨-sy, -sx, cy, cx, ?_, fun x y => (hT x y).trans ?_⟩
      · simp only [tXi, tYi]
        rcases hd with ⟨q1, q2, q3, q4, q5, q6⟩ | ⟨q1, q2, q3, q4, q5, q6⟩
        · exact Or.inr ⟨by omega, by omega, by omega, by (rcases q1 with rfl | rfl <;> omega), by omega, by omega⟩
        · exact Or.inl ⟨by omega, by omega, by omega, by (rcases q1 with rfl | rfl <;> omega), by omega, by omega⟩
      · refine Eq.to_iff ?_
        congr 1
        all_goals simp only [tXi, tYi, Int.neg_mul] <;> first | rfl | omega
  obtain ⟨sx', sy', cx', cy', h5, h6⟩ := key
  obtain ⟨h7, h8⟩ := two_pc (bf := bf) (bh := bh) h5
  exact ⟨fun x y q => (h6 x y).mpr (h7 x y q), fun x y q => h8 x y ((h6 x y).mp q)⟩
