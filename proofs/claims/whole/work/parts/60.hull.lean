/-! Numbers that do not wrap; points and their boxes -/
theorem bm64 {n : Int} (h1 : -4000000000000000000 ≤ n) (h2 : n ≤ 4000000000000000000) : n.bmod (2 ^ 64) = n := Int.bmod_eq_of_le (by omega) (by omega)
theorem t_add {a b : Int64} (h1 : -4000000000000000000 ≤ a.toInt + b.toInt) (h2 : a.toInt + b.toInt ≤ 4000000000000000000) : (a + b).toInt = a.toInt + b.toInt := by rw [Int64.toInt_add, bm64 h1 h2]
theorem t_sub {a b : Int64} (h1 : -4000000000000000000 ≤ a.toInt - b.toInt) (h2 : a.toInt - b.toInt ≤ 4000000000000000000) : (a - b).toInt = a.toInt - b.toInt := by rw [Int64.toInt_sub, bm64 h1 h2]
theorem t_neg {a : Int64} (h1 : -4000000000000000000 ≤ a.toInt) (h2 : a.toInt ≤ 4000000000000000000) : (-a).toInt = -a.toInt := by rw [Int64.toInt_neg, bm64 (by omega) (by omega)]
theorem t_mul {a b : Int64} (h1 : -4000000000000000000 ≤ a.toInt * b.toInt) (h2 : a.toInt * b.toInt ≤ 4000000000000000000) : (a * b).toInt = a.toInt * b.toInt := by rw [Int64.toInt_mul, bm64 h1 h2]
theorem t_min (a b : Int64) : (jmin a b).toInt = min a.toInt b.toInt := by
  unfold jmin
  split
  · rename_i h; rw [Int64.lt_iff_toInt_lt] at h; omega
  · rename_i h; rw [Int64.lt_iff_toInt_lt] at h; omega
theorem t_max (a b : Int64) : (jmax a b).toInt = max a.toInt b.toInt := by
  unfold jmax
  split
  · rename_i h; rw [Int64.lt_iff_toInt_lt] at h; omega
  · rename_i h; rw [Int64.lt_iff_toInt_lt] at h; omega
def tXi (k : Nat) (x y : Int) : Int := match k with
  | 0 => x | 4 => x | 1 => -y | 7 => -y | 2 => -x | 6 => -x | _ => y
def tYi (k : Nat) (x y : Int) : Int := match k with
  | 0 => y | 6 => y | 1 => x | 5 => x | 2 => -y | 4 => -y | _ => -x
theorem t_tX {k : Nat} (hk : k < 8) {x y : Int64} (hx1 : -4000000000000000000 ≤ x.toInt) (hx2 : x.toInt ≤ 4000000000000000000) (hy1 : -4000000000000000000 ≤ y.toInt) (hy2 : y.toInt ≤ 4000000000000000000) : (tX k x y).toInt = tXi k x.toInt y.toInt ∧ (tY k x y).toInt = tYi k x.toInt y.toInt := by
  rcases (show k = 0 ∨ k = 1 ∨ k = 2 ∨ k = 3 ∨ k = 4 ∨ k = 5 ∨ k = 6 ∨ k = 7 by omega) with rfl | rfl | rfl | rfl | rfl | rfl | rfl | rfl <;> simp only [tX, tY, tXi, tYi, t_neg hx1 hx2, t_neg hy1 hy2] <;> exact ⟨trivial, trivial⟩
/-- a set of points -/
abbrev Pts : Type := Int → Int → Prop
/-- the box of a set of points: nothing, or the least that holds them -/
def HB (b : BxR) (P : Pts) : Prop := (b.n = 1 ∧ ∀ x y, ¬ P x y) ∨ (b.n = 0 ∧ (∀ x y, P x y → b.x0.toInt ≤ x ∧ x ≤ b.x1.toInt ∧ b.y0.toInt ≤ y ∧ y ≤ b.y1.toInt) ∧ (∃ y, P b.x0.toInt y) ∧ (∃ y, P b.x1.toInt y) ∧ (∃ x, P x b.y0.toInt) ∧ ∃ x, P x b.y1.toInt)
def bbecome (b : BxR) (k : Nat) (u v : Int64) : BxR := (u + jmin (tX k b.x0 b.y0) (tX k b.x1 b.y1), v + jmin (tY k b.x0 b.y0) (tY k b.x1 b.y1), u + jmax (tX k b.x0 b.y0) (tX k b.x1 b.y1), v + jmax (tY k b.x0 b.y0) (tY k b.x1 b.y1), 0)
def bstretch (b : BxR) (u v : Int64) : BxR := bhold b (b.x0 + u) (b.y0 + v) (b.x1 + u) (b.y1 + v)
section HBs
variable {b b' q : BxR} {P P' P2 : Pts}
theorem HB.cong (h : HB b P) (e : ∀ x y, P x y ↔ P' x y) : HB b P' := by
  have : P = P' := by funext x y; exact propext (e x y)
  exact this ▸ h
theorem HB.ne (h : HB b P) {x y : Int} (hp : P x y) : b.n = 0 := by
  rcases h with ⟨-, h⟩ | ⟨h, -⟩
  · exact absurd hp (h x y)
  · exact h
theorem HB.at (h : HB b P) (hn : b.n = 0) : (∀ x y, P x y → b.x0.toInt ≤ x ∧ x ≤ b.x1.toInt ∧ b.y0.toInt ≤ y ∧ y ≤ b.y1.toInt) ∧ (∃ y, P b.x0.toInt y) ∧ (∃ y, P b.x1.toInt y) ∧ (∃ x, P x b.y0.toInt) ∧ ∃ x, P x b.y1.toInt := by
  rcases h with ⟨h, -⟩ | ⟨-, h⟩
  · rw [hn] at h; exact absurd h (by decide)
  · exact h
theorem HB.uniq (h : HB b P) (h' : HB b' P) : b.n = b'.n ∧ (b.n = 0 → b = b') := by
  rcases h with ⟨h1, h2⟩ | ⟨h1, h2, ⟨y3, h3⟩, ⟨y4, h4⟩, ⟨x5, h5⟩, ⟨x6, h6⟩⟩ <;> rcases h' with ⟨g1, g2⟩ | ⟨g1, g2, ⟨z3, g3⟩, ⟨z4, g4⟩, ⟨w5, g5⟩, ⟨w6, g6⟩⟩
  · exact ⟨h1.trans g1.symm, fun e => by rw [h1] at e; exact absurd e (by decide)⟩
  · exact absurd g3 (h2 _ _)
  · exact absurd h3 (g2 _ _)
  · refine ⟨h1.trans g1.symm, fun _ => ?_⟩
    have a1 := h2 _ _ g3
    have a2 := h2 _ _ g4
    have a3 := h2 _ _ g5
    have a4 := h2 _ _ g6
    have c1 := g2 _ _ h3
    have c2 := g2 _ _ h4
    have c3 := g2 _ _ h5
    have c4 := g2 _ _ h6
    refine Prod.ext (Int64.toInt.inj (by show b.x0.toInt = b'.x0.toInt; omega)) (Prod.ext (Int64.toInt.inj (by show b.y0.toInt = b'.y0.toInt; omega)) (Prod.ext (Int64.toInt.inj (by show b.x1.toInt = b'.x1.toInt; omega)) (Prod.ext (Int64.toInt.inj (by show b.y1.toInt = b'.y1.toInt; omega)) (h1.trans g1.symm))))
theorem HB.hold (h : HB b P) (hq : HB q P2) (hn : q.n = 0) : HB (bhold b q.x0 q.y0 q.x1 q.y1) (fun x y => P x y ∨ P2 x y) := by
  obtain ⟨g2, ⟨z3, g3⟩, ⟨z4, g4⟩, ⟨w5, g5⟩, ⟨w6, g6⟩⟩ := hq.at hn
  rcases h with ⟨h1, h2⟩ | ⟨h1, h2, ⟨y3, h3⟩, ⟨y4, h4⟩, ⟨x5, h5⟩, ⟨x6, h6⟩⟩
  · have hz : ¬ b.n = 0 := by rw [h1]; decide
    refine Or.inr ⟨rfl, ?_⟩
    simp only [bhold, hmin, hmax, if_neg hz]
    exact ⟨fun x y hp => hp.elim (fun hp => absurd hp (h2 x y)) (g2 x y), ⟨z3, Or.inr g3⟩, ⟨z4, Or.inr g4⟩, ⟨w5, Or.inr g5⟩, ⟨w6, Or.inr g6⟩⟩
  · refine Or.inr ⟨rfl, ?_⟩
    simp only [bhold, hmin, hmax, if_pos h1]
    show (∀ x y, (P x y ∨ P2 x y) → (jmin b.x0 q.x0).toInt ≤ x ∧ x ≤ (jmax b.x1 q.x1).toInt ∧ (jmin b.y0 q.y0).toInt ≤ y ∧ y ≤ (jmax b.y1 q.y1).toInt) ∧ (∃ y, P (jmin b.x0 q.x0).toInt y ∨ P2 (jmin b.x0 q.x0).toInt y) ∧ (∃ y, P (jmax b.x1 q.x1).toInt y ∨ P2 (jmax b.x1 q.x1).toInt y) ∧ (∃ x, P x (jmin b.y0 q.y0).toInt ∨ P2 x (jmin b.y0 q.y0).toInt) ∧ ∃ x, P x (jmax b.y1 q.y1).toInt ∨ P2 x (jmax b.y1 q.y1).toInt
    refine ⟨fun x y hp => ?_, ?_, ?_, ?_, ?_⟩
    · simp only [t_min, t_max]
      rcases hp with hp | hp
      · have := h2 x y hp; omega
      · have := g2 x y hp; omega
    · unfold jmin; split
      · exact ⟨z3, Or.inr g3⟩
      · exact ⟨y3, Or.inl h3⟩
    · unfold jmax; split
      · exact ⟨z4, Or.inr g4⟩
      · exact ⟨y4, Or.inl h4⟩
    · unfold jmin; split
      · exact ⟨w5, Or.inr g5⟩
      · exact ⟨x5, Or.inl h5⟩
    · unfold jmax; split
      · exact ⟨w6, Or.inr g6⟩
      · exact ⟨x6, Or.inl h6⟩
/-- bounds of the points -/
def PB (P : Pts) (B : Int) : Prop := ∀ x y, P x y → -B ≤ x ∧ x ≤ B ∧ -B ≤ y ∧ y ≤ B
theorem HB.turn (h : HB b P) (hn : b.n = 0) {B : Int} (hB : PB P B) (hB2 : B ≤ 1000000000000) {k : Nat} (hk : k < 8) {u v : Int64} (hu : -1000000000000 ≤ u.toInt ∧ u.toInt ≤ 1000000000000) (hv : -1000000000000 ≤ v.toInt ∧ v.toInt ≤ 1000000000000) : HB (bbecome b k u v) (fun x y => ∃ x' y', P x' y' ∧ x = u.toInt + tXi k x' y' ∧ y = v.toInt + tYi k x' y') := by
  obtain ⟨h2, ⟨y3, h3⟩, ⟨y4, h4⟩, ⟨x5, h5⟩, ⟨x6, h6⟩⟩ := h.at hn
  have b3 := hB _ _ h3
  have b4 := hB _ _ h4
  have b5 := hB _ _ h5
  have b6 := hB _ _ h6
  have c3 := h2 _ _ h3
  have c4 := h2 _ _ h4
  have c5 := h2 _ _ h5
  have c6 := h2 _ _ h6
  have e1 := t_tX hk (x := b.x0) (y := b.y0) (by omega) (by omega) (by omega) (by omega)
  have e2 := t_tX hk (x := b.x1) (y := b.y1) (by omega) (by omega) (by omega) (by omega)
  have f1 : (bbecome b k u v).x0.toInt = u.toInt + min (tXi k b.x0.toInt b.y0.toInt) (tXi k b.x1.toInt b.y1.toInt) ∧ (bbecome b k u v).y0.toInt = v.toInt + min (tYi k b.x0.toInt b.y0.toInt) (tYi k b.x1.toInt b.y1.toInt) ∧ (bbecome b k u v).x1.toInt = u.toInt + max (tXi k b.x0.toInt b.y0.toInt) (tXi k b.x1.toInt b.y1.toInt) ∧ (bbecome b k u v).y1.toInt = v.toInt + max (tYi k b.x0.toInt b.y0.toInt) (tYi k b.x1.toInt b.y1.toInt) := by
    have g1 := t_min (tX k b.x0 b.y0) (tX k b.x1 b.y1)
    have g2 := t_min (tY k b.x0 b.y0) (tY k b.x1 b.y1)
    have g3 := t_max (tX k b.x0 b.y0) (tX k b.x1 b.y1)
    have g4 := t_max (tY k b.x0 b.y0) (tY k b.x1 b.y1)
    rw [e1.1, e2.1] at g1 g3
    rw [e1.2, e2.2] at g2 g4
    have i1 : -1000000000000 ≤ tXi k b.x0.toInt b.y0.toInt ∧ tXi k b.x0.toInt b.y0.toInt ≤ 1000000000000 ∧ -1000000000000 ≤ tXi k b.x1.toInt b.y1.toInt ∧ tXi k b.x1.toInt b.y1.toInt ≤ 1000000000000 ∧ -1000000000000 ≤ tYi k b.x0.toInt b.y0.toInt ∧ tYi k b.x0.toInt b.y0.toInt ≤ 1000000000000 ∧ -1000000000000 ≤ tYi k b.x1.toInt b.y1.toInt ∧ tYi k b.x1.toInt b.y1.toInt ≤ 1000000000000 := by
      rcases (show k = 0 ∨ k = 1 ∨ k = 2 ∨ k = 3 ∨ k = 4 ∨ k = 5 ∨ k = 6 ∨ k = 7 by omega) with rfl | rfl | rfl | rfl | rfl | rfl | rfl | rfl <;> simp only [tXi, tYi] <;> omega
    refine ⟨?_, ?_, ?_, ?_⟩
    · exact (t_add (by omega) (by omega)).trans (by rw [g1])
    · exact (t_add (by omega) (by omega)).trans (by rw [g2])
    · exact (t_add (by omega) (by omega)).trans (by rw [g3])
    · exact (t_add (by omega) (by omega)).trans (by rw [g4])
  obtain ⟨f1, f2, f3, f4⟩ := f1
  refine Or.inr ⟨rfl, ?_⟩
  rw [f1, f2, f3, f4]
  rcases (show k = 0 ∨ k = 1 ∨ k = 2 ∨ k = 3 ∨ k = 4 ∨ k = 5 ∨ k = 6 ∨ k = 7 by omega) with rfl | rfl | rfl | rfl | rfl | rfl | rfl | rfl <;> simp only [tXi, tYi] <;> refine ⟨fun x y hp => ?_, ?_, ?_, ?_, ?_⟩
  all_goals first | (obtain ⟨x', y', hp, rfl, rfl⟩ := hp; have := h2 _ _ hp; omega) | exact ⟨_, _, _, h3, by omega, rfl⟩ | exact ⟨_, _, _, h4, by omega, rfl⟩ | exact ⟨_, _, _, h5, by omega, rfl⟩ | exact ⟨_, _, _, h6, by omega, rfl⟩ | exact ⟨_, _, _, h3, rfl, by omega⟩ | exact ⟨_, _, _, h4, rfl, by omega⟩ | exact ⟨_, _, _, h5, rfl, by omega⟩ | exact ⟨_, _, _, h6, rfl, by omega⟩
theorem mul_between {i c d : Int} (h1 : 0 ≤ i) (h2 : i ≤ c) : min 0 (c * d) ≤ i * d ∧ i * d ≤ max 0 (c * d) := by
  rcases Int.le_total 0 d with hd | hd
  · have a1 : 0 ≤ i * d := Int.mul_nonneg h1 hd
    have a2 : i * d ≤ c * d := Int.mul_le_mul_of_nonneg_right h2 hd
    omega
  · have a1 : i * d ≤ 0 := Int.mul_nonpos_of_nonneg_of_nonpos h1 hd
    have a2 : c * d ≤ i * d := Int.mul_le_mul_of_nonpos_right h2 hd
    omega
theorem HB.grid (h : HB b P) (hn : b.n = 0) {B : Int} (hB : PB P B) (hB2 : B ≤ 1000000000000) {c r : Nat} (hc : 1 ≤ c) (hr : 1 ≤ r) {dx dy : Int} {u v : Int64} (hu : u.toInt = (c - 1 : Int) * dx) (hv : v.toInt = (r - 1 : Int) * dy) (bu : -1000000000000 ≤ u.toInt ∧ u.toInt ≤ 1000000000000) (bv : -1000000000000 ≤ v.toInt ∧ v.toInt ≤ 1000000000000) : HB (bstretch b u v) (fun x y => ∃ x' y', ∃ i j : Nat, P x' y' ∧ i < c ∧ j < r ∧ x = x' + i * dx ∧ y = y' + j * dy) := by
  obtain ⟨h2, ⟨y3, h3⟩, ⟨y4, h4⟩, ⟨x5, h5⟩, ⟨x6, h6⟩⟩ := h.at hn
  have b3 := hB _ _ h3
  have b4 := hB _ _ h4
  have b5 := hB _ _ h5
  have b6 := hB _ _ h6
  have e1 : (b.x0 + u).toInt = b.x0.toInt + u.toInt := t_add (by omega) (by omega)
  have e2 : (b.x1 + u).toInt = b.x1.toInt + u.toInt := t_add (by omega) (by omega)
  have e3 : (b.y0 + v).toInt = b.y0.toInt + v.toInt := t_add (by omega) (by omega)
  have e4 : (b.y1 + v).toInt = b.y1.toInt + v.toInt := t_add (by omega) (by omega)
  refine Or.inr ⟨rfl, ?_⟩
  simp only [bstretch, bhold, hmin, hmax, if_pos hn]
  show (∀ x y, (∃ x' y', ∃ i j : Nat, P x' y' ∧ i < c ∧ j < r ∧ x = x' + i * dx ∧ y = y' + j * dy) → (jmin b.x0 (b.x0 + u)).toInt ≤ x ∧ x ≤ (jmax b.x1 (b.x1 + u)).toInt ∧ (jmin b.y0 (b.y0 + v)).toInt ≤ y ∧ y ≤ (jmax b.y1 (b.y1 + v)).toInt) ∧ (∃ y, ∃ x' y', ∃ i j : Nat, P x' y' ∧ i < c ∧ j < r ∧ (jmin b.x0 (b.x0 + u)).toInt = x' + i * dx ∧ y = y' + j * dy) ∧ (∃ y, ∃ x' y', ∃ i j : Nat, P x' y' ∧ i < c ∧ j < r ∧ (jmax b.x1 (b.x1 + u)).toInt = x' + i * dx ∧ y = y' + j * dy) ∧ (∃ x, ∃ x' y', ∃ i j : Nat, P x' y' ∧ i < c ∧ j < r ∧ x = x' + i * dx ∧ (jmin b.y0 (b.y0 + v)).toInt = y' + j * dy) ∧ ∃ x, ∃ x' y', ∃ i j : Nat, P x' y' ∧ i < c ∧ j < r ∧ x = x' + i * dx ∧ (jmax b.y1 (b.y1 + v)).toInt = y' + j * dy
  have hcc : ((c - 1 : Nat) : Int) = (c : Int) - 1 := by omega
  have hrr : ((r - 1 : Nat) : Int) = (r : Int) - 1 := by omega
  have z1 : ((0 : Nat) : Int) * dx = 0 := by simp
  have z2 : ((0 : Nat) : Int) * dy = 0 := by simp
  refine ⟨?_, ?_, ?_, ?_, ?_⟩
  · rintro x y ⟨x', y', i, j, hp, hi, hj, rfl, rfl⟩
    have := h2 _ _ hp
    have m1 := mul_between (i := (i : Int)) (c := (c : Int) - 1) (d := dx) (by omega) (by omega)
    have m2 := mul_between (i := (j : Int)) (c := (r : Int) - 1) (d := dy) (by omega) (by omega)
    rw [← hu] at m1
    rw [← hv] at m2
    rw [t_min, t_max, t_min, t_max, e1, e2, e3, e4]
    omega
  · rcases Int.le_total 0 u.toInt with w | w
    · exact ⟨_, _, _, 0, 0, h3, by omega, by omega, by rw [t_min, e1, z1]; omega, rfl⟩
    · exact ⟨_, _, _, c - 1, 0, h3, by omega, by omega, by rw [t_min, e1, hcc, ← hu]; omega, rfl⟩
  · rcases Int.le_total 0 u.toInt with w | w
    · exact ⟨_, _, _, c - 1, 0, h4, by omega, by omega, by rw [t_max, e2, hcc, ← hu]; omega, rfl⟩
    · exact ⟨_, _, _, 0, 0, h4, by omega, by omega, by rw [t_max, e2, z1]; omega, rfl⟩
  · rcases Int.le_total 0 v.toInt with w | w
    · exact ⟨_, _, _, 0, 0, h5, by omega, by omega, rfl, by rw [t_min, e3, z2]; omega⟩
    · exact ⟨_, _, _, 0, r - 1, h5, by omega, by omega, rfl, by rw [t_min, e3, hrr, ← hv]; omega⟩
  · rcases Int.le_total 0 v.toInt with w | w
    · exact ⟨_, _, _, 0, r - 1, h6, by omega, by omega, rfl, by rw [t_max, e4, hrr, ← hv]; omega⟩
    · exact ⟨_, _, _, 0, 0, h6, by omega, by omega, rfl, by rw [t_max, e4, z2]; omega⟩
end HBs
