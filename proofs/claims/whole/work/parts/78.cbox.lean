/-! cellBox and box: the model -/
section HB2
variable {b b' q : BxR} {P P' P2 : Pts}
theorem HB.grid2 (h : HB b P) (hn : b.n = 0) {B : Int} (hB : PB P B) (hB2 : B ≤ 1000000000000) {c r : Nat} (hc : 1 ≤ c) (hr : 1 ≤ r) (I J : Nat → Prop) (hI0 : I 0) (hI1 : I (c - 1)) (hJ0 : J 0) (hJ1 : J (r - 1)) (hIc : ∀ i, I i → i < c) (hJr : ∀ j, J j → j < r) {dx dy : Int} {u v : Int64} (hu : u.toInt = (c - 1 : Int) * dx) (hv : v.toInt = (r - 1 : Int) * dy) (bu : -1000000000000 ≤ u.toInt ∧ u.toInt ≤ 1000000000000) (bv : -1000000000000 ≤ v.toInt ∧ v.toInt ≤ 1000000000000) : HB (bstretch b u v) (fun x y => ∃ x' y', ∃ i j : Nat, P x' y' ∧ I i ∧ J j ∧ x = x' + i * dx ∧ y = y' + j * dy) := by
  obtain ⟨h2, ⟨y3, h3⟩, ⟨y4, h4⟩, ⟨x5, h5⟩, ⟨x6, h6⟩⟩ := h.at hn
  have b3 := hB _ _ h3
  have b4 := hB _ _ h4
  have b5 := hB _ _ h5
  have b6 := hB _ _ h6
  have e1 : (b.x0 + u).toInt = b.x0.toInt + u.toInt := t_add (by omega) (by omega)
  have e2 : (b.x1 + u).toInt = b.x1.toInt + u.toInt := t_add (by omega) (by omega)
  have e3 : (b.y0 + v).toInt = b.y0.toInt + v.toInt := t_add (by omega) (by omega)
  have e4 : (b.y1 + v).toInt = b.y1.toInt + v.toInt := t_add (by omega) (by omega)
  refine Or.inr ⟨rfl, ?_⟩
  simp only [bstretch, bhold, hmin, hmax, if_pos hn]
  show (∀ x y, (∃ x' y', ∃ i j : Nat, P x' y' ∧ I i ∧ J j ∧ x = x' + i * dx ∧ y = y' + j * dy) → (jmin b.x0 (b.x0 + u)).toInt ≤ x ∧ x ≤ (jmax b.x1 (b.x1 + u)).toInt ∧ (jmin b.y0 (b.y0 + v)).toInt ≤ y ∧ y ≤ (jmax b.y1 (b.y1 + v)).toInt) ∧ (∃ y, ∃ x' y', ∃ i j : Nat, P x' y' ∧ I i ∧ J j ∧ (jmin b.x0 (b.x0 + u)).toInt = x' + i * dx ∧ y = y' + j * dy) ∧ (∃ y, ∃ x' y', ∃ i j : Nat, P x' y' ∧ I i ∧ J j ∧ (jmax b.x1 (b.x1 + u)).toInt = x' + i * dx ∧ y = y' + j * dy) ∧ (∃ x, ∃ x' y', ∃ i j : Nat, P x' y' ∧ I i ∧ J j ∧ x = x' + i * dx ∧ (jmin b.y0 (b.y0 + v)).toInt = y' + j * dy) ∧ ∃ x, ∃ x' y', ∃ i j : Nat, P x' y' ∧ I i ∧ J j ∧ x = x' + i * dx ∧ (jmax b.y1 (b.y1 + v)).toInt = y' + j * dy
  have hcc : ((c - 1 : Nat) : Int) = (c : Int) - 1 := by omega
  have hrr : ((r - 1 : Nat) : Int) = (r : Int) - 1 := by omega
  have z1 : ((0 : Nat) : Int) * dx = 0 := by simp
  have z2 : ((0 : Nat) : Int) * dy = 0 := by simp
  refine ⟨?_, ?_, ?_, ?_, ?_⟩
  · rintro x y ⟨x', y', i, j, hp, hi, hj, rfl, rfl⟩
    have hi := hIc i hi
    have hj := hJr j hj
    have := h2 _ _ hp
    have m1 := mul_between (i := (i : Int)) (c := (c : Int) - 1) (d := dx) (by omega) (by omega)
    have m2 := mul_between (i := (j : Int)) (c := (r : Int) - 1) (d := dy) (by omega) (by omega)
    rw [← hu] at m1
    rw [← hv] at m2
    rw [t_min, t_max, t_min, t_max, e1, e2, e3, e4]
    omega
  · rcases Int.le_total 0 u.toInt with w | w
    · exact ⟨_, _, _, 0, 0, h3, hI0, hJ0, by rw [t_min, e1, z1]; omega, rfl⟩
    · exact ⟨_, _, _, c - 1, 0, h3, hI1, hJ0, by rw [t_min, e1, hcc, ← hu]; omega, rfl⟩
  · rcases Int.le_total 0 u.toInt with w | w
    · exact ⟨_, _, _, c - 1, 0, h4, hI1, hJ0, by rw [t_max, e2, hcc, ← hu]; omega, rfl⟩
    · exact ⟨_, _, _, 0, 0, h4, hI0, hJ0, by rw [t_max, e2, z1]; omega, rfl⟩
  · rcases Int.le_total 0 v.toInt with w | w
    · exact ⟨_, _, _, 0, 0, h5, hI0, hJ0, rfl, by rw [t_min, e3, z2]; omega⟩
    · exact ⟨_, _, _, 0, r - 1, h5, hI0, hJ1, rfl, by rw [t_min, e3, hrr, ← hv]; omega⟩
  · rcases Int.le_total 0 v.toInt with w | w
    · exact ⟨_, _, _, 0, r - 1, h6, hI0, hJ1, rfl, by rw [t_max, e4, hrr, ← hv]; omega⟩
    · exact ⟨_, _, _, 0, 0, h6, hI0, hJ0, rfl, by rw [t_max, e4, z2]; omega⟩
/-- sets with one box are as good as each other -/
theorem HB.swap {S T : Pts} (hs : HB q S) (ht : HB q T) (hb : HB b (fun x y => P x y ∨ S x y)) : HB b (fun x y => P x y ∨ T x y) := by
  rcases hs with ⟨s1, s2⟩ | ⟨s1, s2, ⟨y3, s3⟩, ⟨y4, s4⟩, ⟨x5, s5⟩, ⟨x6, s6⟩⟩
  · rcases ht with ⟨-, t2⟩ | ⟨t1, -⟩
    · exact hb.cong (fun x y => or_congr Iff.rfl ⟨fun q => absurd q (s2 x y), fun q => absurd q (t2 x y)⟩)
    · rw [s1] at t1; exact absurd t1 (by decide)
  · rcases ht with ⟨t1, -⟩ | ⟨-, t2, ⟨z3, t3⟩, ⟨z4, t4⟩, ⟨w5, t5⟩, ⟨w6, t6⟩⟩
    · rw [s1] at t1; exact absurd t1 (by decide)
    · obtain ⟨b2, ⟨u3, b3⟩, ⟨u4, b4⟩, ⟨v5, b5⟩, ⟨v6, b6⟩⟩ := hb.at (hb.ne (Or.inr s3))
      refine Or.inr ⟨hb.ne (Or.inr s3), fun x y h => ?_, ?_, ?_, ?_, ?_⟩
      · rcases h with h | h
        · exact b2 x y (Or.inl h)
        · have a1 := t2 x y h
          have a2 := b2 _ _ (Or.inr s3)
          have a3 := b2 _ _ (Or.inr s4)
          have a4 := b2 _ _ (Or.inr s5)
          have a5 := b2 _ _ (Or.inr s6)
          omega
      · rcases b3 with b3 | b3
        · exact ⟨u3, Or.inl b3⟩
        · have a1 := s2 _ _ b3
          have a2 := b2 _ _ (Or.inr s3)
          rw [show b.x0.toInt = q.x0.toInt by omega]
          exact ⟨z3, Or.inr t3⟩
      · rcases b4 with b4 | b4
        · exact ⟨u4, Or.inl b4⟩
        · have a1 := s2 _ _ b4
          have a2 := b2 _ _ (Or.inr s4)
          rw [show b.x1.toInt = q.x1.toInt by omega]
          exact ⟨z4, Or.inr t4⟩
      · rcases b5 with b5 | b5
        · exact ⟨v5, Or.inl b5⟩
        · have a1 := s2 _ _ b5
          have a2 := b2 _ _ (Or.inr s5)
          rw [show b.y0.toInt = q.y0.toInt by omega]
          exact ⟨w5, Or.inr t5⟩
      · rcases b6 with b6 | b6
        · exact ⟨v6, Or.inl b6⟩
        · have a1 := s2 _ _ b6
          have a2 := b2 _ _ (Or.inr s6)
          rw [show b.y1.toInt = q.y1.toInt by omega]
          exact ⟨w6, Or.inr t6⟩
/-- the corners of a box -/
def crn (b : BxR) : Pts := fun x y => (x = b.x0.toInt ∨ x = b.x1.toInt) ∧ (y = b.y0.toInt ∨ y = b.y1.toInt)
theorem HB.corn (h : HB b P) (hn : b.n = 0) : HB b (crn b) := by
  obtain ⟨b2, ⟨u3, b3⟩, ⟨u4, b4⟩, ⟨v5, b5⟩, ⟨v6, b6⟩⟩ := h.at hn
  have a1 := b2 _ _ b3
  have a2 := b2 _ _ b5
  refine Or.inr ⟨hn, fun x y h => ?_, ⟨_, Or.inl rfl, Or.inl rfl⟩, ⟨_, Or.inr rfl, Or.inl rfl⟩, ⟨_, Or.inl rfl, Or.inl rfl⟩, ⟨_, Or.inl rfl, Or.inr rfl⟩⟩
  obtain ⟨h1, h2⟩ := h
  omega
end HB2
/-- the points that the model holds for a place -/
def P16 (r : PlR) (b : BxR) : Pts := fun x y => ∃ x' y', ∃ i j : Nat, crn b x' y' ∧ (i = 0 ∨ i = r.cols - 1) ∧ (j = 0 ∨ j = r.rows - 1) ∧ x = r.x.toInt + tXi r.turn x' y' + i * r.dx.toInt ∧ y = r.y.toInt + tYi r.turn x' y' + j * r.dy.toInt
theorem HB.p16 {Q : CS} (hL : WL Q) {p : Nat} (hp : p < Q.nP) {b : BxR} {P : Pts} (h : HB b P) (hn : b.n = 0) {B : Int} (hB : PB P B) (hB2 : B ≤ 900000000000) : HB (pbx (Q.pl p) b) (P16 (Q.pl p) b) := by
  obtain ⟨-, -, f1, f2, f3, f4, f5, f6, f7⟩ := hL.2.1 p hp
  have a2 := near_i f4
  have a3 := near_i f5
  have hcr := h.corn hn
  obtain ⟨b2, ⟨u3, b3⟩, ⟨u4, b4⟩, ⟨v5, b5⟩, ⟨v6, b6⟩⟩ := h.at hn
  have hBc : PB (crn b) B := by
    rintro x y ⟨h1, h2⟩
    have c1 := hB _ _ b3
    have c2 := hB _ _ b4
    have c3 := hB _ _ b5
    have c4 := hB _ _ b6
    omega
  have c1 : (nI ((Q.pl p).cols - 1)).toInt64.toInt = ((Q.pl p).cols : Int) - 1 := by rw [nI_64 (by omega)]; omega
  have c2 : (nI ((Q.pl p).rows - 1)).toInt64.toInt = ((Q.pl p).rows : Int) - 1 := by rw [nI_64 (by omega)]; omega
  have m1 := mul_b (i := (Q.pl p).cols - 1) (by omega) (near_i f6)
  have m2 := mul_b (i := (Q.pl p).rows - 1) (by omega) (near_i f7)
  rw [show (((Q.pl p).cols - 1 : Nat) : Int) = ((Q.pl p).cols : Int) - 1 by omega] at m1
  rw [show (((Q.pl p).rows - 1 : Nat) : Int) = ((Q.pl p).rows : Int) - 1 by omega] at m2
  have e1 : ((nI ((Q.pl p).cols - 1)).toInt64 * (Q.pl p).dx).toInt = (((Q.pl p).cols : Int) - 1) * (Q.pl p).dx.toInt := by rw [t_mul (by rw [c1]; omega) (by rw [c1]; omega), c1]
  have e2 : ((nI ((Q.pl p).rows - 1)).toInt64 * (Q.pl p).dy).toInt = (((Q.pl p).rows : Int) - 1) * (Q.pl p).dy.toInt := by rw [t_mul (by rw [c2]; omega) (by rw [c2]; omega), c2]
  have t1 := hcr.turn hn hBc (by omega) f1 (u := (Q.pl p).x) (v := (Q.pl p).y) (by omega) (by omega)
  have hB' : PB (fun x y => ∃ x' y', crn b x' y' ∧ x = (Q.pl p).x.toInt + tXi (Q.pl p).turn x' y' ∧ y = (Q.pl p).y.toInt + tYi (Q.pl p).turn x' y') (B + 1000000) := by
    rintro x y ⟨x', y', hp, rfl, rfl⟩
    have := tXi_b f1 (hBc x' y' hp)
    omega
  have t2 := t1.grid2 rfl hB' (by omega) f2.1 f3.1 (fun i => i = 0 ∨ i = (Q.pl p).cols - 1) (fun j => j = 0 ∨ j = (Q.pl p).rows - 1) (Or.inl rfl) (Or.inr rfl) (Or.inl rfl) (Or.inr rfl) (fun i h => by have := f2.1; omega) (fun j h => by have := f3.1; omega) e1 e2 (by rw [e1]; omega) (by rw [e2]; omega)
  refine t2.cong (fun x y => ?_)
  constructor
  · rintro ⟨x1, y1, i, j, ⟨x', y', hp, rfl, rfl⟩, h1, h2, rfl, rfl⟩
    exact ⟨x', y', i, j, hp, h1, h2, rfl, rfl⟩
  · rintro ⟨x', y', i, j, hp, h1, h2, rfl, rfl⟩
    exact ⟨_, _, i, j, ⟨x', y', hp, rfl, rfl⟩, h1, h2, rfl, rfl⟩
