/-! Points of shapes and of cells; how many shapes a cell has laid flat -/
/-- the corners of a path's piece -/
def PcP (r : ShR) (k : Nat) : Pts := fun x y => ∃ e f : Int, (e = 1 ∨ e = -1) ∧ (f = 1 ∨ f = -1) ∧ ((x = (pAx r k).toInt + e * (pCx r k).toInt ∧ y = (pAy r k).toInt + f * (pCy r k).toInt) ∨ (x = (pBx r k).toInt + e * (pCx r k).toInt ∧ y = (pBy r k).toInt + f * (pCy r k).toInt))
def SPt (r : ShR) : Pts := fun x y => (0 < r.w ∧ ∃ k, 1 ≤ k ∧ k < r.cnt ∧ PcP r k x y) ∨ (¬ 0 < r.w ∧ ∃ k, k < r.cnt ∧ x = (r.xs k).toInt ∧ y = (r.ys k).toInt)
def onB (r : ShR) (lay : Int32) : Bool := decide (son r.layer r.w (nI r.cnt) r.drop lay = 1)
/-- a place's points out of those of its cell -/
def PIm (r : PlR) (P : Pts) : Pts := fun x y => ∃ x' y', ∃ i j : Nat, P x' y' ∧ i < r.cols ∧ j < r.rows ∧ x = r.x.toInt + tXi r.turn x' y' + i * r.dx.toInt ∧ y = r.y.toInt + tYi r.turn x' y' + j * r.dy.toInt
def SZn (Q : CS) (lay : Int32) : Nat → Nat → Nat
  | 0, _ => 0
  | n + 1, c => ((Q.ce c).ss.filter (fun s => onB (Q.sh s) lay)).length + ((Q.ce c).ps.map (fun p => (Q.pl p).cols * (Q.pl p).rows * SZn Q lay n (Q.pl p).of)).sum
def PTn (Q : CS) (lay : Int32) : Nat → Nat → Pts
  | 0, _ => fun _ _ => False
  | n + 1, c => fun x y => (∃ s, s ∈ (Q.ce c).ss ∧ onB (Q.sh s) lay = true ∧ SPt (Q.sh s) x y) ∨ ∃ p, p ∈ (Q.ce c).ps ∧ PIm (Q.pl p) (PTn Q lay n (Q.pl p).of) x y
abbrev SZ (Q : CS) (lay : Int32) (c : Nat) : Nat := SZn Q lay 21 c
abbrev PT (Q : CS) (lay : Int32) (c : Nat) : Pts := PTn Q lay 21 c
noncomputable abbrev rho (Q : CS) (c : Nat) : Nat := rnk (Ed Q) Q.nC c
section STS
variable {Q : CS} {lay : Int32} {c p s n m : Nat}
theorem WL.mem (hL : WL Q) (hc : c < Q.nC) (hp : p ∈ (Q.ce c).ps) : p < Q.nP ∧ (Q.pl p).of < Q.nC ∧ rho Q (Q.pl p).of < rho Q c := by
  obtain ⟨h1, h2⟩ := (hL.ps hc).mp hp
  exact ⟨h1, (hL.2.1 p h1).2.1, rnk_lt hL.2.2 hc ⟨p, h1, h2, rfl⟩⟩
theorem SZn_st (hL : WL Q) : ∀ (n m c : Nat), c < Q.nC → rho Q c < n → rho Q c < m → SZn Q lay n c = SZn Q lay m c
  | 0, _, _, _, h, _ => absurd h (Nat.not_lt_zero _)
  | _ + 1, 0, _, _, _, h => absurd h (Nat.not_lt_zero _)
  | n + 1, m + 1, c, hc, h1, h2 => by
    show _ + _ = _ + _
    refine congrArg (((Q.ce c).ss.filter (fun s => onB (Q.sh s) lay)).length + ·) (congrArg List.sum (List.map_congr_left fun p hp => ?_))
    obtain ⟨-, h3, h4⟩ := hL.mem hc hp
    rw [SZn_st hL n m _ h3 (by omega) (by omega)]
theorem PTn_st (hL : WL Q) : ∀ (n m c : Nat), c < Q.nC → rho Q c < n → rho Q c < m → PTn Q lay n c = PTn Q lay m c
  | 0, _, _, _, h, _ => absurd h (Nat.not_lt_zero _)
  | _ + 1, 0, _, _, _, h => absurd h (Nat.not_lt_zero _)
  | n + 1, m + 1, c, hc, h1, h2 => by
    funext x y
    refine propext (or_congr Iff.rfl (exists_congr fun p => and_congr_right fun hp => ?_))
    obtain ⟨-, h3, h4⟩ := hL.mem hc hp
    rw [PTn_st hL n m _ h3 (by omega) (by omega)]
theorem rho_lt (hW : WB Q) : rho Q c < 21 := by
  have := rnk_le (E := Ed Q) (n := Q.nC) (a := c)
  have := hW.1
  show rnk _ _ _ < 21
  omega
theorem SZ_eq (hW : WB Q) (hL : WL Q) (hc : c < Q.nC) : SZ Q lay c = ((Q.ce c).ss.filter (fun s => onB (Q.sh s) lay)).length + ((Q.ce c).ps.map (fun p => (Q.pl p).cols * (Q.pl p).rows * SZ Q lay (Q.pl p).of)).sum := by
  show _ + _ = _ + _
  refine congrArg (((Q.ce c).ss.filter (fun s => onB (Q.sh s) lay)).length + ·) (congrArg List.sum (List.map_congr_left fun p hp => ?_))
  obtain ⟨-, h3, h4⟩ := hL.mem hc hp
  have := rho_lt (c := c) hW
  rw [SZn_st hL 20 21 _ h3 (by omega) (by omega)]
theorem PT_eq (hW : WB Q) (hL : WL Q) (hc : c < Q.nC) (x y : Int) : PT Q lay c x y ↔ (∃ s, s ∈ (Q.ce c).ss ∧ onB (Q.sh s) lay = true ∧ SPt (Q.sh s) x y) ∨ ∃ p, p ∈ (Q.ce c).ps ∧ PIm (Q.pl p) (PT Q lay (Q.pl p).of) x y := by
  refine or_congr Iff.rfl (exists_congr fun p => and_congr_right fun hp => ?_)
  obtain ⟨-, h3, h4⟩ := hL.mem hc hp
  have := rho_lt (c := c) hW
  rw [PTn_st hL 20 21 _ h3 (by omega) (by omega)]
theorem sum0 {f : Nat → Nat} : ∀ (xs : List Nat), (xs.map f).sum = 0 ↔ ∀ x, x ∈ xs → f x = 0
  | [] => by simp
  | x :: xs => by
    rw [List.map_cons, List.sum_cons]
    constructor
    · intro h y hy
      rcases List.mem_cons.mp hy with rfl | hy
      · omega
      · exact (sum0 xs).mp (by omega) y hy
    · intro h
      have h1 := h x List.mem_cons_self
      have h2 := (sum0 xs).mpr (fun y hy => h y (List.mem_cons_of_mem _ hy))
      omega
/-- shapes that are well made: what boxes need of them -/
def WX (Q : CS) : Prop := ∀ s, s < Q.nS → (Q.sh s).cnt ≤ 24 ∧ HB (Q.sh s).bx (SPt (Q.sh s)) ∧ PB (SPt (Q.sh s)) 1010000 ∧ ∀ lay, onB (Q.sh s) lay = true → ∃ x y, SPt (Q.sh s) x y
theorem SZ_0 (hL : WL Q) (hX : WX Q) : ∀ (n c : Nat), c < Q.nC → (SZn Q lay n c = 0 ↔ ∀ x y, ¬ PTn Q lay n c x y)
  | 0, _, _ => ⟨fun _ _ _ h => h, fun _ => rfl⟩
  | n + 1, c, hc => by
    constructor
    · intro h x y hp
      have h : ((Q.ce c).ss.filter (fun s => onB (Q.sh s) lay)).length + ((Q.ce c).ps.map (fun p => (Q.pl p).cols * (Q.pl p).rows * SZn Q lay n (Q.pl p).of)).sum = 0 := h
      rcases hp with ⟨s, h1, h2, -⟩ | ⟨p, h1, x', y', i, j, h2, h3, h4, -⟩
      · have : s ∈ (Q.ce c).ss.filter (fun s => onB (Q.sh s) lay) := List.mem_filter.mpr ⟨h1, h2⟩
        have := List.length_pos_of_mem this
        omega
      · have h5 := (sum0 _).mp (show ((Q.ce c).ps.map (fun p => (Q.pl p).cols * (Q.pl p).rows * SZn Q lay n (Q.pl p).of)).sum = 0 by omega) p h1
        have h6 : SZn Q lay n (Q.pl p).of = 0 := by
          rcases Nat.mul_eq_zero.mp h5 with h5 | h5
          · rcases Nat.mul_eq_zero.mp h5 with h5 | h5 <;> omega
          · exact h5
        exact (SZ_0 hL hX n _ (hL.mem hc h1).2.1).mp h6 x' y' h2
    · intro h
      have h1 : ((Q.ce c).ss.filter (fun s => onB (Q.sh s) lay)).length = 0 := by
        rw [List.length_eq_zero_iff, List.filter_eq_nil_iff]
        intro s hs hon
        obtain ⟨x, y, hp⟩ := (hX s ((hL.ss hc).mp hs).1).2.2.2 lay hon
        exact h x y (Or.inl ⟨s, hs, hon, hp⟩)
      have h2 : ((Q.ce c).ps.map (fun p => (Q.pl p).cols * (Q.pl p).rows * SZn Q lay n (Q.pl p).of)).sum = 0 := by
        refine (sum0 _).mpr (fun p hp => ?_)
        obtain ⟨h3, h4, -⟩ := hL.mem hc hp
        have h5 := (SZ_0 hL hX n _ h4).mpr (fun x y hq => h _ _ (Or.inr ⟨p, hp, x, y, 0, 0, hq, (hL.2.1 p h3).2.2.2.1.1, (hL.2.1 p h3).2.2.2.2.1.1, rfl, rfl⟩))
        rw [h5, Nat.mul_zero]
      show _ + _ = 0
      omega
theorem near_i {v : Int64} (h : nearB v) : -1000000 ≤ v.toInt ∧ v.toInt ≤ 1000000 := by
  obtain ⟨h1, h2⟩ := h
  rw [Int64.le_iff_toInt_le] at h1 h2
  have e1 : (-1000000 : Int64).toInt = -1000000 := by decide
  have e2 : (1000000 : Int64).toInt = 1000000 := by decide
  omega
theorem tXi_b {k : Nat} (hk : k < 8) {x y B : Int} (h : -B ≤ x ∧ x ≤ B ∧ -B ≤ y ∧ y ≤ B) : -B ≤ tXi k x y ∧ tXi k x y ≤ B ∧ -B ≤ tYi k x y ∧ tYi k x y ≤ B := by
  rcases (show k = 0 ∨ k = 1 ∨ k = 2 ∨ k = 3 ∨ k = 4 ∨ k = 5 ∨ k = 6 ∨ k = 7 by omega) with rfl | rfl | rfl | rfl | rfl | rfl | rfl | rfl <;> simp only [tXi, tYi] <;> omega
theorem mul_b {i : Nat} {d : Int} (hi : i < 20) (hd : -1000000 ≤ d ∧ d ≤ 1000000) : -19000000 ≤ (i : Int) * d ∧ (i : Int) * d ≤ 19000000 := by
  have h1 : (i : Int) * d ≤ i * 1000000 := Int.mul_le_mul_of_nonneg_left hd.2 (by omega)
  have h2 : (i : Int) * (-1000000) ≤ i * d := Int.mul_le_mul_of_nonneg_left hd.1 (by omega)
  omega
theorem PT_b (hL : WL Q) (hX : WX Q) : ∀ (n c : Nat), c < Q.nC → PB (PTn Q lay n c) (1010000 + 20000000 * n)
  | 0, _, _ => fun _ _ h => absurd h id
  | n + 1, c, hc => by
    rintro x y (⟨s, h1, h2, h3⟩ | ⟨p, h1, x', y', i, j, h2, h3, h4, rfl, rfl⟩)
    · have := (hX s ((hL.ss hc).mp h1).1).2.2.1 x y h3
      omega
    · obtain ⟨g1, g2, -⟩ := hL.mem hc h1
      obtain ⟨-, -, f1, f2, f3, f4, f5, f6, f7⟩ := hL.2.1 p g1
      have a1 := tXi_b f1 (PT_b hL hX n _ g2 x' y' h2)
      have a2 := near_i f4
      have a3 := near_i f5
      have a4 := mul_b (i := i) (by omega) (near_i f6)
      have a5 := mul_b (i := j) (by omega) (near_i f7)
      omega
theorem nI_64 {k : Nat} (hk : k < 2 ^ 31) : (nI k).toInt64.toInt = k := by
  rw [Int32.toInt_toInt64, nI_toInt hk]
/-- the box of a place -/
def pbx (r : PlR) (b : BxR) : BxR := bstretch (bbecome b r.turn r.x r.y) ((nI (r.cols - 1)).toInt64 * r.dx) ((nI (r.rows - 1)).toInt64 * r.dy)
theorem HB.place (hL : WL Q) (hp : p < Q.nP) {b : BxR} {P : Pts} (h : HB b P) (hn : b.n = 0) {B : Int} (hB : PB P B) (hB2 : B ≤ 900000000000) : HB (pbx (Q.pl p) b) (PIm (Q.pl p) P) ∧ (pbx (Q.pl p) b).n = 0 := by
  obtain ⟨-, -, f1, f2, f3, f4, f5, f6, f7⟩ := hL.2.1 p hp
  have a2 := near_i f4
  have a3 := near_i f5
  have c1 : (nI ((Q.pl p).cols - 1)).toInt64.toInt = ((Q.pl p).cols : Int) - 1 := by rw [nI_64 (by omega)]; omega
  have c2 : (nI ((Q.pl p).rows - 1)).toInt64.toInt = ((Q.pl p).rows : Int) - 1 := by rw [nI_64 (by omega)]; omega
  have m1 := mul_b (i := (Q.pl p).cols - 1) (by omega) (near_i f6)
  have m2 := mul_b (i := (Q.pl p).rows - 1) (by omega) (near_i f7)
  rw [show (((Q.pl p).cols - 1 : Nat) : Int) = ((Q.pl p).cols : Int) - 1 by omega] at m1
  rw [show (((Q.pl p).rows - 1 : Nat) : Int) = ((Q.pl p).rows : Int) - 1 by omega] at m2
  have e1 : ((nI ((Q.pl p).cols - 1)).toInt64 * (Q.pl p).dx).toInt = (((Q.pl p).cols : Int) - 1) * (Q.pl p).dx.toInt := by rw [t_mul (by rw [c1]; omega) (by rw [c1]; omega), c1]
  have e2 : ((nI ((Q.pl p).rows - 1)).toInt64 * (Q.pl p).dy).toInt = (((Q.pl p).rows : Int) - 1) * (Q.pl p).dy.toInt := by rw [t_mul (by rw [c2]; omega) (by rw [c2]; omega), c2]
  have t1 := h.turn hn hB (by omega) f1 (u := (Q.pl p).x) (v := (Q.pl p).y) (by omega) (by omega)
  have hB' : PB (fun x y => ∃ x' y', P x' y' ∧ x = (Q.pl p).x.toInt + tXi (Q.pl p).turn x' y' ∧ y = (Q.pl p).y.toInt + tYi (Q.pl p).turn x' y') (B + 1000000) := by
    rintro x y ⟨x', y', hp, rfl, rfl⟩
    have := tXi_b f1 (hB x' y' hp)
    omega
  have t2 := t1.grid rfl hB' (by omega) f2.1 f3.1 e1 e2 (by rw [e1]; omega) (by rw [e2]; omega)
  refine ⟨t2.cong (fun x y => ?_), rfl⟩
  constructor
  · rintro ⟨x1, y1, i, j, ⟨x', y', hp, rfl, rfl⟩, h1, h2, rfl, rfl⟩
    exact ⟨x', y', i, j, hp, h1, h2, rfl, rfl⟩
  · rintro ⟨x', y', i, j, hp, h1, h2, rfl, rfl⟩
    exact ⟨_, _, i, j, ⟨x', y', hp, rfl, rfl⟩, h1, h2, rfl, rfl⟩
end STS
