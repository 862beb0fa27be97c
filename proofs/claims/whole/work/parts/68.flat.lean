/-! A cell laid flat -/
abbrev Tm : Type := Nat × Int64 × Int64
def nxt (t : Tm) (r : PlR) (i j : Nat) : Tm := (bth t.1 r.turn, t.2.1 + tX t.1 (pX r i) (pY r j), t.2.2 + tY t.1 (pX r i) (pY r j))
abbrev Ps : Type := Nat × Nat × Nat
/-- the copies of a place that come from row j, column i on -/
def colsF (r : PlR) (p i j : Nat) : List Ps := (List.range' i (r.cols - i)).map (fun i' => (p, i', j))
def rowsF (r : PlR) (p j : Nat) : List Ps := (List.range' j (r.rows - j)).flatMap (fun j' => colsF r p 0 j')
def nzP (Q : CS) (c p : Nat) : Bool := decide ((Q.pl p).cell = c) && decide (SZ Q (-1) (Q.pl p).of ≠ 0)
/-- the copies of the places from a on -/
def posF (Q : CS) (c a : Nat) : List Ps := ((List.range' a (Q.nP - a)).filter (nzP Q c)).flatMap (fun p => rowsF (Q.pl p) p 0)
def restF (Q : CS) (c : Nat) : Option Ps → List Ps
  | none => posF Q c 0
  | some x => colsF (Q.pl x.1) x.1 (x.2.1 + 1) x.2.2 ++ (rowsF (Q.pl x.1) x.1 (x.2.2 + 1) ++ posF Q c (x.1 + 1))
def FLn (Q : CS) (lay : Int32) : Nat → Nat → Tm → List It
  | 0, _, _ => []
  | n + 1, c, t => ownL Q lay c t ++ (posF Q c 0).flatMap (fun x => FLn Q lay n (Q.pl x.1).of (nxt t (Q.pl x.1) x.2.1 x.2.2))
abbrev subF (Q : CS) (lay : Int32) (n : Nat) (t : Tm) (xs : List Ps) : List It := xs.flatMap (fun x => FLn Q lay n (Q.pl x.1).of (nxt t (Q.pl x.1) x.2.1 x.2.2))
section FLS
variable {Q : CS} {c a p i j : Nat} {lay : Int32}
theorem colsF_c {r : PlR} (h : i < r.cols) : colsF r p i j = (p, i, j) :: colsF r p (i + 1) j := by
  unfold colsF
  rw [show r.cols - i = (r.cols - (i + 1)) + 1 by omega, List.range'_succ]
  rfl
theorem colsF_n {r : PlR} (h : r.cols ≤ i) : colsF r p i j = [] := by
  unfold colsF
  rw [show r.cols - i = 0 by omega]
  rfl
theorem rowsF_c {r : PlR} (h : j < r.rows) : rowsF r p j = colsF r p 0 j ++ rowsF r p (j + 1) := by
  unfold rowsF
  rw [show r.rows - j = (r.rows - (j + 1)) + 1 by omega, List.range'_succ]
  rfl
theorem rowsF_n {r : PlR} (h : r.rows ≤ j) : rowsF r p j = [] := by
  unfold rowsF
  rw [show r.rows - j = 0 by omega]
  rfl
theorem posF_t (h : a < Q.nP) (hz : nzP Q c a = true) : posF Q c a = rowsF (Q.pl a) a 0 ++ posF Q c (a + 1) := by
  unfold posF
  rw [show Q.nP - a = (Q.nP - (a + 1)) + 1 by omega, List.range'_succ, List.filter_cons_of_pos hz]
  rfl
theorem posF_f (h : a < Q.nP) (hz : ¬ nzP Q c a = true) : posF Q c a = posF Q c (a + 1) := by
  unfold posF
  rw [show Q.nP - a = (Q.nP - (a + 1)) + 1 by omega, List.range'_succ, List.filter_cons_of_neg hz]
theorem posF_n (h : Q.nP ≤ a) : posF Q c a = [] := by
  unfold posF
  rw [show Q.nP - a = 0 by omega]
  rfl
theorem posF_x (h : a < Q.nP) (hz : nzP Q c a = true) (h1 : 1 ≤ (Q.pl a).cols) (h2 : 1 ≤ (Q.pl a).rows) : posF Q c a = (a, 0, 0) :: restF Q c (some (a, 0, 0)) := by
  rw [posF_t h hz, rowsF_c (by omega), colsF_c (by omega)]
  simp only [restF, List.cons_append, List.append_assoc]
theorem mem_colsF {r : PlR} {x : Ps} (h : x ∈ colsF r p i j) : x.1 = p ∧ x.2.1 < r.cols ∧ x.2.2 = j := by
  obtain ⟨i', h1, rfl⟩ := List.mem_map.mp h
  have := List.mem_range'_1.mp h1
  exact ⟨rfl, (by show i' < _; omega), rfl⟩
theorem mem_rowsF {r : PlR} {x : Ps} (h : x ∈ rowsF r p j) : x.1 = p ∧ x.2.1 < r.cols ∧ x.2.2 < r.rows := by
  obtain ⟨j', h1, h2⟩ := List.mem_flatMap.mp h
  have := List.mem_range'_1.mp h1
  have h3 := mem_colsF h2
  exact ⟨h3.1, h3.2.1, by omega⟩
theorem mem_posF {x : Ps} (h : x ∈ posF Q c a) : x.1 < Q.nP ∧ a ≤ x.1 ∧ nzP Q c x.1 = true ∧ x.2.1 < (Q.pl x.1).cols ∧ x.2.2 < (Q.pl x.1).rows := by
  obtain ⟨p, h1, h2⟩ := List.mem_flatMap.mp h
  obtain ⟨h3, h4⟩ := List.mem_filter.mp h1
  have h5 := List.mem_range'_1.mp h3
  obtain ⟨h6, h7, h8⟩ := mem_rowsF h2
  subst h6
  exact ⟨by omega, h5.1, h4, h7, h8⟩
theorem posF_ps (hL : WL Q) (hc : c < Q.nC) {x : Ps} (h : x ∈ posF Q c a) : x.1 ∈ (Q.ce c).ps := by
  obtain ⟨h1, -, h3, -⟩ := mem_posF h
  unfold nzP at h3
  rw [Bool.and_eq_true, decide_eq_true_iff] at h3
  exact (hL.ps hc).mpr ⟨h1, h3.1⟩
theorem FLn_st (hL : WL Q) : ∀ (n m c : Nat) (t : Tm), c < Q.nC → rho Q c < n → rho Q c < m → FLn Q lay n c t = FLn Q lay m c t
  | 0, _, _, _, _, h, _ => absurd h (Nat.not_lt_zero _)
  | _ + 1, 0, _, _, _, _, h => absurd h (Nat.not_lt_zero _)
  | n + 1, m + 1, c, t, hc, h1, h2 => by
    show _ ++ _ = _ ++ _
    refine congrArg (ownL Q lay c t ++ ·) ?_
    rw [List.flatMap_def, List.flatMap_def]
    refine congrArg List.flatten (List.map_congr_left fun x hx => ?_)
    obtain ⟨-, h3, h4⟩ := hL.mem hc (posF_ps hL hc hx)
    exact FLn_st hL n m _ _ h3 (by omega) (by omega)
theorem len_colsF {r : PlR} {f : Ps → List It} {k : Nat} (hf : ∀ i j, (f (p, i, j)).length = k) : ((colsF r p i j).flatMap f).length = (r.cols - i) * k := by
  unfold colsF
  rw [List.length_flatMap, List.map_map]
  rw [List.map_congr_left (f := (fun a => (f a).length) ∘ fun i' => (p, i', j)) (g := fun _ => k) (fun x _ => hf x j)]
  simp only [List.map_const', List.length_range', List.sum_replicate_nat]
theorem len_rowsF {r : PlR} {f : Ps → List It} {k : Nat} (hf : ∀ i j, (f (p, i, j)).length = k) : ((rowsF r p 0).flatMap f).length = r.cols * r.rows * k := by
  unfold rowsF
  rw [List.flatMap_assoc, List.length_flatMap]
  rw [List.map_congr_left (g := fun _ => r.cols * k) (fun x _ => (len_colsF hf).trans (by simp))]
  simp only [List.map_const', List.length_range', List.sum_replicate_nat, Nat.sub_zero]
  rw [← Nat.mul_assoc, Nat.mul_comm r.rows]
/-- as many as were counted -/
theorem FLn_len (hL : WL Q) (hW : WB Q) : ∀ (n c : Nat) (t : Tm), c < Q.nC → rho Q c < n → (FLn Q (-1) n c t).length = SZ Q (-1) c
  | 0, _, _, _, h => absurd h (Nat.not_lt_zero _)
  | n + 1, c, t, hc, h1 => by
    rw [SZ_eq hW hL hc]
    show List.length (_ ++ _) = _
    rw [List.length_append, List.length_map]
    refine congrArg (((Q.ce c).ss.filter (fun s => onB (Q.sh s) (-1))).length + ·) ?_
    unfold posF
    rw [List.flatMap_assoc, List.length_flatMap, (hL.1 c hc).2, List.range_eq_range', Nat.sub_zero]
    have hf : (List.range' 0 Q.nP).filter (nzP Q c) = ((List.range' 0 Q.nP).filter (fun p => decide ((Q.pl p).cell = c))).filter (fun p => decide (SZ Q (-1) (Q.pl p).of ≠ 0)) := by
      rw [List.filter_filter]
      refine List.filter_congr (fun p _ => ?_)
      unfold nzP
      rw [Bool.and_comm]
    rw [hf, ← List.range_eq_range', ← (hL.1 c hc).2]
    have key : ∀ (xs : List Nat), (∀ p, p ∈ xs → p ∈ (Q.ce c).ps) → ((xs.filter (fun p => decide (SZ Q (-1) (Q.pl p).of ≠ 0))).map (fun p => ((rowsF (Q.pl p) p 0).flatMap (fun x => FLn Q (-1) n (Q.pl x.1).of (nxt t (Q.pl x.1) x.2.1 x.2.2))).length)).sum = (xs.map (fun p => (Q.pl p).cols * (Q.pl p).rows * SZ Q (-1) (Q.pl p).of)).sum := by
      intro xs
      induction xs with
      | nil => intro _; rfl
      | cons p xs ih =>
        intro hx
        have ih := ih (fun q hq => hx q (List.mem_cons_of_mem _ hq))
        obtain ⟨-, h3, h4⟩ := hL.mem hc (hx p List.mem_cons_self)
        by_cases hz : SZ Q (-1) (Q.pl p).of = 0
        · rw [List.filter_cons_of_neg (by simpa using hz), List.map_cons, List.sum_cons, hz, Nat.mul_zero, Nat.zero_add]
          exact ih
        · rw [List.filter_cons_of_pos (by simpa using hz), List.map_cons, List.sum_cons, List.map_cons, List.sum_cons, ih]
          refine congrArg (· + _) (len_rowsF (fun i j => ?_))
          exact FLn_len hL hW n (Q.pl p).of _ h3 (by omega)
    exact key _ (fun p hp => hp)
theorem fm_len {f g : Ps → List It} : ∀ (xs : List Ps), (∀ x, x ∈ xs → (f x).length ≤ (g x).length) → (xs.flatMap f).length ≤ (xs.flatMap g).length
  | [], _ => Nat.le_refl _
  | x :: xs, h => by
    rw [List.flatMap_cons, List.flatMap_cons, List.length_append, List.length_append]
    have h1 := h x List.mem_cons_self
    have h2 := fm_len xs (fun y hy => h y (List.mem_cons_of_mem _ hy))
    omega
/-- on one layer there are no more than on all -/
theorem FLn_lay (hL : WL Q) : ∀ (n c : Nat) (t : Tm), (FLn Q lay n c t).length ≤ (FLn Q (-1) n c t).length
  | 0, _, _ => Nat.le_refl _
  | n + 1, c, t => by
    show List.length (_ ++ _) ≤ List.length (_ ++ _)
    rw [List.length_append, List.length_append, List.length_map, List.length_map]
    have h1 : ((Q.ce c).ss.filter (fun s => onB (Q.sh s) lay)).length ≤ ((Q.ce c).ss.filter (fun s => onB (Q.sh s) (-1))).length := flt_le _ (fun s hs => (onB_lay.mp hs).1)
    have h2 := fm_len (f := fun x => FLn Q lay n (Q.pl x.1).of (nxt t (Q.pl x.1) x.2.1 x.2.2)) (g := fun x => FLn Q (-1) n (Q.pl x.1).of (nxt t (Q.pl x.1) x.2.1 x.2.2)) (posF Q c 0) (fun x _ => FLn_lay hL n _ _)
    omega
theorem FLn_ok (hL : WL Q) (hC : WSC Q) : ∀ (n c : Nat) (t : Tm), c < Q.nC → t.1 < 8 → ItOk Q (FLn Q lay n c t)
  | 0, _, _, _, _ => fun _ h => absurd h (by simp [FLn])
  | n + 1, c, t, hc, ht => by
    intro x hx
    rcases List.mem_append.mp hx with hx | hx
    · obtain ⟨s, h1, rfl⟩ := List.mem_map.mp hx
      exact ⟨((hL.ss hc).mp (List.mem_filter.mp h1).1).1, ht⟩
    · obtain ⟨y, h1, h2⟩ := List.mem_flatMap.mp hx
      exact FLn_ok hL hC n _ _ (hL.mem hc (posF_ps hL hc h1)).2.1 (bth_lt _ _) x h2
end FLS
