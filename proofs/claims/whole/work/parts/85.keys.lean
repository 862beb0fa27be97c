/-! Keys: what makes two flat shapes the same -/
theorem lexLe.total (n : Nat) (a b c d : Nat → Int) : lexLe n a b c d ∨ lexLe n c d a b := by
  induction n with
  | zero => exact Or.inl (Or.inl fun k hk => by omega)
  | succ n ih =>
    have st : ∀ {a b c d : Nat → Int}, (∃ k, k < n ∧ (∀ j, j < k → a j = c j ∧ b j = d j) ∧ (a k < c k ∨ (a k = c k ∧ b k < d k))) → lexLe (n + 1) a b c d := fun ⟨k, h1, h2⟩ => Or.inr ⟨k, by omega, h2⟩
    have eq : (∀ k, k < n → a k = c k ∧ b k = d k) → lexLe (n + 1) a b c d ∨ lexLe (n + 1) c d a b := by
      intro h
      rcases Int.lt_trichotomy (a n) (c n) with q | q | q
      · exact Or.inl (Or.inr ⟨n, by omega, h, Or.inl q⟩)
      · rcases Int.lt_trichotomy (b n) (d n) with p | p | p
        · exact Or.inl (Or.inr ⟨n, by omega, h, Or.inr ⟨q, p⟩⟩)
        · refine Or.inl (Or.inl fun k hk => ?_)
          rcases Nat.lt_or_eq_of_le (Nat.lt_succ_iff.mp hk) with hk | rfl
          · exact h k hk
          · exact ⟨q, p⟩
        · exact Or.inr (Or.inr ⟨n, by omega, fun j hj => ⟨(h j hj).1.symm, (h j hj).2.symm⟩, Or.inr ⟨q.symm, p⟩⟩)
      · exact Or.inr (Or.inr ⟨n, by omega, fun j hj => ⟨(h j hj).1.symm, (h j hj).2.symm⟩, Or.inl q⟩)
    rcases ih with (h | h) | (h | h)
    · exact eq h
    · exact Or.inl (st h)
    · exact eq (fun k hk => ⟨(h k hk).1.symm, (h k hk).2.symm⟩)
    · exact Or.inr (st h)
theorem lexLe.cong {n : Nat} {a b c d a' b' c' d' : Nat → Int} (h : lexLe n a b c d) (h1 : ∀ k, k < n → a' k = a k ∧ b' k = b k) (h2 : ∀ k, k < n → c' k = c k ∧ d' k = d k) : lexLe n a' b' c' d' := by
  rcases h with h | ⟨k, g1, g2, g3⟩
  · exact Or.inl fun k hk => by have := h k hk; have := h1 k hk; have := h2 k hk; omega
  · refine Or.inr ⟨k, g1, fun j hj => ?_, ?_⟩
    · have := g2 j hj; have := h1 j (by omega); have := h2 j (by omega); omega
    · have := h1 k g1; have := h2 k g1; omega
theorem lexLe.shift {n : Nat} {a b c d : Nat → Int} (h : lexLe n a b c d) (X Y : Int) : lexLe n (fun k => X + a k) (fun k => Y + b k) (fun k => X + c k) (fun k => Y + d k) := by
  rcases h with h | ⟨k, g1, g2, g3⟩
  · exact Or.inl fun k hk => by have := h k hk; dsimp only; omega
  · exact Or.inr ⟨k, g1, fun j hj => by have := g2 j hj; dsimp only; omega, by dsimp only; omega⟩
/-! orders -/
theorem md1 {n f k : Nat} (hf : f < n) (hk : k < n) : (f + k) % n = if f + k < n then f + k else f + k - n := by
  split
  · exact Nat.mod_eq_of_lt (by assumption)
  · rw [Nat.mod_eq_sub_mod (by omega), Nat.mod_eq_of_lt (by omega)]
theorem md2 {n f k : Nat} (hf : f < n) (hk : k < n) : (f + n - k) % n = if k ≤ f then f - k else f + n - k := by
  split
  · rw [Nat.mod_eq_sub_mod (by omega), Nat.mod_eq_of_lt (by omega)]; omega
  · exact Nat.mod_eq_of_lt (by omega)
theorem oix_p {n f k : Nat} (hf : f < n) (hk : k < n) : oix n f 1 k = if f + k < n then f + k else f + k - n := by
  unfold oix
  rw [if_pos rfl, md1 hf hk]
theorem oix_m {n f k : Nat} (hf : f < n) (hk : k < n) : oix n f (-1) k = if k ≤ f then f - k else f + n - k := by
  unfold oix
  rw [if_neg (by decide), md2 hf hk]
theorem alw_lt {r : ShR} {f : Nat} {s : Int32} (h0 : 0 < r.cnt) (h : alw r f s) : f < r.cnt ∧ (s = 1 ∨ s = -1) := by
  rcases h with ⟨-, ⟨rfl, rfl⟩ | ⟨rfl, rfl⟩⟩ | ⟨-, h1, h2⟩
  · exact ⟨h0, Or.inl rfl⟩
  · exact ⟨by omega, Or.inr rfl⟩
  · exact ⟨h1, h2⟩
theorem oix_comp {n f f' : Nat} {s s' : Int32} (hf : f < n) (hf' : f' < n) (hs : s = 1 ∨ s = -1) (hs' : s' = 1 ∨ s' = -1) : ∃ (f2 : Nat) (s2 : Int32), f2 < n ∧ (s2 = 1 ∨ s2 = -1) ∧ ∀ k, k < n → oix n f s (oix n f' s' k) = oix n f2 s2 k := by
  have h0 : 0 < n := by omega
  rcases hs with rfl | rfl <;> rcases hs' with rfl | rfl
  · refine ⟨if f + f' < n then f + f' else f + f' - n, 1, by split <;> omega, Or.inl rfl, fun k hk => ?_⟩
    rw [oix_p hf (oix_lt h0), oix_p hf' hk, oix_p (by split <;> omega) hk]
    (repeat' split) <;> omega
  · refine ⟨if f + f' < n then f + f' else f + f' - n, -1, by split <;> omega, Or.inr rfl, fun k hk => ?_⟩
    rw [oix_p hf (oix_lt h0), oix_m hf' hk, oix_m (by split <;> omega) hk]
    (repeat' split) <;> omega
  · refine ⟨if f' ≤ f then f - f' else f + n - f', -1, by split <;> omega, Or.inr rfl, fun k hk => ?_⟩
    rw [oix_m hf (oix_lt h0), oix_p hf' hk, oix_m (by split <;> omega) hk]
    (repeat' split) <;> omega
  · refine ⟨if f' ≤ f then f - f' else f + n - f', 1, by split <;> omega, Or.inl rfl, fun k hk => ?_⟩
    rw [oix_m hf (oix_lt h0), oix_m hf' hk, oix_p (by split <;> omega) hk]
    (repeat' split) <;> omega
theorem oix_inv {n f : Nat} {s : Int32} (hf : f < n) (hs : s = 1 ∨ s = -1) : ∃ (f2 : Nat) (s2 : Int32), f2 < n ∧ (s2 = 1 ∨ s2 = -1) ∧ ∀ k, k < n → oix n f s (oix n f2 s2 k) = k := by
  have h0 : 0 < n := by omega
  rcases hs with rfl | rfl
  · refine ⟨if f = 0 then 0 else n - f, 1, by split <;> omega, Or.inl rfl, fun k hk => ?_⟩
    rw [oix_p hf (oix_lt h0), oix_p (by split <;> omega) hk]
    (repeat' split) <;> omega
  · refine ⟨f, -1, hf, Or.inr rfl, fun k hk => ?_⟩
    rw [oix_m hf (oix_lt h0), oix_m hf hk]
    (repeat' split) <;> omega
theorem oix_0 {n k : Nat} (hk : k < n) : oix n 0 1 k = k := by
  rw [oix_p (by omega) hk]
  (repeat' split) <;> omega
theorem oix_r {n k : Nat} (hk : k < n) : oix n (n - 1) (-1) k = n - 1 - k := by
  rw [oix_m (by omega) hk]
  (repeat' split) <;> omega
theorem alw_comp {r : ShR} {f f' : Nat} {s s' : Int32} (h0 : 0 < r.cnt) (h : alw r f s) (h' : alw r f' s') : ∃ (f2 : Nat) (s2 : Int32), alw r f2 s2 ∧ ∀ k, k < r.cnt → oix r.cnt f s (oix r.cnt f' s' k) = oix r.cnt f2 s2 k := by
  rcases h with ⟨hw, h⟩ | ⟨hw, h1, h2⟩
  · rcases h' with ⟨-, h'⟩ | ⟨hw', -⟩
    · rcases h with ⟨rfl, rfl⟩ | ⟨rfl, rfl⟩
      · exact ⟨f', s', Or.inl ⟨hw, h'⟩, fun k hk => oix_0 (oix_lt h0)⟩
      · rcases h' with ⟨rfl, rfl⟩ | ⟨rfl, rfl⟩
        · exact ⟨r.cnt - 1, -1, Or.inl ⟨hw, Or.inr ⟨rfl, rfl⟩⟩, fun k hk => by rw [oix_0 hk]⟩
        · exact ⟨0, 1, Or.inl ⟨hw, Or.inl ⟨rfl, rfl⟩⟩, fun k hk => by rw [oix_r hk, oix_r (by omega), oix_0 hk]; omega⟩
    · exact absurd hw hw'
  · rcases h' with ⟨hw', -⟩ | ⟨-, h1', h2'⟩
    · exact absurd hw' hw
    · obtain ⟨f2, s2, g1, g2, g3⟩ := oix_comp h1 h1' h2 h2'
      exact ⟨f2, s2, Or.inr ⟨hw, g1, g2⟩, g3⟩
theorem alw_inv {r : ShR} {f : Nat} {s : Int32} (h0 : 0 < r.cnt) (h : alw r f s) : ∃ (f2 : Nat) (s2 : Int32), alw r f2 s2 ∧ ∀ k, k < r.cnt → oix r.cnt f s (oix r.cnt f2 s2 k) = k := by
  rcases h with ⟨hw, h⟩ | ⟨hw, h1, h2⟩
  · refine ⟨f, s, Or.inl ⟨hw, h⟩, fun k hk => ?_⟩
    rcases h with ⟨rfl, rfl⟩ | ⟨rfl, rfl⟩
    · rw [oix_0 (oix_lt h0), oix_0 hk]
    · rw [oix_r hk, oix_r (by omega)]; omega
  · obtain ⟨f2, s2, g1, g2, g3⟩ := oix_inv h1 h2
    exact ⟨f2, s2, Or.inr ⟨hw, g1, g2⟩, g3⟩
/-- the least order -/
def minO (r : ShR) (t f : Nat) (s : Int32) : Prop := f < r.cnt ∧ alw r f s ∧ ∀ f' s', alw r f' s' → lexLe r.cnt (cX r t f s) (cY r t f s) (cX r t f' s') (cY r t f' s')
theorem OrdOk.min {r : ShR} {t : Nat} (h : OrdOk r t) (h0 : ¬ r.st t = 0) : ∃ f, r.fi t = nI f ∧ minO r t f (r.st t) := by
  rcases h with h | ⟨f, h1, h2, h3, h4⟩
  · exact absurd h h0
  · exact ⟨f, h2, h1, h3, h4⟩
theorem minO_ex (r : ShR) (t : Nat) (h0 : 0 < r.cnt) : ∃ q : Nat × Int32, minO r t q.1 q.2 := by
  have two : ∀ f s f' s', ∃ q : Nat × Int32, (q = (f, s) ∨ q = (f', s')) ∧ lexLe r.cnt (cX r t q.1 q.2) (cY r t q.1 q.2) (cX r t f s) (cY r t f s) ∧ lexLe r.cnt (cX r t q.1 q.2) (cY r t q.1 q.2) (cX r t f' s') (cY r t f' s') := by
    intro f s f' s'
    rcases lexLe.total r.cnt (cX r t f s) (cY r t f s) (cX r t f' s') (cY r t f' s') with h | h
    · exact ⟨(f, s), Or.inl rfl, lexLe.refl, h⟩
    · exact ⟨(f', s'), Or.inr rfl, h, lexLe.refl⟩
  by_cases hw : 0 < r.w
  · obtain ⟨q, h1, h2, h3⟩ := two 0 1 (r.cnt - 1) (-1)
    refine ⟨q, ?_, ?_, fun f' s' ha => ?_⟩
    · rcases h1 with rfl | rfl
      · exact h0
      · show r.cnt - 1 < r.cnt; omega
    · rcases h1 with rfl | rfl
      · exact Or.inl ⟨hw, Or.inl ⟨rfl, rfl⟩⟩
      · exact Or.inl ⟨hw, Or.inr ⟨rfl, rfl⟩⟩
    · rcases ha with ⟨-, ⟨rfl, rfl⟩ | ⟨rfl, rfl⟩⟩ | ⟨ha, -⟩
      · exact h2
      · exact h3
      · exact absurd hw ha
  · have lp : ∀ m, ∃ q : Nat × Int32, (q.1 < r.cnt ∧ (q.2 = 1 ∨ q.2 = -1)) ∧ ∀ g p, g < m → g < r.cnt → (p = 1 ∨ p = -1) → lexLe r.cnt (cX r t q.1 q.2) (cY r t q.1 q.2) (cX r t g p) (cY r t g p) := by
      intro m
      induction m with
      | zero => exact ⟨(0, 1), ⟨h0, Or.inl rfl⟩, fun g p hg => by omega⟩
      | succ m ih =>
        obtain ⟨q, hq, hm⟩ := ih
        by_cases hmc : m < r.cnt
        · obtain ⟨q1, a1, a2, a3⟩ := two q.1 q.2 m 1
          obtain ⟨q2, b1, b2, b3⟩ := two q1.1 q1.2 m (-1)
          have hq1 : q1.1 < r.cnt ∧ (q1.2 = 1 ∨ q1.2 = -1) := by
            rcases a1 with rfl | rfl
            · exact hq
            · exact ⟨hmc, Or.inl rfl⟩
          refine ⟨q2, ?_, fun g p hg hgc hp => ?_⟩
          · rcases b1 with rfl | rfl
            · exact hq1
            · exact ⟨hmc, Or.inr rfl⟩
          · rcases Nat.lt_or_eq_of_le (Nat.lt_succ_iff.mp hg) with hg | rfl
            · exact lexLe.trans b2 (lexLe.trans a2 (hm g p hg hgc hp))
            · rcases hp with rfl | rfl
              · exact lexLe.trans b2 a3
              · exact b3
        · exact ⟨q, hq, fun g p hg hgc hp => hm g p (by omega) hgc hp⟩
    obtain ⟨q, hq, hm⟩ := lp r.cnt
    refine ⟨q, hq.1, Or.inr ⟨hw, hq⟩, fun f' s' ha => ?_⟩
    rcases ha with ⟨ha, -⟩ | ⟨-, g1, g2⟩
    · exact absurd ha hw
    · exact hm f' s' g1 g1 g2
noncomputable def bst (r : ShR) (t : Nat) : Nat × Int32 := Classical.epsilon (fun q : Nat × Int32 => minO r t q.1 q.2)
theorem bst_min {r : ShR} {t : Nat} (h0 : 0 < r.cnt) : minO r t (bst r t).1 (bst r t).2 := Classical.epsilon_spec (minO_ex r t h0)
noncomputable def lkX (r : ShR) (t k : Nat) : Int := cX r t (bst r t).1 (bst r t).2 k
noncomputable def lkY (r : ShR) (t k : Nat) : Int := cY r t (bst r t).1 (bst r t).2 k
theorem lk_of {r : ShR} {t f : Nat} {s : Int32} (h : minO r t f s) : ∀ k, k < r.cnt → lkX r t k = cX r t f s k ∧ lkY r t k = cY r t f s k := by
  have hb := bst_min (r := r) (t := t) (by have := h.1; omega)
  exact lexLe.anti (hb.2.2 f s h.2.1) (h.2.2 _ _ hb.2.1)
def rowF : Nat → Nat → (Nat → Int) → (Nat → Int) → List Int
  | 0, _, _, _ => []
  | q + 1, k, a, b => a k :: b k :: rowF q (k + 1) a b
theorem rowF_eq {a b c d : Nat → Int} : ∀ (q k : Nat), rowF q k a b = rowF q k c d ↔ ∀ j, k ≤ j → j < k + q → a j = c j ∧ b j = d j
  | 0, k => ⟨fun _ j h1 h2 => by omega, fun _ => rfl⟩
  | q + 1, k => by
    unfold rowF
    rw [List.cons.injEq, List.cons.injEq, rowF_eq q (k + 1)]
    constructor
    · rintro ⟨h1, h2, h3⟩ j g1 g2
      rcases Nat.lt_or_eq_of_le g1 with q | rfl
      · exact h3 j q (by omega)
      · exact ⟨h1, h2⟩
    · intro h
      exact ⟨(h k (by omega) (by omega)).1, (h k (by omega) (by omega)).2, fun j g1 g2 => h j (by omega) (by omega)⟩
noncomputable def keyR (r : ShR) (t : Nat) (X Y : Int) : List Int := r.layer.toInt :: r.w.toInt :: r.ends.toInt :: (r.cnt : Int) :: rowF r.cnt 0 (fun k => X + lkX r t k) (fun k => Y + lkY r t k)
noncomputable def key (Q : CS) (w : It) : List Int := keyR (Q.sh w.1) w.2.1 w.2.2.1.toInt w.2.2.2.toInt
/-- the same kind -/
def kind (r r' : ShR) : Prop := r.layer = r'.layer ∧ r.w = r'.w ∧ r.ends = r'.ends ∧ r.cnt = r'.cnt
theorem keyR_eq {r r' : ShR} {t t' : Nat} {X Y X' Y' : Int} : keyR r t X Y = keyR r' t' X' Y' ↔ kind r r' ∧ ∀ k, k < r.cnt → X + lkX r t k = X' + lkX r' t' k ∧ Y + lkY r t k = Y' + lkY r' t' k := by
  unfold keyR kind
  rw [List.cons.injEq, List.cons.injEq, List.cons.injEq, List.cons.injEq]
  constructor
  · rintro ⟨h1, h2, h3, h4, h5⟩
    have h4 : r.cnt = r'.cnt := by omega
    rw [← h4, rowF_eq] at h5
    exact ⟨⟨Int32.toInt.inj h1, Int64.toInt.inj h2, Int32.toInt.inj h3, h4⟩, fun k hk => h5 k (by omega) (by omega)⟩
  · rintro ⟨⟨h1, h2, h3, h4⟩, h5⟩
    refine ⟨by rw [h1], by rw [h2], by rw [h3], by rw [h4], ?_⟩
    rw [← h4, rowF_eq]
    exact fun j _ hj => h5 j (by omega)
/-- corners turned -/
def nX (r : ShR) (t j : Nat) : Int := (tX t (r.xs j) (r.ys j)).toInt
def nY (r : ShR) (t j : Nat) : Int := (tY t (r.xs j) (r.ys j)).toInt
theorem alw_c {r r' : ShR} (hk : kind r r') {f : Nat} {s : Int32} : alw r f s ↔ alw r' f s := by
  unfold alw
  rw [hk.2.1, hk.2.2.2]
theorem same_key {r r' : ShR} {t t' : Nat} {X Y X' Y' : Int} (h0 : 0 < r.cnt) (hk : kind r r') : keyR r t X Y = keyR r' t' X' Y' ↔ ∃ (f : Nat) (s : Int32), alw r f s ∧ ∀ k, k < r.cnt → X + nX r t k = X' + nX r' t' (oix r.cnt f s k) ∧ Y + nY r t k = Y' + nY r' t' (oix r.cnt f s k) := by
  have h0' : 0 < r'.cnt := by rw [← hk.2.2.2]; exact h0
  have bA := bst_min (r := r) (t := t) h0
  have bB := bst_min (r := r') (t := t') h0'
  rw [keyR_eq]
  unfold lkX lkY
  generalize (bst r t).1 = f1 at *
  generalize (bst r t).2 = s1 at *
  generalize (bst r' t').1 = f2 at *
  generalize (bst r' t').2 = s2 at *
  have eA : ∀ f s k, cX r t f s k = nX r t (oix r.cnt f s k) ∧ cY r t f s k = nY r t (oix r.cnt f s k) := fun _ _ _ => ⟨rfl, rfl⟩
  have eB : ∀ f s k, cX r' t' f s k = nX r' t' (oix r.cnt f s k) ∧ cY r' t' f s k = nY r' t' (oix r.cnt f s k) := fun _ _ _ => by rw [hk.2.2.2]; exact ⟨rfl, rfl⟩
  have hb2 : alw r f2 s2 := (alw_c hk).mpr bB.2.1
  constructor
  · rintro ⟨-, h⟩
    obtain ⟨f3, s3, a3, e3⟩ := alw_inv h0 bA.2.1
    obtain ⟨f4, s4, a4, e4⟩ := alw_comp h0 hb2 a3
    refine ⟨f4, s4, a4, fun k hk => ?_⟩
    have hlt : oix r.cnt f3 s3 k < r.cnt := oix_lt h0
    have := h _ hlt
    rw [(eA _ _ _).1, (eA _ _ _).2, (eB _ _ _).1, (eB _ _ _).2, e3 k hk, e4 k hk] at this
    exact this
  · rintro ⟨f, s, a, e⟩
    refine ⟨hk, ?_⟩
    obtain ⟨f3, s3, a3, e3⟩ := alw_comp h0 a bA.2.1
    obtain ⟨f4, s4, a4, e4⟩ := alw_inv h0 a
    obtain ⟨f5, s5, a5, e5⟩ := alw_comp h0 a4 hb2
    have l1 := (bB.2.2 f3 s3 ((alw_c hk).mp a3)).shift X' Y'
    have l2 := (bA.2.2 f5 s5 a5).shift X Y
    rw [← hk.2.2.2] at l1
    refine lexLe.anti (l2.cong (fun _ _ => ⟨rfl, rfl⟩) (fun k hk => ?_)) (l1.cong (fun _ _ => ⟨rfl, rfl⟩) (fun k hk => ?_))
    · have h1 : oix r.cnt f2 s2 k < r.cnt := oix_lt h0
      have h2 : oix r.cnt f4 s4 (oix r.cnt f2 s2 k) < r.cnt := oix_lt h0
      have := e _ h2
      rw [e4 _ h1, e5 k hk] at this
      rw [(eA _ _ _).1, (eA _ _ _).2, (eB _ _ _).1, (eB _ _ _).2]
      exact ⟨this.1.symm, this.2.symm⟩
    · have h1 : oix r.cnt f1 s1 k < r.cnt := oix_lt h0
      have := e _ h1
      rw [e3 k hk] at this
      rw [(eA _ _ _).1, (eA _ _ _).2, (eB _ _ _).1, (eB _ _ _).2]
      exact this
/-! the order of keys -/
def lcmp : List Int → List Int → Int32
  | [], [] => 0
  | [], _ :: _ => -1
  | _ :: _, [] => 1
  | a :: as, b :: bs => if a < b then -1 else if a = b then lcmp as bs else 1
theorem lcmp_c {a b : Int} {as bs : List Int} : lcmp (a :: as) (b :: bs) = if a < b then -1 else if a = b then lcmp as bs else 1 := rfl
theorem lcmp_v : ∀ a b, lcmp a b = -1 ∨ lcmp a b = 0 ∨ lcmp a b = 1
  | [], [] => Or.inr (Or.inl rfl)
  | [], _ :: _ => Or.inl rfl
  | _ :: _, [] => Or.inr (Or.inr rfl)
  | a :: as, b :: bs => by
    rw [lcmp_c]
    split
    · exact Or.inl rfl
    · split
      · exact lcmp_v as bs
      · exact Or.inr (Or.inr rfl)
theorem lcmp_0 : ∀ a b, lcmp a b = 0 ↔ a = b
  | [], [] => ⟨fun _ => rfl, fun _ => rfl⟩
  | [], _ :: _ => ⟨fun h => absurd (show (-1 : Int32) = 0 from h) (by decide), fun h => by cases h⟩
  | _ :: _, [] => ⟨fun h => absurd (show (1 : Int32) = 0 from h) (by decide), fun h => by cases h⟩
  | a :: as, b :: bs => by
    rw [lcmp_c, List.cons.injEq, ← lcmp_0 as bs]
    split
    · exact ⟨fun h => absurd h (by decide), fun h => by omega⟩
    · split
      · exact ⟨fun h => ⟨by assumption, h⟩, fun h => h.2⟩
      · exact ⟨fun h => absurd h (by decide), fun h => absurd h.1 (by assumption)⟩
theorem lcmp_s : ∀ a b, lcmp a b = 1 ↔ lcmp b a = -1
  | [], [] => ⟨fun h => absurd h (by decide), fun h => absurd h (by decide)⟩
  | [], _ :: _ => ⟨fun h => absurd (show (-1 : Int32) = 1 from h) (by decide), fun h => absurd (show (1 : Int32) = -1 from h) (by decide)⟩
  | _ :: _, [] => ⟨fun _ => rfl, fun _ => rfl⟩
  | a :: as, b :: bs => by
    rw [lcmp_c, lcmp_c]
    rcases Int.lt_trichotomy a b with q | rfl | q
    · rw [if_pos q, if_neg (by omega), if_neg (by omega)]
      exact ⟨fun h => absurd h (by decide), fun h => absurd h (by decide)⟩
    · rw [if_neg (by omega), if_pos rfl, if_neg (by omega), if_pos rfl]
      exact lcmp_s as bs
    · rw [if_neg (by omega), if_neg (by omega), if_pos q]
      exact ⟨fun _ => rfl, fun _ => rfl⟩
theorem lcmp_t : ∀ a b c, ¬ lcmp a b = 1 → ¬ lcmp b c = 1 → ¬ lcmp a c = 1
  | [], _, [] => fun _ _ => by decide
  | [], _, _ :: _ => fun _ _ => by show ¬ (-1 : Int32) = 1; decide
  | a :: as, [], c => fun h _ => absurd rfl h
  | a :: as, b :: bs, [] => fun _ h => absurd rfl h
  | a :: as, b :: bs, c :: cs => by
    rw [lcmp_c, lcmp_c, lcmp_c]
    intro h1 h2
    rcases Int.lt_trichotomy a b with q | rfl | q
    · rcases Int.lt_trichotomy b c with p | rfl | p
      · rw [if_pos (by omega)]; decide
      · rw [if_pos q]; decide
      · rw [if_neg (by omega), if_neg (by omega)] at h2; exact absurd rfl h2
    · rw [if_neg (by omega), if_pos rfl] at h1
      rcases Int.lt_trichotomy a c with p | rfl | p
      · rw [if_pos p]; decide
      · rw [if_neg (by omega), if_pos rfl] at h2 ⊢
        exact lcmp_t as bs cs h1 h2
      · rw [if_neg (by omega), if_neg (by omega)] at h2; exact absurd rfl h2
    · rw [if_neg (by omega), if_neg (by omega)] at h1; exact absurd rfl h1
def leK (a b : List Int) : Prop := ¬ lcmp a b = 1
theorem leK.anti {a b : List Int} (h1 : leK a b) (h2 : leK b a) : a = b := by
  rcases lcmp_v a b with q | q | q
  · exact absurd ((lcmp_s b a).mpr q) h2
  · exact (lcmp_0 a b).mp q
  · exact absurd q h1
theorem leK.tot (a b : List Int) : leK a b ∨ leK b a := by
  by_cases h : lcmp a b = 1
  · refine Or.inr (fun q => ?_)
    rw [(lcmp_s a b).mp h] at q
    exact absurd q (by decide)
  · exact Or.inl h
