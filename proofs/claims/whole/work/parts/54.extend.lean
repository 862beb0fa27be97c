/-! corner and point: the class -/
theorem gup_id {M : gH} {a : Nat} {e : gE} (h : M a = some e) : gup M a e = M := by
  funext b
  unfold gup
  split
  · subst_vars; exact h.symm
  · rfl
def bhold (b : BxR) (u v w t : Int64) : BxR := (hmin b.n b.x0 u, hmin b.n b.y0 v, hmax b.n b.x1 w, hmax b.n b.y1 t, 0)
def bclear (b : BxR) : BxR := (b.x0, b.y0, b.x1, b.y1, 1)
def pBefore (r : ShR) (k : Nat) : Int64 := if r.ends = 1 ∧ k = 1 then r.w / 2 else 0
def pBehind (r : ShR) (k : Nat) : Int64 := if r.ends = 1 ∧ k = r.cnt - 1 then r.w / 2 else 0
def pSx (r : ShR) (k : Nat) : Int32 := jsgn (r.xs k - r.xs (k - 1))
def pSy (r : ShR) (k : Nat) : Int32 := jsgn (r.ys k - r.ys (k - 1))
def pAx (r : ShR) (k : Nat) : Int64 := r.xs (k - 1) - (pSx r k).toInt64 * pBefore r k
def pAy (r : ShR) (k : Nat) : Int64 := r.ys (k - 1) - (pSy r k).toInt64 * pBefore r k
def pBx (r : ShR) (k : Nat) : Int64 := r.xs k + (pSx r k).toInt64 * pBehind r k
def pBy (r : ShR) (k : Nat) : Int64 := r.ys k + (pSy r k).toInt64 * pBehind r k
def pCx (r : ShR) (k : Nat) : Int64 := if pSx r k = 0 then r.w / 2 else 0
def pCy (r : ShR) (k : Nat) : Int64 := if pSy r k = 0 then r.w / 2 else 0
/-- the box of a path's piece, held too -/
def hpc (r : ShR) (k : Nat) (b : BxR) : BxR := bhold b (jmin (pAx r k) (pBx r k) - pCx r k) (jmin (pAy r k) (pBy r k) - pCy r k) (jmax (pAx r k) (pBx r k) + pCx r k) (jmax (pAy r k) (pBy r k) + pCy r k)
/-- the pieces 1 .. n -/
def mpc (r : ShR) (b : BxR) : Nat → BxR
  | 0 => b
  | n + 1 => hpc r (n + 1) (mpc r b n)
section MD
variable {l : Launch} {D : gD} {s0 : State} {M : gH} {z : Nat} {ad : gA} {Q : CS} {N : MS} {c i : Nat}
theorem k_fill (h0 : g_0 l D s0) {a n : Nat} {g : Nat → Int32} (hM : M a = some (ai n g)) (hn : n < 2 ^ 31) (v : Int32) : Ct l D s0 y_Ar_fill (Cond.code y_Ar_fill b_Ar_fill 4 none) (rk 0 0 0) [.ref a, .int v] M (fR none (gup M a (ai n (fun j => if j < n then v else g j)))) := by
  refine Ct.of h0 (by decide +kernel) rfl fun X hX h => ?_
  obtain ⟨p_, l', e_, R_, s_, m_, ar_, be_, me_, c_⟩ := X
  obtain rfl : l' = l := hX
  have LP : ∀ (q k : Nat), k + q = n → ∀ (M' : gH) (gk : Nat → Int32), M' a = some (ai n gk) → (∀ e, gup M' a e = gup M a e) → (∀ j, j < k → gk j = v) → (∀ j, k ≤ j → gk j = g j) → G (gzz D s0 (p_, l', e_, R_, s_, m_, ar_, be_, me_, c_) (rk 0 0 0) (fR none (gup M a (ai n (fun j => if j < n then v else g j)))) 4) 5 [(0, .ref a), (1, .int v), (2, .int (nI k)), (3, .int (nI n))] [] M' 0 0 := by
    intro q
    induction q with
    | zero =>
      intro k hk M' gk h1 h2 h3 h4
      refine ri_iload_n h d_Ar_fill_5 rfl ?_
      refine ri_iload_n h d_Ar_fill_6 rfl ?_
      first | refine ri_icmpN_ge h 20 d_Ar_fill_7 (by decide) (by omega) (by omega) (fun c_7 => ?_) (fun c_7 => ?_) | refine ri_icmp_ge h 20 d_Ar_fill_7 (by decide) (fun c_7 => ?_) (fun c_7 => ?_)
      · refine ri_return h d_Ar_fill_20 (Nat.le_of_ble_eq_true rfl) (Nat.le_of_ble_eq_true rfl) ?_
        exact ⟨rfl, (gup_id h1).symm.trans ((h2 _).trans (congrArg (fun f => gup M a (ai n f)) (funext fun j => by by_cases hj : j < n <;> simp only [hj, if_true, if_false]; exact h3 j (by omega); exact h4 j (by omega))))⟩
      · omega
    | succ q ih =>
      intro k hk M' gk h1 h2 h3 h4
      refine ri_iload_n h d_Ar_fill_5 rfl ?_
      refine ri_iload_n h d_Ar_fill_6 rfl ?_
      first | refine ri_icmpN_ge h 20 d_Ar_fill_7 (by decide) (by omega) (by omega) (fun c_7 => ?_) (fun c_7 => ?_) | refine ri_icmp_ge h 20 d_Ar_fill_7 (by decide) (fun c_7 => ?_) (fun c_7 => ?_)
      · omega
      · refine ri_aload_n h d_Ar_fill_10 rfl ?_
        refine ri_iload_n h d_Ar_fill_11 rfl ?_
        refine ri_iload_n h d_Ar_fill_12 rfl ?_
        refine ri_iast h k d_Ar_fill_13 h1 rfl (by omega) (by omega) ?_
        first | refine ri_iincN h d_Ar_fill_14 rfl (Nat.le_of_ble_eq_true rfl) ?_ | refine ri_iinc h _ d_Ar_fill_14 rfl rfl (Nat.le_of_ble_eq_true rfl) ?_
        refine ri_goto h 5 d_Ar_fill_17 (by decide) ?_
        refine ri_ls [(0, .ref a), (1, .int v), (2, .int (nI (k + 1))), (3, .int (nI n))] ⟨rfl, rfl, rfl, rfl, trivial⟩ (ih (k + 1) (by omega) _ (va_up gk k v) gup_s (fun e => by rw [gup_u]; exact h2 e) (fun j hj => ?_) (fun j hj => ?_))
        · unfold va_up
          split
          · rfl
          · exact h3 j (by omega)
        · rw [va_up_n (by omega)]
          exact h4 j (by omega)
  refine ri_iconstN h 0 d_Ar_fill_0 rfl ?_
  refine ri_istore_n h d_Ar_fill_1 (Nat.le_of_ble_eq_true rfl) ?_
  refine ri_aload_n h d_Ar_fill_2 rfl ?_
  refine ri_alen h d_Ar_fill_3 (by first | assumption | exact hS.st | exact hS.mo | exact hS.out | exact hS.sb | exact hS.ce (by first | assumption | omega) | exact hS.ceb (by first | assumption | omega) | exact hS.sh (by first | assumption | omega) | exact hS.shb (by first | assumption | omega) | exact hS.pl (by first | assumption | omega) | exact hS.plb (by first | assumption | omega) | exact hS.fl (by first | assumption | omega) | exact gup_s | (refine gup_t (by assumption) ?_; first | assumption | exact gup_s | (refine gup_t (by assumption) ?_; first | assumption | exact gup_s | (refine gup_t (by assumption) ?_; first | assumption | exact gup_s)))) ?_
  refine ri_istore_n h d_Ar_fill_4 (Nat.le_of_ble_eq_true rfl) ?_
  exact ri_ls [(0, .ref a), (1, .int v), (2, .int (nI 0)), (3, .int (nI n))] ⟨rfl, rfl, rfl, rfl, trivial⟩ <| LP n 0 (by omega) M g hM (fun _ => rfl) (fun j hj => by omega) (fun j _ => rfl)
theorem k_holdPiece (h0 : g_0 l D s0) {s k : Nat} {r : ShR} {b : BxR} (hM : M (ad 18 s) = some (shO ad s r)) (hMx : M (ad 19 s) = some (al 24 r.xs)) (hMy : M (ad 20 s) = some (al 24 r.ys)) (hMb : M (ad 21 s) = some (BxR.e b)) (hk1 : 1 ≤ k) (hk : k < r.cnt) (hc : r.cnt ≤ 24) : Ct l D s0 y_Sh_holdPiece (Cond.code y_Sh_holdPiece b_Sh_holdPiece 22 none) (rk 2 0 0) [.ref (ad 18 s), .int (nI k)] M (fR none (gup M (ad 21 s) (BxR.e (hpc r k b)))) := by
  refine Ct.of h0 (by decide +kernel) rfl fun X hX h => ?_
  obtain ⟨p_, l', e_, R_, s_, m_, ar_, be_, me_, c_⟩ := X
  obtain rfl : l' = l := hX
  have J180 : ∀ v, v = pCy r k → G (gzz D s0 (p_, l', e_, R_, s_, m_, ar_, be_, me_, c_) (rk 2 0 0) (fR none (gup M (ad 21 s) (BxR.e (hpc r k b)))) 22) 180 [(0, .ref (ad 18 s)), (1, .int (nI k)), (10, .long (pAx r k)), (12, .long (pAy r k)), (14, .long (pBx r k)), (16, .long (pBy r k)), (18, .long (pCx r k))] [.long v] M 0 0 := by
    intro v hv
    subst hv
    refine ri_lstore h d_Sh_holdPiece_180 (Nat.le_of_ble_eq_true rfl) ?_
    refine ri_aload_n h d_Sh_holdPiece_182 rfl ?_
    refine ri_get h d_Sh_holdPiece_183 fl_Sh_21 (by first | assumption | exact hS.sh_of (by first | assumption | omega) (by assumption) | exact hS.sh (by first | assumption | omega) | exact gup_s) (by rfl) ?_
    refine ri_lload h d_Sh_holdPiece_186 rfl ?_
    refine ri_lload h d_Sh_holdPiece_188 rfl ?_
    refine ri_cSv_2 h d_Sh_holdPiece_190 cs_Sh_82 (m_min_l h0 _ _ _) (Nat.le_of_ble_eq_true rfl) (Nat.le_of_ble_eq_true rfl) (Nat.le_of_ble_eq_true rfl) (Nat.le_of_ble_eq_true rfl) (Nat.le_of_ble_eq_true rfl) ?_
    refine ri_lload h d_Sh_holdPiece_193 rfl ?_
    refine ri_lsub h d_Sh_holdPiece_195 ?_
    refine ri_lload h d_Sh_holdPiece_196 rfl ?_
    refine ri_lload h d_Sh_holdPiece_198 rfl ?_
    refine ri_cSv_2 h d_Sh_holdPiece_200 cs_Sh_82 (m_min_l h0 _ _ _) (Nat.le_of_ble_eq_true rfl) (Nat.le_of_ble_eq_true rfl) (Nat.le_of_ble_eq_true rfl) (Nat.le_of_ble_eq_true rfl) (Nat.le_of_ble_eq_true rfl) ?_
    refine ri_lload h d_Sh_holdPiece_203 rfl ?_
    refine ri_lsub h d_Sh_holdPiece_205 ?_
    refine ri_lload h d_Sh_holdPiece_206 rfl ?_
    refine ri_lload h d_Sh_holdPiece_208 rfl ?_
    refine ri_cSv_2 h d_Sh_holdPiece_210 cs_Sh_88 (m_max_l h0 _ _ _) (Nat.le_of_ble_eq_true rfl) (Nat.le_of_ble_eq_true rfl) (Nat.le_of_ble_eq_true rfl) (Nat.le_of_ble_eq_true rfl) (Nat.le_of_ble_eq_true rfl) ?_
    refine ri_lload h d_Sh_holdPiece_213 rfl ?_
    refine ri_ladd h d_Sh_holdPiece_215 ?_
    refine ri_lload h d_Sh_holdPiece_216 rfl ?_
    refine ri_lload h d_Sh_holdPiece_218 rfl ?_
    refine ri_cSv_2 h d_Sh_holdPiece_220 cs_Sh_88 (m_max_l h0 _ _ _) (Nat.le_of_ble_eq_true rfl) (Nat.le_of_ble_eq_true rfl) (Nat.le_of_ble_eq_true rfl) (Nat.le_of_ble_eq_true rfl) (Nat.le_of_ble_eq_true rfl) ?_
    refine ri_lload h d_Sh_holdPiece_223 rfl ?_
    refine ri_ladd h d_Sh_holdPiece_225 ?_
    refine ri_cV0_4 (r := (gR0, gT0, 5)) h d_Sh_holdPiece_226 cv_Sh_63 (by first | exact hS.lcO | exact hS.lsO | exact hS.lpO | exact hS.cesO (by first | assumption | omega) | exact hS.cepO (by first | assumption | omega) | exact ⟨_, (by first | assumption | exact hS.st | exact hS.mo | exact hS.out | exact hS.sb | exact hS.ce (by first | assumption | omega) | exact hS.ceb (by first | assumption | omega) | exact hS.sh (by first | assumption | omega) | exact hS.shb (by first | assumption | omega) | exact hS.pl (by first | assumption | omega) | exact hS.plb (by first | assumption | omega) | exact hS.fl (by first | assumption | omega) | exact gup_s | (refine gup_t (by assumption) ?_; first | assumption | exact gup_s | (refine gup_t (by assumption) ?_; first | assumption | exact gup_s | (refine gup_t (by assumption) ?_; first | assumption | exact gup_s))))⟩) rfl (k_Bx_hold h0 hMb _ _ _ _) (Nat.le_of_ble_eq_true rfl) (Nat.le_of_ble_eq_true rfl) (Nat.le_of_ble_eq_true rfl) (Nat.le_of_ble_eq_true rfl) (Nat.le_of_ble_eq_true rfl) ?_
    refine ri_return h d_Sh_holdPiece_229 (Nat.le_of_ble_eq_true rfl) (Nat.le_of_ble_eq_true rfl) ?_
    exact ⟨rfl, rfl⟩
  have J168 : ∀ v, v = pCx r k → G (gzz D s0 (p_, l', e_, R_, s_, m_, ar_, be_, me_, c_) (rk 2 0 0) (fR none (gup M (ad 21 s) (BxR.e (hpc r k b)))) 22) 168 [(0, .ref (ad 18 s)), (1, .int (nI k)), (2, .long (r.w / 2)), (9, .int (pSy r k)), (10, .long (pAx r k)), (12, .long (pAy r k)), (14, .long (pBx r k)), (16, .long (pBy r k))] [.long v] M 0 0 := by
    intro v hv
    subst hv
    refine ri_lstore h d_Sh_holdPiece_168 (Nat.le_of_ble_eq_true rfl) ?_
    refine ri_iload h d_Sh_holdPiece_170 rfl ?_
    refine ri_if_ne h 179 d_Sh_holdPiece_172 (by decide) (fun c_172 => ?_) (fun c_172 => ?_)
    · refine ri_lconst h 0 d_Sh_holdPiece_179 rfl ?_
      exact ri_ls [(0, .ref (ad 18 s)), (1, .int (nI k)), (10, .long (pAx r k)), (12, .long (pAy r k)), (14, .long (pBx r k)), (16, .long (pBy r k)), (18, .long (pCx r k))] ⟨rfl, rfl, rfl, rfl, rfl, rfl, rfl, trivial⟩ (J180 _ (by first | exact (if_pos c_172).symm | exact (if_neg c_172).symm))
    · refine ri_lload_n h d_Sh_holdPiece_175 rfl ?_
      refine ri_goto h 180 d_Sh_holdPiece_176 (by decide) ?_
      exact ri_ls [(0, .ref (ad 18 s)), (1, .int (nI k)), (10, .long (pAx r k)), (12, .long (pAy r k)), (14, .long (pBx r k)), (16, .long (pBy r k)), (18, .long (pCx r k))] ⟨rfl, rfl, rfl, rfl, rfl, rfl, rfl, trivial⟩ (J180 _ (by first | exact (if_pos c_172).symm | exact (if_neg c_172).symm))
  have J52 : ∀ v, v = pBehind r k → G (gzz D s0 (p_, l', e_, R_, s_, m_, ar_, be_, me_, c_) (rk 2 0 0) (fR none (gup M (ad 21 s) (BxR.e (hpc r k b)))) 22) 52 [(0, .ref (ad 18 s)), (1, .int (nI k)), (2, .long (r.w / 2)), (4, .long (pBefore r k))] [.long v] M 0 0 := by
    intro v hv
    subst hv
    refine ri_lstore h d_Sh_holdPiece_52 (Nat.le_of_ble_eq_true rfl) ?_
    refine ri_aload_n h d_Sh_holdPiece_54 rfl ?_
    refine ri_get h d_Sh_holdPiece_55 fl_Sh_9 (by first | assumption | exact hS.sh_of (by first | assumption | omega) (by assumption) | exact hS.sh (by first | assumption | omega) | exact gup_s) (by rfl) ?_
    refine ri_iload_n h d_Sh_holdPiece_58 rfl ?_
    refine ri_lald h _ d_Sh_holdPiece_59 (by first | assumption | exact hS.shx_of (by first | assumption | omega) (by assumption) | exact hS.shx (by first | assumption | omega)) (by first | rfl | assumption) (by first | assumption | omega) (by first | decide | omega) ?_
    refine ri_aload_n h d_Sh_holdPiece_60 rfl ?_
    refine ri_get h d_Sh_holdPiece_61 fl_Sh_9 (by first | assumption | exact hS.sh_of (by first | assumption | omega) (by assumption) | exact hS.sh (by first | assumption | omega) | exact gup_s) (by rfl) ?_
    refine ri_iload_n h d_Sh_holdPiece_64 rfl ?_
    refine ri_iconstN h 1 d_Sh_holdPiece_65 rfl ?_
    first | refine ri_isubN h d_Sh_holdPiece_66 (by first | omega | exact Nat.le_add_left _ _) ?_ | refine ri_isub h d_Sh_holdPiece_66 ?_
    refine ri_lald h _ d_Sh_holdPiece_67 (by first | assumption | exact hS.shx_of (by first | assumption | omega) (by assumption) | exact hS.shx (by first | assumption | omega)) (by first | rfl | assumption) (by first | assumption | omega) (by first | decide | omega) ?_
    refine ri_lsub h d_Sh_holdPiece_68 ?_
    refine ri_cSv_1 h d_Sh_holdPiece_69 cs_Sh_76 (m_jsgn h0 _ _) (Nat.le_of_ble_eq_true rfl) (Nat.le_of_ble_eq_true rfl) (Nat.le_of_ble_eq_true rfl) (Nat.le_of_ble_eq_true rfl) (Nat.le_of_ble_eq_true rfl) ?_
    refine ri_istore h d_Sh_holdPiece_72 (Nat.le_of_ble_eq_true rfl) ?_
    refine ri_aload_n h d_Sh_holdPiece_74 rfl ?_
    refine ri_get h d_Sh_holdPiece_75 fl_Sh_15 (by first | assumption | exact hS.sh_of (by first | assumption | omega) (by assumption) | exact hS.sh (by first | assumption | omega) | exact gup_s) (by rfl) ?_
    refine ri_iload_n h d_Sh_holdPiece_78 rfl ?_
    refine ri_lald h _ d_Sh_holdPiece_79 (by first | assumption | exact hS.shy_of (by first | assumption | omega) (by assumption) | exact hS.shy (by first | assumption | omega)) (by first | rfl | assumption) (by first | assumption | omega) (by first | decide | omega) ?_
    refine ri_aload_n h d_Sh_holdPiece_80 rfl ?_
    refine ri_get h d_Sh_holdPiece_81 fl_Sh_15 (by first | assumption | exact hS.sh_of (by first | assumption | omega) (by assumption) | exact hS.sh (by first | assumption | omega) | exact gup_s) (by rfl) ?_
    refine ri_iload_n h d_Sh_holdPiece_84 rfl ?_
    refine ri_iconstN h 1 d_Sh_holdPiece_85 rfl ?_
    first | refine ri_isubN h d_Sh_holdPiece_86 (by first | omega | exact Nat.le_add_left _ _) ?_ | refine ri_isub h d_Sh_holdPiece_86 ?_
    refine ri_lald h _ d_Sh_holdPiece_87 (by first | assumption | exact hS.shy_of (by first | assumption | omega) (by assumption) | exact hS.shy (by first | assumption | omega)) (by first | rfl | assumption) (by first | assumption | omega) (by first | decide | omega) ?_
    refine ri_lsub h d_Sh_holdPiece_88 ?_
    refine ri_cSv_1 h d_Sh_holdPiece_89 cs_Sh_76 (m_jsgn h0 _ _) (Nat.le_of_ble_eq_true rfl) (Nat.le_of_ble_eq_true rfl) (Nat.le_of_ble_eq_true rfl) (Nat.le_of_ble_eq_true rfl) (Nat.le_of_ble_eq_true rfl) ?_
    refine ri_istore h d_Sh_holdPiece_92 (Nat.le_of_ble_eq_true rfl) ?_
    refine ri_aload_n h d_Sh_holdPiece_94 rfl ?_
    refine ri_get h d_Sh_holdPiece_95 fl_Sh_9 (by first | assumption | exact hS.sh_of (by first | assumption | omega) (by assumption) | exact hS.sh (by first | assumption | omega) | exact gup_s) (by rfl) ?_
    refine ri_iload_n h d_Sh_holdPiece_98 rfl ?_
    refine ri_iconstN h 1 d_Sh_holdPiece_99 rfl ?_
    first | refine ri_isubN h d_Sh_holdPiece_100 (by first | omega | exact Nat.le_add_left _ _) ?_ | refine ri_isub h d_Sh_holdPiece_100 ?_
    refine ri_lald h _ d_Sh_holdPiece_101 (by first | assumption | exact hS.shx_of (by first | assumption | omega) (by assumption) | exact hS.shx (by first | assumption | omega)) (by first | rfl | assumption) (by first | assumption | omega) (by first | decide | omega) ?_
    refine ri_iload h d_Sh_holdPiece_102 rfl ?_
    refine ri_i2l h d_Sh_holdPiece_104 ?_
    refine ri_lload h d_Sh_holdPiece_105 rfl ?_
    refine ri_lmul h d_Sh_holdPiece_107 ?_
    refine ri_lsub h d_Sh_holdPiece_108 ?_
    refine ri_lstore h d_Sh_holdPiece_109 (Nat.le_of_ble_eq_true rfl) ?_
    refine ri_aload_n h d_Sh_holdPiece_111 rfl ?_
    refine ri_get h d_Sh_holdPiece_112 fl_Sh_15 (by first | assumption | exact hS.sh_of (by first | assumption | omega) (by assumption) | exact hS.sh (by first | assumption | omega) | exact gup_s) (by rfl) ?_
    refine ri_iload_n h d_Sh_holdPiece_115 rfl ?_
    refine ri_iconstN h 1 d_Sh_holdPiece_116 rfl ?_
    first | refine ri_isubN h d_Sh_holdPiece_117 (by first | omega | exact Nat.le_add_left _ _) ?_ | refine ri_isub h d_Sh_holdPiece_117 ?_
    refine ri_lald h _ d_Sh_holdPiece_118 (by first | assumption | exact hS.shy_of (by first | assumption | omega) (by assumption) | exact hS.shy (by first | assumption | omega)) (by first | rfl | assumption) (by first | assumption | omega) (by first | decide | omega) ?_
    refine ri_iload h d_Sh_holdPiece_119 rfl ?_
    refine ri_i2l h d_Sh_holdPiece_121 ?_
    refine ri_lload h d_Sh_holdPiece_122 rfl ?_
    refine ri_lmul h d_Sh_holdPiece_124 ?_
    refine ri_lsub h d_Sh_holdPiece_125 ?_
    refine ri_lstore h d_Sh_holdPiece_126 (Nat.le_of_ble_eq_true rfl) ?_
    refine ri_aload_n h d_Sh_holdPiece_128 rfl ?_
    refine ri_get h d_Sh_holdPiece_129 fl_Sh_9 (by first | assumption | exact hS.sh_of (by first | assumption | omega) (by assumption) | exact hS.sh (by first | assumption | omega) | exact gup_s) (by rfl) ?_
    refine ri_iload_n h d_Sh_holdPiece_132 rfl ?_
    refine ri_lald h _ d_Sh_holdPiece_133 (by first | assumption | exact hS.shx_of (by first | assumption | omega) (by assumption) | exact hS.shx (by first | assumption | omega)) (by first | rfl | assumption) (by first | assumption | omega) (by first | decide | omega) ?_
    refine ri_iload h d_Sh_holdPiece_134 rfl ?_
    refine ri_i2l h d_Sh_holdPiece_136 ?_
    refine ri_lload h d_Sh_holdPiece_137 rfl ?_
    refine ri_lmul h d_Sh_holdPiece_139 ?_
    refine ri_ladd h d_Sh_holdPiece_140 ?_
    refine ri_lstore h d_Sh_holdPiece_141 (Nat.le_of_ble_eq_true rfl) ?_
    refine ri_aload_n h d_Sh_holdPiece_143 rfl ?_
    refine ri_get h d_Sh_holdPiece_144 fl_Sh_15 (by first | assumption | exact hS.sh_of (by first | assumption | omega) (by assumption) | exact hS.sh (by first | assumption | omega) | exact gup_s) (by rfl) ?_
    refine ri_iload_n h d_Sh_holdPiece_147 rfl ?_
    refine ri_lald h _ d_Sh_holdPiece_148 (by first | assumption | exact hS.shy_of (by first | assumption | omega) (by assumption) | exact hS.shy (by first | assumption | omega)) (by first | rfl | assumption) (by first | assumption | omega) (by first | decide | omega) ?_
    refine ri_iload h d_Sh_holdPiece_149 rfl ?_
    refine ri_i2l h d_Sh_holdPiece_151 ?_
    refine ri_lload h d_Sh_holdPiece_152 rfl ?_
    refine ri_lmul h d_Sh_holdPiece_154 ?_
    refine ri_ladd h d_Sh_holdPiece_155 ?_
    refine ri_lstore h d_Sh_holdPiece_156 (Nat.le_of_ble_eq_true rfl) ?_
    refine ri_iload h d_Sh_holdPiece_158 rfl ?_
    refine ri_if_ne h 167 d_Sh_holdPiece_160 (by decide) (fun c_160 => ?_) (fun c_160 => ?_)
    · refine ri_lconst h 0 d_Sh_holdPiece_167 rfl ?_
      exact ri_ls [(0, .ref (ad 18 s)), (1, .int (nI k)), (2, .long (r.w / 2)), (9, .int (pSy r k)), (10, .long (pAx r k)), (12, .long (pAy r k)), (14, .long (pBx r k)), (16, .long (pBy r k))] ⟨rfl, rfl, rfl, rfl, rfl, rfl, rfl, rfl, trivial⟩ (J168 _ (by first | exact (if_pos c_160).symm | exact (if_neg c_160).symm))
    · refine ri_lload_n h d_Sh_holdPiece_163 rfl ?_
      refine ri_goto h 168 d_Sh_holdPiece_164 (by decide) ?_
      exact ri_ls [(0, .ref (ad 18 s)), (1, .int (nI k)), (2, .long (r.w / 2)), (9, .int (pSy r k)), (10, .long (pAx r k)), (12, .long (pAy r k)), (14, .long (pBx r k)), (16, .long (pBy r k))] ⟨rfl, rfl, rfl, rfl, rfl, rfl, rfl, rfl, trivial⟩ (J168 _ (by first | exact (if_pos c_160).symm | exact (if_neg c_160).symm))
  have J27 : ∀ v, v = pBefore r k → G (gzz D s0 (p_, l', e_, R_, s_, m_, ar_, be_, me_, c_) (rk 2 0 0) (fR none (gup M (ad 21 s) (BxR.e (hpc r k b)))) 22) 27 [(0, .ref (ad 18 s)), (1, .int (nI k)), (2, .long (r.w / 2))] [.long v] M 0 0 := by
    intro v hv
    subst hv
    refine ri_lstore h d_Sh_holdPiece_27 (Nat.le_of_ble_eq_true rfl) ?_
    refine ri_aload_n h d_Sh_holdPiece_29 rfl ?_
    refine ri_get h d_Sh_holdPiece_30 fl_Sh_40 (by first | assumption | exact hS.sh_of (by first | assumption | omega) (by assumption) | exact hS.sh (by first | assumption | omega) | exact gup_s) (by rfl) ?_
    refine ri_iconstN h 1 d_Sh_holdPiece_33 rfl ?_
    refine ri_icmp_ne h 51 d_Sh_holdPiece_34 (by decide) (fun c_34 => ?_) (fun c_34 => ?_)
    · refine ri_lconst h 0 d_Sh_holdPiece_51 rfl ?_
      exact ri_ls [(0, .ref (ad 18 s)), (1, .int (nI k)), (2, .long (r.w / 2)), (4, .long (pBefore r k))] ⟨rfl, rfl, rfl, rfl, trivial⟩ (J52 _ (by first | exact (if_pos ⟨c_34, c_44⟩).symm | exact (if_neg (fun q => c_34 q.1)).symm | exact (if_neg (fun q => c_44 q.2)).symm))
    · refine ri_iload_n h d_Sh_holdPiece_37 rfl ?_
      refine ri_aload_n h d_Sh_holdPiece_38 rfl ?_
      refine ri_get h d_Sh_holdPiece_39 fl_Sh_43 (by first | assumption | exact hS.sh_of (by first | assumption | omega) (by assumption) | exact hS.sh (by first | assumption | omega) | exact gup_s) (by rfl) ?_
      refine ri_iconstN h 1 d_Sh_holdPiece_42 rfl ?_
      first | refine ri_isubN h d_Sh_holdPiece_43 (by first | omega | exact Nat.le_add_left _ _) ?_ | refine ri_isub h d_Sh_holdPiece_43 ?_
      first | refine ri_icmpN_ne h 51 d_Sh_holdPiece_44 (by decide) (by omega) (by omega) (fun c_44 => ?_) (fun c_44 => ?_) | refine ri_icmp_ne h 51 d_Sh_holdPiece_44 (by decide) (fun c_44 => ?_) (fun c_44 => ?_)
      · refine ri_lconst h 0 d_Sh_holdPiece_51 rfl ?_
        exact ri_ls [(0, .ref (ad 18 s)), (1, .int (nI k)), (2, .long (r.w / 2)), (4, .long (pBefore r k))] ⟨rfl, rfl, rfl, rfl, trivial⟩ (J52 _ (by first | exact (if_pos ⟨c_34, c_44⟩).symm | exact (if_neg (fun q => c_34 q.1)).symm | exact (if_neg (fun q => c_44 q.2)).symm))
      · refine ri_lload_n h d_Sh_holdPiece_47 rfl ?_
        refine ri_goto h 52 d_Sh_holdPiece_48 (by decide) ?_
        exact ri_ls [(0, .ref (ad 18 s)), (1, .int (nI k)), (2, .long (r.w / 2)), (4, .long (pBefore r k))] ⟨rfl, rfl, rfl, rfl, trivial⟩ (J52 _ (by first | exact (if_pos ⟨c_34, c_44⟩).symm | exact (if_neg (fun q => c_34 q.1)).symm | exact (if_neg (fun q => c_44 q.2)).symm))
  refine ri_aload_n h d_Sh_holdPiece_0 rfl ?_
  refine ri_get h d_Sh_holdPiece_1 fl_Sh_36 (by first | assumption | exact hS.sh_of (by first | assumption | omega) (by assumption) | exact hS.sh (by first | assumption | omega) | exact gup_s) (by rfl) ?_
  refine ri_ldc2 h 2 d_Sh_holdPiece_4 kl_Sh_74 ?_
  refine ri_ldiv h d_Sh_holdPiece_7 (by decide) ?_
  refine ri_lstore_n h d_Sh_holdPiece_8 (Nat.le_of_ble_eq_true rfl) ?_
  refine ri_aload_n h d_Sh_holdPiece_9 rfl ?_
  refine ri_get h d_Sh_holdPiece_10 fl_Sh_40 (by first | assumption | exact hS.sh_of (by first | assumption | omega) (by assumption) | exact hS.sh (by first | assumption | omega) | exact gup_s) (by rfl) ?_
  refine ri_iconstN h 1 d_Sh_holdPiece_13 rfl ?_
  refine ri_icmp_ne h 26 d_Sh_holdPiece_14 (by decide) (fun c_14 => ?_) (fun c_14 => ?_)
  · refine ri_lconst h 0 d_Sh_holdPiece_26 rfl ?_
    exact ri_ls [(0, .ref (ad 18 s)), (1, .int (nI k)), (2, .long (r.w / 2))] ⟨rfl, rfl, rfl, trivial⟩ (J27 _ (by first | exact (if_pos ⟨c_14, c_19⟩).symm | exact (if_neg (fun q => c_14 q.1)).symm | exact (if_neg (fun q => c_19 q.2)).symm))
  · refine ri_iload_n h d_Sh_holdPiece_17 rfl ?_
    refine ri_iconstN h 1 d_Sh_holdPiece_18 rfl ?_
    first | refine ri_icmpN_ne h 26 d_Sh_holdPiece_19 (by decide) (by omega) (by omega) (fun c_19 => ?_) (fun c_19 => ?_) | refine ri_icmp_ne h 26 d_Sh_holdPiece_19 (by decide) (fun c_19 => ?_) (fun c_19 => ?_)
    · refine ri_lconst h 0 d_Sh_holdPiece_26 rfl ?_
      exact ri_ls [(0, .ref (ad 18 s)), (1, .int (nI k)), (2, .long (r.w / 2))] ⟨rfl, rfl, rfl, trivial⟩ (J27 _ (by first | exact (if_pos ⟨c_14, c_19⟩).symm | exact (if_neg (fun q => c_14 q.1)).symm | exact (if_neg (fun q => c_19 q.2)).symm))
    · refine ri_lload_n h d_Sh_holdPiece_22 rfl ?_
      refine ri_goto h 27 d_Sh_holdPiece_23 (by decide) ?_
      exact ri_ls [(0, .ref (ad 18 s)), (1, .int (nI k)), (2, .long (r.w / 2))] ⟨rfl, rfl, rfl, trivial⟩ (J27 _ (by first | exact (if_pos ⟨c_14, c_19⟩).symm | exact (if_neg (fun q => c_14 q.1)).symm | exact (if_neg (fun q => c_19 q.2)).symm))
theorem k_measurePieces (h0 : g_0 l D s0) (hS : HS z ad Q N M) {s : Nat} (hs : s < Q.nS) {r : ShR} (hr : Q.sh s = r) (hc : r.cnt ≤ 24) : Ct l D s0 y_Sh_measurePieces (Cond.code y_Sh_measurePieces b_Sh_measurePieces 2 none) (rk 3 0 0) [.ref (ad 18 s)] M (fS none (HS z ad (Q.set_sh (va_up Q.sh s (r.set_bx (mpc r (bclear r.bx) (r.cnt - 1))))) N)) := by
  refine Ct.of h0 (by decide +kernel) rfl fun X hX h => ?_
  obtain ⟨p_, l', e_, R_, s_, m_, ar_, be_, me_, c_⟩ := X
  obtain rfl : l' = l := hX
  have LP : ∀ (q k : Nat), k + q = r.cnt - 1 → ∀ M', HS z ad (Q.set_sh (va_up Q.sh s (r.set_bx (mpc r (bclear r.bx) k)))) N M' → G (gzz D s0 (p_, l', e_, R_, s_, m_, ar_, be_, me_, c_) (rk 3 0 0) (fS none (HS z ad (Q.set_sh (va_up Q.sh s (r.set_bx (mpc r (bclear r.bx) (r.cnt - 1))))) N)) 2) 9 [(0, .ref (ad 18 s)), (1, .int (nI (k + 1)))] [] M' 0 0 := by
    intro q
    induction q with
    | zero =>
      intro k hk M hS
      have h_sh : (Q.set_sh (va_up Q.sh s (r.set_bx (mpc r (bclear r.bx) k)))).sh s = r.set_bx (mpc r (bclear r.bx) k) := va_up_s
      obtain rfl : k = r.cnt - 1 := by omega
      refine ri_iload_n h d_Sh_measurePieces_9 rfl ?_
      refine ri_aload_n h d_Sh_measurePieces_10 rfl ?_
      refine ri_get h d_Sh_measurePieces_11 fl_Sh_43 (by first | assumption | exact hS.sh_of (by first | assumption | omega) (by assumption) | exact hS.sh (by first | assumption | omega) | exact gup_s) (by rfl) ?_
      refine ri_icmp_ge h 28 d_Sh_measurePieces_14 (by decide) (fun c_14 => ?_) (fun c_14 => absurd (nI_le (show r.cnt ≤ r.cnt - 1 + 1 by omega) (by omega)) c_14)
      refine ri_return h d_Sh_measurePieces_28 (Nat.le_of_ble_eq_true rfl) (Nat.le_of_ble_eq_true rfl) ?_
      exact ⟨rfl, hS⟩
    | succ q ih =>
      intro k hk M hS
      have h_sh : (Q.set_sh (va_up Q.sh s (r.set_bx (mpc r (bclear r.bx) k)))).sh s = r.set_bx (mpc r (bclear r.bx) k) := va_up_s
      refine ri_iload_n h d_Sh_measurePieces_9 rfl ?_
      refine ri_aload_n h d_Sh_measurePieces_10 rfl ?_
      refine ri_get h d_Sh_measurePieces_11 fl_Sh_43 (by first | assumption | exact hS.sh_of (by first | assumption | omega) (by assumption) | exact hS.sh (by first | assumption | omega) | exact gup_s) (by rfl) ?_
      refine ri_icmp_ge h 28 d_Sh_measurePieces_14 (by decide) (fun c_14 => absurd c_14 (Int32.not_le.mpr (nI_lt (show k + 1 < r.cnt by omega) (show r.cnt < 2 ^ 31 by omega)))) (fun c_14 => ?_)
      refine ri_aload_n h d_Sh_measurePieces_17 rfl ?_
      refine ri_iload_n h d_Sh_measurePieces_18 rfl ?_
      refine ri_cV0_1 (r := (gR4, gT4, 10)) h d_Sh_measurePieces_19 cv_Sh_70 (by first | exact hS.lcO | exact hS.lsO | exact hS.lpO | exact hS.cesO (by first | assumption | omega) | exact hS.cepO (by first | assumption | omega) | exact ⟨_, (by first | assumption | exact hS.st | exact hS.mo | exact hS.out | exact hS.sb | exact hS.ce (by first | assumption | omega) | exact hS.ceb (by first | assumption | omega) | exact hS.sh (by first | assumption | omega) | exact hS.shb (by first | assumption | omega) | exact hS.pl (by first | assumption | omega) | exact hS.plb (by first | assumption | omega) | exact hS.fl (by first | assumption | omega) | exact gup_s | (refine gup_t (by assumption) ?_; first | assumption | exact gup_s | (refine gup_t (by assumption) ?_; first | assumption | exact gup_s | (refine gup_t (by assumption) ?_; first | assumption | exact gup_s))))⟩) rfl (k_holdPiece h0 (hS.sh_of hs h_sh) (hS.shx_of hs h_sh) (hS.shy_of hs h_sh) (hS.shb_of hs h_sh) (by omega) (show k + 1 < r.cnt by omega) hc) (Nat.le_of_ble_eq_true rfl) (Nat.le_of_ble_eq_true rfl) (Nat.le_of_ble_eq_true rfl) (Nat.le_of_ble_eq_true rfl) (Nat.le_of_ble_eq_true rfl) ?_
      refine ri_gH2 (hS.p_shb hs h_sh _) (fun M hS h_sh => ?_)
      first | refine ri_iincN h d_Sh_measurePieces_22 rfl (Nat.le_of_ble_eq_true rfl) ?_ | refine ri_iinc h _ d_Sh_measurePieces_22 rfl rfl (Nat.le_of_ble_eq_true rfl) ?_
      refine ri_goto h 9 d_Sh_measurePieces_25 (by decide) ?_
      exact ri_ls [(0, .ref (ad 18 s)), (1, .int (nI (k + 1 + 1)))] ⟨rfl, rfl, trivial⟩ (ih (k + 1) (by omega) _ hS.sh2)
  refine ri_aload_n h d_Sh_measurePieces_0 rfl ?_
  refine ri_get h d_Sh_measurePieces_1 fl_Sh_21 (by first | assumption | exact hS.sh_of (by first | assumption | omega) (by assumption) | exact hS.sh (by first | assumption | omega) | exact gup_s) (by rfl) ?_
  refine ri_cV0_0 (r := (gR0, gT0, 5)) h d_Sh_measurePieces_4 cv_Sh_67 (by first | exact hS.lcO | exact hS.lsO | exact hS.lpO | exact hS.cesO (by first | assumption | omega) | exact hS.cepO (by first | assumption | omega) | exact ⟨_, (by first | assumption | exact hS.st | exact hS.mo | exact hS.out | exact hS.sb | exact hS.ce (by first | assumption | omega) | exact hS.ceb (by first | assumption | omega) | exact hS.sh (by first | assumption | omega) | exact hS.shb (by first | assumption | omega) | exact hS.pl (by first | assumption | omega) | exact hS.plb (by first | assumption | omega) | exact hS.fl (by first | assumption | omega) | exact gup_s | (refine gup_t (by assumption) ?_; first | assumption | exact gup_s | (refine gup_t (by assumption) ?_; first | assumption | exact gup_s | (refine gup_t (by assumption) ?_; first | assumption | exact gup_s))))⟩) rfl (k_Bx_clear h0 (hS.shb_of hs hr)) (Nat.le_of_ble_eq_true rfl) (Nat.le_of_ble_eq_true rfl) (Nat.le_of_ble_eq_true rfl) (Nat.le_of_ble_eq_true rfl) (Nat.le_of_ble_eq_true rfl) ?_
  refine ri_gH2 (hS.p_shb hs hr (bclear r.bx)) (fun M hS h_sh => ?_)
  refine ri_iconstN h 1 d_Sh_measurePieces_7 rfl ?_
  refine ri_istore_n h d_Sh_measurePieces_8 (Nat.le_of_ble_eq_true rfl) ?_
  exact ri_ls [(0, .ref (ad 18 s)), (1, .int (nI (0 + 1)))] ⟨rfl, rfl, trivial⟩ <| LP (r.cnt - 1) 0 (by omega) _ hS
/-- a corner or point more -/
def addR (r : ShR) (x y : Int64) : ShR :=
  let q := (((r.set_xs (va_up r.xs r.cnt x)).set_ys (va_up r.ys r.cnt y)).set_cnt (r.cnt + 1)).set_st (fun j => if j < 8 then 0 else r.st j)
  if 0 < r.w then q.set_bx (mpc q (bclear r.bx) r.cnt) else q.set_bx (bhold r.bx x y x y)
theorem k_Sh_add (h0 : g_0 l D s0) (hS : HS z ad Q N M) {s : Nat} (hs : s < Q.nS) (hc : (Q.sh s).cnt < 24) (x y : Int64) : Ct l D s0 y_Sh_add (Cond.code y_Sh_add b_Sh_add 5 none) (rk 4 0 0) [.ref (ad 18 s), .long x, .long y] M (fS none (HS z ad (Q.set_sh (va_up Q.sh s (addR (Q.sh s) x y))) N)) := by
  refine Ct.of h0 (by decide +kernel) rfl fun X hX h => ?_
  obtain ⟨p_, l', e_, R_, s_, m_, ar_, be_, me_, c_⟩ := X
  obtain rfl : l' = l := hX
  have h_sh : Q.sh s = Q.sh s := rfl
  refine ri_aload_n h d_Sh_add_0 rfl ?_
  refine ri_get h d_Sh_add_1 fl_Sh_43 (by first | assumption | exact hS.sh_of (by first | assumption | omega) (by assumption) | exact hS.sh (by first | assumption | omega) | exact gup_s) (by rfl) ?_
  refine ri_bipushN h 24 d_Sh_add_4 rfl ?_
  first | refine ri_icmpN_lt h 10 d_Sh_add_6 (by decide) (by omega) (by omega) (fun c_6 => ?_) (fun c_6 => ?_) | refine ri_icmp_lt h 10 d_Sh_add_6 (by decide) (fun c_6 => ?_) (fun c_6 => ?_)
  · refine ri_aload_n h d_Sh_add_10 rfl ?_
    refine ri_get h d_Sh_add_11 fl_Sh_9 (by first | assumption | exact hS.sh_of (by first | assumption | omega) (by assumption) | exact hS.sh (by first | assumption | omega) | exact gup_s) (by rfl) ?_
    refine ri_aload_n h d_Sh_add_14 rfl ?_
    refine ri_get h d_Sh_add_15 fl_Sh_43 (by first | assumption | exact hS.sh_of (by first | assumption | omega) (by assumption) | exact hS.sh (by first | assumption | omega) | exact gup_s) (by rfl) ?_
    refine ri_lload_n h d_Sh_add_18 rfl ?_
    refine ri_last h _ d_Sh_add_19 (by first | assumption | exact hS.shx_of (by first | assumption | omega) (by assumption) | exact hS.shx (by first | assumption | omega)) (by first | rfl | assumption) (by first | assumption | omega) (by first | decide | omega) ?_
    refine ri_gH2 (hS.p_shx (by first | assumption | omega) (by first | assumption | rfl) _) (fun M hS h_sh => ?_)
    refine ri_aload_n h d_Sh_add_20 rfl ?_
    refine ri_get h d_Sh_add_21 fl_Sh_15 (by first | assumption | exact hS.sh_of (by first | assumption | omega) (by assumption) | exact hS.sh (by first | assumption | omega) | exact gup_s) (by rfl) ?_
    refine ri_aload_n h d_Sh_add_24 rfl ?_
    refine ri_get h d_Sh_add_25 fl_Sh_43 (by first | assumption | exact hS.sh_of (by first | assumption | omega) (by assumption) | exact hS.sh (by first | assumption | omega) | exact gup_s) (by rfl) ?_
    refine ri_lload_n h d_Sh_add_28 rfl ?_
    refine ri_last h _ d_Sh_add_29 (by first | assumption | exact hS.shy_of (by first | assumption | omega) (by assumption) | exact hS.shy (by first | assumption | omega)) (by first | rfl | assumption) (by first | assumption | omega) (by first | decide | omega) ?_
    refine ri_gH2 (hS.p_shy (by first | assumption | omega) (by first | assumption | rfl) _) (fun M hS h_sh => ?_)
    refine ri_aload_n h d_Sh_add_30 rfl ?_
    refine ri_dup h d_Sh_add_31 rfl ?_
    refine ri_get h d_Sh_add_32 fl_Sh_43 (by first | assumption | exact hS.sh_of (by first | assumption | omega) (by assumption) | exact hS.sh (by first | assumption | omega) | exact gup_s) (by rfl) ?_
    refine ri_iconstN h 1 d_Sh_add_35 rfl ?_
    first | refine ri_iaddN h d_Sh_add_36 ?_ | refine ri_iadd h d_Sh_add_36 ?_
    refine ri_p_cnt h d_Sh_add_37 fl_Sh_43 hS (by first | assumption | omega) (by first | assumption | rfl) (fun M hS h_sh => ?_)
    refine ri_aload_n h d_Sh_add_40 rfl ?_
    refine ri_get h d_Sh_add_41 fl_Sh_29 (by first | assumption | exact hS.sh_of (by first | assumption | omega) (by assumption) | exact hS.sh (by first | assumption | omega) | exact gup_s) (by rfl) ?_
    refine ri_iconstN h 0 d_Sh_add_44 rfl ?_
    refine ri_cS0_2 h d_Sh_add_45 cs_Sh_54 (k_fill h0 (hS.sht_of hs h_sh) (by decide) _) (Nat.le_of_ble_eq_true rfl) (Nat.le_of_ble_eq_true rfl) (Nat.le_of_ble_eq_true rfl) (Nat.le_of_ble_eq_true rfl) (Nat.le_of_ble_eq_true rfl) ?_
    refine ri_gH2 (hS.p_sht hs h_sh _) (fun M hS h_sh => ?_)
    by_cases hw : 0 < (Q.sh s).w
    · refine ri_aload_n h d_Sh_add_48 rfl ?_
      refine ri_cVv_0 (r := (gR4, gT4, 10)) h d_Sh_add_49 cv_Sh_46 (by first | exact hS.lcO | exact hS.lsO | exact hS.lpO | exact hS.cesO (by first | assumption | omega) | exact hS.cepO (by first | assumption | omega) | exact ⟨_, (by first | assumption | exact hS.st | exact hS.mo | exact hS.out | exact hS.sb | exact hS.ce (by first | assumption | omega) | exact hS.ceb (by first | assumption | omega) | exact hS.sh (by first | assumption | omega) | exact hS.shb (by first | assumption | omega) | exact hS.pl (by first | assumption | omega) | exact hS.plb (by first | assumption | omega) | exact hS.fl (by first | assumption | omega) | exact gup_s | (refine gup_t (by assumption) ?_; first | assumption | exact gup_s | (refine gup_t (by assumption) ?_; first | assumption | exact gup_s | (refine gup_t (by assumption) ?_; first | assumption | exact gup_s))))⟩) rfl (by first | exact k_isPath h0 (hS.sh_of (by first | assumption | omega) (by assumption)) | exact k_isPath h0 (hS.sh (by first | assumption | omega))) (by exact Nat.le_of_ble_eq_true rfl) (by exact Nat.le_of_ble_eq_true rfl) (by exact Nat.le_of_ble_eq_true rfl) (by exact Nat.le_of_ble_eq_true rfl) (by exact Nat.le_of_ble_eq_true rfl) ?_
      first | refine ri_ifB_eq h 62 d_Sh_add_52 (by decide) (fun c_52 => ?_) (fun c_52 => ?_) | refine ri_ifN_eq h 62 d_Sh_add_52 (by decide) (by omega) (fun c_52 => ?_) (fun c_52 => ?_) | refine ri_if_eq h 62 d_Sh_add_52 (by decide) (fun c_52 => ?_) (fun c_52 => ?_)
      · exact absurd hw c_52
      · refine ri_aload_n h d_Sh_add_55 rfl ?_
        refine ri_dV0_0 (r := (gR4, gT4, 10)) h d_Sh_add_56 cv_Sh_60 (by first | exact hS.lcO | exact hS.lsO | exact hS.lpO | exact hS.cesO (by first | assumption | omega) | exact hS.cepO (by first | assumption | omega) | exact ⟨_, (by first | assumption | exact hS.st | exact hS.mo | exact hS.out | exact hS.sb | exact hS.ce (by first | assumption | omega) | exact hS.ceb (by first | assumption | omega) | exact hS.sh (by first | assumption | omega) | exact hS.shb (by first | assumption | omega) | exact hS.pl (by first | assumption | omega) | exact hS.plb (by first | assumption | omega) | exact hS.fl (by first | assumption | omega) | exact gup_s | (refine gup_t (by assumption) ?_; first | assumption | exact gup_s | (refine gup_t (by assumption) ?_; first | assumption | exact gup_s | (refine gup_t (by assumption) ?_; first | assumption | exact gup_s))))⟩) rfl (k_measurePieces h0 hS hs h_sh (show (Q.sh s).cnt + 1 ≤ 24 by omega)) (Nat.le_of_ble_eq_true rfl) (Nat.le_of_ble_eq_true rfl) (Nat.le_of_ble_eq_true rfl) (Nat.le_of_ble_eq_true rfl) (Nat.le_of_ble_eq_true rfl) (fun M hS => ?_)
        refine ri_goto h 73 d_Sh_add_59 (by decide) ?_
        refine ri_return h d_Sh_add_73 (Nat.le_of_ble_eq_true rfl) (Nat.le_of_ble_eq_true rfl) ?_
        exact ⟨rfl, hS.sh2.sh2.sh2.sh2.cong (congrArg (fun f => Q.set_sh (va_up Q.sh s f)) (if_pos hw).symm) rfl⟩
    · refine ri_aload_n h d_Sh_add_48 rfl ?_
      refine ri_cVv_0 (r := (gR4, gT4, 10)) h d_Sh_add_49 cv_Sh_46 (by first | exact hS.lcO | exact hS.lsO | exact hS.lpO | exact hS.cesO (by first | assumption | omega) | exact hS.cepO (by first | assumption | omega) | exact ⟨_, (by first | assumption | exact hS.st | exact hS.mo | exact hS.out | exact hS.sb | exact hS.ce (by first | assumption | omega) | exact hS.ceb (by first | assumption | omega) | exact hS.sh (by first | assumption | omega) | exact hS.shb (by first | assumption | omega) | exact hS.pl (by first | assumption | omega) | exact hS.plb (by first | assumption | omega) | exact hS.fl (by first | assumption | omega) | exact gup_s | (refine gup_t (by assumption) ?_; first | assumption | exact gup_s | (refine gup_t (by assumption) ?_; first | assumption | exact gup_s | (refine gup_t (by assumption) ?_; first | assumption | exact gup_s))))⟩) rfl (by first | exact k_isPath h0 (hS.sh_of (by first | assumption | omega) (by assumption)) | exact k_isPath h0 (hS.sh (by first | assumption | omega))) (by exact Nat.le_of_ble_eq_true rfl) (by exact Nat.le_of_ble_eq_true rfl) (by exact Nat.le_of_ble_eq_true rfl) (by exact Nat.le_of_ble_eq_true rfl) (by exact Nat.le_of_ble_eq_true rfl) ?_
      first | refine ri_ifB_eq h 62 d_Sh_add_52 (by decide) (fun c_52 => ?_) (fun c_52 => ?_) | refine ri_ifN_eq h 62 d_Sh_add_52 (by decide) (by omega) (fun c_52 => ?_) (fun c_52 => ?_) | refine ri_if_eq h 62 d_Sh_add_52 (by decide) (fun c_52 => ?_) (fun c_52 => ?_)
      · refine ri_aload_n h d_Sh_add_62 rfl ?_
        refine ri_get h d_Sh_add_63 fl_Sh_21 (by first | assumption | exact hS.sh_of (by first | assumption | omega) (by assumption) | exact hS.sh (by first | assumption | omega) | exact gup_s) (by rfl) ?_
        refine ri_lload_n h d_Sh_add_66 rfl ?_
        refine ri_lload_n h d_Sh_add_67 rfl ?_
        refine ri_lload_n h d_Sh_add_68 rfl ?_
        refine ri_lload_n h d_Sh_add_69 rfl ?_
        refine ri_cV0_4 (r := (gR0, gT0, 5)) h d_Sh_add_70 cv_Sh_63 (by first | exact hS.lcO | exact hS.lsO | exact hS.lpO | exact hS.cesO (by first | assumption | omega) | exact hS.cepO (by first | assumption | omega) | exact ⟨_, (by first | assumption | exact hS.st | exact hS.mo | exact hS.out | exact hS.sb | exact hS.ce (by first | assumption | omega) | exact hS.ceb (by first | assumption | omega) | exact hS.sh (by first | assumption | omega) | exact hS.shb (by first | assumption | omega) | exact hS.pl (by first | assumption | omega) | exact hS.plb (by first | assumption | omega) | exact hS.fl (by first | assumption | omega) | exact gup_s | (refine gup_t (by assumption) ?_; first | assumption | exact gup_s | (refine gup_t (by assumption) ?_; first | assumption | exact gup_s | (refine gup_t (by assumption) ?_; first | assumption | exact gup_s))))⟩) rfl (k_Bx_hold h0 (by first | assumption | exact hS.ceb_of (by first | assumption | omega) (by assumption) | exact hS.ceb (by first | assumption | omega) | exact hS.shb_of (by first | assumption | omega) (by assumption) | exact hS.shb (by first | assumption | omega) | exact hS.plb_of (by first | assumption | omega) (by assumption) | exact hS.plb (by first | assumption | omega) | exact hS.sb) _ _ _ _) (Nat.le_of_ble_eq_true rfl) (Nat.le_of_ble_eq_true rfl) (Nat.le_of_ble_eq_true rfl) (Nat.le_of_ble_eq_true rfl) (Nat.le_of_ble_eq_true rfl) ?_
        first | refine ri_gH2 (hS.q_ceb (by first | assumption | omega) (by first | assumption | rfl) _ _ _ _ _) (fun M hS h_ce => ?_) | refine ri_gH2 (hS.q_shb (by first | assumption | omega) (by first | assumption | rfl) _ _ _ _ _) (fun M hS h_sh => ?_) | refine ri_gH2 (hS.q_plb (by first | assumption | omega) (by first | assumption | rfl) _ _ _ _ _) (fun M hS h_pl => ?_) | refine ri_gH (hS.q_sb _ _ _ _ _) (fun M hS => ?_)
        refine ri_return h d_Sh_add_73 (Nat.le_of_ble_eq_true rfl) (Nat.le_of_ble_eq_true rfl) ?_
        exact ⟨rfl, hS.sh2.sh2.sh2.sh2.cong (congrArg (fun f => Q.set_sh (va_up Q.sh s f)) (if_neg hw).symm) rfl⟩
      · exact absurd c_52 hw
  · omega
/-- may the corner or point be added -/
abbrev takesB (r : ShR) (x y : Int64) : Prop := r.cnt = 0 ∨ (if 0 < r.w then ¬ ((r.xs (r.cnt - 1) = x) ↔ (r.ys (r.cnt - 1) = y)) else ¬ (r.xs (r.cnt - 1) = x ∧ r.ys (r.cnt - 1) = y))
theorem tk_p {r : ShR} {x y : Int64} (hc : ¬ r.cnt = 0) (hw : 0 < r.w) : takesB r x y ↔ ¬ ((r.xs (r.cnt - 1) = x) ↔ (r.ys (r.cnt - 1) = y)) := by
  unfold takesB
  rw [if_pos hw]
  exact ⟨fun q => q.resolve_left hc, Or.inr⟩
theorem tk_c {r : ShR} {x y : Int64} (hc : ¬ r.cnt = 0) (hw : ¬ 0 < r.w) : takesB r x y ↔ ¬ (r.xs (r.cnt - 1) = x ∧ r.ys (r.cnt - 1) = y) := by
  unfold takesB
  rw [if_neg hw]
  exact ⟨fun q => q.resolve_left hc, Or.inr⟩
theorem k_takes (h0 : g_0 l D s0) (hS : HS z ad Q N M) {s : Nat} (hs : s < Q.nS) (hc : (Q.sh s).cnt ≤ 24) (x y : Int64) : Ct l D s0 y_Sh_takes (Cond.code y_Sh_takes b_Sh_takes 8 (some .boolean)) (rk 1 0 0) [.ref (ad 18 s), .long x, .long y] M (fR (some (.int (bI (takesB (Q.sh s) x y)))) M) := by
  by_cases h1 : (Q.sh s).cnt = 0
  · refine Ct.of h0 (by decide +kernel) rfl fun X hX h => ?_
    obtain ⟨p_, l', e_, R_, s_, m_, ar_, be_, me_, c_⟩ := X
    obtain rfl : l' = l := hX
    have e1 : nI (Q.sh s).cnt - nI 1 < 0 := by rw [h1]; decide
    refine ri_aload_n h d_Sh_takes_0 rfl ?_
    refine ri_get h d_Sh_takes_1 fl_Sh_43 (by first | assumption | exact hS.sh_of (by first | assumption | omega) (by assumption) | exact hS.sh (by first | assumption | omega) | exact gup_s) (by rfl) ?_
    refine ri_iconstN h 1 d_Sh_takes_4 rfl ?_
    refine ri_isub h d_Sh_takes_5 ?_
    refine ri_istore h d_Sh_takes_6 (Nat.le_of_ble_eq_true rfl) ?_
    refine ri_iload h d_Sh_takes_8 rfl ?_
    refine ri_if_ge h 15 d_Sh_takes_10 (by decide) (fun c_10 => ?_) (fun c_10 => ?_)
    · exact absurd e1 (Int32.not_lt.mpr c_10)
    · refine ri_iconstN h 1 d_Sh_takes_13 rfl ?_
      refine ri_zreturn h d_Sh_takes_14 (Nat.le_of_ble_eq_true rfl) (Nat.le_of_ble_eq_true rfl) (by first | rfl | assumption) ?_
      exact ⟨congrArg (fun x => Sum.inl (some (Value.int x))) (bI_1 (Or.inl h1)).symm, rfl⟩
  · by_cases hw : 0 < (Q.sh s).w
    · have e1 := tk_p (x := x) (y := y) h1 hw
      have e2 : spath (Q.sh s).w = nI 1 := by simp [spath, hw]; rfl
      refine Ct.of h0 (by decide +kernel) rfl fun X hX h => ?_
      obtain ⟨p_, l', e_, R_, s_, m_, ar_, be_, me_, c_⟩ := X
      obtain rfl : l' = l := hX
      refine ri_aload_n h d_Sh_takes_0 rfl ?_
      refine ri_get h d_Sh_takes_1 fl_Sh_43 (by first | assumption | exact hS.sh_of (by first | assumption | omega) (by assumption) | exact hS.sh (by first | assumption | omega) | exact gup_s) (by rfl) ?_
      refine ri_iconstN h 1 d_Sh_takes_4 rfl ?_
      first | refine ri_isubN h d_Sh_takes_5 (by first | omega | exact Nat.le_add_left _ _) ?_ | refine ri_isub h d_Sh_takes_5 ?_
      refine ri_istore h d_Sh_takes_6 (Nat.le_of_ble_eq_true rfl) ?_
      refine ri_iload h d_Sh_takes_8 rfl ?_
      refine ri_ifM_ge h 15 d_Sh_takes_10 (by decide) (by omega) (fun c_10 => ?_) (fun c_10 => ?_)
      · first
        | (exfalso; first | exact absurd c_10 (by decide) | omega)
        | (refine ri_aload_n h d_Sh_takes_15 rfl ?_
           refine ri_get h d_Sh_takes_16 fl_Sh_9 (by first | assumption | exact hS.sh_of (by first | assumption | omega) (by assumption) | exact hS.sh (by first | assumption | omega) | exact gup_s) (by rfl) ?_
           refine ri_iload h d_Sh_takes_19 rfl ?_
           refine ri_lald h _ d_Sh_takes_21 (by first | assumption | exact hS.shx_of (by first | assumption | omega) (by assumption) | exact hS.shx (by first | assumption | omega)) (by first | rfl | assumption) (by first | assumption | omega) (by first | decide | omega) ?_
           refine ri_lload_n h d_Sh_takes_22 rfl ?_
           refine ri_lcmp_eq h 31 d_Sh_takes_23 d_Sh_takes_24 (by decide) (fun c_23 => ?_) (fun c_23 => ?_)
           · first
             | (exfalso; first | exact absurd c_23 (by decide) | omega)
             | (refine ri_iconstN h 0 d_Sh_takes_31 rfl ?_
                refine ri_istore h d_Sh_takes_32 (Nat.le_of_ble_eq_true rfl) ?_
                refine ri_aload_n h d_Sh_takes_34 rfl ?_
                refine ri_get h d_Sh_takes_35 fl_Sh_15 (by first | assumption | exact hS.sh_of (by first | assumption | omega) (by assumption) | exact hS.sh (by first | assumption | omega) | exact gup_s) (by rfl) ?_
                refine ri_iload h d_Sh_takes_38 rfl ?_
                refine ri_lald h _ d_Sh_takes_40 (by first | assumption | exact hS.shy_of (by first | assumption | omega) (by assumption) | exact hS.shy (by first | assumption | omega)) (by first | rfl | assumption) (by first | assumption | omega) (by first | decide | omega) ?_
                refine ri_lload_n h d_Sh_takes_41 rfl ?_
                refine ri_lcmp_eq h 50 d_Sh_takes_42 d_Sh_takes_43 (by decide) (fun c_42 => ?_) (fun c_42 => ?_)
                · first
                  | (exfalso; first | exact absurd c_42 (by decide) | omega)
                  | (refine ri_iconstN h 0 d_Sh_takes_50 rfl ?_
                     refine ri_istore h d_Sh_takes_51 (Nat.le_of_ble_eq_true rfl) ?_
                     refine ri_aload_n h d_Sh_takes_53 rfl ?_
                     refine ri_cVv_0 (r := (gR4, gT4, 10)) h d_Sh_takes_54 cv_Sh_46 (by first | exact hS.lcO | exact hS.lsO | exact hS.lpO | exact hS.cesO (by first | assumption | omega) | exact hS.cepO (by first | assumption | omega) | exact ⟨_, (by first | assumption | exact hS.st | exact hS.mo | exact hS.out | exact hS.sb | exact hS.ce (by first | assumption | omega) | exact hS.ceb (by first | assumption | omega) | exact hS.sh (by first | assumption | omega) | exact hS.shb (by first | assumption | omega) | exact hS.pl (by first | assumption | omega) | exact hS.plb (by first | assumption | omega) | exact hS.fl (by first | assumption | omega) | exact gup_s | (refine gup_t (by assumption) ?_; first | assumption | exact gup_s | (refine gup_t (by assumption) ?_; first | assumption | exact gup_s | (refine gup_t (by assumption) ?_; first | assumption | exact gup_s))))⟩) rfl (by first | exact k_isPath h0 (hS.sh_of (by first | assumption | omega) (by assumption)) | exact k_isPath h0 (hS.sh (by first | assumption | omega))) (by exact Nat.le_of_ble_eq_true rfl) (by exact Nat.le_of_ble_eq_true rfl) (by exact Nat.le_of_ble_eq_true rfl) (by exact Nat.le_of_ble_eq_true rfl) (by exact Nat.le_of_ble_eq_true rfl) ?_
                     first | refine ri_ifB_eq h 75 d_Sh_takes_57 (by decide) (fun c_57 => ?_) (fun c_57 => ?_) | refine ri_ifN_eq h 75 d_Sh_takes_57 (by decide) (by omega) (fun c_57 => ?_) (fun c_57 => ?_) | refine ri_if_eq h 75 d_Sh_takes_57 (by decide) (fun c_57 => ?_) (fun c_57 => ?_)
                     · exact absurd hw c_57
                     · first
                       | (exfalso; first | exact absurd c_57 (by decide) | omega)
                       | (refine ri_iload h d_Sh_takes_60 rfl ?_
                          refine ri_iload h d_Sh_takes_62 rfl ?_
                          first | refine ri_icmpN_eq h 71 d_Sh_takes_64 (by decide) (by omega) (by omega) (fun c_64 => ?_) (fun c_64 => ?_) | refine ri_icmp_eq h 71 d_Sh_takes_64 (by decide) (fun c_64 => ?_) (fun c_64 => ?_)
                          · first
                            | (exfalso; first | exact absurd c_64 (by decide) | omega)
                            | (refine ri_iconstN h 0 d_Sh_takes_71 rfl ?_
                               refine ri_goto h 90 d_Sh_takes_72 (by decide) ?_
                               refine ri_zreturn h d_Sh_takes_90 (Nat.le_of_ble_eq_true rfl) (Nat.le_of_ble_eq_true rfl) (by first | rfl | assumption) ?_
                               first | exact ⟨congrArg (fun x => Sum.inl (some (Value.int x))) (bI_1 (e1.mpr (fun q => c_42 (q.mp c_23)))).symm, rfl⟩ | exact ⟨congrArg (fun x => Sum.inl (some (Value.int x))) (bI_1 (e1.mpr (fun q => c_23 (q.mpr c_42)))).symm, rfl⟩ | exact ⟨congrArg (fun x => Sum.inl (some (Value.int x))) (bI_0 (fun q => e1.mp q ⟨fun _ => c_42, fun _ => c_23⟩)).symm, rfl⟩ | exact ⟨congrArg (fun x => Sum.inl (some (Value.int x))) (bI_0 (fun q => e1.mp q ⟨fun a => absurd a c_23, fun a => absurd a c_42⟩)).symm, rfl⟩)
                          · first
                            | (exfalso; first | exact absurd c_64 (by decide) | omega)
                            | (refine ri_iconstN h 1 d_Sh_takes_67 rfl ?_
                               refine ri_goto h 90 d_Sh_takes_68 (by decide) ?_
                               refine ri_zreturn h d_Sh_takes_90 (Nat.le_of_ble_eq_true rfl) (Nat.le_of_ble_eq_true rfl) (by first | rfl | assumption) ?_
                               first | exact ⟨congrArg (fun x => Sum.inl (some (Value.int x))) (bI_1 (e1.mpr (fun q => c_42 (q.mp c_23)))).symm, rfl⟩ | exact ⟨congrArg (fun x => Sum.inl (some (Value.int x))) (bI_1 (e1.mpr (fun q => c_23 (q.mpr c_42)))).symm, rfl⟩ | exact ⟨congrArg (fun x => Sum.inl (some (Value.int x))) (bI_0 (fun q => e1.mp q ⟨fun _ => c_42, fun _ => c_23⟩)).symm, rfl⟩ | exact ⟨congrArg (fun x => Sum.inl (some (Value.int x))) (bI_0 (fun q => e1.mp q ⟨fun a => absurd a c_23, fun a => absurd a c_42⟩)).symm, rfl⟩)))
                · first
                  | (exfalso; first | exact absurd c_42 (by decide) | omega)
                  | (refine ri_iconstN h 1 d_Sh_takes_46 rfl ?_
                     refine ri_goto h 51 d_Sh_takes_47 (by decide) ?_
                     refine ri_istore h d_Sh_takes_51 (Nat.le_of_ble_eq_true rfl) ?_
                     refine ri_aload_n h d_Sh_takes_53 rfl ?_
                     refine ri_cVv_0 (r := (gR4, gT4, 10)) h d_Sh_takes_54 cv_Sh_46 (by first | exact hS.lcO | exact hS.lsO | exact hS.lpO | exact hS.cesO (by first | assumption | omega) | exact hS.cepO (by first | assumption | omega) | exact ⟨_, (by first | assumption | exact hS.st | exact hS.mo | exact hS.out | exact hS.sb | exact hS.ce (by first | assumption | omega) | exact hS.ceb (by first | assumption | omega) | exact hS.sh (by first | assumption | omega) | exact hS.shb (by first | assumption | omega) | exact hS.pl (by first | assumption | omega) | exact hS.plb (by first | assumption | omega) | exact hS.fl (by first | assumption | omega) | exact gup_s | (refine gup_t (by assumption) ?_; first | assumption | exact gup_s | (refine gup_t (by assumption) ?_; first | assumption | exact gup_s | (refine gup_t (by assumption) ?_; first | assumption | exact gup_s))))⟩) rfl (by first | exact k_isPath h0 (hS.sh_of (by first | assumption | omega) (by assumption)) | exact k_isPath h0 (hS.sh (by first | assumption | omega))) (by exact Nat.le_of_ble_eq_true rfl) (by exact Nat.le_of_ble_eq_true rfl) (by exact Nat.le_of_ble_eq_true rfl) (by exact Nat.le_of_ble_eq_true rfl) (by exact Nat.le_of_ble_eq_true rfl) ?_
                     first | refine ri_ifB_eq h 75 d_Sh_takes_57 (by decide) (fun c_57 => ?_) (fun c_57 => ?_) | refine ri_ifN_eq h 75 d_Sh_takes_57 (by decide) (by omega) (fun c_57 => ?_) (fun c_57 => ?_) | refine ri_if_eq h 75 d_Sh_takes_57 (by decide) (fun c_57 => ?_) (fun c_57 => ?_)
                     · exact absurd hw c_57
                     · first
                       | (exfalso; first | exact absurd c_57 (by decide) | omega)
                       | (refine ri_iload h d_Sh_takes_60 rfl ?_
                          refine ri_iload h d_Sh_takes_62 rfl ?_
                          first | refine ri_icmpN_eq h 71 d_Sh_takes_64 (by decide) (by omega) (by omega) (fun c_64 => ?_) (fun c_64 => ?_) | refine ri_icmp_eq h 71 d_Sh_takes_64 (by decide) (fun c_64 => ?_) (fun c_64 => ?_)
                          · first
                            | (exfalso; first | exact absurd c_64 (by decide) | omega)
                            | (refine ri_iconstN h 0 d_Sh_takes_71 rfl ?_
                               refine ri_goto h 90 d_Sh_takes_72 (by decide) ?_
                               refine ri_zreturn h d_Sh_takes_90 (Nat.le_of_ble_eq_true rfl) (Nat.le_of_ble_eq_true rfl) (by first | rfl | assumption) ?_
                               first | exact ⟨congrArg (fun x => Sum.inl (some (Value.int x))) (bI_1 (e1.mpr (fun q => c_42 (q.mp c_23)))).symm, rfl⟩ | exact ⟨congrArg (fun x => Sum.inl (some (Value.int x))) (bI_1 (e1.mpr (fun q => c_23 (q.mpr c_42)))).symm, rfl⟩ | exact ⟨congrArg (fun x => Sum.inl (some (Value.int x))) (bI_0 (fun q => e1.mp q ⟨fun _ => c_42, fun _ => c_23⟩)).symm, rfl⟩ | exact ⟨congrArg (fun x => Sum.inl (some (Value.int x))) (bI_0 (fun q => e1.mp q ⟨fun a => absurd a c_23, fun a => absurd a c_42⟩)).symm, rfl⟩)
                          · first
                            | (exfalso; first | exact absurd c_64 (by decide) | omega)
                            | (refine ri_iconstN h 1 d_Sh_takes_67 rfl ?_
                               refine ri_goto h 90 d_Sh_takes_68 (by decide) ?_
                               refine ri_zreturn h d_Sh_takes_90 (Nat.le_of_ble_eq_true rfl) (Nat.le_of_ble_eq_true rfl) (by first | rfl | assumption) ?_
                               first | exact ⟨congrArg (fun x => Sum.inl (some (Value.int x))) (bI_1 (e1.mpr (fun q => c_42 (q.mp c_23)))).symm, rfl⟩ | exact ⟨congrArg (fun x => Sum.inl (some (Value.int x))) (bI_1 (e1.mpr (fun q => c_23 (q.mpr c_42)))).symm, rfl⟩ | exact ⟨congrArg (fun x => Sum.inl (some (Value.int x))) (bI_0 (fun q => e1.mp q ⟨fun _ => c_42, fun _ => c_23⟩)).symm, rfl⟩ | exact ⟨congrArg (fun x => Sum.inl (some (Value.int x))) (bI_0 (fun q => e1.mp q ⟨fun a => absurd a c_23, fun a => absurd a c_42⟩)).symm, rfl⟩))))
           · first
             | (exfalso; first | exact absurd c_23 (by decide) | omega)
             | (refine ri_iconstN h 1 d_Sh_takes_27 rfl ?_
                refine ri_goto h 32 d_Sh_takes_28 (by decide) ?_
                refine ri_istore h d_Sh_takes_32 (Nat.le_of_ble_eq_true rfl) ?_
                refine ri_aload_n h d_Sh_takes_34 rfl ?_
                refine ri_get h d_Sh_takes_35 fl_Sh_15 (by first | assumption | exact hS.sh_of (by first | assumption | omega) (by assumption) | exact hS.sh (by first | assumption | omega) | exact gup_s) (by rfl) ?_
                refine ri_iload h d_Sh_takes_38 rfl ?_
                refine ri_lald h _ d_Sh_takes_40 (by first | assumption | exact hS.shy_of (by first | assumption | omega) (by assumption) | exact hS.shy (by first | assumption | omega)) (by first | rfl | assumption) (by first | assumption | omega) (by first | decide | omega) ?_
                refine ri_lload_n h d_Sh_takes_41 rfl ?_
                refine ri_lcmp_eq h 50 d_Sh_takes_42 d_Sh_takes_43 (by decide) (fun c_42 => ?_) (fun c_42 => ?_)
                · first
                  | (exfalso; first | exact absurd c_42 (by decide) | omega)
                  | (refine ri_iconstN h 0 d_Sh_takes_50 rfl ?_
                     refine ri_istore h d_Sh_takes_51 (Nat.le_of_ble_eq_true rfl) ?_
                     refine ri_aload_n h d_Sh_takes_53 rfl ?_
                     refine ri_cVv_0 (r := (gR4, gT4, 10)) h d_Sh_takes_54 cv_Sh_46 (by first | exact hS.lcO | exact hS.lsO | exact hS.lpO | exact hS.cesO (by first | assumption | omega) | exact hS.cepO (by first | assumption | omega) | exact ⟨_, (by first | assumption | exact hS.st | exact hS.mo | exact hS.out | exact hS.sb | exact hS.ce (by first | assumption | omega) | exact hS.ceb (by first | assumption | omega) | exact hS.sh (by first | assumption | omega) | exact hS.shb (by first | assumption | omega) | exact hS.pl (by first | assumption | omega) | exact hS.plb (by first | assumption | omega) | exact hS.fl (by first | assumption | omega) | exact gup_s | (refine gup_t (by assumption) ?_; first | assumption | exact gup_s | (refine gup_t (by assumption) ?_; first | assumption | exact gup_s | (refine gup_t (by assumption) ?_; first | assumption | exact gup_s))))⟩) rfl (by first | exact k_isPath h0 (hS.sh_of (by first | assumption | omega) (by assumption)) | exact k_isPath h0 (hS.sh (by first | assumption | omega))) (by exact Nat.le_of_ble_eq_true rfl) (by exact Nat.le_of_ble_eq_true rfl) (by exact Nat.le_of_ble_eq_true rfl) (by exact Nat.le_of_ble_eq_true rfl) (by exact Nat.le_of_ble_eq_true rfl) ?_
                     first | refine ri_ifB_eq h 75 d_Sh_takes_57 (by decide) (fun c_57 => ?_) (fun c_57 => ?_) | refine ri_ifN_eq h 75 d_Sh_takes_57 (by decide) (by omega) (fun c_57 => ?_) (fun c_57 => ?_) | refine ri_if_eq h 75 d_Sh_takes_57 (by decide) (fun c_57 => ?_) (fun c_57 => ?_)
                     · exact absurd hw c_57
                     · first
                       | (exfalso; first | exact absurd c_57 (by decide) | omega)
                       | (refine ri_iload h d_Sh_takes_60 rfl ?_
                          refine ri_iload h d_Sh_takes_62 rfl ?_
                          first | refine ri_icmpN_eq h 71 d_Sh_takes_64 (by decide) (by omega) (by omega) (fun c_64 => ?_) (fun c_64 => ?_) | refine ri_icmp_eq h 71 d_Sh_takes_64 (by decide) (fun c_64 => ?_) (fun c_64 => ?_)
                          · first
                            | (exfalso; first | exact absurd c_64 (by decide) | omega)
                            | (refine ri_iconstN h 0 d_Sh_takes_71 rfl ?_
                               refine ri_goto h 90 d_Sh_takes_72 (by decide) ?_
                               refine ri_zreturn h d_Sh_takes_90 (Nat.le_of_ble_eq_true rfl) (Nat.le_of_ble_eq_true rfl) (by first | rfl | assumption) ?_
                               first | exact ⟨congrArg (fun x => Sum.inl (some (Value.int x))) (bI_1 (e1.mpr (fun q => c_42 (q.mp c_23)))).symm, rfl⟩ | exact ⟨congrArg (fun x => Sum.inl (some (Value.int x))) (bI_1 (e1.mpr (fun q => c_23 (q.mpr c_42)))).symm, rfl⟩ | exact ⟨congrArg (fun x => Sum.inl (some (Value.int x))) (bI_0 (fun q => e1.mp q ⟨fun _ => c_42, fun _ => c_23⟩)).symm, rfl⟩ | exact ⟨congrArg (fun x => Sum.inl (some (Value.int x))) (bI_0 (fun q => e1.mp q ⟨fun a => absurd a c_23, fun a => absurd a c_42⟩)).symm, rfl⟩)
                          · first
                            | (exfalso; first | exact absurd c_64 (by decide) | omega)
                            | (refine ri_iconstN h 1 d_Sh_takes_67 rfl ?_
                               refine ri_goto h 90 d_Sh_takes_68 (by decide) ?_
                               refine ri_zreturn h d_Sh_takes_90 (Nat.le_of_ble_eq_true rfl) (Nat.le_of_ble_eq_true rfl) (by first | rfl | assumption) ?_
                               first | exact ⟨congrArg (fun x => Sum.inl (some (Value.int x))) (bI_1 (e1.mpr (fun q => c_42 (q.mp c_23)))).symm, rfl⟩ | exact ⟨congrArg (fun x => Sum.inl (some (Value.int x))) (bI_1 (e1.mpr (fun q => c_23 (q.mpr c_42)))).symm, rfl⟩ | exact ⟨congrArg (fun x => Sum.inl (some (Value.int x))) (bI_0 (fun q => e1.mp q ⟨fun _ => c_42, fun _ => c_23⟩)).symm, rfl⟩ | exact ⟨congrArg (fun x => Sum.inl (some (Value.int x))) (bI_0 (fun q => e1.mp q ⟨fun a => absurd a c_23, fun a => absurd a c_42⟩)).symm, rfl⟩)))
                · first
                  | (exfalso; first | exact absurd c_42 (by decide) | omega)
                  | (refine ri_iconstN h 1 d_Sh_takes_46 rfl ?_
                     refine ri_goto h 51 d_Sh_takes_47 (by decide) ?_
                     refine ri_istore h d_Sh_takes_51 (Nat.le_of_ble_eq_true rfl) ?_
                     refine ri_aload_n h d_Sh_takes_53 rfl ?_
                     refine ri_cVv_0 (r := (gR4, gT4, 10)) h d_Sh_takes_54 cv_Sh_46 (by first | exact hS.lcO | exact hS.lsO | exact hS.lpO | exact hS.cesO (by first | assumption | omega) | exact hS.cepO (by first | assumption | omega) | exact ⟨_, (by first | assumption | exact hS.st | exact hS.mo | exact hS.out | exact hS.sb | exact hS.ce (by first | assumption | omega) | exact hS.ceb (by first | assumption | omega) | exact hS.sh (by first | assumption | omega) | exact hS.shb (by first | assumption | omega) | exact hS.pl (by first | assumption | omega) | exact hS.plb (by first | assumption | omega) | exact hS.fl (by first | assumption | omega) | exact gup_s | (refine gup_t (by assumption) ?_; first | assumption | exact gup_s | (refine gup_t (by assumption) ?_; first | assumption | exact gup_s | (refine gup_t (by assumption) ?_; first | assumption | exact gup_s))))⟩) rfl (by first | exact k_isPath h0 (hS.sh_of (by first | assumption | omega) (by assumption)) | exact k_isPath h0 (hS.sh (by first | assumption | omega))) (by exact Nat.le_of_ble_eq_true rfl) (by exact Nat.le_of_ble_eq_true rfl) (by exact Nat.le_of_ble_eq_true rfl) (by exact Nat.le_of_ble_eq_true rfl) (by exact Nat.le_of_ble_eq_true rfl) ?_
                     first | refine ri_ifB_eq h 75 d_Sh_takes_57 (by decide) (fun c_57 => ?_) (fun c_57 => ?_) | refine ri_ifN_eq h 75 d_Sh_takes_57 (by decide) (by omega) (fun c_57 => ?_) (fun c_57 => ?_) | refine ri_if_eq h 75 d_Sh_takes_57 (by decide) (fun c_57 => ?_) (fun c_57 => ?_)
                     · exact absurd hw c_57
                     · first
                       | (exfalso; first | exact absurd c_57 (by decide) | omega)
                       | (refine ri_iload h d_Sh_takes_60 rfl ?_
                          refine ri_iload h d_Sh_takes_62 rfl ?_
                          first | refine ri_icmpN_eq h 71 d_Sh_takes_64 (by decide) (by omega) (by omega) (fun c_64 => ?_) (fun c_64 => ?_) | refine ri_icmp_eq h 71 d_Sh_takes_64 (by decide) (fun c_64 => ?_) (fun c_64 => ?_)
                          · first
                            | (exfalso; first | exact absurd c_64 (by decide) | omega)
                            | (refine ri_iconstN h 0 d_Sh_takes_71 rfl ?_
                               refine ri_goto h 90 d_Sh_takes_72 (by decide) ?_
                               refine ri_zreturn h d_Sh_takes_90 (Nat.le_of_ble_eq_true rfl) (Nat.le_of_ble_eq_true rfl) (by first | rfl | assumption) ?_
                               first | exact ⟨congrArg (fun x => Sum.inl (some (Value.int x))) (bI_1 (e1.mpr (fun q => c_42 (q.mp c_23)))).symm, rfl⟩ | exact ⟨congrArg (fun x => Sum.inl (some (Value.int x))) (bI_1 (e1.mpr (fun q => c_23 (q.mpr c_42)))).symm, rfl⟩ | exact ⟨congrArg (fun x => Sum.inl (some (Value.int x))) (bI_0 (fun q => e1.mp q ⟨fun _ => c_42, fun _ => c_23⟩)).symm, rfl⟩ | exact ⟨congrArg (fun x => Sum.inl (some (Value.int x))) (bI_0 (fun q => e1.mp q ⟨fun a => absurd a c_23, fun a => absurd a c_42⟩)).symm, rfl⟩)
                          · first
                            | (exfalso; first | exact absurd c_64 (by decide) | omega)
                            | (refine ri_iconstN h 1 d_Sh_takes_67 rfl ?_
                               refine ri_goto h 90 d_Sh_takes_68 (by decide) ?_
                               refine ri_zreturn h d_Sh_takes_90 (Nat.le_of_ble_eq_true rfl) (Nat.le_of_ble_eq_true rfl) (by first | rfl | assumption) ?_
                               first | exact ⟨congrArg (fun x => Sum.inl (some (Value.int x))) (bI_1 (e1.mpr (fun q => c_42 (q.mp c_23)))).symm, rfl⟩ | exact ⟨congrArg (fun x => Sum.inl (some (Value.int x))) (bI_1 (e1.mpr (fun q => c_23 (q.mpr c_42)))).symm, rfl⟩ | exact ⟨congrArg (fun x => Sum.inl (some (Value.int x))) (bI_0 (fun q => e1.mp q ⟨fun _ => c_42, fun _ => c_23⟩)).symm, rfl⟩ | exact ⟨congrArg (fun x => Sum.inl (some (Value.int x))) (bI_0 (fun q => e1.mp q ⟨fun a => absurd a c_23, fun a => absurd a c_42⟩)).symm, rfl⟩)))))
      · exact c_10.elim
    · have e1 := tk_c (x := x) (y := y) h1 hw
      have e2 : spath (Q.sh s).w = 0 := by simp [spath, hw]
      refine Ct.of h0 (by decide +kernel) rfl fun X hX h => ?_
      obtain ⟨p_, l', e_, R_, s_, m_, ar_, be_, me_, c_⟩ := X
      obtain rfl : l' = l := hX
      refine ri_aload_n h d_Sh_takes_0 rfl ?_
      refine ri_get h d_Sh_takes_1 fl_Sh_43 (by first | assumption | exact hS.sh_of (by first | assumption | omega) (by assumption) | exact hS.sh (by first | assumption | omega) | exact gup_s) (by rfl) ?_
      refine ri_iconstN h 1 d_Sh_takes_4 rfl ?_
      first | refine ri_isubN h d_Sh_takes_5 (by first | omega | exact Nat.le_add_left _ _) ?_ | refine ri_isub h d_Sh_takes_5 ?_
      refine ri_istore h d_Sh_takes_6 (Nat.le_of_ble_eq_true rfl) ?_
      refine ri_iload h d_Sh_takes_8 rfl ?_
      refine ri_ifM_ge h 15 d_Sh_takes_10 (by decide) (by omega) (fun c_10 => ?_) (fun c_10 => ?_)
      · first
        | (exfalso; first | exact absurd c_10 (by decide) | omega)
        | (refine ri_aload_n h d_Sh_takes_15 rfl ?_
           refine ri_get h d_Sh_takes_16 fl_Sh_9 (by first | assumption | exact hS.sh_of (by first | assumption | omega) (by assumption) | exact hS.sh (by first | assumption | omega) | exact gup_s) (by rfl) ?_
           refine ri_iload h d_Sh_takes_19 rfl ?_
           refine ri_lald h _ d_Sh_takes_21 (by first | assumption | exact hS.shx_of (by first | assumption | omega) (by assumption) | exact hS.shx (by first | assumption | omega)) (by first | rfl | assumption) (by first | assumption | omega) (by first | decide | omega) ?_
           refine ri_lload_n h d_Sh_takes_22 rfl ?_
           refine ri_lcmp_eq h 31 d_Sh_takes_23 d_Sh_takes_24 (by decide) (fun c_23 => ?_) (fun c_23 => ?_)
           · first
             | (exfalso; first | exact absurd c_23 (by decide) | omega)
             | (refine ri_iconstN h 0 d_Sh_takes_31 rfl ?_
                refine ri_istore h d_Sh_takes_32 (Nat.le_of_ble_eq_true rfl) ?_
                refine ri_aload_n h d_Sh_takes_34 rfl ?_
                refine ri_get h d_Sh_takes_35 fl_Sh_15 (by first | assumption | exact hS.sh_of (by first | assumption | omega) (by assumption) | exact hS.sh (by first | assumption | omega) | exact gup_s) (by rfl) ?_
                refine ri_iload h d_Sh_takes_38 rfl ?_
                refine ri_lald h _ d_Sh_takes_40 (by first | assumption | exact hS.shy_of (by first | assumption | omega) (by assumption) | exact hS.shy (by first | assumption | omega)) (by first | rfl | assumption) (by first | assumption | omega) (by first | decide | omega) ?_
                refine ri_lload_n h d_Sh_takes_41 rfl ?_
                refine ri_lcmp_eq h 50 d_Sh_takes_42 d_Sh_takes_43 (by decide) (fun c_42 => ?_) (fun c_42 => ?_)
                · first
                  | (exfalso; first | exact absurd c_42 (by decide) | omega)
                  | (refine ri_iconstN h 0 d_Sh_takes_50 rfl ?_
                     refine ri_istore h d_Sh_takes_51 (Nat.le_of_ble_eq_true rfl) ?_
                     refine ri_aload_n h d_Sh_takes_53 rfl ?_
                     refine ri_cVv_0 (r := (gR4, gT4, 10)) h d_Sh_takes_54 cv_Sh_46 (by first | exact hS.lcO | exact hS.lsO | exact hS.lpO | exact hS.cesO (by first | assumption | omega) | exact hS.cepO (by first | assumption | omega) | exact ⟨_, (by first | assumption | exact hS.st | exact hS.mo | exact hS.out | exact hS.sb | exact hS.ce (by first | assumption | omega) | exact hS.ceb (by first | assumption | omega) | exact hS.sh (by first | assumption | omega) | exact hS.shb (by first | assumption | omega) | exact hS.pl (by first | assumption | omega) | exact hS.plb (by first | assumption | omega) | exact hS.fl (by first | assumption | omega) | exact gup_s | (refine gup_t (by assumption) ?_; first | assumption | exact gup_s | (refine gup_t (by assumption) ?_; first | assumption | exact gup_s | (refine gup_t (by assumption) ?_; first | assumption | exact gup_s))))⟩) rfl (by first | exact k_isPath h0 (hS.sh_of (by first | assumption | omega) (by assumption)) | exact k_isPath h0 (hS.sh (by first | assumption | omega))) (by exact Nat.le_of_ble_eq_true rfl) (by exact Nat.le_of_ble_eq_true rfl) (by exact Nat.le_of_ble_eq_true rfl) (by exact Nat.le_of_ble_eq_true rfl) (by exact Nat.le_of_ble_eq_true rfl) ?_
                     first | refine ri_ifB_eq h 75 d_Sh_takes_57 (by decide) (fun c_57 => ?_) (fun c_57 => ?_) | refine ri_ifN_eq h 75 d_Sh_takes_57 (by decide) (by omega) (fun c_57 => ?_) (fun c_57 => ?_) | refine ri_if_eq h 75 d_Sh_takes_57 (by decide) (fun c_57 => ?_) (fun c_57 => ?_)
                     · first
                       | (exfalso; first | exact absurd c_57 (by decide) | omega)
                       | (refine ri_iload h d_Sh_takes_75 rfl ?_
                          first | refine ri_ifB_ne h 85 d_Sh_takes_77 (by decide) (fun c_77 => ?_) (fun c_77 => ?_) | refine ri_ifN_ne h 85 d_Sh_takes_77 (by decide) (by omega) (fun c_77 => ?_) (fun c_77 => ?_) | refine ri_if_ne h 85 d_Sh_takes_77 (by decide) (fun c_77 => ?_) (fun c_77 => ?_)
                          · first
                            | (exfalso; first | exact absurd c_77 (by decide) | omega)
                            | (refine ri_iconstN h 1 d_Sh_takes_85 rfl ?_
                               refine ri_goto h 90 d_Sh_takes_86 (by decide) ?_
                               refine ri_zreturn h d_Sh_takes_90 (Nat.le_of_ble_eq_true rfl) (Nat.le_of_ble_eq_true rfl) (by first | rfl | assumption) ?_
                               first | exact ⟨congrArg (fun x => Sum.inl (some (Value.int x))) (bI_1 (e1.mpr (fun q => c_23 q.1))).symm, rfl⟩ | exact ⟨congrArg (fun x => Sum.inl (some (Value.int x))) (bI_1 (e1.mpr (fun q => c_42 q.2))).symm, rfl⟩ | exact ⟨congrArg (fun x => Sum.inl (some (Value.int x))) (bI_0 (fun q => e1.mp q ⟨c_23, c_42⟩)).symm, rfl⟩)
                          · first
                            | (exfalso; first | exact absurd c_77 (by decide) | omega)
                            | (refine ri_iload h d_Sh_takes_80 rfl ?_
                               first | refine ri_ifB_eq h 89 d_Sh_takes_82 (by decide) (fun c_82 => ?_) (fun c_82 => ?_) | refine ri_ifN_eq h 89 d_Sh_takes_82 (by decide) (by omega) (fun c_82 => ?_) (fun c_82 => ?_) | refine ri_if_eq h 89 d_Sh_takes_82 (by decide) (fun c_82 => ?_) (fun c_82 => ?_)
                               · first
                                 | (exfalso; first | exact absurd c_82 (by decide) | omega)
                                 | (refine ri_iconstN h 0 d_Sh_takes_89 rfl ?_
                                    refine ri_zreturn h d_Sh_takes_90 (Nat.le_of_ble_eq_true rfl) (Nat.le_of_ble_eq_true rfl) (by first | rfl | assumption) ?_
                                    first | exact ⟨congrArg (fun x => Sum.inl (some (Value.int x))) (bI_1 (e1.mpr (fun q => c_23 q.1))).symm, rfl⟩ | exact ⟨congrArg (fun x => Sum.inl (some (Value.int x))) (bI_1 (e1.mpr (fun q => c_42 q.2))).symm, rfl⟩ | exact ⟨congrArg (fun x => Sum.inl (some (Value.int x))) (bI_0 (fun q => e1.mp q ⟨c_23, c_42⟩)).symm, rfl⟩)
                               · first
                                 | (exfalso; first | exact absurd c_82 (by decide) | omega)
                                 | (refine ri_iconstN h 1 d_Sh_takes_85 rfl ?_
                                    refine ri_goto h 90 d_Sh_takes_86 (by decide) ?_
                                    refine ri_zreturn h d_Sh_takes_90 (Nat.le_of_ble_eq_true rfl) (Nat.le_of_ble_eq_true rfl) (by first | rfl | assumption) ?_
                                    first | exact ⟨congrArg (fun x => Sum.inl (some (Value.int x))) (bI_1 (e1.mpr (fun q => c_23 q.1))).symm, rfl⟩ | exact ⟨congrArg (fun x => Sum.inl (some (Value.int x))) (bI_1 (e1.mpr (fun q => c_42 q.2))).symm, rfl⟩ | exact ⟨congrArg (fun x => Sum.inl (some (Value.int x))) (bI_0 (fun q => e1.mp q ⟨c_23, c_42⟩)).symm, rfl⟩)))
                     · exact absurd c_57 hw)
                · first
                  | (exfalso; first | exact absurd c_42 (by decide) | omega)
                  | (refine ri_iconstN h 1 d_Sh_takes_46 rfl ?_
                     refine ri_goto h 51 d_Sh_takes_47 (by decide) ?_
                     refine ri_istore h d_Sh_takes_51 (Nat.le_of_ble_eq_true rfl) ?_
                     refine ri_aload_n h d_Sh_takes_53 rfl ?_
                     refine ri_cVv_0 (r := (gR4, gT4, 10)) h d_Sh_takes_54 cv_Sh_46 (by first | exact hS.lcO | exact hS.lsO | exact hS.lpO | exact hS.cesO (by first | assumption | omega) | exact hS.cepO (by first | assumption | omega) | exact ⟨_, (by first | assumption | exact hS.st | exact hS.mo | exact hS.out | exact hS.sb | exact hS.ce (by first | assumption | omega) | exact hS.ceb (by first | assumption | omega) | exact hS.sh (by first | assumption | omega) | exact hS.shb (by first | assumption | omega) | exact hS.pl (by first | assumption | omega) | exact hS.plb (by first | assumption | omega) | exact hS.fl (by first | assumption | omega) | exact gup_s | (refine gup_t (by assumption) ?_; first | assumption | exact gup_s | (refine gup_t (by assumption) ?_; first | assumption | exact gup_s | (refine gup_t (by assumption) ?_; first | assumption | exact gup_s))))⟩) rfl (by first | exact k_isPath h0 (hS.sh_of (by first | assumption | omega) (by assumption)) | exact k_isPath h0 (hS.sh (by first | assumption | omega))) (by exact Nat.le_of_ble_eq_true rfl) (by exact Nat.le_of_ble_eq_true rfl) (by exact Nat.le_of_ble_eq_true rfl) (by exact Nat.le_of_ble_eq_true rfl) (by exact Nat.le_of_ble_eq_true rfl) ?_
                     first | refine ri_ifB_eq h 75 d_Sh_takes_57 (by decide) (fun c_57 => ?_) (fun c_57 => ?_) | refine ri_ifN_eq h 75 d_Sh_takes_57 (by decide) (by omega) (fun c_57 => ?_) (fun c_57 => ?_) | refine ri_if_eq h 75 d_Sh_takes_57 (by decide) (fun c_57 => ?_) (fun c_57 => ?_)
                     · first
                       | (exfalso; first | exact absurd c_57 (by decide) | omega)
                       | (refine ri_iload h d_Sh_takes_75 rfl ?_
                          first | refine ri_ifB_ne h 85 d_Sh_takes_77 (by decide) (fun c_77 => ?_) (fun c_77 => ?_) | refine ri_ifN_ne h 85 d_Sh_takes_77 (by decide) (by omega) (fun c_77 => ?_) (fun c_77 => ?_) | refine ri_if_ne h 85 d_Sh_takes_77 (by decide) (fun c_77 => ?_) (fun c_77 => ?_)
                          · first
                            | (exfalso; first | exact absurd c_77 (by decide) | omega)
                            | (refine ri_iconstN h 1 d_Sh_takes_85 rfl ?_
                               refine ri_goto h 90 d_Sh_takes_86 (by decide) ?_
                               refine ri_zreturn h d_Sh_takes_90 (Nat.le_of_ble_eq_true rfl) (Nat.le_of_ble_eq_true rfl) (by first | rfl | assumption) ?_
                               first | exact ⟨congrArg (fun x => Sum.inl (some (Value.int x))) (bI_1 (e1.mpr (fun q => c_23 q.1))).symm, rfl⟩ | exact ⟨congrArg (fun x => Sum.inl (some (Value.int x))) (bI_1 (e1.mpr (fun q => c_42 q.2))).symm, rfl⟩ | exact ⟨congrArg (fun x => Sum.inl (some (Value.int x))) (bI_0 (fun q => e1.mp q ⟨c_23, c_42⟩)).symm, rfl⟩)
                          · first
                            | (exfalso; first | exact absurd c_77 (by decide) | omega)
                            | (refine ri_iload h d_Sh_takes_80 rfl ?_
                               first | refine ri_ifB_eq h 89 d_Sh_takes_82 (by decide) (fun c_82 => ?_) (fun c_82 => ?_) | refine ri_ifN_eq h 89 d_Sh_takes_82 (by decide) (by omega) (fun c_82 => ?_) (fun c_82 => ?_) | refine ri_if_eq h 89 d_Sh_takes_82 (by decide) (fun c_82 => ?_) (fun c_82 => ?_)
                               · first
                                 | (exfalso; first | exact absurd c_82 (by decide) | omega)
                                 | (refine ri_iconstN h 0 d_Sh_takes_89 rfl ?_
                                    refine ri_zreturn h d_Sh_takes_90 (Nat.le_of_ble_eq_true rfl) (Nat.le_of_ble_eq_true rfl) (by first | rfl | assumption) ?_
                                    first | exact ⟨congrArg (fun x => Sum.inl (some (Value.int x))) (bI_1 (e1.mpr (fun q => c_23 q.1))).symm, rfl⟩ | exact ⟨congrArg (fun x => Sum.inl (some (Value.int x))) (bI_1 (e1.mpr (fun q => c_42 q.2))).symm, rfl⟩ | exact ⟨congrArg (fun x => Sum.inl (some (Value.int x))) (bI_0 (fun q => e1.mp q ⟨c_23, c_42⟩)).symm, rfl⟩)
                               · first
                                 | (exfalso; first | exact absurd c_82 (by decide) | omega)
                                 | (refine ri_iconstN h 1 d_Sh_takes_85 rfl ?_
                                    refine ri_goto h 90 d_Sh_takes_86 (by decide) ?_
                                    refine ri_zreturn h d_Sh_takes_90 (Nat.le_of_ble_eq_true rfl) (Nat.le_of_ble_eq_true rfl) (by first | rfl | assumption) ?_
                                    first | exact ⟨congrArg (fun x => Sum.inl (some (Value.int x))) (bI_1 (e1.mpr (fun q => c_23 q.1))).symm, rfl⟩ | exact ⟨congrArg (fun x => Sum.inl (some (Value.int x))) (bI_1 (e1.mpr (fun q => c_42 q.2))).symm, rfl⟩ | exact ⟨congrArg (fun x => Sum.inl (some (Value.int x))) (bI_0 (fun q => e1.mp q ⟨c_23, c_42⟩)).symm, rfl⟩)))
                     · exact absurd c_57 hw))
           · first
             | (exfalso; first | exact absurd c_23 (by decide) | omega)
             | (refine ri_iconstN h 1 d_Sh_takes_27 rfl ?_
                refine ri_goto h 32 d_Sh_takes_28 (by decide) ?_
                refine ri_istore h d_Sh_takes_32 (Nat.le_of_ble_eq_true rfl) ?_
                refine ri_aload_n h d_Sh_takes_34 rfl ?_
                refine ri_get h d_Sh_takes_35 fl_Sh_15 (by first | assumption | exact hS.sh_of (by first | assumption | omega) (by assumption) | exact hS.sh (by first | assumption | omega) | exact gup_s) (by rfl) ?_
                refine ri_iload h d_Sh_takes_38 rfl ?_
                refine ri_lald h _ d_Sh_takes_40 (by first | assumption | exact hS.shy_of (by first | assumption | omega) (by assumption) | exact hS.shy (by first | assumption | omega)) (by first | rfl | assumption) (by first | assumption | omega) (by first | decide | omega) ?_
                refine ri_lload_n h d_Sh_takes_41 rfl ?_
                refine ri_lcmp_eq h 50 d_Sh_takes_42 d_Sh_takes_43 (by decide) (fun c_42 => ?_) (fun c_42 => ?_)
                · first
                  | (exfalso; first | exact absurd c_42 (by decide) | omega)
                  | (refine ri_iconstN h 0 d_Sh_takes_50 rfl ?_
                     refine ri_istore h d_Sh_takes_51 (Nat.le_of_ble_eq_true rfl) ?_
                     refine ri_aload_n h d_Sh_takes_53 rfl ?_
                     refine ri_cVv_0 (r := (gR4, gT4, 10)) h d_Sh_takes_54 cv_Sh_46 (by first | exact hS.lcO | exact hS.lsO | exact hS.lpO | exact hS.cesO (by first | assumption | omega) | exact hS.cepO (by first | assumption | omega) | exact ⟨_, (by first | assumption | exact hS.st | exact hS.mo | exact hS.out | exact hS.sb | exact hS.ce (by first | assumption | omega) | exact hS.ceb (by first | assumption | omega) | exact hS.sh (by first | assumption | omega) | exact hS.shb (by first | assumption | omega) | exact hS.pl (by first | assumption | omega) | exact hS.plb (by first | assumption | omega) | exact hS.fl (by first | assumption | omega) | exact gup_s | (refine gup_t (by assumption) ?_; first | assumption | exact gup_s | (refine gup_t (by assumption) ?_; first | assumption | exact gup_s | (refine gup_t (by assumption) ?_; first | assumption | exact gup_s))))⟩) rfl (by first | exact k_isPath h0 (hS.sh_of (by first | assumption | omega) (by assumption)) | exact k_isPath h0 (hS.sh (by first | assumption | omega))) (by exact Nat.le_of_ble_eq_true rfl) (by exact Nat.le_of_ble_eq_true rfl) (by exact Nat.le_of_ble_eq_true rfl) (by exact Nat.le_of_ble_eq_true rfl) (by exact Nat.le_of_ble_eq_true rfl) ?_
                     first | refine ri_ifB_eq h 75 d_Sh_takes_57 (by decide) (fun c_57 => ?_) (fun c_57 => ?_) | refine ri_ifN_eq h 75 d_Sh_takes_57 (by decide) (by omega) (fun c_57 => ?_) (fun c_57 => ?_) | refine ri_if_eq h 75 d_Sh_takes_57 (by decide) (fun c_57 => ?_) (fun c_57 => ?_)
                     · first
                       | (exfalso; first | exact absurd c_57 (by decide) | omega)
                       | (refine ri_iload h d_Sh_takes_75 rfl ?_
                          first | refine ri_ifB_ne h 85 d_Sh_takes_77 (by decide) (fun c_77 => ?_) (fun c_77 => ?_) | refine ri_ifN_ne h 85 d_Sh_takes_77 (by decide) (by omega) (fun c_77 => ?_) (fun c_77 => ?_) | refine ri_if_ne h 85 d_Sh_takes_77 (by decide) (fun c_77 => ?_) (fun c_77 => ?_)
                          · first
                            | (exfalso; first | exact absurd c_77 (by decide) | omega)
                            | (refine ri_iconstN h 1 d_Sh_takes_85 rfl ?_
                               refine ri_goto h 90 d_Sh_takes_86 (by decide) ?_
                               refine ri_zreturn h d_Sh_takes_90 (Nat.le_of_ble_eq_true rfl) (Nat.le_of_ble_eq_true rfl) (by first | rfl | assumption) ?_
                               first | exact ⟨congrArg (fun x => Sum.inl (some (Value.int x))) (bI_1 (e1.mpr (fun q => c_23 q.1))).symm, rfl⟩ | exact ⟨congrArg (fun x => Sum.inl (some (Value.int x))) (bI_1 (e1.mpr (fun q => c_42 q.2))).symm, rfl⟩ | exact ⟨congrArg (fun x => Sum.inl (some (Value.int x))) (bI_0 (fun q => e1.mp q ⟨c_23, c_42⟩)).symm, rfl⟩)
                          · first
                            | (exfalso; first | exact absurd c_77 (by decide) | omega)
                            | (refine ri_iload h d_Sh_takes_80 rfl ?_
                               first | refine ri_ifB_eq h 89 d_Sh_takes_82 (by decide) (fun c_82 => ?_) (fun c_82 => ?_) | refine ri_ifN_eq h 89 d_Sh_takes_82 (by decide) (by omega) (fun c_82 => ?_) (fun c_82 => ?_) | refine ri_if_eq h 89 d_Sh_takes_82 (by decide) (fun c_82 => ?_) (fun c_82 => ?_)
                               · first
                                 | (exfalso; first | exact absurd c_82 (by decide) | omega)
                                 | (refine ri_iconstN h 0 d_Sh_takes_89 rfl ?_
                                    refine ri_zreturn h d_Sh_takes_90 (Nat.le_of_ble_eq_true rfl) (Nat.le_of_ble_eq_true rfl) (by first | rfl | assumption) ?_
                                    first | exact ⟨congrArg (fun x => Sum.inl (some (Value.int x))) (bI_1 (e1.mpr (fun q => c_23 q.1))).symm, rfl⟩ | exact ⟨congrArg (fun x => Sum.inl (some (Value.int x))) (bI_1 (e1.mpr (fun q => c_42 q.2))).symm, rfl⟩ | exact ⟨congrArg (fun x => Sum.inl (some (Value.int x))) (bI_0 (fun q => e1.mp q ⟨c_23, c_42⟩)).symm, rfl⟩)
                               · first
                                 | (exfalso; first | exact absurd c_82 (by decide) | omega)
                                 | (refine ri_iconstN h 1 d_Sh_takes_85 rfl ?_
                                    refine ri_goto h 90 d_Sh_takes_86 (by decide) ?_
                                    refine ri_zreturn h d_Sh_takes_90 (Nat.le_of_ble_eq_true rfl) (Nat.le_of_ble_eq_true rfl) (by first | rfl | assumption) ?_
                                    first | exact ⟨congrArg (fun x => Sum.inl (some (Value.int x))) (bI_1 (e1.mpr (fun q => c_23 q.1))).symm, rfl⟩ | exact ⟨congrArg (fun x => Sum.inl (some (Value.int x))) (bI_1 (e1.mpr (fun q => c_42 q.2))).symm, rfl⟩ | exact ⟨congrArg (fun x => Sum.inl (some (Value.int x))) (bI_0 (fun q => e1.mp q ⟨c_23, c_42⟩)).symm, rfl⟩)))
                     · exact absurd c_57 hw)
                · first
                  | (exfalso; first | exact absurd c_42 (by decide) | omega)
                  | (refine ri_iconstN h 1 d_Sh_takes_46 rfl ?_
                     refine ri_goto h 51 d_Sh_takes_47 (by decide) ?_
                     refine ri_istore h d_Sh_takes_51 (Nat.le_of_ble_eq_true rfl) ?_
                     refine ri_aload_n h d_Sh_takes_53 rfl ?_
                     refine ri_cVv_0 (r := (gR4, gT4, 10)) h d_Sh_takes_54 cv_Sh_46 (by first | exact hS.lcO | exact hS.lsO | exact hS.lpO | exact hS.cesO (by first | assumption | omega) | exact hS.cepO (by first | assumption | omega) | exact ⟨_, (by first | assumption | exact hS.st | exact hS.mo | exact hS.out | exact hS.sb | exact hS.ce (by first | assumption | omega) | exact hS.ceb (by first | assumption | omega) | exact hS.sh (by first | assumption | omega) | exact hS.shb (by first | assumption | omega) | exact hS.pl (by first | assumption | omega) | exact hS.plb (by first | assumption | omega) | exact hS.fl (by first | assumption | omega) | exact gup_s | (refine gup_t (by assumption) ?_; first | assumption | exact gup_s | (refine gup_t (by assumption) ?_; first | assumption | exact gup_s | (refine gup_t (by assumption) ?_; first | assumption | exact gup_s))))⟩) rfl (by first | exact k_isPath h0 (hS.sh_of (by first | assumption | omega) (by assumption)) | exact k_isPath h0 (hS.sh (by first | assumption | omega))) (by exact Nat.le_of_ble_eq_true rfl) (by exact Nat.le_of_ble_eq_true rfl) (by exact Nat.le_of_ble_eq_true rfl) (by exact Nat.le_of_ble_eq_true rfl) (by exact Nat.le_of_ble_eq_true rfl) ?_
                     first | refine ri_ifB_eq h 75 d_Sh_takes_57 (by decide) (fun c_57 => ?_) (fun c_57 => ?_) | refine ri_ifN_eq h 75 d_Sh_takes_57 (by decide) (by omega) (fun c_57 => ?_) (fun c_57 => ?_) | refine ri_if_eq h 75 d_Sh_takes_57 (by decide) (fun c_57 => ?_) (fun c_57 => ?_)
                     · first
                       | (exfalso; first | exact absurd c_57 (by decide) | omega)
                       | (refine ri_iload h d_Sh_takes_75 rfl ?_
                          first | refine ri_ifB_ne h 85 d_Sh_takes_77 (by decide) (fun c_77 => ?_) (fun c_77 => ?_) | refine ri_ifN_ne h 85 d_Sh_takes_77 (by decide) (by omega) (fun c_77 => ?_) (fun c_77 => ?_) | refine ri_if_ne h 85 d_Sh_takes_77 (by decide) (fun c_77 => ?_) (fun c_77 => ?_)
                          · first
                            | (exfalso; first | exact absurd c_77 (by decide) | omega)
                            | (refine ri_iconstN h 1 d_Sh_takes_85 rfl ?_
                               refine ri_goto h 90 d_Sh_takes_86 (by decide) ?_
                               refine ri_zreturn h d_Sh_takes_90 (Nat.le_of_ble_eq_true rfl) (Nat.le_of_ble_eq_true rfl) (by first | rfl | assumption) ?_
                               first | exact ⟨congrArg (fun x => Sum.inl (some (Value.int x))) (bI_1 (e1.mpr (fun q => c_23 q.1))).symm, rfl⟩ | exact ⟨congrArg (fun x => Sum.inl (some (Value.int x))) (bI_1 (e1.mpr (fun q => c_42 q.2))).symm, rfl⟩ | exact ⟨congrArg (fun x => Sum.inl (some (Value.int x))) (bI_0 (fun q => e1.mp q ⟨c_23, c_42⟩)).symm, rfl⟩)
                          · first
                            | (exfalso; first | exact absurd c_77 (by decide) | omega)
                            | (refine ri_iload h d_Sh_takes_80 rfl ?_
                               first | refine ri_ifB_eq h 89 d_Sh_takes_82 (by decide) (fun c_82 => ?_) (fun c_82 => ?_) | refine ri_ifN_eq h 89 d_Sh_takes_82 (by decide) (by omega) (fun c_82 => ?_) (fun c_82 => ?_) | refine ri_if_eq h 89 d_Sh_takes_82 (by decide) (fun c_82 => ?_) (fun c_82 => ?_)
                               · first
                                 | (exfalso; first | exact absurd c_82 (by decide) | omega)
                                 | (refine ri_iconstN h 0 d_Sh_takes_89 rfl ?_
                                    refine ri_zreturn h d_Sh_takes_90 (Nat.le_of_ble_eq_true rfl) (Nat.le_of_ble_eq_true rfl) (by first | rfl | assumption) ?_
                                    first | exact ⟨congrArg (fun x => Sum.inl (some (Value.int x))) (bI_1 (e1.mpr (fun q => c_23 q.1))).symm, rfl⟩ | exact ⟨congrArg (fun x => Sum.inl (some (Value.int x))) (bI_1 (e1.mpr (fun q => c_42 q.2))).symm, rfl⟩ | exact ⟨congrArg (fun x => Sum.inl (some (Value.int x))) (bI_0 (fun q => e1.mp q ⟨c_23, c_42⟩)).symm, rfl⟩)
                               · first
                                 | (exfalso; first | exact absurd c_82 (by decide) | omega)
                                 | (refine ri_iconstN h 1 d_Sh_takes_85 rfl ?_
                                    refine ri_goto h 90 d_Sh_takes_86 (by decide) ?_
                                    refine ri_zreturn h d_Sh_takes_90 (Nat.le_of_ble_eq_true rfl) (Nat.le_of_ble_eq_true rfl) (by first | rfl | assumption) ?_
                                    first | exact ⟨congrArg (fun x => Sum.inl (some (Value.int x))) (bI_1 (e1.mpr (fun q => c_23 q.1))).symm, rfl⟩ | exact ⟨congrArg (fun x => Sum.inl (some (Value.int x))) (bI_1 (e1.mpr (fun q => c_42 q.2))).symm, rfl⟩ | exact ⟨congrArg (fun x => Sum.inl (some (Value.int x))) (bI_0 (fun q => e1.mp q ⟨c_23, c_42⟩)).symm, rfl⟩)))
                     · exact absurd c_57 hw)))
      · exact c_10.elim
theorem k_extend_ok (h0 : g_0 l D s0) (hS : HS z ad Q N M) {s : Nat} (hs : s < Q.nS) (hc : (Q.sh s).cnt < 24) {x y : Int64} (hx : nearB x) (hy : nearB y) (ht : takesB (Q.sh s) x y) : Ct l D s0 y_ST_extend (Cond.code y_ST_extend b_ST_extend 5 (some .boolean)) (rk 5 4 30) [.ref (ad 18 s), .long x, .long y] M (fS (some (.int 1)) (HS z ad (Q.set_sh (va_up Q.sh s (addR (Q.sh s) x y))) N)) := by
  refine Ct.of h0 (by decide +kernel) rfl fun X hX h => ?_
  obtain ⟨p_, l', e_, R_, s_, m_, ar_, be_, me_, c_⟩ := X
  obtain rfl : l' = l := hX
  refine ri_aload_n h d_ST_extend_0 rfl ?_
  refine ri_get h d_ST_extend_1 fl_ST_270 (by first | assumption | exact hS.sh_of (by first | assumption | omega) (by assumption) | exact hS.sh (by first | assumption | omega) | exact gup_s) (by rfl) ?_
  refine ri_bipushN h 24 d_ST_extend_4 rfl ?_
  first | refine ri_icmpN_lt h 20 d_ST_extend_6 (by decide) (by omega) (by omega) (fun c_6 => ?_) (fun c_6 => ?_) | refine ri_icmp_lt h 20 d_ST_extend_6 (by decide) (fun c_6 => ?_) (fun c_6 => ?_)
  · refine ri_lload_n h d_ST_extend_20 rfl ?_
    refine ri_cS0_1 h d_ST_extend_21 cs_ST_115 (k_near_ok h0 (by assumption)) (Nat.le_of_ble_eq_true rfl) (Nat.le_of_ble_eq_true rfl) (Nat.le_of_ble_eq_true rfl) (Nat.le_of_ble_eq_true rfl) (Nat.le_of_ble_eq_true rfl) ?_
    refine ri_lload_n h d_ST_extend_24 rfl ?_
    refine ri_cS0_1 h d_ST_extend_25 cs_ST_115 (k_near_ok h0 (by assumption)) (Nat.le_of_ble_eq_true rfl) (Nat.le_of_ble_eq_true rfl) (Nat.le_of_ble_eq_true rfl) (Nat.le_of_ble_eq_true rfl) (Nat.le_of_ble_eq_true rfl) ?_
    refine ri_aload_n h d_ST_extend_28 rfl ?_
    refine ri_lload_n h d_ST_extend_29 rfl ?_
    refine ri_lload_n h d_ST_extend_30 rfl ?_
    refine ri_cVv_2 (r := (gR4, gT4, 10)) h d_ST_extend_31 cv_ST_273 (by first | exact hS.lcO | exact hS.lsO | exact hS.lpO | exact hS.cesO (by first | assumption | omega) | exact hS.cepO (by first | assumption | omega) | exact ⟨_, (by first | assumption | exact hS.st | exact hS.mo | exact hS.out | exact hS.sb | exact hS.ce (by first | assumption | omega) | exact hS.ceb (by first | assumption | omega) | exact hS.sh (by first | assumption | omega) | exact hS.shb (by first | assumption | omega) | exact hS.pl (by first | assumption | omega) | exact hS.plb (by first | assumption | omega) | exact hS.fl (by first | assumption | omega) | exact gup_s | (refine gup_t (by assumption) ?_; first | assumption | exact gup_s | (refine gup_t (by assumption) ?_; first | assumption | exact gup_s | (refine gup_t (by assumption) ?_; first | assumption | exact gup_s))))⟩) rfl (k_takes h0 hS hs (Nat.le_of_lt hc) x y) (Nat.le_of_ble_eq_true rfl) (Nat.le_of_ble_eq_true rfl) (Nat.le_of_ble_eq_true rfl) (Nat.le_of_ble_eq_true rfl) (Nat.le_of_ble_eq_true rfl) ?_
    first | refine ri_ifB_ne h 39 d_ST_extend_34 (by decide) (fun c_34 => ?_) (fun c_34 => ?_) | refine ri_ifN_ne h 39 d_ST_extend_34 (by decide) (by omega) (fun c_34 => ?_) (fun c_34 => ?_) | refine ri_if_ne h 39 d_ST_extend_34 (by decide) (fun c_34 => ?_) (fun c_34 => ?_)
    · refine ri_aload_n h d_ST_extend_39 rfl ?_
      refine ri_lload_n h d_ST_extend_40 rfl ?_
      refine ri_lload_n h d_ST_extend_41 rfl ?_
      refine ri_dV0_2 (r := (gR4, gT4, 10)) h d_ST_extend_42 cv_ST_277 (by first | exact hS.lcO | exact hS.lsO | exact hS.lpO | exact hS.cesO (by first | assumption | omega) | exact hS.cepO (by first | assumption | omega) | exact ⟨_, (by first | assumption | exact hS.st | exact hS.mo | exact hS.out | exact hS.sb | exact hS.ce (by first | assumption | omega) | exact hS.ceb (by first | assumption | omega) | exact hS.sh (by first | assumption | omega) | exact hS.shb (by first | assumption | omega) | exact hS.pl (by first | assumption | omega) | exact hS.plb (by first | assumption | omega) | exact hS.fl (by first | assumption | omega) | exact gup_s | (refine gup_t (by assumption) ?_; first | assumption | exact gup_s | (refine gup_t (by assumption) ?_; first | assumption | exact gup_s | (refine gup_t (by assumption) ?_; first | assumption | exact gup_s))))⟩) rfl (k_Sh_add h0 hS hs hc x y) (Nat.le_of_ble_eq_true rfl) (Nat.le_of_ble_eq_true rfl) (Nat.le_of_ble_eq_true rfl) (Nat.le_of_ble_eq_true rfl) (Nat.le_of_ble_eq_true rfl) (fun M hS => ?_)
      refine ri_iconstN h 1 d_ST_extend_45 rfl ?_
      refine ri_zreturn h d_ST_extend_46 (Nat.le_of_ble_eq_true rfl) (Nat.le_of_ble_eq_true rfl) (by first | rfl | assumption) ?_
      exact ⟨rfl, hS⟩
    · contradiction
  · omega
theorem k_extend_0 (h0 : g_0 l D s0) (hS : HS z ad Q N M) {s : Nat} (hs : s < Q.nS) (hc : (Q.sh s).cnt < 24) {x y : Int64} (hx : nearB x) (hy : nearB y) (ht : ¬ takesB (Q.sh s) x y) : Ct l D s0 y_ST_extend (Cond.code y_ST_extend b_ST_extend 5 (some .boolean)) (rk 5 4 30) [.ref (ad 18 s), .long x, .long y] M (fR (some (.int 0)) M) := by
  refine Ct.of h0 (by decide +kernel) rfl fun X hX h => ?_
  obtain ⟨p_, l', e_, R_, s_, m_, ar_, be_, me_, c_⟩ := X
  obtain rfl : l' = l := hX
  refine ri_aload_n h d_ST_extend_0 rfl ?_
  refine ri_get h d_ST_extend_1 fl_ST_270 (by first | assumption | exact hS.sh_of (by first | assumption | omega) (by assumption) | exact hS.sh (by first | assumption | omega) | exact gup_s) (by rfl) ?_
  refine ri_bipushN h 24 d_ST_extend_4 rfl ?_
  first | refine ri_icmpN_lt h 20 d_ST_extend_6 (by decide) (by omega) (by omega) (fun c_6 => ?_) (fun c_6 => ?_) | refine ri_icmp_lt h 20 d_ST_extend_6 (by decide) (fun c_6 => ?_) (fun c_6 => ?_)
  · refine ri_lload_n h d_ST_extend_20 rfl ?_
    refine ri_cS0_1 h d_ST_extend_21 cs_ST_115 (k_near_ok h0 (by assumption)) (Nat.le_of_ble_eq_true rfl) (Nat.le_of_ble_eq_true rfl) (Nat.le_of_ble_eq_true rfl) (Nat.le_of_ble_eq_true rfl) (Nat.le_of_ble_eq_true rfl) ?_
    refine ri_lload_n h d_ST_extend_24 rfl ?_
    refine ri_cS0_1 h d_ST_extend_25 cs_ST_115 (k_near_ok h0 (by assumption)) (Nat.le_of_ble_eq_true rfl) (Nat.le_of_ble_eq_true rfl) (Nat.le_of_ble_eq_true rfl) (Nat.le_of_ble_eq_true rfl) (Nat.le_of_ble_eq_true rfl) ?_
    refine ri_aload_n h d_ST_extend_28 rfl ?_
    refine ri_lload_n h d_ST_extend_29 rfl ?_
    refine ri_lload_n h d_ST_extend_30 rfl ?_
    refine ri_cVv_2 (r := (gR4, gT4, 10)) h d_ST_extend_31 cv_ST_273 (by first | exact hS.lcO | exact hS.lsO | exact hS.lpO | exact hS.cesO (by first | assumption | omega) | exact hS.cepO (by first | assumption | omega) | exact ⟨_, (by first | assumption | exact hS.st | exact hS.mo | exact hS.out | exact hS.sb | exact hS.ce (by first | assumption | omega) | exact hS.ceb (by first | assumption | omega) | exact hS.sh (by first | assumption | omega) | exact hS.shb (by first | assumption | omega) | exact hS.pl (by first | assumption | omega) | exact hS.plb (by first | assumption | omega) | exact hS.fl (by first | assumption | omega) | exact gup_s | (refine gup_t (by assumption) ?_; first | assumption | exact gup_s | (refine gup_t (by assumption) ?_; first | assumption | exact gup_s | (refine gup_t (by assumption) ?_; first | assumption | exact gup_s))))⟩) rfl (k_takes h0 hS hs (Nat.le_of_lt hc) x y) (Nat.le_of_ble_eq_true rfl) (Nat.le_of_ble_eq_true rfl) (Nat.le_of_ble_eq_true rfl) (Nat.le_of_ble_eq_true rfl) (Nat.le_of_ble_eq_true rfl) ?_
    first | refine ri_ifB_ne h 39 d_ST_extend_34 (by decide) (fun c_34 => ?_) (fun c_34 => ?_) | refine ri_ifN_ne h 39 d_ST_extend_34 (by decide) (by omega) (fun c_34 => ?_) (fun c_34 => ?_) | refine ri_if_ne h 39 d_ST_extend_34 (by decide) (fun c_34 => ?_) (fun c_34 => ?_)
    · contradiction
    · refine ri_iconstN h 0 d_ST_extend_37 rfl ?_
      refine ri_zreturn h d_ST_extend_38 (Nat.le_of_ble_eq_true rfl) (Nat.le_of_ble_eq_true rfl) (by first | rfl | assumption) ?_
      exact ⟨rfl, rfl⟩
  · omega
theorem k_extend_no1 (h0 : g_0 l D s0) (hS : HS z ad Q N M) {s : Nat} (hs : s < Q.nS) (hc : (Q.sh s).cnt = 24) {x y : Int64} : Ct l D s0 y_ST_extend (Cond.code y_ST_extend b_ST_extend 5 (some .boolean)) (rk 5 4 30) [.ref (ad 18 s), .long x, .long y] M (fE eIS M) := by
  refine Ct.of h0 (by decide +kernel) rfl fun X hX h => ?_
  obtain ⟨p_, l', e_, R_, s_, m_, ar_, be_, me_, c_⟩ := X
  obtain rfl : l' = l := hX
  refine ri_aload_n h d_ST_extend_0 rfl ?_
  refine ri_get h d_ST_extend_1 fl_ST_270 (by first | assumption | exact hS.sh_of (by first | assumption | omega) (by assumption) | exact hS.sh (by first | assumption | omega) | exact gup_s) (by rfl) ?_
  refine ri_bipushN h 24 d_ST_extend_4 rfl ?_
  first | refine ri_icmpN_lt h 20 d_ST_extend_6 (by decide) (by omega) (by omega) (fun c_6 => ?_) (fun c_6 => ?_) | refine ri_icmp_lt h 20 d_ST_extend_6 (by decide) (fun c_6 => ?_) (fun c_6 => ?_)
  · omega
  · refine ri_throwW h tw_271 d_ST_extend_9 d_ST_extend_12 d_ST_extend_13 d_ST_extend_16 d_ST_extend_19 (Nat.le_of_ble_eq_true rfl) (Nat.le_of_ble_eq_true rfl) (Nat.le_of_ble_eq_true rfl) (Nat.le_of_ble_eq_true rfl) ?_
    exact ⟨rfl, rfl⟩
theorem k_extend_no2 (h0 : g_0 l D s0) (hS : HS z ad Q N M) {s : Nat} (hs : s < Q.nS) (hc : (Q.sh s).cnt < 24) {x y : Int64} (hn : ¬ (nearB x ∧ nearB y)) : Ct l D s0 y_ST_extend (Cond.code y_ST_extend b_ST_extend 5 (some .boolean)) (rk 5 4 30) [.ref (ad 18 s), .long x, .long y] M (fE eIA M) := by
  refine Ct.of h0 (by decide +kernel) rfl fun X hX h => ?_
  obtain ⟨p_, l', e_, R_, s_, m_, ar_, be_, me_, c_⟩ := X
  obtain rfl : l' = l := hX
  refine ri_aload_n h d_ST_extend_0 rfl ?_
  refine ri_get h d_ST_extend_1 fl_ST_270 (by first | assumption | exact hS.sh_of (by first | assumption | omega) (by assumption) | exact hS.sh (by first | assumption | omega) | exact gup_s) (by rfl) ?_
  refine ri_bipushN h 24 d_ST_extend_4 rfl ?_
  first | refine ri_icmpN_lt h 20 d_ST_extend_6 (by decide) (by omega) (by omega) (fun c_6 => ?_) (fun c_6 => ?_) | refine ri_icmp_lt h 20 d_ST_extend_6 (by decide) (fun c_6 => ?_) (fun c_6 => ?_)
  · by_cases hx : nearB x
    · refine ri_lload_n h d_ST_extend_20 rfl ?_
      refine ri_cS0_1 h d_ST_extend_21 cs_ST_115 (k_near_ok h0 (by assumption)) (Nat.le_of_ble_eq_true rfl) (Nat.le_of_ble_eq_true rfl) (Nat.le_of_ble_eq_true rfl) (Nat.le_of_ble_eq_true rfl) (Nat.le_of_ble_eq_true rfl) ?_
      refine ri_lload_n h d_ST_extend_24 rfl ?_
      refine ri_eS_1 h d_ST_extend_25 cs_ST_115 (k_near_no h0 (fun hy => hn ⟨hx, hy⟩)) (Nat.le_of_ble_eq_true rfl) (Nat.le_of_ble_eq_true rfl) (Nat.le_of_ble_eq_true rfl) (Nat.le_of_ble_eq_true rfl) (Nat.le_of_ble_eq_true rfl) ?_
      exact ⟨rfl, rfl⟩
    · refine ri_lload_n h d_ST_extend_20 rfl ?_
      refine ri_eS_1 h d_ST_extend_21 cs_ST_115 (k_near_no h0 hx) (Nat.le_of_ble_eq_true rfl) (Nat.le_of_ble_eq_true rfl) (Nat.le_of_ble_eq_true rfl) (Nat.le_of_ble_eq_true rfl) (Nat.le_of_ble_eq_true rfl) ?_
      exact ⟨rfl, rfl⟩
  · omega
theorem k_open_ok (h0 : g_0 l D s0) (hS : HS z ad Q N M) (hW : WB Q) {s : Nat} (hs : s < Q.nS) {b : Int32} (hd : (Q.sh s).drop = 0) (hp : spath (Q.sh s).w = b) : Ct l D s0 y_ST_openShape (Cond.code y_ST_openShape b_ST_openShape 4 (some (.object "ShapeTrees$Shape"))) (rk 4 3 20) [.ref (ad 0 0), .int (nI s), .int b] M (fR (some (.ref (ad 18 s))) M) := by
  refine Ct.of h0 (by decide +kernel) rfl fun X hX h => ?_
  obtain ⟨p_, l', e_, R_, s_, m_, ar_, be_, me_, c_⟩ := X
  obtain rfl : l' = l := hX
  refine ri_aload_n h d_ST_openShape_0 rfl ?_
  refine ri_iload_n h d_ST_openShape_1 rfl ?_
  refine ri_cVv_1 (r := (gR5, gT5, 8)) h d_ST_openShape_2 cv_ST_236 (by first | exact hS.lcO | exact hS.lsO | exact hS.lpO | exact hS.cesO (by first | assumption | omega) | exact hS.cepO (by first | assumption | omega) | exact ⟨_, (by first | assumption | exact hS.st | exact hS.mo | exact hS.out | exact hS.sb | exact hS.ce (by first | assumption | omega) | exact hS.ceb (by first | assumption | omega) | exact hS.sh (by first | assumption | omega) | exact hS.shb (by first | assumption | omega) | exact hS.pl (by first | assumption | omega) | exact hS.plb (by first | assumption | omega) | exact hS.fl (by first | assumption | omega) | exact gup_s | (refine gup_t (by assumption) ?_; first | assumption | exact gup_s | (refine gup_t (by assumption) ?_; first | assumption | exact gup_s | (refine gup_t (by assumption) ?_; first | assumption | exact gup_s))))⟩) rfl (k_knownS_ok h0 hS hW hs) (Nat.le_of_ble_eq_true rfl) (Nat.le_of_ble_eq_true rfl) (Nat.le_of_ble_eq_true rfl) (Nat.le_of_ble_eq_true rfl) (Nat.le_of_ble_eq_true rfl) ?_
  refine ri_astore_n h d_ST_openShape_5 (Nat.le_of_ble_eq_true rfl) ?_
  refine ri_aload_n h d_ST_openShape_6 rfl ?_
  refine ri_get h d_ST_openShape_7 fl_ST_240 (by first | assumption | exact hS.sh_of (by first | assumption | omega) (by assumption) | exact hS.sh (by first | assumption | omega) | exact gup_s) (by rfl) ?_
  refine ri_if_ne h 21 d_ST_openShape_10 (by decide) (fun c_10 => ?_) (fun c_10 => ?_)
  · exact absurd (by assumption) c_10
  · refine ri_aload_n h d_ST_openShape_13 rfl ?_
    refine ri_cVv_0 (r := (gR4, gT4, 10)) h d_ST_openShape_14 cv_ST_248 (by first | exact hS.lcO | exact hS.lsO | exact hS.lpO | exact hS.cesO (by first | assumption | omega) | exact hS.cepO (by first | assumption | omega) | exact ⟨_, (by first | assumption | exact hS.st | exact hS.mo | exact hS.out | exact hS.sb | exact hS.ce (by first | assumption | omega) | exact hS.ceb (by first | assumption | omega) | exact hS.sh (by first | assumption | omega) | exact hS.shb (by first | assumption | omega) | exact hS.pl (by first | assumption | omega) | exact hS.plb (by first | assumption | omega) | exact hS.fl (by first | assumption | omega) | exact gup_s | (refine gup_t (by assumption) ?_; first | assumption | exact gup_s | (refine gup_t (by assumption) ?_; first | assumption | exact gup_s | (refine gup_t (by assumption) ?_; first | assumption | exact gup_s))))⟩) rfl (by first | exact k_isPath h0 (hS.sh_of (by first | assumption | omega) (by assumption)) | exact k_isPath h0 (hS.sh (by first | assumption | omega))) (by exact Nat.le_of_ble_eq_true rfl) (by exact Nat.le_of_ble_eq_true rfl) (by exact Nat.le_of_ble_eq_true rfl) (by exact Nat.le_of_ble_eq_true rfl) (by exact Nat.le_of_ble_eq_true rfl) ?_
    refine ri_iload_n h d_ST_openShape_17 rfl ?_
    refine ri_icmp_eq h 31 d_ST_openShape_18 (by decide) (fun c_18 => ?_) (fun c_18 => ?_)
    · refine ri_aload_n h d_ST_openShape_31 rfl ?_
      refine ri_areturn h (by first | exact Or.inl ⟨_, rfl⟩ | exact Or.inr ⟨_, rfl⟩) d_ST_openShape_32 (Nat.le_of_ble_eq_true rfl) (Nat.le_of_ble_eq_true rfl) ?_
      exact ⟨rfl, rfl⟩
    · exact absurd (by assumption) c_18
theorem k_open_no (h0 : g_0 l D s0) (hS : HS z ad Q N M) (hW : WB Q) {v b : Int32} (hn : ¬ ∃ s, s < Q.nS ∧ v = nI s ∧ (Q.sh s).drop = 0 ∧ spath (Q.sh s).w = b) : Ct l D s0 y_ST_openShape (Cond.code y_ST_openShape b_ST_openShape 4 (some (.object "ShapeTrees$Shape"))) (rk 4 3 20) [.ref (ad 0 0), .int v, .int b] M (fE eIO M) := by
  refine Ct.of h0 (by decide +kernel) rfl fun X hX h => ?_
  obtain ⟨p_, l', e_, R_, s_, m_, ar_, be_, me_, c_⟩ := X
  obtain rfl : l' = l := hX
  by_cases hv : ∃ s, s < Q.nS ∧ v = nI s
  · obtain ⟨s, hs, rfl⟩ := hv
    refine ri_aload_n h d_ST_openShape_0 rfl ?_
    refine ri_iload_n h d_ST_openShape_1 rfl ?_
    refine ri_cVv_1 (r := (gR5, gT5, 8)) h d_ST_openShape_2 cv_ST_236 (by first | exact hS.lcO | exact hS.lsO | exact hS.lpO | exact hS.cesO (by first | assumption | omega) | exact hS.cepO (by first | assumption | omega) | exact ⟨_, (by first | assumption | exact hS.st | exact hS.mo | exact hS.out | exact hS.sb | exact hS.ce (by first | assumption | omega) | exact hS.ceb (by first | assumption | omega) | exact hS.sh (by first | assumption | omega) | exact hS.shb (by first | assumption | omega) | exact hS.pl (by first | assumption | omega) | exact hS.plb (by first | assumption | omega) | exact hS.fl (by first | assumption | omega) | exact gup_s | (refine gup_t (by assumption) ?_; first | assumption | exact gup_s | (refine gup_t (by assumption) ?_; first | assumption | exact gup_s | (refine gup_t (by assumption) ?_; first | assumption | exact gup_s))))⟩) rfl (k_knownS_ok h0 hS hW hs) (Nat.le_of_ble_eq_true rfl) (Nat.le_of_ble_eq_true rfl) (Nat.le_of_ble_eq_true rfl) (Nat.le_of_ble_eq_true rfl) (Nat.le_of_ble_eq_true rfl) ?_
    refine ri_astore_n h d_ST_openShape_5 (Nat.le_of_ble_eq_true rfl) ?_
    refine ri_aload_n h d_ST_openShape_6 rfl ?_
    refine ri_get h d_ST_openShape_7 fl_ST_240 (by first | assumption | exact hS.sh_of (by first | assumption | omega) (by assumption) | exact hS.sh (by first | assumption | omega) | exact gup_s) (by rfl) ?_
    refine ri_if_ne h 21 d_ST_openShape_10 (by decide) (fun c_10 => ?_) (fun c_10 => ?_)
    · refine ri_throw h tw_252 d_ST_openShape_21 d_ST_openShape_24 d_ST_openShape_25 d_ST_openShape_27 d_ST_openShape_30 (Nat.le_of_ble_eq_true rfl) (Nat.le_of_ble_eq_true rfl) (Nat.le_of_ble_eq_true rfl) (Nat.le_of_ble_eq_true rfl) ?_
      exact ⟨rfl, rfl⟩
    · refine ri_aload_n h d_ST_openShape_13 rfl ?_
      refine ri_cVv_0 (r := (gR4, gT4, 10)) h d_ST_openShape_14 cv_ST_248 (by first | exact hS.lcO | exact hS.lsO | exact hS.lpO | exact hS.cesO (by first | assumption | omega) | exact hS.cepO (by first | assumption | omega) | exact ⟨_, (by first | assumption | exact hS.st | exact hS.mo | exact hS.out | exact hS.sb | exact hS.ce (by first | assumption | omega) | exact hS.ceb (by first | assumption | omega) | exact hS.sh (by first | assumption | omega) | exact hS.shb (by first | assumption | omega) | exact hS.pl (by first | assumption | omega) | exact hS.plb (by first | assumption | omega) | exact hS.fl (by first | assumption | omega) | exact gup_s | (refine gup_t (by assumption) ?_; first | assumption | exact gup_s | (refine gup_t (by assumption) ?_; first | assumption | exact gup_s | (refine gup_t (by assumption) ?_; first | assumption | exact gup_s))))⟩) rfl (by first | exact k_isPath h0 (hS.sh_of (by first | assumption | omega) (by assumption)) | exact k_isPath h0 (hS.sh (by first | assumption | omega))) (by exact Nat.le_of_ble_eq_true rfl) (by exact Nat.le_of_ble_eq_true rfl) (by exact Nat.le_of_ble_eq_true rfl) (by exact Nat.le_of_ble_eq_true rfl) (by exact Nat.le_of_ble_eq_true rfl) ?_
      refine ri_iload_n h d_ST_openShape_17 rfl ?_
      refine ri_icmp_eq h 31 d_ST_openShape_18 (by decide) (fun c_18 => ?_) (fun c_18 => ?_)
      · exact absurd ⟨s, hs, rfl, c_10, c_18⟩ hn
      · refine ri_throw h tw_252 d_ST_openShape_21 d_ST_openShape_24 d_ST_openShape_25 d_ST_openShape_27 d_ST_openShape_30 (Nat.le_of_ble_eq_true rfl) (Nat.le_of_ble_eq_true rfl) (Nat.le_of_ble_eq_true rfl) (Nat.le_of_ble_eq_true rfl) ?_
        exact ⟨rfl, rfl⟩
  · refine ri_aload_n h d_ST_openShape_0 rfl ?_
    refine ri_iload_n h d_ST_openShape_1 rfl ?_
    refine ri_eV_1 (r := (gR5, gT5, 8)) h d_ST_openShape_2 cv_ST_236 (by first | exact hS.lcO | exact hS.lsO | exact hS.lpO | exact hS.cesO (by first | assumption | omega) | exact hS.cepO (by first | assumption | omega) | exact ⟨_, (by first | assumption | exact hS.st | exact hS.mo | exact hS.out | exact hS.sb | exact hS.ce (by first | assumption | omega) | exact hS.ceb (by first | assumption | omega) | exact hS.sh (by first | assumption | omega) | exact hS.shb (by first | assumption | omega) | exact hS.pl (by first | assumption | omega) | exact hS.plb (by first | assumption | omega) | exact hS.fl (by first | assumption | omega) | exact gup_s | (refine gup_t (by assumption) ?_; first | assumption | exact gup_s | (refine gup_t (by assumption) ?_; first | assumption | exact gup_s | (refine gup_t (by assumption) ?_; first | assumption | exact gup_s))))⟩) rfl (k_knownS_no h0 hS hW hv) (Nat.le_of_ble_eq_true rfl) (Nat.le_of_ble_eq_true rfl) (Nat.le_of_ble_eq_true rfl) (Nat.le_of_ble_eq_true rfl) (Nat.le_of_ble_eq_true rfl) ?_
    exact ⟨rfl, rfl⟩
theorem k_corner_no (h0 : g_0 l D s0) (hS : HS z ad Q N M) (hW : WB Q) {v : Int32} {x y : Int64} (hn : ¬ ∃ s, s < Q.nS ∧ v = nI s ∧ (Q.sh s).drop = 0 ∧ spath (Q.sh s).w = 0) : Ct l D s0 y_ST_corner (Cond.code y_ST_corner b_ST_corner 6 (some .boolean)) rkC [.ref (ad 0 0), .int v, .long x, .long y] M (fE eIO M) := by
  refine Ct.of h0 (by decide +kernel) rfl fun X hX h => ?_
  obtain ⟨p_, l', e_, R_, s_, m_, ar_, be_, me_, c_⟩ := X
  obtain rfl : l' = l := hX
  refine ri_aload_n h d_ST_corner_0 rfl ?_
  refine ri_iload_n h d_ST_corner_1 rfl ?_
  refine ri_iconst h 0 d_ST_corner_2 rfl ?_
  refine ri_eV_2 (r := (gR5, gT5, 8)) h d_ST_corner_3 cv_ST_94 (by first | exact hS.lcO | exact hS.lsO | exact hS.lpO | exact hS.cesO (by first | assumption | omega) | exact hS.cepO (by first | assumption | omega) | exact ⟨_, (by first | assumption | exact hS.st | exact hS.mo | exact hS.out | exact hS.sb | exact hS.ce (by first | assumption | omega) | exact hS.ceb (by first | assumption | omega) | exact hS.sh (by first | assumption | omega) | exact hS.shb (by first | assumption | omega) | exact hS.pl (by first | assumption | omega) | exact hS.plb (by first | assumption | omega) | exact hS.fl (by first | assumption | omega) | exact gup_s | (refine gup_t (by assumption) ?_; first | assumption | exact gup_s | (refine gup_t (by assumption) ?_; first | assumption | exact gup_s | (refine gup_t (by assumption) ?_; first | assumption | exact gup_s))))⟩) rfl (k_open_no h0 hS hW hn) (Nat.le_of_ble_eq_true rfl) (Nat.le_of_ble_eq_true rfl) (Nat.le_of_ble_eq_true rfl) (Nat.le_of_ble_eq_true rfl) (Nat.le_of_ble_eq_true rfl) ?_
  exact ⟨rfl, rfl⟩
theorem k_corner_ok (h0 : g_0 l D s0) (hS : HS z ad Q N M) (hW : WB Q) {s : Nat} (hs : s < Q.nS) (hd : (Q.sh s).drop = 0) (hp : spath (Q.sh s).w = 0) {x y : Int64} (hx : nearB x) (hy : nearB y) (ht : takesB (Q.sh s) x y) (hc : (Q.sh s).cnt < 24) : Ct l D s0 y_ST_corner (Cond.code y_ST_corner b_ST_corner 6 (some .boolean)) rkC [.ref (ad 0 0), .int (nI s), .long x, .long y] M (fS (some (.int 1)) (HS z ad (Q.set_sh (va_up Q.sh s (addR (Q.sh s) x y))) N)) := by
  refine Ct.of h0 (by decide +kernel) rfl fun X hX h => ?_
  obtain ⟨p_, l', e_, R_, s_, m_, ar_, be_, me_, c_⟩ := X
  obtain rfl : l' = l := hX
  refine ri_aload_n h d_ST_corner_0 rfl ?_
  refine ri_iload_n h d_ST_corner_1 rfl ?_
  refine ri_iconst h 0 d_ST_corner_2 rfl ?_
  refine ri_cVv_2 (r := (gR5, gT5, 8)) h d_ST_corner_3 cv_ST_94 (by first | exact hS.lcO | exact hS.lsO | exact hS.lpO | exact hS.cesO (by first | assumption | omega) | exact hS.cepO (by first | assumption | omega) | exact ⟨_, (by first | assumption | exact hS.st | exact hS.mo | exact hS.out | exact hS.sb | exact hS.ce (by first | assumption | omega) | exact hS.ceb (by first | assumption | omega) | exact hS.sh (by first | assumption | omega) | exact hS.shb (by first | assumption | omega) | exact hS.pl (by first | assumption | omega) | exact hS.plb (by first | assumption | omega) | exact hS.fl (by first | assumption | omega) | exact gup_s | (refine gup_t (by assumption) ?_; first | assumption | exact gup_s | (refine gup_t (by assumption) ?_; first | assumption | exact gup_s | (refine gup_t (by assumption) ?_; first | assumption | exact gup_s))))⟩) rfl (k_open_ok h0 hS hW hs hd hp) (Nat.le_of_ble_eq_true rfl) (Nat.le_of_ble_eq_true rfl) (Nat.le_of_ble_eq_true rfl) (Nat.le_of_ble_eq_true rfl) (Nat.le_of_ble_eq_true rfl) ?_
  refine ri_lload_n h d_ST_corner_6 rfl ?_
  refine ri_lload h d_ST_corner_7 rfl ?_
  refine ri_dSv_3 h d_ST_corner_9 cs_ST_98 (k_extend_ok h0 hS hs hc hx hy ht) (Nat.le_of_ble_eq_true rfl) (Nat.le_of_ble_eq_true rfl) (Nat.le_of_ble_eq_true rfl) (Nat.le_of_ble_eq_true rfl) (Nat.le_of_ble_eq_true rfl) (fun M hS => ?_)
  refine ri_zreturn h d_ST_corner_12 (Nat.le_of_ble_eq_true rfl) (Nat.le_of_ble_eq_true rfl) (by first | rfl | assumption) ?_
  exact ⟨rfl, hS⟩
theorem k_corner_0 (h0 : g_0 l D s0) (hS : HS z ad Q N M) (hW : WB Q) {s : Nat} (hs : s < Q.nS) (hd : (Q.sh s).drop = 0) (hp : spath (Q.sh s).w = 0) {x y : Int64} (hx : nearB x) (hy : nearB y) (ht : ¬ takesB (Q.sh s) x y) (hc : (Q.sh s).cnt < 24) : Ct l D s0 y_ST_corner (Cond.code y_ST_corner b_ST_corner 6 (some .boolean)) rkC [.ref (ad 0 0), .int (nI s), .long x, .long y] M (fR (some (.int 0)) M) := by
  refine Ct.of h0 (by decide +kernel) rfl fun X hX h => ?_
  obtain ⟨p_, l', e_, R_, s_, m_, ar_, be_, me_, c_⟩ := X
  obtain rfl : l' = l := hX
  refine ri_aload_n h d_ST_corner_0 rfl ?_
  refine ri_iload_n h d_ST_corner_1 rfl ?_
  refine ri_iconst h 0 d_ST_corner_2 rfl ?_
  refine ri_cVv_2 (r := (gR5, gT5, 8)) h d_ST_corner_3 cv_ST_94 (by first | exact hS.lcO | exact hS.lsO | exact hS.lpO | exact hS.cesO (by first | assumption | omega) | exact hS.cepO (by first | assumption | omega) | exact ⟨_, (by first | assumption | exact hS.st | exact hS.mo | exact hS.out | exact hS.sb | exact hS.ce (by first | assumption | omega) | exact hS.ceb (by first | assumption | omega) | exact hS.sh (by first | assumption | omega) | exact hS.shb (by first | assumption | omega) | exact hS.pl (by first | assumption | omega) | exact hS.plb (by first | assumption | omega) | exact hS.fl (by first | assumption | omega) | exact gup_s | (refine gup_t (by assumption) ?_; first | assumption | exact gup_s | (refine gup_t (by assumption) ?_; first | assumption | exact gup_s | (refine gup_t (by assumption) ?_; first | assumption | exact gup_s))))⟩) rfl (k_open_ok h0 hS hW hs hd hp) (Nat.le_of_ble_eq_true rfl) (Nat.le_of_ble_eq_true rfl) (Nat.le_of_ble_eq_true rfl) (Nat.le_of_ble_eq_true rfl) (Nat.le_of_ble_eq_true rfl) ?_
  refine ri_lload_n h d_ST_corner_6 rfl ?_
  refine ri_lload h d_ST_corner_7 rfl ?_
  refine ri_cSv_3 h d_ST_corner_9 cs_ST_98 (k_extend_0 h0 hS hs hc hx hy ht) (Nat.le_of_ble_eq_true rfl) (Nat.le_of_ble_eq_true rfl) (Nat.le_of_ble_eq_true rfl) (Nat.le_of_ble_eq_true rfl) (Nat.le_of_ble_eq_true rfl) ?_
  refine ri_zreturn h d_ST_corner_12 (Nat.le_of_ble_eq_true rfl) (Nat.le_of_ble_eq_true rfl) (by first | rfl | assumption) ?_
  exact ⟨rfl, rfl⟩
theorem k_corner_no1 (h0 : g_0 l D s0) (hS : HS z ad Q N M) (hW : WB Q) {s : Nat} (hs : s < Q.nS) (hd : (Q.sh s).drop = 0) (hp : spath (Q.sh s).w = 0) {x y : Int64} (hc : (Q.sh s).cnt = 24) : Ct l D s0 y_ST_corner (Cond.code y_ST_corner b_ST_corner 6 (some .boolean)) rkC [.ref (ad 0 0), .int (nI s), .long x, .long y] M (fE eIS M) := by
  refine Ct.of h0 (by decide +kernel) rfl fun X hX h => ?_
  obtain ⟨p_, l', e_, R_, s_, m_, ar_, be_, me_, c_⟩ := X
  obtain rfl : l' = l := hX
  refine ri_aload_n h d_ST_corner_0 rfl ?_
  refine ri_iload_n h d_ST_corner_1 rfl ?_
  refine ri_iconst h 0 d_ST_corner_2 rfl ?_
  refine ri_cVv_2 (r := (gR5, gT5, 8)) h d_ST_corner_3 cv_ST_94 (by first | exact hS.lcO | exact hS.lsO | exact hS.lpO | exact hS.cesO (by first | assumption | omega) | exact hS.cepO (by first | assumption | omega) | exact ⟨_, (by first | assumption | exact hS.st | exact hS.mo | exact hS.out | exact hS.sb | exact hS.ce (by first | assumption | omega) | exact hS.ceb (by first | assumption | omega) | exact hS.sh (by first | assumption | omega) | exact hS.shb (by first | assumption | omega) | exact hS.pl (by first | assumption | omega) | exact hS.plb (by first | assumption | omega) | exact hS.fl (by first | assumption | omega) | exact gup_s | (refine gup_t (by assumption) ?_; first | assumption | exact gup_s | (refine gup_t (by assumption) ?_; first | assumption | exact gup_s | (refine gup_t (by assumption) ?_; first | assumption | exact gup_s))))⟩) rfl (k_open_ok h0 hS hW hs hd hp) (Nat.le_of_ble_eq_true rfl) (Nat.le_of_ble_eq_true rfl) (Nat.le_of_ble_eq_true rfl) (Nat.le_of_ble_eq_true rfl) (Nat.le_of_ble_eq_true rfl) ?_
  refine ri_lload_n h d_ST_corner_6 rfl ?_
  refine ri_lload h d_ST_corner_7 rfl ?_
  refine ri_eS_3 h d_ST_corner_9 cs_ST_98 (k_extend_no1 h0 hS hs hc) (Nat.le_of_ble_eq_true rfl) (Nat.le_of_ble_eq_true rfl) (Nat.le_of_ble_eq_true rfl) (Nat.le_of_ble_eq_true rfl) (Nat.le_of_ble_eq_true rfl) ?_
  exact ⟨rfl, rfl⟩
theorem k_corner_no2 (h0 : g_0 l D s0) (hS : HS z ad Q N M) (hW : WB Q) {s : Nat} (hs : s < Q.nS) (hd : (Q.sh s).drop = 0) (hp : spath (Q.sh s).w = 0) {x y : Int64} (hc : (Q.sh s).cnt < 24) (hn : ¬ (nearB x ∧ nearB y)) : Ct l D s0 y_ST_corner (Cond.code y_ST_corner b_ST_corner 6 (some .boolean)) rkC [.ref (ad 0 0), .int (nI s), .long x, .long y] M (fE eIA M) := by
  refine Ct.of h0 (by decide +kernel) rfl fun X hX h => ?_
  obtain ⟨p_, l', e_, R_, s_, m_, ar_, be_, me_, c_⟩ := X
  obtain rfl : l' = l := hX
  refine ri_aload_n h d_ST_corner_0 rfl ?_
  refine ri_iload_n h d_ST_corner_1 rfl ?_
  refine ri_iconst h 0 d_ST_corner_2 rfl ?_
  refine ri_cVv_2 (r := (gR5, gT5, 8)) h d_ST_corner_3 cv_ST_94 (by first | exact hS.lcO | exact hS.lsO | exact hS.lpO | exact hS.cesO (by first | assumption | omega) | exact hS.cepO (by first | assumption | omega) | exact ⟨_, (by first | assumption | exact hS.st | exact hS.mo | exact hS.out | exact hS.sb | exact hS.ce (by first | assumption | omega) | exact hS.ceb (by first | assumption | omega) | exact hS.sh (by first | assumption | omega) | exact hS.shb (by first | assumption | omega) | exact hS.pl (by first | assumption | omega) | exact hS.plb (by first | assumption | omega) | exact hS.fl (by first | assumption | omega) | exact gup_s | (refine gup_t (by assumption) ?_; first | assumption | exact gup_s | (refine gup_t (by assumption) ?_; first | assumption | exact gup_s | (refine gup_t (by assumption) ?_; first | assumption | exact gup_s))))⟩) rfl (k_open_ok h0 hS hW hs hd hp) (Nat.le_of_ble_eq_true rfl) (Nat.le_of_ble_eq_true rfl) (Nat.le_of_ble_eq_true rfl) (Nat.le_of_ble_eq_true rfl) (Nat.le_of_ble_eq_true rfl) ?_
  refine ri_lload_n h d_ST_corner_6 rfl ?_
  refine ri_lload h d_ST_corner_7 rfl ?_
  refine ri_eS_3 h d_ST_corner_9 cs_ST_98 (k_extend_no2 h0 hS hs hc hn) (Nat.le_of_ble_eq_true rfl) (Nat.le_of_ble_eq_true rfl) (Nat.le_of_ble_eq_true rfl) (Nat.le_of_ble_eq_true rfl) (Nat.le_of_ble_eq_true rfl) ?_
  exact ⟨rfl, rfl⟩
theorem k_point_no (h0 : g_0 l D s0) (hS : HS z ad Q N M) (hW : WB Q) {v : Int32} {x y : Int64} (hn : ¬ ∃ s, s < Q.nS ∧ v = nI s ∧ (Q.sh s).drop = 0 ∧ spath (Q.sh s).w = 1) : Ct l D s0 y_ST_point (Cond.code y_ST_point b_ST_point 6 (some .boolean)) rkC [.ref (ad 0 0), .int v, .long x, .long y] M (fE eIO M) := by
  refine Ct.of h0 (by decide +kernel) rfl fun X hX h => ?_
  obtain ⟨p_, l', e_, R_, s_, m_, ar_, be_, me_, c_⟩ := X
  obtain rfl : l' = l := hX
  refine ri_aload_n h d_ST_point_0 rfl ?_
  refine ri_iload_n h d_ST_point_1 rfl ?_
  refine ri_iconst h 1 d_ST_point_2 rfl ?_
  refine ri_eV_2 (r := (gR5, gT5, 8)) h d_ST_point_3 cv_ST_94 (by first | exact hS.lcO | exact hS.lsO | exact hS.lpO | exact hS.cesO (by first | assumption | omega) | exact hS.cepO (by first | assumption | omega) | exact ⟨_, (by first | assumption | exact hS.st | exact hS.mo | exact hS.out | exact hS.sb | exact hS.ce (by first | assumption | omega) | exact hS.ceb (by first | assumption | omega) | exact hS.sh (by first | assumption | omega) | exact hS.shb (by first | assumption | omega) | exact hS.pl (by first | assumption | omega) | exact hS.plb (by first | assumption | omega) | exact hS.fl (by first | assumption | omega) | exact gup_s | (refine gup_t (by assumption) ?_; first | assumption | exact gup_s | (refine gup_t (by assumption) ?_; first | assumption | exact gup_s | (refine gup_t (by assumption) ?_; first | assumption | exact gup_s))))⟩) rfl (k_open_no h0 hS hW hn) (Nat.le_of_ble_eq_true rfl) (Nat.le_of_ble_eq_true rfl) (Nat.le_of_ble_eq_true rfl) (Nat.le_of_ble_eq_true rfl) (Nat.le_of_ble_eq_true rfl) ?_
  exact ⟨rfl, rfl⟩
theorem k_point_ok (h0 : g_0 l D s0) (hS : HS z ad Q N M) (hW : WB Q) {s : Nat} (hs : s < Q.nS) (hd : (Q.sh s).drop = 0) (hp : spath (Q.sh s).w = 1) {x y : Int64} (hx : nearB x) (hy : nearB y) (ht : takesB (Q.sh s) x y) (hc : (Q.sh s).cnt < 24) : Ct l D s0 y_ST_point (Cond.code y_ST_point b_ST_point 6 (some .boolean)) rkC [.ref (ad 0 0), .int (nI s), .long x, .long y] M (fS (some (.int 1)) (HS z ad (Q.set_sh (va_up Q.sh s (addR (Q.sh s) x y))) N)) := by
  refine Ct.of h0 (by decide +kernel) rfl fun X hX h => ?_
  obtain ⟨p_, l', e_, R_, s_, m_, ar_, be_, me_, c_⟩ := X
  obtain rfl : l' = l := hX
  refine ri_aload_n h d_ST_point_0 rfl ?_
  refine ri_iload_n h d_ST_point_1 rfl ?_
  refine ri_iconst h 1 d_ST_point_2 rfl ?_
  refine ri_cVv_2 (r := (gR5, gT5, 8)) h d_ST_point_3 cv_ST_94 (by first | exact hS.lcO | exact hS.lsO | exact hS.lpO | exact hS.cesO (by first | assumption | omega) | exact hS.cepO (by first | assumption | omega) | exact ⟨_, (by first | assumption | exact hS.st | exact hS.mo | exact hS.out | exact hS.sb | exact hS.ce (by first | assumption | omega) | exact hS.ceb (by first | assumption | omega) | exact hS.sh (by first | assumption | omega) | exact hS.shb (by first | assumption | omega) | exact hS.pl (by first | assumption | omega) | exact hS.plb (by first | assumption | omega) | exact hS.fl (by first | assumption | omega) | exact gup_s | (refine gup_t (by assumption) ?_; first | assumption | exact gup_s | (refine gup_t (by assumption) ?_; first | assumption | exact gup_s | (refine gup_t (by assumption) ?_; first | assumption | exact gup_s))))⟩) rfl (k_open_ok h0 hS hW hs hd hp) (Nat.le_of_ble_eq_true rfl) (Nat.le_of_ble_eq_true rfl) (Nat.le_of_ble_eq_true rfl) (Nat.le_of_ble_eq_true rfl) (Nat.le_of_ble_eq_true rfl) ?_
  refine ri_lload_n h d_ST_point_6 rfl ?_
  refine ri_lload h d_ST_point_7 rfl ?_
  refine ri_dSv_3 h d_ST_point_9 cs_ST_98 (k_extend_ok h0 hS hs hc hx hy ht) (Nat.le_of_ble_eq_true rfl) (Nat.le_of_ble_eq_true rfl) (Nat.le_of_ble_eq_true rfl) (Nat.le_of_ble_eq_true rfl) (Nat.le_of_ble_eq_true rfl) (fun M hS => ?_)
  refine ri_zreturn h d_ST_point_12 (Nat.le_of_ble_eq_true rfl) (Nat.le_of_ble_eq_true rfl) (by first | rfl | assumption) ?_
  exact ⟨rfl, hS⟩
theorem k_point_0 (h0 : g_0 l D s0) (hS : HS z ad Q N M) (hW : WB Q) {s : Nat} (hs : s < Q.nS) (hd : (Q.sh s).drop = 0) (hp : spath (Q.sh s).w = 1) {x y : Int64} (hx : nearB x) (hy : nearB y) (ht : ¬ takesB (Q.sh s) x y) (hc : (Q.sh s).cnt < 24) : Ct l D s0 y_ST_point (Cond.code y_ST_point b_ST_point 6 (some .boolean)) rkC [.ref (ad 0 0), .int (nI s), .long x, .long y] M (fR (some (.int 0)) M) := by
  refine Ct.of h0 (by decide +kernel) rfl fun X hX h => ?_
  obtain ⟨p_, l', e_, R_, s_, m_, ar_, be_, me_, c_⟩ := X
  obtain rfl : l' = l := hX
  refine ri_aload_n h d_ST_point_0 rfl ?_
  refine ri_iload_n h d_ST_point_1 rfl ?_
  refine ri_iconst h 1 d_ST_point_2 rfl ?_
  refine ri_cVv_2 (r := (gR5, gT5, 8)) h d_ST_point_3 cv_ST_94 (by first | exact hS.lcO | exact hS.lsO | exact hS.lpO | exact hS.cesO (by first | assumption | omega) | exact hS.cepO (by first | assumption | omega) | exact ⟨_, (by first | assumption | exact hS.st | exact hS.mo | exact hS.out | exact hS.sb | exact hS.ce (by first | assumption | omega) | exact hS.ceb (by first | assumption | omega) | exact hS.sh (by first | assumption | omega) | exact hS.shb (by first | assumption | omega) | exact hS.pl (by first | assumption | omega) | exact hS.plb (by first | assumption | omega) | exact hS.fl (by first | assumption | omega) | exact gup_s | (refine gup_t (by assumption) ?_; first | assumption | exact gup_s | (refine gup_t (by assumption) ?_; first | assumption | exact gup_s | (refine gup_t (by assumption) ?_; first | assumption | exact gup_s))))⟩) rfl (k_open_ok h0 hS hW hs hd hp) (Nat.le_of_ble_eq_true rfl) (Nat.le_of_ble_eq_true rfl) (Nat.le_of_ble_eq_true rfl) (Nat.le_of_ble_eq_true rfl) (Nat.le_of_ble_eq_true rfl) ?_
  refine ri_lload_n h d_ST_point_6 rfl ?_
  refine ri_lload h d_ST_point_7 rfl ?_
  refine ri_cSv_3 h d_ST_point_9 cs_ST_98 (k_extend_0 h0 hS hs hc hx hy ht) (Nat.le_of_ble_eq_true rfl) (Nat.le_of_ble_eq_true rfl) (Nat.le_of_ble_eq_true rfl) (Nat.le_of_ble_eq_true rfl) (Nat.le_of_ble_eq_true rfl) ?_
  refine ri_zreturn h d_ST_point_12 (Nat.le_of_ble_eq_true rfl) (Nat.le_of_ble_eq_true rfl) (by first | rfl | assumption) ?_
  exact ⟨rfl, rfl⟩
theorem k_point_no1 (h0 : g_0 l D s0) (hS : HS z ad Q N M) (hW : WB Q) {s : Nat} (hs : s < Q.nS) (hd : (Q.sh s).drop = 0) (hp : spath (Q.sh s).w = 1) {x y : Int64} (hc : (Q.sh s).cnt = 24) : Ct l D s0 y_ST_point (Cond.code y_ST_point b_ST_point 6 (some .boolean)) rkC [.ref (ad 0 0), .int (nI s), .long x, .long y] M (fE eIS M) := by
  refine Ct.of h0 (by decide +kernel) rfl fun X hX h => ?_
  obtain ⟨p_, l', e_, R_, s_, m_, ar_, be_, me_, c_⟩ := X
  obtain rfl : l' = l := hX
  refine ri_aload_n h d_ST_point_0 rfl ?_
  refine ri_iload_n h d_ST_point_1 rfl ?_
  refine ri_iconst h 1 d_ST_point_2 rfl ?_
  refine ri_cVv_2 (r := (gR5, gT5, 8)) h d_ST_point_3 cv_ST_94 (by first | exact hS.lcO | exact hS.lsO | exact hS.lpO | exact hS.cesO (by first | assumption | omega) | exact hS.cepO (by first | assumption | omega) | exact ⟨_, (by first | assumption | exact hS.st | exact hS.mo | exact hS.out | exact hS.sb | exact hS.ce (by first | assumption | omega) | exact hS.ceb (by first | assumption | omega) | exact hS.sh (by first | assumption | omega) | exact hS.shb (by first | assumption | omega) | exact hS.pl (by first | assumption | omega) | exact hS.plb (by first | assumption | omega) | exact hS.fl (by first | assumption | omega) | exact gup_s | (refine gup_t (by assumption) ?_; first | assumption | exact gup_s | (refine gup_t (by assumption) ?_; first | assumption | exact gup_s | (refine gup_t (by assumption) ?_; first | assumption | exact gup_s))))⟩) rfl (k_open_ok h0 hS hW hs hd hp) (Nat.le_of_ble_eq_true rfl) (Nat.le_of_ble_eq_true rfl) (Nat.le_of_ble_eq_true rfl) (Nat.le_of_ble_eq_true rfl) (Nat.le_of_ble_eq_true rfl) ?_
  refine ri_lload_n h d_ST_point_6 rfl ?_
  refine ri_lload h d_ST_point_7 rfl ?_
  refine ri_eS_3 h d_ST_point_9 cs_ST_98 (k_extend_no1 h0 hS hs hc) (Nat.le_of_ble_eq_true rfl) (Nat.le_of_ble_eq_true rfl) (Nat.le_of_ble_eq_true rfl) (Nat.le_of_ble_eq_true rfl) (Nat.le_of_ble_eq_true rfl) ?_
  exact ⟨rfl, rfl⟩
theorem k_point_no2 (h0 : g_0 l D s0) (hS : HS z ad Q N M) (hW : WB Q) {s : Nat} (hs : s < Q.nS) (hd : (Q.sh s).drop = 0) (hp : spath (Q.sh s).w = 1) {x y : Int64} (hc : (Q.sh s).cnt < 24) (hn : ¬ (nearB x ∧ nearB y)) : Ct l D s0 y_ST_point (Cond.code y_ST_point b_ST_point 6 (some .boolean)) rkC [.ref (ad 0 0), .int (nI s), .long x, .long y] M (fE eIA M) := by
  refine Ct.of h0 (by decide +kernel) rfl fun X hX h => ?_
  obtain ⟨p_, l', e_, R_, s_, m_, ar_, be_, me_, c_⟩ := X
  obtain rfl : l' = l := hX
  refine ri_aload_n h d_ST_point_0 rfl ?_
  refine ri_iload_n h d_ST_point_1 rfl ?_
  refine ri_iconst h 1 d_ST_point_2 rfl ?_
  refine ri_cVv_2 (r := (gR5, gT5, 8)) h d_ST_point_3 cv_ST_94 (by first | exact hS.lcO | exact hS.lsO | exact hS.lpO | exact hS.cesO (by first | assumption | omega) | exact hS.cepO (by first | assumption | omega) | exact ⟨_, (by first | assumption | exact hS.st | exact hS.mo | exact hS.out | exact hS.sb | exact hS.ce (by first | assumption | omega) | exact hS.ceb (by first | assumption | omega) | exact hS.sh (by first | assumption | omega) | exact hS.shb (by first | assumption | omega) | exact hS.pl (by first | assumption | omega) | exact hS.plb (by first | assumption | omega) | exact hS.fl (by first | assumption | omega) | exact gup_s | (refine gup_t (by assumption) ?_; first | assumption | exact gup_s | (refine gup_t (by assumption) ?_; first | assumption | exact gup_s | (refine gup_t (by assumption) ?_; first | assumption | exact gup_s))))⟩) rfl (k_open_ok h0 hS hW hs hd hp) (Nat.le_of_ble_eq_true rfl) (Nat.le_of_ble_eq_true rfl) (Nat.le_of_ble_eq_true rfl) (Nat.le_of_ble_eq_true rfl) (Nat.le_of_ble_eq_true rfl) ?_
  refine ri_lload_n h d_ST_point_6 rfl ?_
  refine ri_lload h d_ST_point_7 rfl ?_
  refine ri_eS_3 h d_ST_point_9 cs_ST_98 (k_extend_no2 h0 hS hs hc hn) (Nat.le_of_ble_eq_true rfl) (Nat.le_of_ble_eq_true rfl) (Nat.le_of_ble_eq_true rfl) (Nat.le_of_ble_eq_true rfl) (Nat.le_of_ble_eq_true rfl) ?_
  exact ⟨rfl, rfl⟩
end MD
