/-! sizes, by the model -/
section LNR
variable {D : gD} {s0 : State} {p : Program} {l : Launch} {e : Env} {R : Room} {s : State} {m : MethodId} {args : Array Value} {below : List Frame} {meth : Method} {c : Code} {mc ms fr lo nLo : Nat} {F : gR → gH → Prop}
variable {cc : ByteArray} {own nm : String} {ret : Option FieldType} {tb : List ExceptionTableEntry} {pc cl sl : Nat} {ls : List (Nat × Value)} {st : List Value} {M : gH}
theorem ri_i2lN (h : gF ((D, s0), (p, l, e, R, s, m, args, below, meth, c), (mc, ms, fr, lo), F, nLo) cc own ret tb nm) {a : Nat} (d : decode cc pc = .ok (.i2l, 1)) (ha : a < 2 ^ 31) (k : G ((D, s0), (p, l, e, R, s, m, args, below, meth, c), (mc, ms, fr, lo), F, nLo) (pc + 1) ls (.long (nL a) :: st) M cl sl) : G ((D, s0), (p, l, e, R, s, m, args, below, meth, c), (mc, ms, fr, lo), F, nLo) pc ls (.int (nI a) :: st) M cl sl := ri_i2l h d (by rw [nL_nI ha]; exact k)
theorem ri_laddN (h : gF ((D, s0), (p, l, e, R, s, m, args, below, meth, c), (mc, ms, fr, lo), F, nLo) cc own ret tb nm) {a b : Nat} (d : decode cc pc = .ok (.ladd, 1)) (k : G ((D, s0), (p, l, e, R, s, m, args, below, meth, c), (mc, ms, fr, lo), F, nLo) (pc + 1) ls (.long (nL (a + b)) :: st) M cl sl) : G ((D, s0), (p, l, e, R, s, m, args, below, meth, c), (mc, ms, fr, lo), F, nLo) pc ls (.long (nL b) :: .long (nL a) :: st) M cl sl := ri_ladd h d (by rw [nL_add]; exact k)
theorem ri_lmulN (h : gF ((D, s0), (p, l, e, R, s, m, args, below, meth, c), (mc, ms, fr, lo), F, nLo) cc own ret tb nm) {a b : Nat} (d : decode cc pc = .ok (.lmul, 1)) (k : G ((D, s0), (p, l, e, R, s, m, args, below, meth, c), (mc, ms, fr, lo), F, nLo) (pc + 1) ls (.long (nL (a * b)) :: st) M cl sl) : G ((D, s0), (p, l, e, R, s, m, args, below, meth, c), (mc, ms, fr, lo), F, nLo) pc ls (.long (nL b) :: .long (nL a) :: st) M cl sl := ri_lmul h d (by rw [nL_mul]; exact k)
end LNR
theorem cap6 {a b C S w : Nat} (h : min a C = min b C) (hw : 1 ≤ w) : min (a + w * min S C) C = min (b + w * S) C := by
  by_cases hs : S ≤ C
  · rw [Nat.min_eq_left hs]
    omega
  · rw [show min S C = C by omega]
    have h1 : 1 * C ≤ w * C := Nat.mul_le_mul_right _ hw
    have h2 : 1 * S ≤ w * S := Nat.mul_le_mul_right _ hw
    omega
theorem cap_sum {C : Nat} {w S : Nat → Nat} : ∀ (xs : List Nat) (a b : Nat), min a C = min b C → (∀ x, x ∈ xs → 1 ≤ w x) → min (a + (xs.map (fun x => w x * min (S x) C)).sum) C = min (b + (xs.map (fun x => w x * S x)).sum) C
  | [], a, b, h, _ => by simpa using h
  | x :: xs, a, b, h, hw => by
    have := cap_sum (w := w) (S := S) xs (a + w x * min (S x) C) (b + w x * S x) (cap6 h (hw x List.mem_cons_self)) (fun y hy => hw y (List.mem_cons_of_mem _ hy))
    simp only [List.map_cons, List.sum_cons]
    rw [← Nat.add_assoc, ← Nat.add_assoc]
    exact this
theorem sum_le {f : Nat → Nat} {B : Nat} : ∀ (xs : List Nat), (∀ x, x ∈ xs → f x ≤ B) → (xs.map f).sum ≤ xs.length * B
  | [], _ => by simp
  | x :: xs, h => by
    have h1 := sum_le xs (fun y hy => h y (List.mem_cons_of_mem _ hy))
    have h2 := h x List.mem_cons_self
    rw [List.map_cons, List.sum_cons, List.length_cons, Nat.add_mul, Nat.one_mul]
    omega
theorem rho_pos {Q : CS} {x : Nat} (h : x < Q.nC) : 1 ≤ rho Q x := by
  show 1 ≤ ((List.range Q.nC).filter _).length
  refine List.length_pos_of_mem (a := x) (List.mem_filter.mpr ⟨List.mem_range.mpr h, ?_⟩)
  exact @decide_eq_true _ (Classical.propDecidable _) Rch.refl
/-- shapes lie in cells -/
abbrev WSC (Q : CS) : Prop := ∀ s, s < Q.nS → (Q.sh s).cell < Q.nC
section RKS
variable {l : Launch} {D : gD} {s0 : State} {M : gH} {z : Nat} {ad : gA} {Q Qc : CS} {N : MS}
/-- sizes that are right -/
abbrev szR (Q : CS) (u : Nat → Int64) (x : Nat) : Prop := u x = nL (min (SZ Q (-1) x) 1000000)
theorem k_mreckon (h0 : g_0 l D s0) (hS : HS z ad Qc N M) (hm : MR0 Q N) (hW : WB Q) (hL : WL Q) (hX : WX Q) (hC : WSC Q) : Ct l D s0 y_Md_reckonSizes (Cond.code y_Md_reckonSizes b_Md_reckonSizes 6 none) (rk 2 0 0) [.ref (ad 30 0)] M (fS none (fun M' => ∃ u, HS z ad Qc (N.set_l (va_up N.l 28 u)) M' ∧ ∀ x, x < Q.nC → szR Q u x)) := by
  have hb1 := hW.1
  have hb2 := hW.2.1
  have hb3 := hW.2.2.1
  refine Ct.of h0 (by decide +kernel) rfl fun X hX h => ?_
  obtain ⟨p_, l', e_, R_, s_, m_, ar_, be_, me_, c_⟩ := X
  obtain rfl : l' = l := hX
  have LC : ∀ (r : Nat) (kx : ∀ (M : gH) (u : Nat → Int64), HS z ad Qc (N.set_l (va_up N.l 28 u)) M → (∀ x, x < Q.nC → ∃ k, k ≤ 1000000 ∧ u x = nL k) → (∀ x, x < Q.nC → rho Q x ≤ r + 1 → szR Q u x) → G (gzz D s0 (p_, l', e_, R_, s_, m_, ar_, be_, me_, c_) (rk 2 0 0) (fS none (fun M' => ∃ u, HS z ad Qc (N.set_l (va_up N.l 28 u)) M' ∧ ∀ x, x < Q.nC → szR Q u x)) 6) 180 [(0, .ref (ad 30 0)), (1, .int (nI r))] [] M 0 0), ∀ (q c : Nat), c + q = Q.nC → ∀ (M : gH) (u : Nat → Int64), HS z ad Qc (N.set_l (va_up N.l 28 u)) M → (∀ x, x < Q.nC → ∃ k, k ≤ 1000000 ∧ u x = nL k) → (∀ x, x < Q.nC → (rho Q x ≤ r ∨ (x < c ∧ rho Q x ≤ r + 1)) → szR Q u x) → G (gzz D s0 (p_, l', e_, R_, s_, m_, ar_, be_, me_, c_) (rk 2 0 0) (fS none (fun M' => ∃ u, HS z ad Qc (N.set_l (va_up N.l 28 u)) M' ∧ ∀ x, x < Q.nC → szR Q u x)) 6) 31 [(0, .ref (ad 30 0)), (1, .int (nI r)), (2, .int (nI c))] [] M 0 0 := by
    intro r kx q
    induction q with
    | zero =>
      intro c hc M u hS hk hr
      refine ri_iload_n h d_Md_reckonSizes_31 rfl ?_
      refine ri_aload_n h d_Md_reckonSizes_32 rfl ?_
      refine ri_get h d_Md_reckonSizes_33 fl_Md_111 (by first | assumption | exact hS.mo | exact gup_s) (by first | exact congrArg (fun x => some (Value.int (nI x))) hm.nc | rfl) ?_
      first | refine ri_icmpN_ge h 180 d_Md_reckonSizes_36 (by decide) (by omega) (by omega) (fun c_36 => ?_) (fun c_36 => ?_) | refine ri_icmp_ge h 180 d_Md_reckonSizes_36 (by decide) (fun c_36 => ?_) (fun c_36 => ?_)
      · first
        | (exfalso; first | exact absurd c_36 (by decide) | omega)
        | (exact ri_ls [(0, .ref (ad 30 0)), (1, .int (nI r))] ⟨rfl, rfl, trivial⟩ (kx M u hS hk (fun x h1 h2 => hr x h1 (Or.inr ⟨by omega, h2⟩))))
      · first
        | (exfalso; first | exact absurd c_36 (by decide) | omega)
        | (omega)
    | succ q ihc =>
      intro c hc M u hS hk hr
      have hcC : c < Q.nC := by omega
      have hm := hm.ne (NE.l 28 (by decide) u)
      have hWc := hW.2.2.2 c hcC
      have J153 : ∀ n : Nat, n < 2 ^ 40 → (rho Q c ≤ r + 1 → min n 1000000 = min (SZ Q (-1) c) 1000000) → G (gzz D s0 (p_, l', e_, R_, s_, m_, ar_, be_, me_, c_) (rk 2 0 0) (fS none (fun M' => ∃ u, HS z ad Qc (N.set_l (va_up N.l 28 u)) M' ∧ ∀ x, x < Q.nC → szR Q u x)) 6) 153 [(0, .ref (ad 30 0)), (1, .int (nI r)), (2, .int (nI c)), (3, .long (nL n))] [] M 0 0 := by
        intro n hn hn2
        have J173 : ∀ v : Int64, v = nL (min n 1000000) → G (gzz D s0 (p_, l', e_, R_, s_, m_, ar_, be_, me_, c_) (rk 2 0 0) (fS none (fun M' => ∃ u, HS z ad Qc (N.set_l (va_up N.l 28 u)) M' ∧ ∀ x, x < Q.nC → szR Q u x)) 6) 173 [(0, .ref (ad 30 0)), (1, .int (nI r)), (2, .int (nI c))] [.long v, .int (nI c), .ref (ad 128 0)] M 0 0 := by
          intro v hv
          subst hv
          refine ri_last h c d_Md_reckonSizes_173 hS.a28 rfl (by omega) (by decide) ?_
          refine ri_gH (hS.set_ml 28 rfl _) (fun M hS => ?_)
          first | refine ri_iincN h d_Md_reckonSizes_174 rfl (Nat.le_of_ble_eq_true rfl) ?_ | refine ri_iinc h _ d_Md_reckonSizes_174 rfl rfl (Nat.le_of_ble_eq_true rfl) ?_
          refine ri_goto h 31 d_Md_reckonSizes_177 (by decide) ?_
          refine ri_ls [(0, .ref (ad 30 0)), (1, .int (nI r)), (2, .int (nI (c + 1)))] ⟨rfl, rfl, rfl, trivial⟩ (ihc (c + 1) (by omega) M (va_up u c (nL (min n 1000000))) (hS.cong rfl (congrArg (fun f => N.set_l f) va_up_u)) (fun x hx => ?_) (fun x hx h1 => ?_))
          · unfold va_up
            split
            · exact ⟨_, by omega, rfl⟩
            · exact hk x hx
          · by_cases e : x = c
            · subst e
              show va_up u x _ x = _
              rw [va_up_s, hn2 (by omega)]
            · show va_up u c _ x = _
              rw [va_up_n e]
              exact hr x hx (h1.imp id (fun w => ⟨by omega, w.2⟩))
        have e1 : (nL n ≤ 1000000) ↔ n ≤ 1000000 := nL_le (b := 1000000) (by omega) (by decide)
        refine ri_aload_n h d_Md_reckonSizes_153 rfl ?_
        refine ri_get h d_Md_reckonSizes_154 fl_Md_79 (by first | assumption | exact hS.mo | exact gup_s) (by rfl) ?_
        refine ri_iload_n h d_Md_reckonSizes_157 rfl ?_
        refine ri_lload_n h d_Md_reckonSizes_158 rfl ?_
        refine ri_ldc2 h 1000000 d_Md_reckonSizes_159 kl_Md_116 ?_
        refine ri_lcmp_le h 172 d_Md_reckonSizes_162 d_Md_reckonSizes_163 (by decide) (fun c_162 => ?_) (fun c_162 => ?_)
        · refine ri_lload_n h d_Md_reckonSizes_172 rfl ?_
          exact ri_ls [(0, .ref (ad 30 0)), (1, .int (nI r)), (2, .int (nI c))] ⟨rfl, rfl, rfl, trivial⟩ (J173 _ (by first | (rw [Nat.min_eq_left (e1.mp c_162)]) | (rw [Nat.min_eq_right (Nat.le_of_lt (Nat.lt_of_not_le (fun q => c_162 (e1.mpr q))))]; rfl)))
        · refine ri_ldc2 h 1000000 d_Md_reckonSizes_166 kl_Md_116 ?_
          refine ri_goto h 173 d_Md_reckonSizes_169 (by decide) ?_
          exact ri_ls [(0, .ref (ad 30 0)), (1, .int (nI r)), (2, .int (nI c))] ⟨rfl, rfl, rfl, trivial⟩ (J173 _ (by first | (rw [Nat.min_eq_left (e1.mp c_162)]) | (rw [Nat.min_eq_right (Nat.le_of_lt (Nat.lt_of_not_le (fun q => c_162 (e1.mpr q))))]; rfl)))
      have LPp : ∀ (a : Nat), a ≤ 120 → ∀ (q i : Nat), i + q = Q.nP → ∀ (n : Nat), (∃ k : Nat → Nat, (∀ p, k p ≤ 1000000) ∧ (∀ p, p < Q.nP → u (Q.pl p).of = nL (k p)) ∧ n = a + (((List.range i).filter (fun p => decide ((Q.pl p).cell = c))).map (fun p => k p * (Q.pl p).cols * (Q.pl p).rows)).sum) → n ≤ 120 + i * 400000000 → (∀ n : Nat, n < 2 ^ 40 → (∃ k : Nat → Nat, (∀ p, k p ≤ 1000000) ∧ (∀ p, p < Q.nP → u (Q.pl p).of = nL (k p)) ∧ n = a + (((List.range Q.nP).filter (fun p => decide ((Q.pl p).cell = c))).map (fun p => k p * (Q.pl p).cols * (Q.pl p).rows)).sum) → G (gzz D s0 (p_, l', e_, R_, s_, m_, ar_, be_, me_, c_) (rk 2 0 0) (fS none (fun M' => ∃ u, HS z ad Qc (N.set_l (va_up N.l 28 u)) M' ∧ ∀ x, x < Q.nC → szR Q u x)) 6) 153 [(0, .ref (ad 30 0)), (1, .int (nI r)), (2, .int (nI c)), (3, .long (nL n))] [] M 0 0) → G (gzz D s0 (p_, l', e_, R_, s_, m_, ar_, be_, me_, c_) (rk 2 0 0) (fS none (fun M' => ∃ u, HS z ad Qc (N.set_l (va_up N.l 28 u)) M' ∧ ∀ x, x < Q.nC → szR Q u x)) 6) 90 [(0, .ref (ad 30 0)), (1, .int (nI r)), (2, .int (nI c)), (3, .long (nL n)), (5, .int (nI i))] [] M 0 0 := by
        intro a ha q
        induction q with
        | zero =>
          intro i hi n hn hn2 kk
          obtain ⟨k, h1, h2, h3⟩ := hn
          obtain rfl : i = Q.nP := by omega
          refine ri_iload h d_Md_reckonSizes_90 rfl ?_
          refine ri_aload_n h d_Md_reckonSizes_92 rfl ?_
          refine ri_get h d_Md_reckonSizes_93 fl_Md_148 (by first | assumption | exact hS.mo | exact gup_s) (by first | exact congrArg (fun x => some (Value.int (nI x))) hm.np | rfl) ?_
          first | refine ri_icmpN_ge h 153 d_Md_reckonSizes_96 (by decide) (by omega) (by omega) (fun c_96 => ?_) (fun c_96 => ?_) | refine ri_icmp_ge h 153 d_Md_reckonSizes_96 (by decide) (fun c_96 => ?_) (fun c_96 => ?_)
          · first
            | (exfalso; first | exact absurd c_96 (by decide) | omega)
            | (exact ri_ls [(0, .ref (ad 30 0)), (1, .int (nI r)), (2, .int (nI c)), (3, .long (nL n))] ⟨rfl, rfl, rfl, rfl, trivial⟩ (kk n (by omega) ⟨k, h1, h2, h3⟩))
          · first
            | (exfalso; first | exact absurd c_96 (by decide) | omega)
            | (omega)
        | succ q ih =>
          intro i hi n hn hn2 kk
          obtain ⟨k, h1, h2, h3⟩ := hn
          have hiP : i < Q.nP := by omega
          obtain ⟨g1, g2, -, g4, g5, -⟩ := hL.2.1 i hiP
          have hof20 : (Q.pl i).of < 20 := by omega
          have h28 : u (Q.pl i).of = nL (k i) := h2 i hiP
          have hk1 := h1 i
          have hb6 : k i * (Q.pl i).cols * (Q.pl i).rows ≤ 1000000 * 20 * 20 := Nat.mul_le_mul (Nat.mul_le_mul hk1 g4.2) g5.2
          have hrs : (List.range (i + 1)).filter (fun p => decide ((Q.pl p).cell = c)) = (List.range i).filter (fun p => decide ((Q.pl p).cell = c)) ++ [i].filter (fun p => decide ((Q.pl p).cell = c)) := by rw [List.range_succ, List.filter_append]
          have J145 : ∀ d : Nat, d ≤ 400000000 → d = (([i].filter (fun p => decide ((Q.pl p).cell = c))).map (fun p => k p * (Q.pl p).cols * (Q.pl p).rows)).sum → G (gzz D s0 (p_, l', e_, R_, s_, m_, ar_, be_, me_, c_) (rk 2 0 0) (fS none (fun M' => ∃ u, HS z ad Qc (N.set_l (va_up N.l 28 u)) M' ∧ ∀ x, x < Q.nC → szR Q u x)) 6) 145 [(0, .ref (ad 30 0)), (1, .int (nI r)), (2, .int (nI c)), (5, .int (nI i))] [.long (nL d), .long (nL n)] M 0 0 := by
            intro d hd hd2
            refine ri_laddN h d_Md_reckonSizes_145 ?_
            refine ri_lstore_n h d_Md_reckonSizes_146 (Nat.le_of_ble_eq_true rfl) ?_
            first | refine ri_iincN h d_Md_reckonSizes_147 rfl (Nat.le_of_ble_eq_true rfl) ?_ | refine ri_iinc h _ d_Md_reckonSizes_147 rfl rfl (Nat.le_of_ble_eq_true rfl) ?_
            refine ri_goto h 90 d_Md_reckonSizes_150 (by decide) ?_
            exact ri_ls [(0, .ref (ad 30 0)), (1, .int (nI r)), (2, .int (nI c)), (3, .long (nL (n + d))), (5, .int (nI (i + 1)))] ⟨rfl, rfl, rfl, rfl, rfl, trivial⟩ (ih (i + 1) (by omega) (n + d) ⟨k, h1, h2, by rw [hrs, List.map_append, List.sum_append, ← hd2, h3]; omega⟩ (by omega) kk)
          refine ri_iload h d_Md_reckonSizes_90 rfl ?_
          refine ri_aload_n h d_Md_reckonSizes_92 rfl ?_
          refine ri_get h d_Md_reckonSizes_93 fl_Md_148 (by first | assumption | exact hS.mo | exact gup_s) (by first | exact congrArg (fun x => some (Value.int (nI x))) hm.np | rfl) ?_
          first | refine ri_icmpN_ge h 153 d_Md_reckonSizes_96 (by decide) (by omega) (by omega) (fun c_96 => ?_) (fun c_96 => ?_) | refine ri_icmp_ge h 153 d_Md_reckonSizes_96 (by decide) (fun c_96 => ?_) (fun c_96 => ?_)
          · omega
          · refine ri_lload_n h d_Md_reckonSizes_99 rfl ?_
            refine ri_aload_n h d_Md_reckonSizes_100 rfl ?_
            refine ri_get h d_Md_reckonSizes_101 fl_Md_36 (by first | assumption | exact hS.mo | exact gup_s) (by rfl) ?_
            refine ri_iload h d_Md_reckonSizes_104 rfl ?_
            refine ri_ialdE h _ d_Md_reckonSizes_106 (by first | assumption | exact hS.a12) (by first | rfl | assumption) (by first | assumption | omega) (by first | decide | omega) (by first | assumption | exact hm.i12 (by first | assumption | omega) | rfl) ?_
            refine ri_iload_n h d_Md_reckonSizes_107 rfl ?_
            first | refine ri_icmpN_ne h 144 d_Md_reckonSizes_108 (by decide) (by omega) (by omega) (fun c_108 => ?_) (fun c_108 => ?_) | refine ri_icmp_ne h 144 d_Md_reckonSizes_108 (by decide) (fun c_108 => ?_) (fun c_108 => ?_)
            · refine ri_lconst h 0 d_Md_reckonSizes_144 rfl ?_
              exact ri_ls [(0, .ref (ad 30 0)), (1, .int (nI r)), (2, .int (nI c)), (5, .int (nI i))] ⟨rfl, rfl, rfl, rfl, trivial⟩ (by first | exact J145 0 (by omega) (by simp [List.filter, c_108]) | exact J145 _ hb6 (by simp [List.filter, c_108]))
            · refine ri_aload_n h d_Md_reckonSizes_111 rfl ?_
              refine ri_get h d_Md_reckonSizes_112 fl_Md_79 (by first | assumption | exact hS.mo | exact gup_s) (by rfl) ?_
              refine ri_aload_n h d_Md_reckonSizes_115 rfl ?_
              refine ri_get h d_Md_reckonSizes_116 fl_Md_39 (by first | assumption | exact hS.mo | exact gup_s) (by rfl) ?_
              refine ri_iload h d_Md_reckonSizes_119 rfl ?_
              refine ri_ialdE h _ d_Md_reckonSizes_121 (by first | assumption | exact hS.a13) (by first | rfl | assumption) (by first | assumption | omega) (by first | decide | omega) (by first | assumption | exact hm.i13 (by first | assumption | omega) | rfl) ?_
              refine ri_laldE h _ d_Md_reckonSizes_122 (by first | assumption | exact hS.a28) (by first | rfl | assumption) (by first | assumption | omega) (by first | decide | omega) (by first | assumption | assumption | rfl) ?_
              refine ri_aload_n h d_Md_reckonSizes_123 rfl ?_
              refine ri_get h d_Md_reckonSizes_124 fl_Md_51 (by first | assumption | exact hS.mo | exact gup_s) (by rfl) ?_
              refine ri_iload h d_Md_reckonSizes_127 rfl ?_
              refine ri_ialdE h _ d_Md_reckonSizes_129 (by first | assumption | exact hS.a17) (by first | rfl | assumption) (by first | assumption | omega) (by first | decide | omega) (by first | assumption | exact hm.i17 (by first | assumption | omega) | rfl) ?_
              first | refine ri_i2lN h d_Md_reckonSizes_130 (by omega) ?_ | refine ri_i2l h d_Md_reckonSizes_130 ?_
              first | refine ri_lmulN h d_Md_reckonSizes_131 ?_ | refine ri_lmul h d_Md_reckonSizes_131 ?_
              refine ri_aload_n h d_Md_reckonSizes_132 rfl ?_
              refine ri_get h d_Md_reckonSizes_133 fl_Md_54 (by first | assumption | exact hS.mo | exact gup_s) (by rfl) ?_
              refine ri_iload h d_Md_reckonSizes_136 rfl ?_
              refine ri_ialdE h _ d_Md_reckonSizes_138 (by first | assumption | exact hS.a18) (by first | rfl | assumption) (by first | assumption | omega) (by first | decide | omega) (by first | assumption | exact hm.i18 (by first | assumption | omega) | rfl) ?_
              first | refine ri_i2lN h d_Md_reckonSizes_139 (by omega) ?_ | refine ri_i2l h d_Md_reckonSizes_139 ?_
              first | refine ri_lmulN h d_Md_reckonSizes_140 ?_ | refine ri_lmul h d_Md_reckonSizes_140 ?_
              refine ri_goto h 145 d_Md_reckonSizes_141 (by decide) ?_
              exact ri_ls [(0, .ref (ad 30 0)), (1, .int (nI r)), (2, .int (nI c)), (5, .int (nI i))] ⟨rfl, rfl, rfl, rfl, trivial⟩ (by first | exact J145 0 (by omega) (by simp [List.filter, c_108]) | exact J145 _ hb6 (by simp [List.filter, c_108]))
      have LS : ∀ (q i : Nat), i + q = Q.nS → ∀ (n : Nat), n = ((List.range i).filter (fun s => onB (Q.sh s) (-1) && decide ((Q.sh s).cell = c))).length → n ≤ i → G (gzz D s0 (p_, l', e_, R_, s_, m_, ar_, be_, me_, c_) (rk 2 0 0) (fS none (fun M' => ∃ u, HS z ad Qc (N.set_l (va_up N.l 28 u)) M' ∧ ∀ x, x < Q.nC → szR Q u x)) 6) 44 [(0, .ref (ad 30 0)), (1, .int (nI r)), (2, .int (nI c)), (3, .long (nL n)), (5, .int (nI i))] [] M 0 0 := by
        intro q
        induction q with
        | zero =>
          intro i hi n hn hn2
          obtain rfl : i = Q.nS := by omega
          have hown : n = ((Q.ce c).ss.filter (fun s => onB (Q.sh s) (-1))).length := by
            rw [(hL.1 c hcC).1, List.filter_filter]
            exact hn
          obtain ⟨kk, hkk⟩ : ∃ kk : Nat → Nat, ∀ p, (kk p ≤ 1000000) ∧ (p < Q.nP → u (Q.pl p).of = nL (kk p)) := by
            refine ⟨fun p => if h : p < Q.nP then (hk _ (hL.2.1 p h).2.1).choose else 0, fun p => ?_⟩
            by_cases h : p < Q.nP
            · have w := (hk _ (hL.2.1 p h).2.1).choose_spec
              simp only [h, dif_pos]
              exact ⟨w.1, fun _ => w.2⟩
            · simp only [h, dif_neg, not_false_iff]
              exact ⟨by omega, fun q => absurd q (by simp)⟩
          have kJ : ∀ n' : Nat, n' < 2 ^ 40 → (∃ k : Nat → Nat, (∀ p, k p ≤ 1000000) ∧ (∀ p, p < Q.nP → u (Q.pl p).of = nL (k p)) ∧ n' = n + (((List.range Q.nP).filter (fun p => decide ((Q.pl p).cell = c))).map (fun p => k p * (Q.pl p).cols * (Q.pl p).rows)).sum) → G (gzz D s0 (p_, l', e_, R_, s_, m_, ar_, be_, me_, c_) (rk 2 0 0) (fS none (fun M' => ∃ u, HS z ad Qc (N.set_l (va_up N.l 28 u)) M' ∧ ∀ x, x < Q.nC → szR Q u x)) 6) 153 [(0, .ref (ad 30 0)), (1, .int (nI r)), (2, .int (nI c)), (3, .long (nL n'))] [] M 0 0 := by
            rintro n' hn' ⟨k, w2, w1, rfl⟩
            refine J153 _ hn' (fun hrc => ?_)
            rw [SZ_eq hW hL hcC, ← hown, ← (hL.1 c hcC).2]
            have hmap : ((Q.ce c).ps.map (fun p => k p * (Q.pl p).cols * (Q.pl p).rows)) = ((Q.ce c).ps.map (fun p => (Q.pl p).cols * (Q.pl p).rows * min (SZ Q (-1) (Q.pl p).of) 1000000)) := by
              refine List.map_congr_left (fun p hp => ?_)
              obtain ⟨w3, w4, w5⟩ := hL.mem hcC hp
              have w6 := hr _ w4 (Or.inl (by omega))
              have w7 := w1 p w3
              obtain ⟨k0, w8, w9⟩ := hk _ w4
              have w10 : k p = min (SZ Q (-1) (Q.pl p).of) 1000000 := (nL_inj (by have := w2 p; omega) (by omega)).mp (w7.symm.trans w6)
              rw [w10, Nat.mul_assoc, Nat.mul_comm]
            rw [hmap]
            exact cap_sum (w := fun p => (Q.pl p).cols * (Q.pl p).rows) (S := fun p => SZ Q (-1) (Q.pl p).of) (Q.ce c).ps n n rfl (fun p hp => by obtain ⟨w3, -⟩ := hL.mem hcC hp; obtain ⟨-, -, -, w4, w5, -⟩ := hL.2.1 p w3; exact Nat.mul_pos w4.1 w5.1)
          refine ri_iload h d_Md_reckonSizes_44 rfl ?_
          refine ri_aload_n h d_Md_reckonSizes_46 rfl ?_
          refine ri_get h d_Md_reckonSizes_47 fl_Md_118 (by first | assumption | exact hS.mo | exact gup_s) (by first | exact congrArg (fun x => some (Value.int (nI x))) hm.ns | rfl) ?_
          first | refine ri_icmpN_ge h 87 d_Md_reckonSizes_50 (by decide) (by omega) (by omega) (fun c_50 => ?_) (fun c_50 => ?_) | refine ri_icmp_ge h 87 d_Md_reckonSizes_50 (by decide) (fun c_50 => ?_) (fun c_50 => ?_)
          · first
            | (exfalso; first | exact absurd c_50 (by decide) | omega)
            | (refine ri_iconstN h 0 d_Md_reckonSizes_87 rfl ?_
               refine ri_istore h d_Md_reckonSizes_88 (Nat.le_of_ble_eq_true rfl) ?_
               exact ri_ls [(0, .ref (ad 30 0)), (1, .int (nI r)), (2, .int (nI c)), (3, .long (nL n)), (5, .int (nI 0))] ⟨rfl, rfl, rfl, rfl, rfl, trivial⟩ (LPp n (by omega) Q.nP 0 (by omega) n ⟨kk, fun p => (hkk p).1, fun p => (hkk p).2, by simp⟩ (by omega) kJ))
          · first
            | (exfalso; first | exact absurd c_50 (by decide) | omega)
            | (omega)
        | succ q ih =>
          intro i hi n hn hn2
          have hiS : i < Q.nS := by omega
          have hiC := hC i hiS
          have hrs : (List.range (i + 1)).filter (fun s => onB (Q.sh s) (-1) && decide ((Q.sh s).cell = c)) = (List.range i).filter (fun s => onB (Q.sh s) (-1) && decide ((Q.sh s).cell = c)) ++ [i].filter (fun s => onB (Q.sh s) (-1) && decide ((Q.sh s).cell = c)) := by rw [List.range_succ, List.filter_append]
          have J79 : ∀ d : Nat, d ≤ 1 → d = ([i].filter (fun s => onB (Q.sh s) (-1) && decide ((Q.sh s).cell = c))).length → G (gzz D s0 (p_, l', e_, R_, s_, m_, ar_, be_, me_, c_) (rk 2 0 0) (fS none (fun M' => ∃ u, HS z ad Qc (N.set_l (va_up N.l 28 u)) M' ∧ ∀ x, x < Q.nC → szR Q u x)) 6) 79 [(0, .ref (ad 30 0)), (1, .int (nI r)), (2, .int (nI c)), (5, .int (nI i))] [.long (nL d), .long (nL n)] M 0 0 := by
            intro d hd hd2
            refine ri_laddN h d_Md_reckonSizes_79 ?_
            refine ri_lstore_n h d_Md_reckonSizes_80 (Nat.le_of_ble_eq_true rfl) ?_
            first | refine ri_iincN h d_Md_reckonSizes_81 rfl (Nat.le_of_ble_eq_true rfl) ?_ | refine ri_iinc h _ d_Md_reckonSizes_81 rfl rfl (Nat.le_of_ble_eq_true rfl) ?_
            refine ri_goto h 44 d_Md_reckonSizes_84 (by decide) ?_
            exact ri_ls [(0, .ref (ad 30 0)), (1, .int (nI r)), (2, .int (nI c)), (3, .long (nL (n + d))), (5, .int (nI (i + 1)))] ⟨rfl, rfl, rfl, rfl, rfl, trivial⟩ (ih (i + 1) (by omega) (n + d) (by rw [hrs, List.length_append, ← hd2, hn]) (by omega))
          refine ri_iload h d_Md_reckonSizes_44 rfl ?_
          refine ri_aload_n h d_Md_reckonSizes_46 rfl ?_
          refine ri_get h d_Md_reckonSizes_47 fl_Md_118 (by first | assumption | exact hS.mo | exact gup_s) (by first | exact congrArg (fun x => some (Value.int (nI x))) hm.ns | rfl) ?_
          first | refine ri_icmpN_ge h 87 d_Md_reckonSizes_50 (by decide) (by omega) (by omega) (fun c_50 => ?_) (fun c_50 => ?_) | refine ri_icmp_ge h 87 d_Md_reckonSizes_50 (by decide) (fun c_50 => ?_) (fun c_50 => ?_)
          · omega
          · refine ri_lload_n h d_Md_reckonSizes_53 rfl ?_
            refine ri_aload_n h d_Md_reckonSizes_54 rfl ?_
            refine ri_get h d_Md_reckonSizes_55 fl_Md_7 (by first | assumption | exact hS.mo | exact gup_s) (by rfl) ?_
            refine ri_iload h d_Md_reckonSizes_58 rfl ?_
            refine ri_ialdE h _ d_Md_reckonSizes_60 (by first | assumption | exact hS.a3) (by first | rfl | assumption) (by first | assumption | omega) (by first | decide | omega) (by first | assumption | exact hm.i3 (by first | assumption | omega) | rfl) ?_
            refine ri_iload_n h d_Md_reckonSizes_61 rfl ?_
            first | refine ri_icmpN_ne h 78 d_Md_reckonSizes_62 (by decide) (by omega) (by omega) (fun c_62 => ?_) (fun c_62 => ?_) | refine ri_icmp_ne h 78 d_Md_reckonSizes_62 (by decide) (fun c_62 => ?_) (fun c_62 => ?_)
            · refine ri_lconst h 0 d_Md_reckonSizes_78 rfl ?_
              exact ri_ls [(0, .ref (ad 30 0)), (1, .int (nI r)), (2, .int (nI c)), (5, .int (nI i))] ⟨rfl, rfl, rfl, rfl, trivial⟩ (J79 0 (by omega) (by simp [List.filter, c_62]))
            · refine ri_aload_n h d_Md_reckonSizes_65 rfl ?_
              refine ri_iload h d_Md_reckonSizes_66 rfl ?_
              refine ri_cVv_1 (r := (gR6, gT6, 44)) h d_Md_reckonSizes_68 cv_Md_155 (by first | exact hS.lcO | exact hS.lsO | exact hS.lpO | exact hS.cesO (by first | assumption | omega) | exact hS.cepO (by first | assumption | omega) | exact ⟨_, (by first | assumption | exact hS.st | exact hS.mo | exact hS.out | exact hS.sb | exact hS.ce (by first | assumption | omega) | exact hS.ceb (by first | assumption | omega) | exact hS.sh (by first | assumption | omega) | exact hS.shb (by first | assumption | omega) | exact hS.pl (by first | assumption | omega) | exact hS.plb (by first | assumption | omega) | exact hS.fl (by first | assumption | omega) | exact gup_s | (refine gup_t (by assumption) ?_; first | assumption | exact gup_s | (refine gup_t (by assumption) ?_; first | assumption | exact gup_s | (refine gup_t (by assumption) ?_; first | assumption | exact gup_s))))⟩) rfl (k_mempty h0 hS hm hW hiS (hX i hiS).1) (Nat.le_of_ble_eq_true rfl) (Nat.le_of_ble_eq_true rfl) (Nat.le_of_ble_eq_true rfl) (Nat.le_of_ble_eq_true rfl) (Nat.le_of_ble_eq_true rfl) ?_
              first | refine ri_ifB_ne h 78 d_Md_reckonSizes_71 (by decide) (fun c_71 => ?_) (fun c_71 => ?_) | refine ri_ifN_ne h 78 d_Md_reckonSizes_71 (by decide) (by omega) (fun c_71 => ?_) (fun c_71 => ?_) | refine ri_if_ne h 78 d_Md_reckonSizes_71 (by decide) (fun c_71 => ?_) (fun c_71 => ?_)
              · refine ri_lconst h 0 d_Md_reckonSizes_78 rfl ?_
                exact ri_ls [(0, .ref (ad 30 0)), (1, .int (nI r)), (2, .int (nI c)), (5, .int (nI i))] ⟨rfl, rfl, rfl, rfl, trivial⟩ (by first | exact J79 0 (by omega) (by simp [List.filter, c_71]) | exact J79 1 (by omega) (by simp [List.filter, c_62, c_71]))
              · refine ri_lconst h 1 d_Md_reckonSizes_74 rfl ?_
                refine ri_goto h 79 d_Md_reckonSizes_75 (by decide) ?_
                exact ri_ls [(0, .ref (ad 30 0)), (1, .int (nI r)), (2, .int (nI c)), (5, .int (nI i))] ⟨rfl, rfl, rfl, rfl, trivial⟩ (by first | exact J79 0 (by omega) (by simp [List.filter, c_71]) | exact J79 1 (by omega) (by simp [List.filter, c_62, c_71]))
      refine ri_iload_n h d_Md_reckonSizes_31 rfl ?_
      refine ri_aload_n h d_Md_reckonSizes_32 rfl ?_
      refine ri_get h d_Md_reckonSizes_33 fl_Md_111 (by first | assumption | exact hS.mo | exact gup_s) (by first | exact congrArg (fun x => some (Value.int (nI x))) hm.nc | rfl) ?_
      first | refine ri_icmpN_ge h 180 d_Md_reckonSizes_36 (by decide) (by omega) (by omega) (fun c_36 => ?_) (fun c_36 => ?_) | refine ri_icmp_ge h 180 d_Md_reckonSizes_36 (by decide) (fun c_36 => ?_) (fun c_36 => ?_)
      · omega
      · refine ri_lconst h 0 d_Md_reckonSizes_39 rfl ?_
        refine ri_lstore_n h d_Md_reckonSizes_40 (Nat.le_of_ble_eq_true rfl) ?_
        refine ri_iconstN h 0 d_Md_reckonSizes_41 rfl ?_
        refine ri_istore h d_Md_reckonSizes_42 (Nat.le_of_ble_eq_true rfl) ?_
        exact ri_ls [(0, .ref (ad 30 0)), (1, .int (nI r)), (2, .int (nI c)), (3, .long (nL 0)), (5, .int (nI 0))] ⟨rfl, rfl, rfl, rfl, rfl, trivial⟩ (LS Q.nS 0 (by omega) 0 rfl (by omega))
  have LR : ∀ (q r : Nat), r + q = 20 → ∀ (M : gH) (u : Nat → Int64), HS z ad Qc (N.set_l (va_up N.l 28 u)) M → (∀ x, x < Q.nC → ∃ k, k ≤ 1000000 ∧ u x = nL k) → (∀ x, x < Q.nC → rho Q x ≤ r → szR Q u x) → G (gzz D s0 (p_, l', e_, R_, s_, m_, ar_, be_, me_, c_) (rk 2 0 0) (fS none (fun M' => ∃ u, HS z ad Qc (N.set_l (va_up N.l 28 u)) M' ∧ ∀ x, x < Q.nC → szR Q u x)) 6) 23 [(0, .ref (ad 30 0)), (1, .int (nI r))] [] M 0 0 := by
    intro q
    induction q with
    | zero =>
      intro r hr M u hS hk hx
      refine ri_iload_n h d_Md_reckonSizes_23 rfl ?_
      refine ri_bipushN h 20 d_Md_reckonSizes_24 rfl ?_
      first | refine ri_icmpN_ge h 186 d_Md_reckonSizes_26 (by decide) (by omega) (by omega) (fun c_26 => ?_) (fun c_26 => ?_) | refine ri_icmp_ge h 186 d_Md_reckonSizes_26 (by decide) (fun c_26 => ?_) (fun c_26 => ?_)
      · first
        | (exfalso; first | exact absurd c_26 (by decide) | omega)
        | (refine ri_return h d_Md_reckonSizes_186 (Nat.le_of_ble_eq_true rfl) (Nat.le_of_ble_eq_true rfl) ?_
           exact ⟨rfl, u, hS, fun x h => hx x h (by have := rho_lt (c := x) hW; omega)⟩)
      · first
        | (exfalso; first | exact absurd c_26 (by decide) | omega)
        | (omega)
    | succ q ih =>
      intro r hr M u hS hk hx
      have K180 : ∀ (M : gH) (u : Nat → Int64), HS z ad Qc (N.set_l (va_up N.l 28 u)) M → (∀ x, x < Q.nC → ∃ k, k ≤ 1000000 ∧ u x = nL k) → (∀ x, x < Q.nC → rho Q x ≤ r + 1 → szR Q u x) → G (gzz D s0 (p_, l', e_, R_, s_, m_, ar_, be_, me_, c_) (rk 2 0 0) (fS none (fun M' => ∃ u, HS z ad Qc (N.set_l (va_up N.l 28 u)) M' ∧ ∀ x, x < Q.nC → szR Q u x)) 6) 180 [(0, .ref (ad 30 0)), (1, .int (nI r))] [] M 0 0 := by
        intro M u hS hk hx
        first | refine ri_iincN h d_Md_reckonSizes_180 rfl (Nat.le_of_ble_eq_true rfl) ?_ | refine ri_iinc h _ d_Md_reckonSizes_180 rfl rfl (Nat.le_of_ble_eq_true rfl) ?_
        refine ri_goto h 23 d_Md_reckonSizes_183 (by decide) ?_
        exact ri_ls [(0, .ref (ad 30 0)), (1, .int (nI (r + 1)))] ⟨rfl, rfl, trivial⟩ (ih (r + 1) (by omega) M u hS hk hx)
      refine ri_iload_n h d_Md_reckonSizes_23 rfl ?_
      refine ri_bipushN h 20 d_Md_reckonSizes_24 rfl ?_
      first | refine ri_icmpN_ge h 186 d_Md_reckonSizes_26 (by decide) (by omega) (by omega) (fun c_26 => ?_) (fun c_26 => ?_) | refine ri_icmp_ge h 186 d_Md_reckonSizes_26 (by decide) (fun c_26 => ?_) (fun c_26 => ?_)
      · omega
      · refine ri_iconstN h 0 d_Md_reckonSizes_29 rfl ?_
        refine ri_istore_n h d_Md_reckonSizes_30 (Nat.le_of_ble_eq_true rfl) ?_
        exact ri_ls [(0, .ref (ad 30 0)), (1, .int (nI r)), (2, .int (nI 0))] ⟨rfl, rfl, rfl, trivial⟩ (LC r K180 Q.nC 0 (by omega) M u hS hk (fun x h1 h2 => hx x h1 (by omega)))
  have L1 : ∀ (q i : Nat), i + q = 20 → ∀ (M : gH) (u : Nat → Int64), HS z ad Qc (N.set_l (va_up N.l 28 u)) M → (∀ x, x < i → u x = nL 0) → G (gzz D s0 (p_, l', e_, R_, s_, m_, ar_, be_, me_, c_) (rk 2 0 0) (fS none (fun M' => ∃ u, HS z ad Qc (N.set_l (va_up N.l 28 u)) M' ∧ ∀ x, x < Q.nC → szR Q u x)) 6) 2 [(0, .ref (ad 30 0)), (1, .int (nI i))] [] M 0 0 := by
    intro q
    induction q with
    | zero =>
      intro i hi M u hS hu
      refine ri_iload_n h d_Md_reckonSizes_2 rfl ?_
      refine ri_bipushN h 20 d_Md_reckonSizes_3 rfl ?_
      first | refine ri_icmpN_ge h 21 d_Md_reckonSizes_5 (by decide) (by omega) (by omega) (fun c_5 => ?_) (fun c_5 => ?_) | refine ri_icmp_ge h 21 d_Md_reckonSizes_5 (by decide) (fun c_5 => ?_) (fun c_5 => ?_)
      · first
        | (exfalso; first | exact absurd c_5 (by decide) | omega)
        | (refine ri_iconstN h 0 d_Md_reckonSizes_21 rfl ?_
           refine ri_istore_n h d_Md_reckonSizes_22 (Nat.le_of_ble_eq_true rfl) ?_
           exact ri_ls [(0, .ref (ad 30 0)), (1, .int (nI 0))] ⟨rfl, rfl, trivial⟩ (LR 20 0 (by omega) M u hS (fun x hx => ⟨0, by omega, hu x (by omega)⟩) (fun x h1 h2 => absurd h2 (by have := rho_pos h1; omega))))
      · first
        | (exfalso; first | exact absurd c_5 (by decide) | omega)
        | (omega)
    | succ q ih =>
      intro i hi M u hS hu
      refine ri_iload_n h d_Md_reckonSizes_2 rfl ?_
      refine ri_bipushN h 20 d_Md_reckonSizes_3 rfl ?_
      first | refine ri_icmpN_ge h 21 d_Md_reckonSizes_5 (by decide) (by omega) (by omega) (fun c_5 => ?_) (fun c_5 => ?_) | refine ri_icmp_ge h 21 d_Md_reckonSizes_5 (by decide) (fun c_5 => ?_) (fun c_5 => ?_)
      · omega
      · refine ri_aload_n h d_Md_reckonSizes_8 rfl ?_
        refine ri_get h d_Md_reckonSizes_9 fl_Md_79 (by first | assumption | exact hS.mo | exact gup_s) (by rfl) ?_
        refine ri_iload_n h d_Md_reckonSizes_12 rfl ?_
        refine ri_lconst h 0 d_Md_reckonSizes_13 rfl ?_
        refine ri_last h _ d_Md_reckonSizes_14 (by first | assumption | exact hS.a28) (by first | rfl | assumption) (by first | assumption | omega) (by first | decide | omega) ?_
        refine ri_gH (hS.set_ml 28 rfl _) (fun M hS => ?_)
        first | refine ri_iincN h d_Md_reckonSizes_15 rfl (Nat.le_of_ble_eq_true rfl) ?_ | refine ri_iinc h _ d_Md_reckonSizes_15 rfl rfl (Nat.le_of_ble_eq_true rfl) ?_
        refine ri_goto h 2 d_Md_reckonSizes_18 (by decide) ?_
        refine ri_ls [(0, .ref (ad 30 0)), (1, .int (nI (i + 1)))] ⟨rfl, rfl, trivial⟩ (ih (i + 1) (by omega) M (va_up u i (nL 0)) (hS.cong rfl (congrArg (fun f => N.set_l f) va_up_u)) (fun x hx => ?_))
        unfold va_up
        split
        · rfl
        · exact hu x (by omega)
  refine ri_iconstN h 0 d_Md_reckonSizes_0 rfl ?_
  refine ri_istore_n h d_Md_reckonSizes_1 (Nat.le_of_ble_eq_true rfl) ?_
  exact ri_ls [(0, .ref (ad 30 0)), (1, .int (nI 0))] ⟨rfl, rfl, trivial⟩ (L1 20 0 (by omega) M (N.l 28) (hS.cong rfl (congrArg (fun f => N.set_l f) va_up_id.symm)) (fun x hx => by omega))
end RKS
