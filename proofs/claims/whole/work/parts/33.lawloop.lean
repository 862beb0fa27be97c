/-! The law's loop -/
section LP
variable {l : Launch} {D : gD} {s0 : State} {M : gH} {p_ : Program} {e_ : Env} {R_ : Room} {s_ : State} {m_ : MethodId} {ar_ : Array Value} {be_ : List Frame} {me_ : Method} {c_ : Code} {b L x mo out : Nat} {xs : Nat → Int32}
/-- what the law asks of an invariant: every call of the class and of the model keeps it, with the same answers -/
def Steps13 {γ : Type} (l : Launch) (D : gD) (s0 : State) (Inv : γ → gH → Prop) (x mo out : Nat) : Prop := (∀ g M, Inv g M → ∃ fx, M x = some (.inr (5, fx))) ∧
  (∀ _ : Unit, gStep l D s0 Inv x mo out y_ST_cell (Cond.code y_ST_cell b_ST_cell 1 (some .int)) y_Md_cell (Cond.code y_Md_cell b_Md_cell 1 (some .int)) ["java/lang/IllegalStateException"] Value.int Int32.toInt64 []) ∧ (∀ (p0 : Int32) (p1 : Int32), gStep l D s0 Inv x mo out y_ST_polygon (Cond.code y_ST_polygon b_ST_polygon 4 (some .int)) y_Md_polygon (Cond.code y_Md_polygon b_Md_polygon 3 (some .int)) ["java/lang/IndexOutOfBoundsException", "java/lang/IllegalStateException"] Value.int Int32.toInt64 [.int p0, .int p1]) ∧ (∀ (p0 : Int32) (p1 : Int64) (p2 : Int64), gStep l D s0 Inv x mo out y_ST_corner (Cond.code y_ST_corner b_ST_corner 6 (some .boolean)) y_Md_corner (Cond.code y_Md_corner b_Md_corner 7 (some .boolean)) ["java/lang/IndexOutOfBoundsException", "java/lang/IllegalStateException", "java/lang/IllegalArgumentException"] Value.int jbool [.int p0, .long p1, .long p2]) ∧ (∀ (p0 : Int32) (p1 : Int32) (p2 : Int64) (p3 : Int32), gStep l D s0 Inv x mo out y_ST_path (Cond.code y_ST_path b_ST_path 7 (some .int)) y_Md_path (Cond.code y_Md_path b_Md_path 6 (some .int)) ["java/lang/IndexOutOfBoundsException", "java/lang/IllegalStateException", "java/lang/IllegalArgumentException"] Value.int Int32.toInt64 [.int p0, .int p1, .long p2, .int p3]) ∧ (∀ (p0 : Int32) (p1 : Int64) (p2 : Int64), gStep l D s0 Inv x mo out y_ST_point (Cond.code y_ST_point b_ST_point 6 (some .boolean)) y_Md_point (Cond.code y_Md_point b_Md_point 7 (some .boolean)) ["java/lang/IndexOutOfBoundsException", "java/lang/IllegalStateException", "java/lang/IllegalArgumentException"] Value.int jbool [.int p0, .long p1, .long p2]) ∧ (∀ (p0 : Int32) (p1 : Int32) (p2 : Int64) (p3 : Int64) (p4 : Int32), gStep l D s0 Inv x mo out y_ST_place (Cond.code y_ST_place b_ST_place 11 (some .int)) y_Md_place (Cond.code y_Md_place b_Md_place 8 (some .int)) ["java/lang/IndexOutOfBoundsException", "java/lang/IllegalStateException", "java/lang/IllegalArgumentException"] Value.int Int32.toInt64 [.int p0, .int p1, .long p2, .long p3, .int p4]) ∧ (∀ (p0 : Int32) (p1 : Int32) (p2 : Int32) (p3 : Int64) (p4 : Int64), gStep l D s0 Inv x mo out y_ST_array (Cond.code y_ST_array b_ST_array 9 (some .int)) y_Md_array (Cond.code y_Md_array b_Md_array 8 (some .int)) ["java/lang/IndexOutOfBoundsException", "java/lang/IllegalArgumentException"] Value.int Int32.toInt64 [.int p0, .int p1, .int p2, .long p3, .long p4]) ∧ (∀ (p0 : Int32) (p1 : Int32) (p2 : Int32), gStep l D s0 Inv x mo out y_ST_box (Cond.code y_ST_box b_ST_box 5 (some .long)) y_Md_box (Cond.code y_Md_box b_Md_box 6 (some .long)) ["java/lang/IndexOutOfBoundsException", "java/lang/IllegalStateException"] Value.long (fun x : Int64 => x) [.int p0, .int p1, .int p2]) ∧ (∀ (p0 : Int32) (p1 : Int32), gStep l D s0 Inv x mo out y_ST_flat (Cond.code y_ST_flat b_ST_flat 4 (some .int)) y_Md_flat (Cond.code y_Md_flat b_Md_flat 3 (some .int)) ["java/lang/IndexOutOfBoundsException", "java/lang/UnsupportedOperationException"] Value.int Int32.toInt64 [.int p0, .int p1]) ∧ (∀ (p0 : Int32) (p1 : Int32) (p2 : Int32), gStep l D s0 Inv x mo out y_ST_at (Cond.code y_ST_at b_ST_at 4 (some .long)) y_Md_at (Cond.code y_Md_at b_Md_at 5 (some .long)) ["java/lang/IndexOutOfBoundsException"] Value.long (fun x : Int64 => x) [.int p0, .int p1, .int p2]) ∧ (∀ (p0 : Int32), gStep l D s0 Inv x mo out y_ST_equalTo (Cond.code y_ST_equalTo b_ST_equalTo 6 (some .int)) y_Md_equalTo (Cond.code y_Md_equalTo b_Md_equalTo 4 (some .int)) ["java/lang/IndexOutOfBoundsException", "java/lang/UnsupportedOperationException"] Value.int Int32.toInt64 [.int p0]) ∧ (∀ (p0 : Int32) (p1 : Int64) (p2 : Int64) (p3 : Int64) (p4 : Int64), gStep l D s0 Inv x mo out y_ST_find (Cond.code y_ST_find b_ST_find 13 (some .int)) y_Md_find (Cond.code y_Md_find b_Md_find 13 (some .int)) ["java/lang/IndexOutOfBoundsException", "java/lang/IllegalArgumentException", "java/lang/UnsupportedOperationException"] Value.int Int32.toInt64 [.int p0, .long p1, .long p2, .long p3, .long p4]) ∧ (∀ (p0 : Int32), gStep l D s0 Inv x mo out y_ST_drop (Cond.code y_ST_drop b_ST_drop 4 (some .boolean)) y_Md_drop (Cond.code y_Md_drop b_Md_drop 2 (some .boolean)) ["java/lang/IndexOutOfBoundsException"] Value.int jbool [.int p0])
theorem law_loop {γ : Type} {Inv : γ → gH → Prop} (h : gF (gzz D s0 (p_, l, e_, R_, s_, m_, ar_, be_, me_, c_) room_1 FL 8) code "ShapeTreesLaw" (some .boolean) [] "law") (h0 : g_0 l D s0) (hX : va_X b L xs s0 s0.heap) (hL : L ≤ 5121) (hS : Steps13 l D s0 Inv x mo out) :
    ∀ (n t : Nat), 513 ≤ t + n → t ≤ 512 → ∀ (g : γ) (M : gH), Inv g M → G (gzz D s0 (p_, l, e_, R_, s_, m_, ar_, be_, me_, c_) room_1 FL 8) 33 [(0, .ref b), (1, .ref x), (2, .ref mo), (3, .ref out), (4, .int (nI (1 + 10 * t)))] [] M (100 + 60 * t) (700000 + 8000 * t) := by
  obtain ⟨hx, q0, q1, q2, q3, q4, q5, q6, q7, q8, q9, q10, q11, q12⟩ := hS
  intro n
  induction n with
  | zero => intro t h1 h2; omega
  | succ n ih =>
    intro t h1 h2 g M hI
    have k1583 : ∀ g' M', t ≤ 511 → Inv g' M' → G (gzz D s0 (p_, l, e_, R_, s_, m_, ar_, be_, me_, c_) room_1 FL 8) 1583 [(0, .ref b), (1, .ref x), (2, .ref mo), (3, .ref out), (4, .int (nI (1 + 10 * t)))] [] M' (100 + 60 * t + 60) (700000 + 8000 * t + 8000) := by
      intro g' M' ht hI'
      refine ri_iinc h (nI (1 + 10 * (t + 1))) d_law_1583 rfl (by rw [show 1 + 10 * (t + 1) = (1 + 10 * t) + 10 by omega]; exact nI_add _ 10) (Nat.le_of_ble_eq_true rfl) ?_
      refine ri_goto h 33 d_law_1586 (by decide) ?_
      exact ri_ls [(0, .ref b), (1, .ref x), (2, .ref mo), (3, .ref out), (4, .int (nI (1 + 10 * (t + 1))))] ⟨rfl, rfl, rfl, rfl, rfl, trivial⟩ (ri_widen (cl' := 100 + 60 * (t + 1)) (sl' := 700000 + 8000 * (t + 1)) (by omega) (by omega) (ih (t + 1) (by omega) (by omega) g' M' hI'))
    refine ri_iload h d_law_33 rfl ?_
    refine ri_aload_n h d_law_35 rfl ?_
    refine ri_slen h d_law_36 hX ?_
    refine ri_bipush h 10 d_law_37 rfl ?_
    refine ri_isub h d_law_39 ?_
    have hsub : (nI L - 10).toInt = (L : Int) - 10 := pk_sub_toInt (a := L) (b := 10) (by omega) (by omega)
    refine ri_icmp_gt h 1589 d_law_40 (by decide) (fun c_40 => ?_) (fun c_40 => ?_)
    · refine ri_iconst h 1 d_law_1589 rfl ?_
      refine ri_zreturn h d_law_1590 (by show 100 + 60 * t ≤ 601024; omega) (by show 700000 + 8000 * t ≤ 7293000; omega) rfl rfl
    · have hi : (1 + 10 * t) + 10 ≤ L := by
        have : ¬ (nI L - 10).toInt < (nI (1 + 10 * t)).toInt := fun q => c_40 (Int32.lt_iff_toInt_lt.mpr q)
        rw [hsub, nI_toInt (by omega)] at this
        omega
      have ht : t ≤ 511 := by omega
      refine ri_aload_n h d_law_43 rfl ?_
      refine ri_iload h d_law_44 rfl ?_
      refine ri_sld h (1 + 10 * t) d_law_46 hX rfl (by omega) (by omega) ?_
      refine ri_bipush h 15 d_law_47 rfl ?_
      refine ri_iand h d_law_49 ?_
      obtain ⟨j, hj, ej⟩ := pk_andE (xs (1 + 10 * t)) (m := 15) 4 (by decide)
      rw [ej]
      have hc : 100 + 60 * t + 60 ≤ 601024 := by omega
      have hs : 700000 + 8000 * t + 8000 ≤ 7293000 := by omega
      have kD : ∀ z : Nat, 12 < z → z < 16 → G (gzz D s0 (p_, l, e_, R_, s_, m_, ar_, be_, me_, c_) room_1 FL 8) 50 [(0, .ref b), (1, .ref x), (2, .ref mo), (3, .ref out), (4, .int (nI (1 + 10 * t)))] [.int (nI z)] M (100 + 60 * t) (700000 + 8000 * t) := by
        intro z z1 z2
        refine ri_tabOut h 1583 d_law_50 (Or.inr (by rw [nI_toInt (by omega)]; omega)) (by decide) ?_
        exact ri_widen (by omega) (by omega) (k1583 g M ht hI)
      rcases (show j = 0 ∨ j = 1 ∨ j = 2 ∨ j = 3 ∨ j = 4 ∨ j = 5 ∨ j = 6 ∨ j = 7 ∨ j = 8 ∨ j = 9 ∨ j = 10 ∨ j = 11 ∨ j = 12 ∨ 12 < j by omega) with rfl | rfl | rfl | rfl | rfl | rfl | rfl | rfl | rfl | rfl | rfl | rfl | rfl | hj2
      · refine ri_tabIn h 116 d_law_50 (by decide) (by decide) (by rfl) (by decide) ?_
        exact lc_cell h h0 hX hL (1 + 10 * t) hi hx q0 hI hc hs (fun g' M' hI' => k1583 g' M' ht hI')
      · refine ri_tabIn h 160 d_law_50 (by decide) (by decide) (by rfl) (by decide) ?_
        exact lc_polygon h h0 hX hL (1 + 10 * t) hi hx q1 hI hc hs (fun g' M' hI' => k1583 g' M' ht hI')
      · refine ri_tabIn h 228 d_law_50 (by decide) (by decide) (by rfl) (by decide) ?_
        exact lc_corner h h0 hX hL (1 + 10 * t) hi hx q2 hI hc hs (fun g' M' hI' => k1583 g' M' ht hI')
      · refine ri_tabIn h 379 d_law_50 (by decide) (by decide) (by rfl) (by decide) ?_
        exact lc_path h h0 hX hL (1 + 10 * t) hi hx q3 hI hc hs (fun g' M' hI' => k1583 g' M' ht hI')
      · refine ri_tabIn h 503 d_law_50 (by decide) (by decide) (by rfl) (by decide) ?_
        exact lc_point h h0 hX hL (1 + 10 * t) hi hx q4 hI hc hs (fun g' M' hI' => k1583 g' M' ht hI')
      · refine ri_tabIn h 654 d_law_50 (by decide) (by decide) (by rfl) (by decide) ?_
        exact lc_place h h0 hX hL (1 + 10 * t) hi hx q5 hI hc hs (fun g' M' hI' => k1583 g' M' ht hI')
      · refine ri_tabIn h 826 d_law_50 (by decide) (by decide) (by rfl) (by decide) ?_
        exact lc_array h h0 hX hL (1 + 10 * t) hi hx q6 hI hc hs (fun g' M' hI' => k1583 g' M' ht hI')
      · refine ri_tabIn h 998 d_law_50 (by decide) (by decide) (by rfl) (by decide) ?_
        exact lc_box h h0 hX hL (1 + 10 * t) hi hx q7 hI hc hs (fun g' M' hI' => k1583 g' M' ht hI')
      · refine ri_tabIn h 1077 d_law_50 (by decide) (by decide) (by rfl) (by decide) ?_
        exact lc_flat h h0 hX hL (1 + 10 * t) hi hx q8 hI hc hs (fun g' M' hI' => k1583 g' M' ht hI')
      · refine ri_tabIn h 1145 d_law_50 (by decide) (by decide) (by rfl) (by decide) ?_
        exact lc_at h h0 hX hL (1 + 10 * t) hi hx q9 hI hc hs (fun g' M' hI' => k1583 g' M' ht hI')
      · refine ri_tabIn h 1224 d_law_50 (by decide) (by decide) (by rfl) (by decide) ?_
        exact lc_equalTo h h0 hX hL (1 + 10 * t) hi hx q10 hI hc hs (fun g' M' hI' => k1583 g' M' ht hI')
      · refine ri_tabIn h 1280 d_law_50 (by decide) (by decide) (by rfl) (by decide) ?_
        exact lc_find h h0 hX hL (1 + 10 * t) hi hx q11 hI hc hs (fun g' M' hI' => k1583 g' M' ht hI')
      · refine ri_tabIn h 1520 d_law_50 (by decide) (by decide) (by rfl) (by decide) ?_
        exact lc_drop h h0 hX hL (1 + 10 * t) hi hx q12 hI hc hs (fun g' M' hI' => k1583 g' M' ht hI')
      · exact kD j hj2 hj
end LP
