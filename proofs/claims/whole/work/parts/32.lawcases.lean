/-! The thirteen cases of the law's switch, over any invariant -/
abbrev jl (a b : Int32) : Int64 := (a.toInt64 <<< ((32 : Int32).toInt64 &&& 63)) ||| (b.toInt64 &&& 4294967295)
abbrev rkM : Room := rk 60 0 0
def FL : gR → gH → Prop := fun r _ => r = .inl (some (.int 1))
/-- one call of the class and of the model, from the invariant to the invariant -/
def gStep {α γ : Type} (l : Launch) (D : gD) (s0 : State) (Inv : γ → gH → Prop) (x mo out : Nat) (yc : MethodName) (wc : Cond) (ym : MethodName) (wm : Cond) (exs : List String) (mk : α → Value) (tl : α → Int64) (as : List Value) : Prop :=
  ∀ g M, Inv g M → ∃ P : Nat → α → gH → Prop, Ct l D s0 yc wc rkC (.ref x :: as) M (fT exs mk P) ∧ (∀ k v M1, P k v M1 → k < 10 ∧ (∃ fo, M1 out = some (al 1 fo)) ∧ ∃ fm, M1 mo = some (.inr (6, fm))) ∧
    ∀ k v M1, P k v M1 → ∀ fo, M1 out = some (al 1 fo) → Ct l D s0 ym wm rkM (.ref mo :: as) (if k = 0 then gup M1 out (al 1 (va_up fo 0 (tl v))) else M1) (fun r M2 => ∃ v2, r = .inl (some (mk v2)) ∧ (k = 0 → tl v2 = tl v) ∧ (∃ g', Inv g' M2) ∧ (∃ fm, M2 mo = some (.inr (6, .int (nI k) :: fm))) ∧ ∃ fo2, M2 out = some (al 1 fo2) ∧ (k = 0 → fo2 0 = tl v))
theorem cx_cell : gCX "ShapeTreesLaw" 77 y_Lw_cell_1 b_Lw_cell_1 3 (some .int) hh_Lw_cell_1 2 := ⟨w_Lw_cell_1, List.mem_of_getElem? (i := 42) (by decide +kernel), ⟨by decide, by decide, by decide +kernel⟩, List.mem_of_getElem? (i := 211) (by decide +kernel), List.mem_of_getElem? (i := 212) (by decide +kernel)⟩
theorem cx_polygon : gCX "ShapeTreesLaw" 84 y_Lw_polygon b_Lw_polygon 5 (some .int) hh_Lw_polygon 4 := ⟨w_Lw_polygon, List.mem_of_getElem? (i := 42) (by decide +kernel), ⟨by decide, by decide, by decide +kernel⟩, List.mem_of_getElem? (i := 385) (by decide +kernel), List.mem_of_getElem? (i := 386) (by decide +kernel)⟩
theorem cx_corner : gCX "ShapeTreesLaw" 90 y_Lw_corner b_Lw_corner 8 (some .int) hh_Lw_corner 5 := ⟨w_Lw_corner, List.mem_of_getElem? (i := 42) (by decide +kernel), ⟨by decide, by decide, by decide +kernel⟩, List.mem_of_getElem? (i := 487) (by decide +kernel), List.mem_of_getElem? (i := 488) (by decide +kernel)⟩
theorem cx_path : gCX "ShapeTreesLaw" 94 y_Lw_path b_Lw_path 8 (some .int) hh_Lw_path 6 := ⟨w_Lw_path, List.mem_of_getElem? (i := 42) (by decide +kernel), ⟨by decide, by decide, by decide +kernel⟩, List.mem_of_getElem? (i := 574) (by decide +kernel), List.mem_of_getElem? (i := 575) (by decide +kernel)⟩
theorem cx_point : gCX "ShapeTreesLaw" 98 y_Lw_point b_Lw_point 8 (some .int) hh_Lw_point 5 := ⟨w_Lw_point, List.mem_of_getElem? (i := 42) (by decide +kernel), ⟨by decide, by decide, by decide +kernel⟩, List.mem_of_getElem? (i := 585) (by decide +kernel), List.mem_of_getElem? (i := 586) (by decide +kernel)⟩
theorem cx_place : gCX "ShapeTreesLaw" 101 y_Lw_place b_Lw_place 10 (some .int) hh_Lw_place 7 := ⟨w_Lw_place, List.mem_of_getElem? (i := 42) (by decide +kernel), ⟨by decide, by decide, by decide +kernel⟩, List.mem_of_getElem? (i := 592) (by decide +kernel), List.mem_of_getElem? (i := 593) (by decide +kernel)⟩
theorem cx_array : gCX "ShapeTreesLaw" 105 y_Lw_array b_Lw_array 10 (some .int) hh_Lw_array 7 := ⟨w_Lw_array, List.mem_of_getElem? (i := 42) (by decide +kernel), ⟨by decide, by decide, by decide +kernel⟩, List.mem_of_getElem? (i := 659) (by decide +kernel), List.mem_of_getElem? (i := 660) (by decide +kernel)⟩
theorem cx_box : gCX "ShapeTreesLaw" 109 y_Lw_box b_Lw_box 6 (some .int) hh_Lw_box 5 := ⟨w_Lw_box, List.mem_of_getElem? (i := 42) (by decide +kernel), ⟨by decide, by decide, by decide +kernel⟩, List.mem_of_getElem? (i := 672) (by decide +kernel), List.mem_of_getElem? (i := 673) (by decide +kernel)⟩
theorem cx_flat : gCX "ShapeTreesLaw" 113 y_Lw_flat b_Lw_flat 5 (some .int) hh_Lw_flat 4 := ⟨w_Lw_flat, List.mem_of_getElem? (i := 42) (by decide +kernel), ⟨by decide, by decide, by decide +kernel⟩, List.mem_of_getElem? (i := 734) (by decide +kernel), List.mem_of_getElem? (i := 735) (by decide +kernel)⟩
theorem cx_at : gCX "ShapeTreesLaw" 116 y_Lw_at b_Lw_at 6 (some .int) hh_Lw_at 5 := ⟨w_Lw_at, List.mem_of_getElem? (i := 42) (by decide +kernel), ⟨by decide, by decide, by decide +kernel⟩, List.mem_of_getElem? (i := 786) (by decide +kernel), List.mem_of_getElem? (i := 787) (by decide +kernel)⟩
theorem cx_equalTo : gCX "ShapeTreesLaw" 119 y_Lw_equalTo b_Lw_equalTo 4 (some .int) hh_Lw_equalTo 3 := ⟨w_Lw_equalTo, List.mem_of_getElem? (i := 42) (by decide +kernel), ⟨by decide, by decide, by decide +kernel⟩, List.mem_of_getElem? (i := 804) (by decide +kernel), List.mem_of_getElem? (i := 805) (by decide +kernel)⟩
theorem cx_find : gCX "ShapeTreesLaw" 123 y_Lw_find b_Lw_find 12 (some .int) hh_Lw_find 7 := ⟨w_Lw_find, List.mem_of_getElem? (i := 42) (by decide +kernel), ⟨by decide, by decide, by decide +kernel⟩, List.mem_of_getElem? (i := 882) (by decide +kernel), List.mem_of_getElem? (i := 883) (by decide +kernel)⟩
theorem cx_drop : gCX "ShapeTreesLaw" 127 y_Lw_drop b_Lw_drop 4 (some .int) hh_Lw_drop 3 := ⟨w_Lw_drop, List.mem_of_getElem? (i := 42) (by decide +kernel), ⟨by decide, by decide, by decide +kernel⟩, List.mem_of_getElem? (i := 895) (by decide +kernel), List.mem_of_getElem? (i := 896) (by decide +kernel)⟩
section LC
variable {l : Launch} {D : gD} {s0 : State} {M : gH} {p_ : Program} {e_ : Env} {R_ : Room} {s_ : State} {m_ : MethodId} {ar_ : Array Value} {be_ : List Frame} {me_ : Method} {c_ : Code} {b L x mo out cl sl : Nat} {xs : Nat → Int32}
theorem k_thrown (h0 : g_0 l D s0) {a : Nat} {k : Int32} {fm : List Value} (hM : M a = some (.inr (6, .int k :: fm))) : Ct l D s0 y_Md_thrown (Cond.code y_Md_thrown b_Md_thrown 1 (some .int)) (rk 0 0 0) [.ref a] M (fR (some (.int k)) M) := by
  refine Ct.of h0 (by decide +kernel) rfl fun X hX h => ?_
  obtain ⟨p_, l', e_, R_, s_, m_, ar_, be_, me_, c_⟩ := X
  obtain rfl : l' = l := hX
  refine ri_aload_n h d_Md_thrown_0 rfl ?_
  refine ri_get h d_Md_thrown_1 fl_Md_108 (by first | assumption | exact gup_s | (refine gup_t (by assumption) ?_; first | assumption | exact gup_s | (refine gup_t (by assumption) ?_; first | assumption | exact gup_s | (refine gup_t (by assumption) ?_; first | assumption | exact gup_s)))) (by rfl) ?_
  refine ri_ireturn h d_Md_thrown_4 (Nat.le_of_ble_eq_true rfl) (Nat.le_of_ble_eq_true rfl) ?_
  exact ⟨rfl, rfl⟩
theorem lc_cell {γ : Type} {Inv : γ → gH → Prop} (h : gF (gzz D s0 (p_, l, e_, R_, s_, m_, ar_, be_, me_, c_) room_1 FL 8) code "ShapeTreesLaw" (some .boolean) [] "law") (h0 : g_0 l D s0) (hX : va_X b L xs s0 s0.heap) (hL : L ≤ 5121) (i : Nat) (hi : i + 10 ≤ L) (hx : ∀ g M, Inv g M → ∃ fx, M x = some (.inr (5, fx))) (hS : ∀ _ : Unit, gStep l D s0 Inv x mo out y_ST_cell (Cond.code y_ST_cell b_ST_cell 1 (some .int)) y_Md_cell (Cond.code y_Md_cell b_Md_cell 1 (some .int)) ["java/lang/IllegalStateException"] Value.int Int32.toInt64 []) {g : γ} (hI : Inv g M) (hcl : cl + 60 ≤ 601024) (hsl : sl + 8000 ≤ 7293000)
    (kk : ∀ g' M', Inv g' M' → G (gzz D s0 (p_, l, e_, R_, s_, m_, ar_, be_, me_, c_) room_1 FL 8) 1583 [(0, .ref b), (1, .ref x), (2, .ref mo), (3, .ref out), (4, .int (nI i))] [] M' (cl + 60) (sl + 8000)) : G (gzz D s0 (p_, l, e_, R_, s_, m_, ar_, be_, me_, c_) room_1 FL 8) 116 [(0, .ref b), (1, .ref x), (2, .ref mo), (3, .ref out), (4, .int (nI i))] [] M cl sl := by
  obtain ⟨fx, hfx⟩ := hx g M hI
  obtain ⟨P, ct, hP1, hP2⟩ := hS () g M hI
  refine ri_aload_n h d_law_116 rfl ?_
  refine ri_aload_n h d_law_117 rfl ?_
  refine ri_callSX h [.ref x, .ref out] [] d_law_118 cx_cell rfl rfl (Nat.le_of_ble_eq_true rfl) (Nat.le_of_ble_eq_true rfl) (Nat.le_of_ble_eq_true rfl) hcl hsl (lw_w_cell_1 h0  hfx (fun k v M1 hP => (hP1 k v M1 hP).2.1) ct) (fun E M9 h9 => by obtain ⟨k, v, M1, -, h9, -⟩ := h9; cases h9) ?_
  rintro v9 M9 ⟨k, v, M1, hP, hv, fo, hfo, rfl⟩
  cases hv
  obtain ⟨hk10, -, fm, hfm⟩ := hP1 k v M1 hP
  have hmo : (if k = 0 then gup M1 out (al 1 (va_up fo 0 (Int32.toInt64 v))) else M1) mo = some (.inr (6, fm)) := by
    split
    · exact gup_t (Ne.symm (gneA hfo hfm)) hfm
    · exact hfm
  refine ri_istore h d_law_121 (Nat.le_of_ble_eq_true rfl) ?_
  refine ri_aload_n h d_law_123 rfl ?_
  refine ri_callV (r := (gR6, gT6, 44)) h [] [] d_law_124 cv_Lw_80 hmo rfl rfl rfl (Nat.le_of_ble_eq_true rfl) (Nat.le_of_ble_eq_true rfl) (Nat.le_of_ble_eq_true rfl) (by show cl + 60 + 0 ≤ 601024; omega) (by show sl + 8000 + 0 ≤ 7293000; omega) (hP2 k v M1 hP fo hfo) (fun E M9 h9 => by obtain ⟨v2, h9, -⟩ := h9; cases h9) ?_
  rintro v9 M2 ⟨w, hv2, heq, ⟨g', hI'⟩, ⟨fm2, hm2⟩, fo2, ho2, hf2⟩
  cases hv2
  refine ri_istore h d_law_127 (Nat.le_of_ble_eq_true rfl) ?_
  refine ri_aload_n h d_law_129 rfl ?_
  refine ri_cVv (r := (gR6, gT6, 44)) h [] [] d_law_130 cv_Lw_81 hm2 rfl (k_thrown h0 hm2) rfl rfl (Nat.le_of_ble_eq_true rfl) (Nat.le_of_ble_eq_true rfl) (Nat.le_of_ble_eq_true rfl) (by show cl + 60 + 0 + 0 ≤ 601024; omega) (by show sl + 8000 + 0 + 0 ≤ 7293000; omega) ?_
  refine ri_iload h d_law_133 rfl ?_
  refine ri_icmp_eq h 140 d_law_135 (by decide) (fun c_135 => ?_) (fun c_135 => ?_)
  · refine ri_iload h d_law_140 rfl ?_
    refine ri_if_ne h 157 d_law_142 (by decide) (fun c_142 => ?_) (fun c_142 => ?_)
    · refine ri_goto h 1583 d_law_157 (by decide) ?_
      exact ri_ls [(0, .ref b), (1, .ref x), (2, .ref mo), (3, .ref out), (4, .int (nI i))] ⟨rfl, rfl, rfl, rfl, rfl, trivial⟩ (kk g' M2 hI')
    · have hk0 : k = 0 := by
        rcases Nat.eq_zero_or_pos k with q | q
        · exact q
        · exact absurd c_142 (nI_ne0 q (by omega))
      have e1 := heq hk0
      have e2 := hf2 hk0
      refine ri_aload_n h d_law_145 rfl ?_
      refine ri_iconst h 0 d_law_146 rfl ?_
      refine ri_lald h 0 d_law_147 ho2 rfl (by omega) (by omega) ?_
      refine ri_iload h d_law_148 rfl ?_
      refine ri_i2l h d_law_150 ?_
      refine ri_lcmp_eq h 157 d_law_151 d_law_152 (by decide) (fun c_151 => ?_) (fun c_151 => ?_)
      · refine ri_goto h 1583 d_law_157 (by decide) ?_
        exact ri_ls [(0, .ref b), (1, .ref x), (2, .ref mo), (3, .ref out), (4, .int (nI i))] ⟨rfl, rfl, rfl, rfl, rfl, trivial⟩ (kk g' M2 hI')
      · exact absurd (e2.trans e1.symm) c_151
  · exact absurd rfl c_135
theorem lc_polygon {γ : Type} {Inv : γ → gH → Prop} (h : gF (gzz D s0 (p_, l, e_, R_, s_, m_, ar_, be_, me_, c_) room_1 FL 8) code "ShapeTreesLaw" (some .boolean) [] "law") (h0 : g_0 l D s0) (hX : va_X b L xs s0 s0.heap) (hL : L ≤ 5121) (i : Nat) (hi : i + 10 ≤ L) (hx : ∀ g M, Inv g M → ∃ fx, M x = some (.inr (5, fx))) (hS : ∀ (p0 : Int32) (p1 : Int32), gStep l D s0 Inv x mo out y_ST_polygon (Cond.code y_ST_polygon b_ST_polygon 4 (some .int)) y_Md_polygon (Cond.code y_Md_polygon b_Md_polygon 3 (some .int)) ["java/lang/IndexOutOfBoundsException", "java/lang/IllegalStateException"] Value.int Int32.toInt64 [.int p0, .int p1]) {g : γ} (hI : Inv g M) (hcl : cl + 60 ≤ 601024) (hsl : sl + 8000 ≤ 7293000)
    (kk : ∀ g' M', Inv g' M' → G (gzz D s0 (p_, l, e_, R_, s_, m_, ar_, be_, me_, c_) room_1 FL 8) 1583 [(0, .ref b), (1, .ref x), (2, .ref mo), (3, .ref out), (4, .int (nI i))] [] M' (cl + 60) (sl + 8000)) : G (gzz D s0 (p_, l, e_, R_, s_, m_, ar_, be_, me_, c_) room_1 FL 8) 160 [(0, .ref b), (1, .ref x), (2, .ref mo), (3, .ref out), (4, .int (nI i))] [] M cl sl := by
  obtain ⟨fx, hfx⟩ := hx g M hI
  obtain ⟨P, ct, hP1, hP2⟩ := hS (xs (i + 1)) (xs (i + 2)) g M hI
  refine ri_aload_n h d_law_160 rfl ?_
  refine ri_aload_n h d_law_161 rfl ?_
  refine ri_iload h d_law_162 rfl ?_
  refine ri_iconst h 1 d_law_164 rfl ?_
  refine ri_iadd h d_law_165 ?_
  refine ri_sld h (i + 1) d_law_166 hX (nI_add i 1) (by omega) (by omega) ?_
  refine ri_aload_n h d_law_167 rfl ?_
  refine ri_iload h d_law_168 rfl ?_
  refine ri_iconst h 2 d_law_170 rfl ?_
  refine ri_iadd h d_law_171 ?_
  refine ri_sld h (i + 2) d_law_172 hX (nI_add i 2) (by omega) (by omega) ?_
  refine ri_aload_n h d_law_173 rfl ?_
  refine ri_callSX h [.ref x, .int (xs (i + 1)), .int (xs (i + 2)), .ref out] [] d_law_174 cx_polygon rfl rfl (Nat.le_of_ble_eq_true rfl) (Nat.le_of_ble_eq_true rfl) (Nat.le_of_ble_eq_true rfl) hcl hsl (lw_w_polygon h0 (xs (i + 1)) (xs (i + 2)) hfx (fun k v M1 hP => (hP1 k v M1 hP).2.1) ct) (fun E M9 h9 => by obtain ⟨k, v, M1, -, h9, -⟩ := h9; cases h9) ?_
  rintro v9 M9 ⟨k, v, M1, hP, hv, fo, hfo, rfl⟩
  cases hv
  obtain ⟨hk10, -, fm, hfm⟩ := hP1 k v M1 hP
  have hmo : (if k = 0 then gup M1 out (al 1 (va_up fo 0 (Int32.toInt64 v))) else M1) mo = some (.inr (6, fm)) := by
    split
    · exact gup_t (Ne.symm (gneA hfo hfm)) hfm
    · exact hfm
  refine ri_istore h d_law_177 (Nat.le_of_ble_eq_true rfl) ?_
  refine ri_aload_n h d_law_179 rfl ?_
  refine ri_aload_n h d_law_180 rfl ?_
  refine ri_iload h d_law_181 rfl ?_
  refine ri_iconst h 1 d_law_183 rfl ?_
  refine ri_iadd h d_law_184 ?_
  refine ri_sld h (i + 1) d_law_185 hX (nI_add i 1) (by omega) (by omega) ?_
  refine ri_aload_n h d_law_186 rfl ?_
  refine ri_iload h d_law_187 rfl ?_
  refine ri_iconst h 2 d_law_189 rfl ?_
  refine ri_iadd h d_law_190 ?_
  refine ri_sld h (i + 2) d_law_191 hX (nI_add i 2) (by omega) (by omega) ?_
  refine ri_callV (r := (gR6, gT6, 44)) h [.int (xs (i + 1)), .int (xs (i + 2))] [] d_law_192 cv_Lw_87 hmo rfl rfl rfl (Nat.le_of_ble_eq_true rfl) (Nat.le_of_ble_eq_true rfl) (Nat.le_of_ble_eq_true rfl) (by show cl + 60 + 0 ≤ 601024; omega) (by show sl + 8000 + 0 ≤ 7293000; omega) (hP2 k v M1 hP fo hfo) (fun E M9 h9 => by obtain ⟨v2, h9, -⟩ := h9; cases h9) ?_
  rintro v9 M2 ⟨w, hv2, heq, ⟨g', hI'⟩, ⟨fm2, hm2⟩, fo2, ho2, hf2⟩
  cases hv2
  refine ri_istore h d_law_195 (Nat.le_of_ble_eq_true rfl) ?_
  refine ri_aload_n h d_law_197 rfl ?_
  refine ri_cVv (r := (gR6, gT6, 44)) h [] [] d_law_198 cv_Lw_81 hm2 rfl (k_thrown h0 hm2) rfl rfl (Nat.le_of_ble_eq_true rfl) (Nat.le_of_ble_eq_true rfl) (Nat.le_of_ble_eq_true rfl) (by show cl + 60 + 0 + 0 ≤ 601024; omega) (by show sl + 8000 + 0 + 0 ≤ 7293000; omega) ?_
  refine ri_iload h d_law_201 rfl ?_
  refine ri_icmp_eq h 208 d_law_203 (by decide) (fun c_203 => ?_) (fun c_203 => ?_)
  · refine ri_iload h d_law_208 rfl ?_
    refine ri_if_ne h 225 d_law_210 (by decide) (fun c_210 => ?_) (fun c_210 => ?_)
    · refine ri_goto h 1583 d_law_225 (by decide) ?_
      exact ri_ls [(0, .ref b), (1, .ref x), (2, .ref mo), (3, .ref out), (4, .int (nI i))] ⟨rfl, rfl, rfl, rfl, rfl, trivial⟩ (kk g' M2 hI')
    · have hk0 : k = 0 := by
        rcases Nat.eq_zero_or_pos k with q | q
        · exact q
        · exact absurd c_210 (nI_ne0 q (by omega))
      have e1 := heq hk0
      have e2 := hf2 hk0
      refine ri_aload_n h d_law_213 rfl ?_
      refine ri_iconst h 0 d_law_214 rfl ?_
      refine ri_lald h 0 d_law_215 ho2 rfl (by omega) (by omega) ?_
      refine ri_iload h d_law_216 rfl ?_
      refine ri_i2l h d_law_218 ?_
      refine ri_lcmp_eq h 225 d_law_219 d_law_220 (by decide) (fun c_219 => ?_) (fun c_219 => ?_)
      · refine ri_goto h 1583 d_law_225 (by decide) ?_
        exact ri_ls [(0, .ref b), (1, .ref x), (2, .ref mo), (3, .ref out), (4, .int (nI i))] ⟨rfl, rfl, rfl, rfl, rfl, trivial⟩ (kk g' M2 hI')
      · exact absurd (e2.trans e1.symm) c_219
  · exact absurd rfl c_203
theorem lc_corner {γ : Type} {Inv : γ → gH → Prop} (h : gF (gzz D s0 (p_, l, e_, R_, s_, m_, ar_, be_, me_, c_) room_1 FL 8) code "ShapeTreesLaw" (some .boolean) [] "law") (h0 : g_0 l D s0) (hX : va_X b L xs s0 s0.heap) (hL : L ≤ 5121) (i : Nat) (hi : i + 10 ≤ L) (hx : ∀ g M, Inv g M → ∃ fx, M x = some (.inr (5, fx))) (hS : ∀ (p0 : Int32) (p1 : Int64) (p2 : Int64), gStep l D s0 Inv x mo out y_ST_corner (Cond.code y_ST_corner b_ST_corner 6 (some .boolean)) y_Md_corner (Cond.code y_Md_corner b_Md_corner 7 (some .boolean)) ["java/lang/IndexOutOfBoundsException", "java/lang/IllegalStateException", "java/lang/IllegalArgumentException"] Value.int jbool [.int p0, .long p1, .long p2]) {g : γ} (hI : Inv g M) (hcl : cl + 60 ≤ 601024) (hsl : sl + 8000 ≤ 7293000)
    (kk : ∀ g' M', Inv g' M' → G (gzz D s0 (p_, l, e_, R_, s_, m_, ar_, be_, me_, c_) room_1 FL 8) 1583 [(0, .ref b), (1, .ref x), (2, .ref mo), (3, .ref out), (4, .int (nI i))] [] M' (cl + 60) (sl + 8000)) : G (gzz D s0 (p_, l, e_, R_, s_, m_, ar_, be_, me_, c_) room_1 FL 8) 228 [(0, .ref b), (1, .ref x), (2, .ref mo), (3, .ref out), (4, .int (nI i))] [] M cl sl := by
  obtain ⟨fx, hfx⟩ := hx g M hI
  obtain ⟨P, ct, hP1, hP2⟩ := hS (xs (i + 1)) (jl (xs (i + 2)) (xs (i + 3))) (jl (xs (i + 4)) (xs (i + 5))) g M hI
  refine ri_aload_n h d_law_228 rfl ?_
  refine ri_aload_n h d_law_229 rfl ?_
  refine ri_iload h d_law_230 rfl ?_
  refine ri_iconst h 1 d_law_232 rfl ?_
  refine ri_iadd h d_law_233 ?_
  refine ri_sld h (i + 1) d_law_234 hX (nI_add i 1) (by omega) (by omega) ?_
  refine ri_aload_n h d_law_235 rfl ?_
  refine ri_iload h d_law_236 rfl ?_
  refine ri_iconst h 2 d_law_238 rfl ?_
  refine ri_iadd h d_law_239 ?_
  refine ri_sld h (i + 2) d_law_240 hX (nI_add i 2) (by omega) (by omega) ?_
  refine ri_i2l h d_law_241 ?_
  refine ri_bipush h 32 d_law_242 rfl ?_
  refine ri_lshl h d_law_244 ?_
  refine ri_aload_n h d_law_245 rfl ?_
  refine ri_iload h d_law_246 rfl ?_
  refine ri_iconst h 3 d_law_248 rfl ?_
  refine ri_iadd h d_law_249 ?_
  refine ri_sld h (i + 3) d_law_250 hX (nI_add i 3) (by omega) (by omega) ?_
  refine ri_i2l h d_law_251 ?_
  refine ri_ldc2 h 4294967295 d_law_252 kl_Lw_88 ?_
  refine ri_land h d_law_255 ?_
  refine ri_lor h d_law_256 ?_
  refine ri_aload_n h d_law_257 rfl ?_
  refine ri_iload h d_law_258 rfl ?_
  refine ri_iconst h 4 d_law_260 rfl ?_
  refine ri_iadd h d_law_261 ?_
  refine ri_sld h (i + 4) d_law_262 hX (nI_add i 4) (by omega) (by omega) ?_
  refine ri_i2l h d_law_263 ?_
  refine ri_bipush h 32 d_law_264 rfl ?_
  refine ri_lshl h d_law_266 ?_
  refine ri_aload_n h d_law_267 rfl ?_
  refine ri_iload h d_law_268 rfl ?_
  refine ri_iconst h 5 d_law_270 rfl ?_
  refine ri_iadd h d_law_271 ?_
  refine ri_sld h (i + 5) d_law_272 hX (nI_add i 5) (by omega) (by omega) ?_
  refine ri_i2l h d_law_273 ?_
  refine ri_ldc2 h 4294967295 d_law_274 kl_Lw_88 ?_
  refine ri_land h d_law_277 ?_
  refine ri_lor h d_law_278 ?_
  refine ri_aload_n h d_law_279 rfl ?_
  refine ri_callSX h [.ref x, .int (xs (i + 1)), .long (jl (xs (i + 2)) (xs (i + 3))), .long (jl (xs (i + 4)) (xs (i + 5))), .ref out] [] d_law_280 cx_corner rfl rfl (Nat.le_of_ble_eq_true rfl) (Nat.le_of_ble_eq_true rfl) (Nat.le_of_ble_eq_true rfl) hcl hsl (lw_w_corner h0 (xs (i + 1)) (jl (xs (i + 2)) (xs (i + 3))) (jl (xs (i + 4)) (xs (i + 5))) hfx (fun k v M1 hP => (hP1 k v M1 hP).2.1) ct) (fun E M9 h9 => by obtain ⟨k, v, M1, -, h9, -⟩ := h9; cases h9) ?_
  rintro v9 M9 ⟨k, v, M1, hP, hv, fo, hfo, rfl⟩
  cases hv
  obtain ⟨hk10, -, fm, hfm⟩ := hP1 k v M1 hP
  have hmo : (if k = 0 then gup M1 out (al 1 (va_up fo 0 (jbool v))) else M1) mo = some (.inr (6, fm)) := by
    split
    · exact gup_t (Ne.symm (gneA hfo hfm)) hfm
    · exact hfm
  refine ri_istore h d_law_283 (Nat.le_of_ble_eq_true rfl) ?_
  refine ri_aload_n h d_law_285 rfl ?_
  refine ri_aload_n h d_law_286 rfl ?_
  refine ri_iload h d_law_287 rfl ?_
  refine ri_iconst h 1 d_law_289 rfl ?_
  refine ri_iadd h d_law_290 ?_
  refine ri_sld h (i + 1) d_law_291 hX (nI_add i 1) (by omega) (by omega) ?_
  refine ri_aload_n h d_law_292 rfl ?_
  refine ri_iload h d_law_293 rfl ?_
  refine ri_iconst h 2 d_law_295 rfl ?_
  refine ri_iadd h d_law_296 ?_
  refine ri_sld h (i + 2) d_law_297 hX (nI_add i 2) (by omega) (by omega) ?_
  refine ri_i2l h d_law_298 ?_
  refine ri_bipush h 32 d_law_299 rfl ?_
  refine ri_lshl h d_law_301 ?_
  refine ri_aload_n h d_law_302 rfl ?_
  refine ri_iload h d_law_303 rfl ?_
  refine ri_iconst h 3 d_law_305 rfl ?_
  refine ri_iadd h d_law_306 ?_
  refine ri_sld h (i + 3) d_law_307 hX (nI_add i 3) (by omega) (by omega) ?_
  refine ri_i2l h d_law_308 ?_
  refine ri_ldc2 h 4294967295 d_law_309 kl_Lw_88 ?_
  refine ri_land h d_law_312 ?_
  refine ri_lor h d_law_313 ?_
  refine ri_aload_n h d_law_314 rfl ?_
  refine ri_iload h d_law_315 rfl ?_
  refine ri_iconst h 4 d_law_317 rfl ?_
  refine ri_iadd h d_law_318 ?_
  refine ri_sld h (i + 4) d_law_319 hX (nI_add i 4) (by omega) (by omega) ?_
  refine ri_i2l h d_law_320 ?_
  refine ri_bipush h 32 d_law_321 rfl ?_
  refine ri_lshl h d_law_323 ?_
  refine ri_aload_n h d_law_324 rfl ?_
  refine ri_iload h d_law_325 rfl ?_
  refine ri_iconst h 5 d_law_327 rfl ?_
  refine ri_iadd h d_law_328 ?_
  refine ri_sld h (i + 5) d_law_329 hX (nI_add i 5) (by omega) (by omega) ?_
  refine ri_i2l h d_law_330 ?_
  refine ri_ldc2 h 4294967295 d_law_331 kl_Lw_88 ?_
  refine ri_land h d_law_334 ?_
  refine ri_lor h d_law_335 ?_
  refine ri_callV (r := (gR6, gT6, 44)) h [.int (xs (i + 1)), .long (jl (xs (i + 2)) (xs (i + 3))), .long (jl (xs (i + 4)) (xs (i + 5)))] [] d_law_336 cv_Lw_93 hmo rfl rfl rfl (Nat.le_of_ble_eq_true rfl) (Nat.le_of_ble_eq_true rfl) (Nat.le_of_ble_eq_true rfl) (by show cl + 60 + 0 ≤ 601024; omega) (by show sl + 8000 + 0 ≤ 7293000; omega) (hP2 k v M1 hP fo hfo) (fun E M9 h9 => by obtain ⟨v2, h9, -⟩ := h9; cases h9) ?_
  rintro v9 M2 ⟨w, hv2, heq, ⟨g', hI'⟩, ⟨fm2, hm2⟩, fo2, ho2, hf2⟩
  cases hv2
  refine ri_istore h d_law_339 (Nat.le_of_ble_eq_true rfl) ?_
  refine ri_aload_n h d_law_341 rfl ?_
  refine ri_cVv (r := (gR6, gT6, 44)) h [] [] d_law_342 cv_Lw_81 hm2 rfl (k_thrown h0 hm2) rfl rfl (Nat.le_of_ble_eq_true rfl) (Nat.le_of_ble_eq_true rfl) (Nat.le_of_ble_eq_true rfl) (by show cl + 60 + 0 + 0 ≤ 601024; omega) (by show sl + 8000 + 0 + 0 ≤ 7293000; omega) ?_
  refine ri_iload h d_law_345 rfl ?_
  refine ri_icmp_eq h 352 d_law_347 (by decide) (fun c_347 => ?_) (fun c_347 => ?_)
  · refine ri_iload h d_law_352 rfl ?_
    refine ri_if_ne h 376 d_law_354 (by decide) (fun c_354 => ?_) (fun c_354 => ?_)
    · refine ri_goto h 1583 d_law_376 (by decide) ?_
      exact ri_ls [(0, .ref b), (1, .ref x), (2, .ref mo), (3, .ref out), (4, .int (nI i))] ⟨rfl, rfl, rfl, rfl, rfl, trivial⟩ (kk g' M2 hI')
    · have hk0 : k = 0 := by
        rcases Nat.eq_zero_or_pos k with q | q
        · exact q
        · exact absurd c_354 (nI_ne0 q (by omega))
      have e1 := heq hk0
      have e2 := hf2 hk0
      refine ri_aload_n h d_law_357 rfl ?_
      refine ri_iconst h 0 d_law_358 rfl ?_
      refine ri_lald h 0 d_law_359 ho2 rfl (by omega) (by omega) ?_
      refine ri_iload h d_law_360 rfl ?_
      refine ri_if_eq h 369 d_law_362 (by decide) (fun c_362 => ?_) (fun c_362 => ?_)
      · refine ri_lconst h 0 d_law_369 rfl ?_
        refine ri_lcmp_eq h 376 d_law_370 d_law_371 (by decide) (fun c_370 => ?_) (fun c_370 => ?_)
        · refine ri_goto h 1583 d_law_376 (by decide) ?_
          exact ri_ls [(0, .ref b), (1, .ref x), (2, .ref mo), (3, .ref out), (4, .int (nI i))] ⟨rfl, rfl, rfl, rfl, rfl, trivial⟩ (kk g' M2 hI')
        · exact absurd (e2.trans (e1.symm.trans (by rw [jbool, if_pos c_362]))) c_370
      · refine ri_lconst h 1 d_law_365 rfl ?_
        refine ri_goto h 370 d_law_366 (by decide) ?_
        refine ri_lcmp_eq h 376 d_law_370 d_law_371 (by decide) (fun c_370 => ?_) (fun c_370 => ?_)
        · refine ri_goto h 1583 d_law_376 (by decide) ?_
          exact ri_ls [(0, .ref b), (1, .ref x), (2, .ref mo), (3, .ref out), (4, .int (nI i))] ⟨rfl, rfl, rfl, rfl, rfl, trivial⟩ (kk g' M2 hI')
        · exact absurd (e2.trans (e1.symm.trans (by rw [jbool, if_neg c_362]))) c_370
  · exact absurd rfl c_347
theorem lc_path {γ : Type} {Inv : γ → gH → Prop} (h : gF (gzz D s0 (p_, l, e_, R_, s_, m_, ar_, be_, me_, c_) room_1 FL 8) code "ShapeTreesLaw" (some .boolean) [] "law") (h0 : g_0 l D s0) (hX : va_X b L xs s0 s0.heap) (hL : L ≤ 5121) (i : Nat) (hi : i + 10 ≤ L) (hx : ∀ g M, Inv g M → ∃ fx, M x = some (.inr (5, fx))) (hS : ∀ (p0 : Int32) (p1 : Int32) (p2 : Int64) (p3 : Int32), gStep l D s0 Inv x mo out y_ST_path (Cond.code y_ST_path b_ST_path 7 (some .int)) y_Md_path (Cond.code y_Md_path b_Md_path 6 (some .int)) ["java/lang/IndexOutOfBoundsException", "java/lang/IllegalStateException", "java/lang/IllegalArgumentException"] Value.int Int32.toInt64 [.int p0, .int p1, .long p2, .int p3]) {g : γ} (hI : Inv g M) (hcl : cl + 60 ≤ 601024) (hsl : sl + 8000 ≤ 7293000)
    (kk : ∀ g' M', Inv g' M' → G (gzz D s0 (p_, l, e_, R_, s_, m_, ar_, be_, me_, c_) room_1 FL 8) 1583 [(0, .ref b), (1, .ref x), (2, .ref mo), (3, .ref out), (4, .int (nI i))] [] M' (cl + 60) (sl + 8000)) : G (gzz D s0 (p_, l, e_, R_, s_, m_, ar_, be_, me_, c_) room_1 FL 8) 379 [(0, .ref b), (1, .ref x), (2, .ref mo), (3, .ref out), (4, .int (nI i))] [] M cl sl := by
  obtain ⟨fx, hfx⟩ := hx g M hI
  obtain ⟨P, ct, hP1, hP2⟩ := hS (xs (i + 1)) (xs (i + 2)) (jl (xs (i + 3)) (xs (i + 4))) (xs (i + 5)) g M hI
  refine ri_aload_n h d_law_379 rfl ?_
  refine ri_aload_n h d_law_380 rfl ?_
  refine ri_iload h d_law_381 rfl ?_
  refine ri_iconst h 1 d_law_383 rfl ?_
  refine ri_iadd h d_law_384 ?_
  refine ri_sld h (i + 1) d_law_385 hX (nI_add i 1) (by omega) (by omega) ?_
  refine ri_aload_n h d_law_386 rfl ?_
  refine ri_iload h d_law_387 rfl ?_
  refine ri_iconst h 2 d_law_389 rfl ?_
  refine ri_iadd h d_law_390 ?_
  refine ri_sld h (i + 2) d_law_391 hX (nI_add i 2) (by omega) (by omega) ?_
  refine ri_aload_n h d_law_392 rfl ?_
  refine ri_iload h d_law_393 rfl ?_
  refine ri_iconst h 3 d_law_395 rfl ?_
  refine ri_iadd h d_law_396 ?_
  refine ri_sld h (i + 3) d_law_397 hX (nI_add i 3) (by omega) (by omega) ?_
  refine ri_i2l h d_law_398 ?_
  refine ri_bipush h 32 d_law_399 rfl ?_
  refine ri_lshl h d_law_401 ?_
  refine ri_aload_n h d_law_402 rfl ?_
  refine ri_iload h d_law_403 rfl ?_
  refine ri_iconst h 4 d_law_405 rfl ?_
  refine ri_iadd h d_law_406 ?_
  refine ri_sld h (i + 4) d_law_407 hX (nI_add i 4) (by omega) (by omega) ?_
  refine ri_i2l h d_law_408 ?_
  refine ri_ldc2 h 4294967295 d_law_409 kl_Lw_88 ?_
  refine ri_land h d_law_412 ?_
  refine ri_lor h d_law_413 ?_
  refine ri_aload_n h d_law_414 rfl ?_
  refine ri_iload h d_law_415 rfl ?_
  refine ri_iconst h 5 d_law_417 rfl ?_
  refine ri_iadd h d_law_418 ?_
  refine ri_sld h (i + 5) d_law_419 hX (nI_add i 5) (by omega) (by omega) ?_
  refine ri_aload_n h d_law_420 rfl ?_
  refine ri_callSX h [.ref x, .int (xs (i + 1)), .int (xs (i + 2)), .long (jl (xs (i + 3)) (xs (i + 4))), .int (xs (i + 5)), .ref out] [] d_law_421 cx_path rfl rfl (Nat.le_of_ble_eq_true rfl) (Nat.le_of_ble_eq_true rfl) (Nat.le_of_ble_eq_true rfl) hcl hsl (lw_w_path h0 (xs (i + 1)) (xs (i + 2)) (jl (xs (i + 3)) (xs (i + 4))) (xs (i + 5)) hfx (fun k v M1 hP => (hP1 k v M1 hP).2.1) ct) (fun E M9 h9 => by obtain ⟨k, v, M1, -, h9, -⟩ := h9; cases h9) ?_
  rintro v9 M9 ⟨k, v, M1, hP, hv, fo, hfo, rfl⟩
  cases hv
  obtain ⟨hk10, -, fm, hfm⟩ := hP1 k v M1 hP
  have hmo : (if k = 0 then gup M1 out (al 1 (va_up fo 0 (Int32.toInt64 v))) else M1) mo = some (.inr (6, fm)) := by
    split
    · exact gup_t (Ne.symm (gneA hfo hfm)) hfm
    · exact hfm
  refine ri_istore h d_law_424 (Nat.le_of_ble_eq_true rfl) ?_
  refine ri_aload_n h d_law_426 rfl ?_
  refine ri_aload_n h d_law_427 rfl ?_
  refine ri_iload h d_law_428 rfl ?_
  refine ri_iconst h 1 d_law_430 rfl ?_
  refine ri_iadd h d_law_431 ?_
  refine ri_sld h (i + 1) d_law_432 hX (nI_add i 1) (by omega) (by omega) ?_
  refine ri_aload_n h d_law_433 rfl ?_
  refine ri_iload h d_law_434 rfl ?_
  refine ri_iconst h 2 d_law_436 rfl ?_
  refine ri_iadd h d_law_437 ?_
  refine ri_sld h (i + 2) d_law_438 hX (nI_add i 2) (by omega) (by omega) ?_
  refine ri_aload_n h d_law_439 rfl ?_
  refine ri_iload h d_law_440 rfl ?_
  refine ri_iconst h 3 d_law_442 rfl ?_
  refine ri_iadd h d_law_443 ?_
  refine ri_sld h (i + 3) d_law_444 hX (nI_add i 3) (by omega) (by omega) ?_
  refine ri_i2l h d_law_445 ?_
  refine ri_bipush h 32 d_law_446 rfl ?_
  refine ri_lshl h d_law_448 ?_
  refine ri_aload_n h d_law_449 rfl ?_
  refine ri_iload h d_law_450 rfl ?_
  refine ri_iconst h 4 d_law_452 rfl ?_
  refine ri_iadd h d_law_453 ?_
  refine ri_sld h (i + 4) d_law_454 hX (nI_add i 4) (by omega) (by omega) ?_
  refine ri_i2l h d_law_455 ?_
  refine ri_ldc2 h 4294967295 d_law_456 kl_Lw_88 ?_
  refine ri_land h d_law_459 ?_
  refine ri_lor h d_law_460 ?_
  refine ri_aload_n h d_law_461 rfl ?_
  refine ri_iload h d_law_462 rfl ?_
  refine ri_iconst h 5 d_law_464 rfl ?_
  refine ri_iadd h d_law_465 ?_
  refine ri_sld h (i + 5) d_law_466 hX (nI_add i 5) (by omega) (by omega) ?_
  refine ri_callV (r := (gR6, gT6, 44)) h [.int (xs (i + 1)), .int (xs (i + 2)), .long (jl (xs (i + 3)) (xs (i + 4))), .int (xs (i + 5))] [] d_law_467 cv_Lw_97 hmo rfl rfl rfl (Nat.le_of_ble_eq_true rfl) (Nat.le_of_ble_eq_true rfl) (Nat.le_of_ble_eq_true rfl) (by show cl + 60 + 0 ≤ 601024; omega) (by show sl + 8000 + 0 ≤ 7293000; omega) (hP2 k v M1 hP fo hfo) (fun E M9 h9 => by obtain ⟨v2, h9, -⟩ := h9; cases h9) ?_
  rintro v9 M2 ⟨w, hv2, heq, ⟨g', hI'⟩, ⟨fm2, hm2⟩, fo2, ho2, hf2⟩
  cases hv2
  refine ri_istore h d_law_470 (Nat.le_of_ble_eq_true rfl) ?_
  refine ri_aload_n h d_law_472 rfl ?_
  refine ri_cVv (r := (gR6, gT6, 44)) h [] [] d_law_473 cv_Lw_81 hm2 rfl (k_thrown h0 hm2) rfl rfl (Nat.le_of_ble_eq_true rfl) (Nat.le_of_ble_eq_true rfl) (Nat.le_of_ble_eq_true rfl) (by show cl + 60 + 0 + 0 ≤ 601024; omega) (by show sl + 8000 + 0 + 0 ≤ 7293000; omega) ?_
  refine ri_iload h d_law_476 rfl ?_
  refine ri_icmp_eq h 483 d_law_478 (by decide) (fun c_478 => ?_) (fun c_478 => ?_)
  · refine ri_iload h d_law_483 rfl ?_
    refine ri_if_ne h 500 d_law_485 (by decide) (fun c_485 => ?_) (fun c_485 => ?_)
    · refine ri_goto h 1583 d_law_500 (by decide) ?_
      exact ri_ls [(0, .ref b), (1, .ref x), (2, .ref mo), (3, .ref out), (4, .int (nI i))] ⟨rfl, rfl, rfl, rfl, rfl, trivial⟩ (kk g' M2 hI')
    · have hk0 : k = 0 := by
        rcases Nat.eq_zero_or_pos k with q | q
        · exact q
        · exact absurd c_485 (nI_ne0 q (by omega))
      have e1 := heq hk0
      have e2 := hf2 hk0
      refine ri_aload_n h d_law_488 rfl ?_
      refine ri_iconst h 0 d_law_489 rfl ?_
      refine ri_lald h 0 d_law_490 ho2 rfl (by omega) (by omega) ?_
      refine ri_iload h d_law_491 rfl ?_
      refine ri_i2l h d_law_493 ?_
      refine ri_lcmp_eq h 500 d_law_494 d_law_495 (by decide) (fun c_494 => ?_) (fun c_494 => ?_)
      · refine ri_goto h 1583 d_law_500 (by decide) ?_
        exact ri_ls [(0, .ref b), (1, .ref x), (2, .ref mo), (3, .ref out), (4, .int (nI i))] ⟨rfl, rfl, rfl, rfl, rfl, trivial⟩ (kk g' M2 hI')
      · exact absurd (e2.trans e1.symm) c_494
  · exact absurd rfl c_478
theorem lc_point {γ : Type} {Inv : γ → gH → Prop} (h : gF (gzz D s0 (p_, l, e_, R_, s_, m_, ar_, be_, me_, c_) room_1 FL 8) code "ShapeTreesLaw" (some .boolean) [] "law") (h0 : g_0 l D s0) (hX : va_X b L xs s0 s0.heap) (hL : L ≤ 5121) (i : Nat) (hi : i + 10 ≤ L) (hx : ∀ g M, Inv g M → ∃ fx, M x = some (.inr (5, fx))) (hS : ∀ (p0 : Int32) (p1 : Int64) (p2 : Int64), gStep l D s0 Inv x mo out y_ST_point (Cond.code y_ST_point b_ST_point 6 (some .boolean)) y_Md_point (Cond.code y_Md_point b_Md_point 7 (some .boolean)) ["java/lang/IndexOutOfBoundsException", "java/lang/IllegalStateException", "java/lang/IllegalArgumentException"] Value.int jbool [.int p0, .long p1, .long p2]) {g : γ} (hI : Inv g M) (hcl : cl + 60 ≤ 601024) (hsl : sl + 8000 ≤ 7293000)
    (kk : ∀ g' M', Inv g' M' → G (gzz D s0 (p_, l, e_, R_, s_, m_, ar_, be_, me_, c_) room_1 FL 8) 1583 [(0, .ref b), (1, .ref x), (2, .ref mo), (3, .ref out), (4, .int (nI i))] [] M' (cl + 60) (sl + 8000)) : G (gzz D s0 (p_, l, e_, R_, s_, m_, ar_, be_, me_, c_) room_1 FL 8) 503 [(0, .ref b), (1, .ref x), (2, .ref mo), (3, .ref out), (4, .int (nI i))] [] M cl sl := by
  obtain ⟨fx, hfx⟩ := hx g M hI
  obtain ⟨P, ct, hP1, hP2⟩ := hS (xs (i + 1)) (jl (xs (i + 2)) (xs (i + 3))) (jl (xs (i + 4)) (xs (i + 5))) g M hI
  refine ri_aload_n h d_law_503 rfl ?_
  refine ri_aload_n h d_law_504 rfl ?_
  refine ri_iload h d_law_505 rfl ?_
  refine ri_iconst h 1 d_law_507 rfl ?_
  refine ri_iadd h d_law_508 ?_
  refine ri_sld h (i + 1) d_law_509 hX (nI_add i 1) (by omega) (by omega) ?_
  refine ri_aload_n h d_law_510 rfl ?_
  refine ri_iload h d_law_511 rfl ?_
  refine ri_iconst h 2 d_law_513 rfl ?_
  refine ri_iadd h d_law_514 ?_
  refine ri_sld h (i + 2) d_law_515 hX (nI_add i 2) (by omega) (by omega) ?_
  refine ri_i2l h d_law_516 ?_
  refine ri_bipush h 32 d_law_517 rfl ?_
  refine ri_lshl h d_law_519 ?_
  refine ri_aload_n h d_law_520 rfl ?_
  refine ri_iload h d_law_521 rfl ?_
  refine ri_iconst h 3 d_law_523 rfl ?_
  refine ri_iadd h d_law_524 ?_
  refine ri_sld h (i + 3) d_law_525 hX (nI_add i 3) (by omega) (by omega) ?_
  refine ri_i2l h d_law_526 ?_
  refine ri_ldc2 h 4294967295 d_law_527 kl_Lw_88 ?_
  refine ri_land h d_law_530 ?_
  refine ri_lor h d_law_531 ?_
  refine ri_aload_n h d_law_532 rfl ?_
  refine ri_iload h d_law_533 rfl ?_
  refine ri_iconst h 4 d_law_535 rfl ?_
  refine ri_iadd h d_law_536 ?_
  refine ri_sld h (i + 4) d_law_537 hX (nI_add i 4) (by omega) (by omega) ?_
  refine ri_i2l h d_law_538 ?_
  refine ri_bipush h 32 d_law_539 rfl ?_
  refine ri_lshl h d_law_541 ?_
  refine ri_aload_n h d_law_542 rfl ?_
  refine ri_iload h d_law_543 rfl ?_
  refine ri_iconst h 5 d_law_545 rfl ?_
  refine ri_iadd h d_law_546 ?_
  refine ri_sld h (i + 5) d_law_547 hX (nI_add i 5) (by omega) (by omega) ?_
  refine ri_i2l h d_law_548 ?_
  refine ri_ldc2 h 4294967295 d_law_549 kl_Lw_88 ?_
  refine ri_land h d_law_552 ?_
  refine ri_lor h d_law_553 ?_
  refine ri_aload_n h d_law_554 rfl ?_
  refine ri_callSX h [.ref x, .int (xs (i + 1)), .long (jl (xs (i + 2)) (xs (i + 3))), .long (jl (xs (i + 4)) (xs (i + 5))), .ref out] [] d_law_555 cx_point rfl rfl (Nat.le_of_ble_eq_true rfl) (Nat.le_of_ble_eq_true rfl) (Nat.le_of_ble_eq_true rfl) hcl hsl (lw_w_point h0 (xs (i + 1)) (jl (xs (i + 2)) (xs (i + 3))) (jl (xs (i + 4)) (xs (i + 5))) hfx (fun k v M1 hP => (hP1 k v M1 hP).2.1) ct) (fun E M9 h9 => by obtain ⟨k, v, M1, -, h9, -⟩ := h9; cases h9) ?_
  rintro v9 M9 ⟨k, v, M1, hP, hv, fo, hfo, rfl⟩
  cases hv
  obtain ⟨hk10, -, fm, hfm⟩ := hP1 k v M1 hP
  have hmo : (if k = 0 then gup M1 out (al 1 (va_up fo 0 (jbool v))) else M1) mo = some (.inr (6, fm)) := by
    split
    · exact gup_t (Ne.symm (gneA hfo hfm)) hfm
    · exact hfm
  refine ri_istore h d_law_558 (Nat.le_of_ble_eq_true rfl) ?_
  refine ri_aload_n h d_law_560 rfl ?_
  refine ri_aload_n h d_law_561 rfl ?_
  refine ri_iload h d_law_562 rfl ?_
  refine ri_iconst h 1 d_law_564 rfl ?_
  refine ri_iadd h d_law_565 ?_
  refine ri_sld h (i + 1) d_law_566 hX (nI_add i 1) (by omega) (by omega) ?_
  refine ri_aload_n h d_law_567 rfl ?_
  refine ri_iload h d_law_568 rfl ?_
  refine ri_iconst h 2 d_law_570 rfl ?_
  refine ri_iadd h d_law_571 ?_
  refine ri_sld h (i + 2) d_law_572 hX (nI_add i 2) (by omega) (by omega) ?_
  refine ri_i2l h d_law_573 ?_
  refine ri_bipush h 32 d_law_574 rfl ?_
  refine ri_lshl h d_law_576 ?_
  refine ri_aload_n h d_law_577 rfl ?_
  refine ri_iload h d_law_578 rfl ?_
  refine ri_iconst h 3 d_law_580 rfl ?_
  refine ri_iadd h d_law_581 ?_
  refine ri_sld h (i + 3) d_law_582 hX (nI_add i 3) (by omega) (by omega) ?_
  refine ri_i2l h d_law_583 ?_
  refine ri_ldc2 h 4294967295 d_law_584 kl_Lw_88 ?_
  refine ri_land h d_law_587 ?_
  refine ri_lor h d_law_588 ?_
  refine ri_aload_n h d_law_589 rfl ?_
  refine ri_iload h d_law_590 rfl ?_
  refine ri_iconst h 4 d_law_592 rfl ?_
  refine ri_iadd h d_law_593 ?_
  refine ri_sld h (i + 4) d_law_594 hX (nI_add i 4) (by omega) (by omega) ?_
  refine ri_i2l h d_law_595 ?_
  refine ri_bipush h 32 d_law_596 rfl ?_
  refine ri_lshl h d_law_598 ?_
  refine ri_aload_n h d_law_599 rfl ?_
  refine ri_iload h d_law_600 rfl ?_
  refine ri_iconst h 5 d_law_602 rfl ?_
  refine ri_iadd h d_law_603 ?_
  refine ri_sld h (i + 5) d_law_604 hX (nI_add i 5) (by omega) (by omega) ?_
  refine ri_i2l h d_law_605 ?_
  refine ri_ldc2 h 4294967295 d_law_606 kl_Lw_88 ?_
  refine ri_land h d_law_609 ?_
  refine ri_lor h d_law_610 ?_
  refine ri_callV (r := (gR6, gT6, 44)) h [.int (xs (i + 1)), .long (jl (xs (i + 2)) (xs (i + 3))), .long (jl (xs (i + 4)) (xs (i + 5)))] [] d_law_611 cv_Lw_100 hmo rfl rfl rfl (Nat.le_of_ble_eq_true rfl) (Nat.le_of_ble_eq_true rfl) (Nat.le_of_ble_eq_true rfl) (by show cl + 60 + 0 ≤ 601024; omega) (by show sl + 8000 + 0 ≤ 7293000; omega) (hP2 k v M1 hP fo hfo) (fun E M9 h9 => by obtain ⟨v2, h9, -⟩ := h9; cases h9) ?_
  rintro v9 M2 ⟨w, hv2, heq, ⟨g', hI'⟩, ⟨fm2, hm2⟩, fo2, ho2, hf2⟩
  cases hv2
  refine ri_istore h d_law_614 (Nat.le_of_ble_eq_true rfl) ?_
  refine ri_aload_n h d_law_616 rfl ?_
  refine ri_cVv (r := (gR6, gT6, 44)) h [] [] d_law_617 cv_Lw_81 hm2 rfl (k_thrown h0 hm2) rfl rfl (Nat.le_of_ble_eq_true rfl) (Nat.le_of_ble_eq_true rfl) (Nat.le_of_ble_eq_true rfl) (by show cl + 60 + 0 + 0 ≤ 601024; omega) (by show sl + 8000 + 0 + 0 ≤ 7293000; omega) ?_
  refine ri_iload h d_law_620 rfl ?_
  refine ri_icmp_eq h 627 d_law_622 (by decide) (fun c_622 => ?_) (fun c_622 => ?_)
  · refine ri_iload h d_law_627 rfl ?_
    refine ri_if_ne h 651 d_law_629 (by decide) (fun c_629 => ?_) (fun c_629 => ?_)
    · refine ri_goto h 1583 d_law_651 (by decide) ?_
      exact ri_ls [(0, .ref b), (1, .ref x), (2, .ref mo), (3, .ref out), (4, .int (nI i))] ⟨rfl, rfl, rfl, rfl, rfl, trivial⟩ (kk g' M2 hI')
    · have hk0 : k = 0 := by
        rcases Nat.eq_zero_or_pos k with q | q
        · exact q
        · exact absurd c_629 (nI_ne0 q (by omega))
      have e1 := heq hk0
      have e2 := hf2 hk0
      refine ri_aload_n h d_law_632 rfl ?_
      refine ri_iconst h 0 d_law_633 rfl ?_
      refine ri_lald h 0 d_law_634 ho2 rfl (by omega) (by omega) ?_
      refine ri_iload h d_law_635 rfl ?_
      refine ri_if_eq h 644 d_law_637 (by decide) (fun c_637 => ?_) (fun c_637 => ?_)
      · refine ri_lconst h 0 d_law_644 rfl ?_
        refine ri_lcmp_eq h 651 d_law_645 d_law_646 (by decide) (fun c_645 => ?_) (fun c_645 => ?_)
        · refine ri_goto h 1583 d_law_651 (by decide) ?_
          exact ri_ls [(0, .ref b), (1, .ref x), (2, .ref mo), (3, .ref out), (4, .int (nI i))] ⟨rfl, rfl, rfl, rfl, rfl, trivial⟩ (kk g' M2 hI')
        · exact absurd (e2.trans (e1.symm.trans (by rw [jbool, if_pos c_637]))) c_645
      · refine ri_lconst h 1 d_law_640 rfl ?_
        refine ri_goto h 645 d_law_641 (by decide) ?_
        refine ri_lcmp_eq h 651 d_law_645 d_law_646 (by decide) (fun c_645 => ?_) (fun c_645 => ?_)
        · refine ri_goto h 1583 d_law_651 (by decide) ?_
          exact ri_ls [(0, .ref b), (1, .ref x), (2, .ref mo), (3, .ref out), (4, .int (nI i))] ⟨rfl, rfl, rfl, rfl, rfl, trivial⟩ (kk g' M2 hI')
        · exact absurd (e2.trans (e1.symm.trans (by rw [jbool, if_neg c_637]))) c_645
  · exact absurd rfl c_622
theorem lc_place {γ : Type} {Inv : γ → gH → Prop} (h : gF (gzz D s0 (p_, l, e_, R_, s_, m_, ar_, be_, me_, c_) room_1 FL 8) code "ShapeTreesLaw" (some .boolean) [] "law") (h0 : g_0 l D s0) (hX : va_X b L xs s0 s0.heap) (hL : L ≤ 5121) (i : Nat) (hi : i + 10 ≤ L) (hx : ∀ g M, Inv g M → ∃ fx, M x = some (.inr (5, fx))) (hS : ∀ (p0 : Int32) (p1 : Int32) (p2 : Int64) (p3 : Int64) (p4 : Int32), gStep l D s0 Inv x mo out y_ST_place (Cond.code y_ST_place b_ST_place 11 (some .int)) y_Md_place (Cond.code y_Md_place b_Md_place 8 (some .int)) ["java/lang/IndexOutOfBoundsException", "java/lang/IllegalStateException", "java/lang/IllegalArgumentException"] Value.int Int32.toInt64 [.int p0, .int p1, .long p2, .long p3, .int p4]) {g : γ} (hI : Inv g M) (hcl : cl + 60 ≤ 601024) (hsl : sl + 8000 ≤ 7293000)
    (kk : ∀ g' M', Inv g' M' → G (gzz D s0 (p_, l, e_, R_, s_, m_, ar_, be_, me_, c_) room_1 FL 8) 1583 [(0, .ref b), (1, .ref x), (2, .ref mo), (3, .ref out), (4, .int (nI i))] [] M' (cl + 60) (sl + 8000)) : G (gzz D s0 (p_, l, e_, R_, s_, m_, ar_, be_, me_, c_) room_1 FL 8) 654 [(0, .ref b), (1, .ref x), (2, .ref mo), (3, .ref out), (4, .int (nI i))] [] M cl sl := by
  obtain ⟨fx, hfx⟩ := hx g M hI
  obtain ⟨P, ct, hP1, hP2⟩ := hS (xs (i + 1)) (xs (i + 2)) (jl (xs (i + 3)) (xs (i + 4))) (jl (xs (i + 5)) (xs (i + 6))) (xs (i + 7)) g M hI
  refine ri_aload_n h d_law_654 rfl ?_
  refine ri_aload_n h d_law_655 rfl ?_
  refine ri_iload h d_law_656 rfl ?_
  refine ri_iconst h 1 d_law_658 rfl ?_
  refine ri_iadd h d_law_659 ?_
  refine ri_sld h (i + 1) d_law_660 hX (nI_add i 1) (by omega) (by omega) ?_
  refine ri_aload_n h d_law_661 rfl ?_
  refine ri_iload h d_law_662 rfl ?_
  refine ri_iconst h 2 d_law_664 rfl ?_
  refine ri_iadd h d_law_665 ?_
  refine ri_sld h (i + 2) d_law_666 hX (nI_add i 2) (by omega) (by omega) ?_
  refine ri_aload_n h d_law_667 rfl ?_
  refine ri_iload h d_law_668 rfl ?_
  refine ri_iconst h 3 d_law_670 rfl ?_
  refine ri_iadd h d_law_671 ?_
  refine ri_sld h (i + 3) d_law_672 hX (nI_add i 3) (by omega) (by omega) ?_
  refine ri_i2l h d_law_673 ?_
  refine ri_bipush h 32 d_law_674 rfl ?_
  refine ri_lshl h d_law_676 ?_
  refine ri_aload_n h d_law_677 rfl ?_
  refine ri_iload h d_law_678 rfl ?_
  refine ri_iconst h 4 d_law_680 rfl ?_
  refine ri_iadd h d_law_681 ?_
  refine ri_sld h (i + 4) d_law_682 hX (nI_add i 4) (by omega) (by omega) ?_
  refine ri_i2l h d_law_683 ?_
  refine ri_ldc2 h 4294967295 d_law_684 kl_Lw_88 ?_
  refine ri_land h d_law_687 ?_
  refine ri_lor h d_law_688 ?_
  refine ri_aload_n h d_law_689 rfl ?_
  refine ri_iload h d_law_690 rfl ?_
  refine ri_iconst h 5 d_law_692 rfl ?_
  refine ri_iadd h d_law_693 ?_
  refine ri_sld h (i + 5) d_law_694 hX (nI_add i 5) (by omega) (by omega) ?_
  refine ri_i2l h d_law_695 ?_
  refine ri_bipush h 32 d_law_696 rfl ?_
  refine ri_lshl h d_law_698 ?_
  refine ri_aload_n h d_law_699 rfl ?_
  refine ri_iload h d_law_700 rfl ?_
  refine ri_bipush h 6 d_law_702 rfl ?_
  refine ri_iadd h d_law_704 ?_
  refine ri_sld h (i + 6) d_law_705 hX (nI_add i 6) (by omega) (by omega) ?_
  refine ri_i2l h d_law_706 ?_
  refine ri_ldc2 h 4294967295 d_law_707 kl_Lw_88 ?_
  refine ri_land h d_law_710 ?_
  refine ri_lor h d_law_711 ?_
  refine ri_aload_n h d_law_712 rfl ?_
  refine ri_iload h d_law_713 rfl ?_
  refine ri_bipush h 7 d_law_715 rfl ?_
  refine ri_iadd h d_law_717 ?_
  refine ri_sld h (i + 7) d_law_718 hX (nI_add i 7) (by omega) (by omega) ?_
  refine ri_aload_n h d_law_719 rfl ?_
  refine ri_callSX h [.ref x, .int (xs (i + 1)), .int (xs (i + 2)), .long (jl (xs (i + 3)) (xs (i + 4))), .long (jl (xs (i + 5)) (xs (i + 6))), .int (xs (i + 7)), .ref out] [] d_law_720 cx_place rfl rfl (Nat.le_of_ble_eq_true rfl) (Nat.le_of_ble_eq_true rfl) (Nat.le_of_ble_eq_true rfl) hcl hsl (lw_w_place h0 (xs (i + 1)) (xs (i + 2)) (jl (xs (i + 3)) (xs (i + 4))) (jl (xs (i + 5)) (xs (i + 6))) (xs (i + 7)) hfx (fun k v M1 hP => (hP1 k v M1 hP).2.1) ct) (fun E M9 h9 => by obtain ⟨k, v, M1, -, h9, -⟩ := h9; cases h9) ?_
  rintro v9 M9 ⟨k, v, M1, hP, hv, fo, hfo, rfl⟩
  cases hv
  obtain ⟨hk10, -, fm, hfm⟩ := hP1 k v M1 hP
  have hmo : (if k = 0 then gup M1 out (al 1 (va_up fo 0 (Int32.toInt64 v))) else M1) mo = some (.inr (6, fm)) := by
    split
    · exact gup_t (Ne.symm (gneA hfo hfm)) hfm
    · exact hfm
  refine ri_istore h d_law_723 (Nat.le_of_ble_eq_true rfl) ?_
  refine ri_aload_n h d_law_725 rfl ?_
  refine ri_aload_n h d_law_726 rfl ?_
  refine ri_iload h d_law_727 rfl ?_
  refine ri_iconst h 1 d_law_729 rfl ?_
  refine ri_iadd h d_law_730 ?_
  refine ri_sld h (i + 1) d_law_731 hX (nI_add i 1) (by omega) (by omega) ?_
  refine ri_aload_n h d_law_732 rfl ?_
  refine ri_iload h d_law_733 rfl ?_
  refine ri_iconst h 2 d_law_735 rfl ?_
  refine ri_iadd h d_law_736 ?_
  refine ri_sld h (i + 2) d_law_737 hX (nI_add i 2) (by omega) (by omega) ?_
  refine ri_aload_n h d_law_738 rfl ?_
  refine ri_iload h d_law_739 rfl ?_
  refine ri_iconst h 3 d_law_741 rfl ?_
  refine ri_iadd h d_law_742 ?_
  refine ri_sld h (i + 3) d_law_743 hX (nI_add i 3) (by omega) (by omega) ?_
  refine ri_i2l h d_law_744 ?_
  refine ri_bipush h 32 d_law_745 rfl ?_
  refine ri_lshl h d_law_747 ?_
  refine ri_aload_n h d_law_748 rfl ?_
  refine ri_iload h d_law_749 rfl ?_
  refine ri_iconst h 4 d_law_751 rfl ?_
  refine ri_iadd h d_law_752 ?_
  refine ri_sld h (i + 4) d_law_753 hX (nI_add i 4) (by omega) (by omega) ?_
  refine ri_i2l h d_law_754 ?_
  refine ri_ldc2 h 4294967295 d_law_755 kl_Lw_88 ?_
  refine ri_land h d_law_758 ?_
  refine ri_lor h d_law_759 ?_
  refine ri_aload_n h d_law_760 rfl ?_
  refine ri_iload h d_law_761 rfl ?_
  refine ri_iconst h 5 d_law_763 rfl ?_
  refine ri_iadd h d_law_764 ?_
  refine ri_sld h (i + 5) d_law_765 hX (nI_add i 5) (by omega) (by omega) ?_
  refine ri_i2l h d_law_766 ?_
  refine ri_bipush h 32 d_law_767 rfl ?_
  refine ri_lshl h d_law_769 ?_
  refine ri_aload_n h d_law_770 rfl ?_
  refine ri_iload h d_law_771 rfl ?_
  refine ri_bipush h 6 d_law_773 rfl ?_
  refine ri_iadd h d_law_775 ?_
  refine ri_sld h (i + 6) d_law_776 hX (nI_add i 6) (by omega) (by omega) ?_
  refine ri_i2l h d_law_777 ?_
  refine ri_ldc2 h 4294967295 d_law_778 kl_Lw_88 ?_
  refine ri_land h d_law_781 ?_
  refine ri_lor h d_law_782 ?_
  refine ri_aload_n h d_law_783 rfl ?_
  refine ri_iload h d_law_784 rfl ?_
  refine ri_bipush h 7 d_law_786 rfl ?_
  refine ri_iadd h d_law_788 ?_
  refine ri_sld h (i + 7) d_law_789 hX (nI_add i 7) (by omega) (by omega) ?_
  refine ri_callV (r := (gR6, gT6, 44)) h [.int (xs (i + 1)), .int (xs (i + 2)), .long (jl (xs (i + 3)) (xs (i + 4))), .long (jl (xs (i + 5)) (xs (i + 6))), .int (xs (i + 7))] [] d_law_790 cv_Lw_104 hmo rfl rfl rfl (Nat.le_of_ble_eq_true rfl) (Nat.le_of_ble_eq_true rfl) (Nat.le_of_ble_eq_true rfl) (by show cl + 60 + 0 ≤ 601024; omega) (by show sl + 8000 + 0 ≤ 7293000; omega) (hP2 k v M1 hP fo hfo) (fun E M9 h9 => by obtain ⟨v2, h9, -⟩ := h9; cases h9) ?_
  rintro v9 M2 ⟨w, hv2, heq, ⟨g', hI'⟩, ⟨fm2, hm2⟩, fo2, ho2, hf2⟩
  cases hv2
  refine ri_istore h d_law_793 (Nat.le_of_ble_eq_true rfl) ?_
  refine ri_aload_n h d_law_795 rfl ?_
  refine ri_cVv (r := (gR6, gT6, 44)) h [] [] d_law_796 cv_Lw_81 hm2 rfl (k_thrown h0 hm2) rfl rfl (Nat.le_of_ble_eq_true rfl) (Nat.le_of_ble_eq_true rfl) (Nat.le_of_ble_eq_true rfl) (by show cl + 60 + 0 + 0 ≤ 601024; omega) (by show sl + 8000 + 0 + 0 ≤ 7293000; omega) ?_
  refine ri_iload h d_law_799 rfl ?_
  refine ri_icmp_eq h 806 d_law_801 (by decide) (fun c_801 => ?_) (fun c_801 => ?_)
  · refine ri_iload h d_law_806 rfl ?_
    refine ri_if_ne h 823 d_law_808 (by decide) (fun c_808 => ?_) (fun c_808 => ?_)
    · refine ri_goto h 1583 d_law_823 (by decide) ?_
      exact ri_ls [(0, .ref b), (1, .ref x), (2, .ref mo), (3, .ref out), (4, .int (nI i))] ⟨rfl, rfl, rfl, rfl, rfl, trivial⟩ (kk g' M2 hI')
    · have hk0 : k = 0 := by
        rcases Nat.eq_zero_or_pos k with q | q
        · exact q
        · exact absurd c_808 (nI_ne0 q (by omega))
      have e1 := heq hk0
      have e2 := hf2 hk0
      refine ri_aload_n h d_law_811 rfl ?_
      refine ri_iconst h 0 d_law_812 rfl ?_
      refine ri_lald h 0 d_law_813 ho2 rfl (by omega) (by omega) ?_
      refine ri_iload h d_law_814 rfl ?_
      refine ri_i2l h d_law_816 ?_
      refine ri_lcmp_eq h 823 d_law_817 d_law_818 (by decide) (fun c_817 => ?_) (fun c_817 => ?_)
      · refine ri_goto h 1583 d_law_823 (by decide) ?_
        exact ri_ls [(0, .ref b), (1, .ref x), (2, .ref mo), (3, .ref out), (4, .int (nI i))] ⟨rfl, rfl, rfl, rfl, rfl, trivial⟩ (kk g' M2 hI')
      · exact absurd (e2.trans e1.symm) c_817
  · exact absurd rfl c_801
theorem lc_array {γ : Type} {Inv : γ → gH → Prop} (h : gF (gzz D s0 (p_, l, e_, R_, s_, m_, ar_, be_, me_, c_) room_1 FL 8) code "ShapeTreesLaw" (some .boolean) [] "law") (h0 : g_0 l D s0) (hX : va_X b L xs s0 s0.heap) (hL : L ≤ 5121) (i : Nat) (hi : i + 10 ≤ L) (hx : ∀ g M, Inv g M → ∃ fx, M x = some (.inr (5, fx))) (hS : ∀ (p0 : Int32) (p1 : Int32) (p2 : Int32) (p3 : Int64) (p4 : Int64), gStep l D s0 Inv x mo out y_ST_array (Cond.code y_ST_array b_ST_array 9 (some .int)) y_Md_array (Cond.code y_Md_array b_Md_array 8 (some .int)) ["java/lang/IndexOutOfBoundsException", "java/lang/IllegalArgumentException"] Value.int Int32.toInt64 [.int p0, .int p1, .int p2, .long p3, .long p4]) {g : γ} (hI : Inv g M) (hcl : cl + 60 ≤ 601024) (hsl : sl + 8000 ≤ 7293000)
    (kk : ∀ g' M', Inv g' M' → G (gzz D s0 (p_, l, e_, R_, s_, m_, ar_, be_, me_, c_) room_1 FL 8) 1583 [(0, .ref b), (1, .ref x), (2, .ref mo), (3, .ref out), (4, .int (nI i))] [] M' (cl + 60) (sl + 8000)) : G (gzz D s0 (p_, l, e_, R_, s_, m_, ar_, be_, me_, c_) room_1 FL 8) 826 [(0, .ref b), (1, .ref x), (2, .ref mo), (3, .ref out), (4, .int (nI i))] [] M cl sl := by
  obtain ⟨fx, hfx⟩ := hx g M hI
  obtain ⟨P, ct, hP1, hP2⟩ := hS (xs (i + 1)) (xs (i + 2)) (xs (i + 3)) (jl (xs (i + 4)) (xs (i + 5))) (jl (xs (i + 6)) (xs (i + 7))) g M hI
  refine ri_aload_n h d_law_826 rfl ?_
  refine ri_aload_n h d_law_827 rfl ?_
  refine ri_iload h d_law_828 rfl ?_
  refine ri_iconst h 1 d_law_830 rfl ?_
  refine ri_iadd h d_law_831 ?_
  refine ri_sld h (i + 1) d_law_832 hX (nI_add i 1) (by omega) (by omega) ?_
  refine ri_aload_n h d_law_833 rfl ?_
  refine ri_iload h d_law_834 rfl ?_
  refine ri_iconst h 2 d_law_836 rfl ?_
  refine ri_iadd h d_law_837 ?_
  refine ri_sld h (i + 2) d_law_838 hX (nI_add i 2) (by omega) (by omega) ?_
  refine ri_aload_n h d_law_839 rfl ?_
  refine ri_iload h d_law_840 rfl ?_
  refine ri_iconst h 3 d_law_842 rfl ?_
  refine ri_iadd h d_law_843 ?_
  refine ri_sld h (i + 3) d_law_844 hX (nI_add i 3) (by omega) (by omega) ?_
  refine ri_aload_n h d_law_845 rfl ?_
  refine ri_iload h d_law_846 rfl ?_
  refine ri_iconst h 4 d_law_848 rfl ?_
  refine ri_iadd h d_law_849 ?_
  refine ri_sld h (i + 4) d_law_850 hX (nI_add i 4) (by omega) (by omega) ?_
  refine ri_i2l h d_law_851 ?_
  refine ri_bipush h 32 d_law_852 rfl ?_
  refine ri_lshl h d_law_854 ?_
  refine ri_aload_n h d_law_855 rfl ?_
  refine ri_iload h d_law_856 rfl ?_
  refine ri_iconst h 5 d_law_858 rfl ?_
  refine ri_iadd h d_law_859 ?_
  refine ri_sld h (i + 5) d_law_860 hX (nI_add i 5) (by omega) (by omega) ?_
  refine ri_i2l h d_law_861 ?_
  refine ri_ldc2 h 4294967295 d_law_862 kl_Lw_88 ?_
  refine ri_land h d_law_865 ?_
  refine ri_lor h d_law_866 ?_
  refine ri_aload_n h d_law_867 rfl ?_
  refine ri_iload h d_law_868 rfl ?_
  refine ri_bipush h 6 d_law_870 rfl ?_
  refine ri_iadd h d_law_872 ?_
  refine ri_sld h (i + 6) d_law_873 hX (nI_add i 6) (by omega) (by omega) ?_
  refine ri_i2l h d_law_874 ?_
  refine ri_bipush h 32 d_law_875 rfl ?_
  refine ri_lshl h d_law_877 ?_
  refine ri_aload_n h d_law_878 rfl ?_
  refine ri_iload h d_law_879 rfl ?_
  refine ri_bipush h 7 d_law_881 rfl ?_
  refine ri_iadd h d_law_883 ?_
  refine ri_sld h (i + 7) d_law_884 hX (nI_add i 7) (by omega) (by omega) ?_
  refine ri_i2l h d_law_885 ?_
  refine ri_ldc2 h 4294967295 d_law_886 kl_Lw_88 ?_
  refine ri_land h d_law_889 ?_
  refine ri_lor h d_law_890 ?_
  refine ri_aload_n h d_law_891 rfl ?_
  refine ri_callSX h [.ref x, .int (xs (i + 1)), .int (xs (i + 2)), .int (xs (i + 3)), .long (jl (xs (i + 4)) (xs (i + 5))), .long (jl (xs (i + 6)) (xs (i + 7))), .ref out] [] d_law_892 cx_array rfl rfl (Nat.le_of_ble_eq_true rfl) (Nat.le_of_ble_eq_true rfl) (Nat.le_of_ble_eq_true rfl) hcl hsl (lw_w_array h0 (xs (i + 1)) (xs (i + 2)) (xs (i + 3)) (jl (xs (i + 4)) (xs (i + 5))) (jl (xs (i + 6)) (xs (i + 7))) hfx (fun k v M1 hP => (hP1 k v M1 hP).2.1) ct) (fun E M9 h9 => by obtain ⟨k, v, M1, -, h9, -⟩ := h9; cases h9) ?_
  rintro v9 M9 ⟨k, v, M1, hP, hv, fo, hfo, rfl⟩
  cases hv
  obtain ⟨hk10, -, fm, hfm⟩ := hP1 k v M1 hP
  have hmo : (if k = 0 then gup M1 out (al 1 (va_up fo 0 (Int32.toInt64 v))) else M1) mo = some (.inr (6, fm)) := by
    split
    · exact gup_t (Ne.symm (gneA hfo hfm)) hfm
    · exact hfm
  refine ri_istore h d_law_895 (Nat.le_of_ble_eq_true rfl) ?_
  refine ri_aload_n h d_law_897 rfl ?_
  refine ri_aload_n h d_law_898 rfl ?_
  refine ri_iload h d_law_899 rfl ?_
  refine ri_iconst h 1 d_law_901 rfl ?_
  refine ri_iadd h d_law_902 ?_
  refine ri_sld h (i + 1) d_law_903 hX (nI_add i 1) (by omega) (by omega) ?_
  refine ri_aload_n h d_law_904 rfl ?_
  refine ri_iload h d_law_905 rfl ?_
  refine ri_iconst h 2 d_law_907 rfl ?_
  refine ri_iadd h d_law_908 ?_
  refine ri_sld h (i + 2) d_law_909 hX (nI_add i 2) (by omega) (by omega) ?_
  refine ri_aload_n h d_law_910 rfl ?_
  refine ri_iload h d_law_911 rfl ?_
  refine ri_iconst h 3 d_law_913 rfl ?_
  refine ri_iadd h d_law_914 ?_
  refine ri_sld h (i + 3) d_law_915 hX (nI_add i 3) (by omega) (by omega) ?_
  refine ri_aload_n h d_law_916 rfl ?_
  refine ri_iload h d_law_917 rfl ?_
  refine ri_iconst h 4 d_law_919 rfl ?_
  refine ri_iadd h d_law_920 ?_
  refine ri_sld h (i + 4) d_law_921 hX (nI_add i 4) (by omega) (by omega) ?_
  refine ri_i2l h d_law_922 ?_
  refine ri_bipush h 32 d_law_923 rfl ?_
  refine ri_lshl h d_law_925 ?_
  refine ri_aload_n h d_law_926 rfl ?_
  refine ri_iload h d_law_927 rfl ?_
  refine ri_iconst h 5 d_law_929 rfl ?_
  refine ri_iadd h d_law_930 ?_
  refine ri_sld h (i + 5) d_law_931 hX (nI_add i 5) (by omega) (by omega) ?_
  refine ri_i2l h d_law_932 ?_
  refine ri_ldc2 h 4294967295 d_law_933 kl_Lw_88 ?_
  refine ri_land h d_law_936 ?_
  refine ri_lor h d_law_937 ?_
  refine ri_aload_n h d_law_938 rfl ?_
  refine ri_iload h d_law_939 rfl ?_
  refine ri_bipush h 6 d_law_941 rfl ?_
  refine ri_iadd h d_law_943 ?_
  refine ri_sld h (i + 6) d_law_944 hX (nI_add i 6) (by omega) (by omega) ?_
  refine ri_i2l h d_law_945 ?_
  refine ri_bipush h 32 d_law_946 rfl ?_
  refine ri_lshl h d_law_948 ?_
  refine ri_aload_n h d_law_949 rfl ?_
  refine ri_iload h d_law_950 rfl ?_
  refine ri_bipush h 7 d_law_952 rfl ?_
  refine ri_iadd h d_law_954 ?_
  refine ri_sld h (i + 7) d_law_955 hX (nI_add i 7) (by omega) (by omega) ?_
  refine ri_i2l h d_law_956 ?_
  refine ri_ldc2 h 4294967295 d_law_957 kl_Lw_88 ?_
  refine ri_land h d_law_960 ?_
  refine ri_lor h d_law_961 ?_
  refine ri_callV (r := (gR6, gT6, 44)) h [.int (xs (i + 1)), .int (xs (i + 2)), .int (xs (i + 3)), .long (jl (xs (i + 4)) (xs (i + 5))), .long (jl (xs (i + 6)) (xs (i + 7)))] [] d_law_962 cv_Lw_108 hmo rfl rfl rfl (Nat.le_of_ble_eq_true rfl) (Nat.le_of_ble_eq_true rfl) (Nat.le_of_ble_eq_true rfl) (by show cl + 60 + 0 ≤ 601024; omega) (by show sl + 8000 + 0 ≤ 7293000; omega) (hP2 k v M1 hP fo hfo) (fun E M9 h9 => by obtain ⟨v2, h9, -⟩ := h9; cases h9) ?_
  rintro v9 M2 ⟨w, hv2, heq, ⟨g', hI'⟩, ⟨fm2, hm2⟩, fo2, ho2, hf2⟩
  cases hv2
  refine ri_istore h d_law_965 (Nat.le_of_ble_eq_true rfl) ?_
  refine ri_aload_n h d_law_967 rfl ?_
  refine ri_cVv (r := (gR6, gT6, 44)) h [] [] d_law_968 cv_Lw_81 hm2 rfl (k_thrown h0 hm2) rfl rfl (Nat.le_of_ble_eq_true rfl) (Nat.le_of_ble_eq_true rfl) (Nat.le_of_ble_eq_true rfl) (by show cl + 60 + 0 + 0 ≤ 601024; omega) (by show sl + 8000 + 0 + 0 ≤ 7293000; omega) ?_
  refine ri_iload h d_law_971 rfl ?_
  refine ri_icmp_eq h 978 d_law_973 (by decide) (fun c_973 => ?_) (fun c_973 => ?_)
  · refine ri_iload h d_law_978 rfl ?_
    refine ri_if_ne h 995 d_law_980 (by decide) (fun c_980 => ?_) (fun c_980 => ?_)
    · refine ri_goto h 1583 d_law_995 (by decide) ?_
      exact ri_ls [(0, .ref b), (1, .ref x), (2, .ref mo), (3, .ref out), (4, .int (nI i))] ⟨rfl, rfl, rfl, rfl, rfl, trivial⟩ (kk g' M2 hI')
    · have hk0 : k = 0 := by
        rcases Nat.eq_zero_or_pos k with q | q
        · exact q
        · exact absurd c_980 (nI_ne0 q (by omega))
      have e1 := heq hk0
      have e2 := hf2 hk0
      refine ri_aload_n h d_law_983 rfl ?_
      refine ri_iconst h 0 d_law_984 rfl ?_
      refine ri_lald h 0 d_law_985 ho2 rfl (by omega) (by omega) ?_
      refine ri_iload h d_law_986 rfl ?_
      refine ri_i2l h d_law_988 ?_
      refine ri_lcmp_eq h 995 d_law_989 d_law_990 (by decide) (fun c_989 => ?_) (fun c_989 => ?_)
      · refine ri_goto h 1583 d_law_995 (by decide) ?_
        exact ri_ls [(0, .ref b), (1, .ref x), (2, .ref mo), (3, .ref out), (4, .int (nI i))] ⟨rfl, rfl, rfl, rfl, rfl, trivial⟩ (kk g' M2 hI')
      · exact absurd (e2.trans e1.symm) c_989
  · exact absurd rfl c_973
theorem lc_box {γ : Type} {Inv : γ → gH → Prop} (h : gF (gzz D s0 (p_, l, e_, R_, s_, m_, ar_, be_, me_, c_) room_1 FL 8) code "ShapeTreesLaw" (some .boolean) [] "law") (h0 : g_0 l D s0) (hX : va_X b L xs s0 s0.heap) (hL : L ≤ 5121) (i : Nat) (hi : i + 10 ≤ L) (hx : ∀ g M, Inv g M → ∃ fx, M x = some (.inr (5, fx))) (hS : ∀ (p0 : Int32) (p1 : Int32) (p2 : Int32), gStep l D s0 Inv x mo out y_ST_box (Cond.code y_ST_box b_ST_box 5 (some .long)) y_Md_box (Cond.code y_Md_box b_Md_box 6 (some .long)) ["java/lang/IndexOutOfBoundsException", "java/lang/IllegalStateException"] Value.long (fun x : Int64 => x) [.int p0, .int p1, .int p2]) {g : γ} (hI : Inv g M) (hcl : cl + 60 ≤ 601024) (hsl : sl + 8000 ≤ 7293000)
    (kk : ∀ g' M', Inv g' M' → G (gzz D s0 (p_, l, e_, R_, s_, m_, ar_, be_, me_, c_) room_1 FL 8) 1583 [(0, .ref b), (1, .ref x), (2, .ref mo), (3, .ref out), (4, .int (nI i))] [] M' (cl + 60) (sl + 8000)) : G (gzz D s0 (p_, l, e_, R_, s_, m_, ar_, be_, me_, c_) room_1 FL 8) 998 [(0, .ref b), (1, .ref x), (2, .ref mo), (3, .ref out), (4, .int (nI i))] [] M cl sl := by
  obtain ⟨fx, hfx⟩ := hx g M hI
  obtain ⟨P, ct, hP1, hP2⟩ := hS (xs (i + 1)) (xs (i + 2)) (xs (i + 3)) g M hI
  refine ri_aload_n h d_law_998 rfl ?_
  refine ri_aload_n h d_law_999 rfl ?_
  refine ri_iload h d_law_1000 rfl ?_
  refine ri_iconst h 1 d_law_1002 rfl ?_
  refine ri_iadd h d_law_1003 ?_
  refine ri_sld h (i + 1) d_law_1004 hX (nI_add i 1) (by omega) (by omega) ?_
  refine ri_aload_n h d_law_1005 rfl ?_
  refine ri_iload h d_law_1006 rfl ?_
  refine ri_iconst h 2 d_law_1008 rfl ?_
  refine ri_iadd h d_law_1009 ?_
  refine ri_sld h (i + 2) d_law_1010 hX (nI_add i 2) (by omega) (by omega) ?_
  refine ri_aload_n h d_law_1011 rfl ?_
  refine ri_iload h d_law_1012 rfl ?_
  refine ri_iconst h 3 d_law_1014 rfl ?_
  refine ri_iadd h d_law_1015 ?_
  refine ri_sld h (i + 3) d_law_1016 hX (nI_add i 3) (by omega) (by omega) ?_
  refine ri_aload_n h d_law_1017 rfl ?_
  refine ri_callSX h [.ref x, .int (xs (i + 1)), .int (xs (i + 2)), .int (xs (i + 3)), .ref out] [] d_law_1018 cx_box rfl rfl (Nat.le_of_ble_eq_true rfl) (Nat.le_of_ble_eq_true rfl) (Nat.le_of_ble_eq_true rfl) hcl hsl (lw_w_box h0 (xs (i + 1)) (xs (i + 2)) (xs (i + 3)) hfx (fun k v M1 hP => (hP1 k v M1 hP).2.1) ct) (fun E M9 h9 => by obtain ⟨k, v, M1, -, h9, -⟩ := h9; cases h9) ?_
  rintro v9 M9 ⟨k, v, M1, hP, hv, fo, hfo, rfl⟩
  cases hv
  obtain ⟨hk10, -, fm, hfm⟩ := hP1 k v M1 hP
  have hmo : (if k = 0 then gup M1 out (al 1 (va_up fo 0 ((fun x : Int64 => x) v))) else M1) mo = some (.inr (6, fm)) := by
    split
    · exact gup_t (Ne.symm (gneA hfo hfm)) hfm
    · exact hfm
  refine ri_istore h d_law_1021 (Nat.le_of_ble_eq_true rfl) ?_
  refine ri_aload_n h d_law_1023 rfl ?_
  refine ri_aload_n h d_law_1024 rfl ?_
  refine ri_iload h d_law_1025 rfl ?_
  refine ri_iconst h 1 d_law_1027 rfl ?_
  refine ri_iadd h d_law_1028 ?_
  refine ri_sld h (i + 1) d_law_1029 hX (nI_add i 1) (by omega) (by omega) ?_
  refine ri_aload_n h d_law_1030 rfl ?_
  refine ri_iload h d_law_1031 rfl ?_
  refine ri_iconst h 2 d_law_1033 rfl ?_
  refine ri_iadd h d_law_1034 ?_
  refine ri_sld h (i + 2) d_law_1035 hX (nI_add i 2) (by omega) (by omega) ?_
  refine ri_aload_n h d_law_1036 rfl ?_
  refine ri_iload h d_law_1037 rfl ?_
  refine ri_iconst h 3 d_law_1039 rfl ?_
  refine ri_iadd h d_law_1040 ?_
  refine ri_sld h (i + 3) d_law_1041 hX (nI_add i 3) (by omega) (by omega) ?_
  refine ri_callV (r := (gR6, gT6, 44)) h [.int (xs (i + 1)), .int (xs (i + 2)), .int (xs (i + 3))] [] d_law_1042 cv_Lw_112 hmo rfl rfl rfl (Nat.le_of_ble_eq_true rfl) (Nat.le_of_ble_eq_true rfl) (Nat.le_of_ble_eq_true rfl) (by show cl + 60 + 0 ≤ 601024; omega) (by show sl + 8000 + 0 ≤ 7293000; omega) (hP2 k v M1 hP fo hfo) (fun E M9 h9 => by obtain ⟨v2, h9, -⟩ := h9; cases h9) ?_
  rintro v9 M2 ⟨w, hv2, heq, ⟨g', hI'⟩, ⟨fm2, hm2⟩, fo2, ho2, hf2⟩
  cases hv2
  refine ri_lstore h d_law_1045 (Nat.le_of_ble_eq_true rfl) ?_
  refine ri_aload_n h d_law_1047 rfl ?_
  refine ri_cVv (r := (gR6, gT6, 44)) h [] [] d_law_1048 cv_Lw_81 hm2 rfl (k_thrown h0 hm2) rfl rfl (Nat.le_of_ble_eq_true rfl) (Nat.le_of_ble_eq_true rfl) (Nat.le_of_ble_eq_true rfl) (by show cl + 60 + 0 + 0 ≤ 601024; omega) (by show sl + 8000 + 0 + 0 ≤ 7293000; omega) ?_
  refine ri_iload h d_law_1051 rfl ?_
  refine ri_icmp_eq h 1058 d_law_1053 (by decide) (fun c_1053 => ?_) (fun c_1053 => ?_)
  · refine ri_iload h d_law_1058 rfl ?_
    refine ri_if_ne h 1074 d_law_1060 (by decide) (fun c_1060 => ?_) (fun c_1060 => ?_)
    · refine ri_goto h 1583 d_law_1074 (by decide) ?_
      exact ri_ls [(0, .ref b), (1, .ref x), (2, .ref mo), (3, .ref out), (4, .int (nI i))] ⟨rfl, rfl, rfl, rfl, rfl, trivial⟩ (kk g' M2 hI')
    · have hk0 : k = 0 := by
        rcases Nat.eq_zero_or_pos k with q | q
        · exact q
        · exact absurd c_1060 (nI_ne0 q (by omega))
      have e1 := heq hk0
      have e2 := hf2 hk0
      refine ri_aload_n h d_law_1063 rfl ?_
      refine ri_iconst h 0 d_law_1064 rfl ?_
      refine ri_lald h 0 d_law_1065 ho2 rfl (by omega) (by omega) ?_
      refine ri_lload h d_law_1066 rfl ?_
      refine ri_lcmp_eq h 1074 d_law_1068 d_law_1069 (by decide) (fun c_1068 => ?_) (fun c_1068 => ?_)
      · refine ri_goto h 1583 d_law_1074 (by decide) ?_
        exact ri_ls [(0, .ref b), (1, .ref x), (2, .ref mo), (3, .ref out), (4, .int (nI i))] ⟨rfl, rfl, rfl, rfl, rfl, trivial⟩ (kk g' M2 hI')
      · exact absurd (e2.trans e1.symm) c_1068
  · exact absurd rfl c_1053
theorem lc_flat {γ : Type} {Inv : γ → gH → Prop} (h : gF (gzz D s0 (p_, l, e_, R_, s_, m_, ar_, be_, me_, c_) room_1 FL 8) code "ShapeTreesLaw" (some .boolean) [] "law") (h0 : g_0 l D s0) (hX : va_X b L xs s0 s0.heap) (hL : L ≤ 5121) (i : Nat) (hi : i + 10 ≤ L) (hx : ∀ g M, Inv g M → ∃ fx, M x = some (.inr (5, fx))) (hS : ∀ (p0 : Int32) (p1 : Int32), gStep l D s0 Inv x mo out y_ST_flat (Cond.code y_ST_flat b_ST_flat 4 (some .int)) y_Md_flat (Cond.code y_Md_flat b_Md_flat 3 (some .int)) ["java/lang/IndexOutOfBoundsException", "java/lang/UnsupportedOperationException"] Value.int Int32.toInt64 [.int p0, .int p1]) {g : γ} (hI : Inv g M) (hcl : cl + 60 ≤ 601024) (hsl : sl + 8000 ≤ 7293000)
    (kk : ∀ g' M', Inv g' M' → G (gzz D s0 (p_, l, e_, R_, s_, m_, ar_, be_, me_, c_) room_1 FL 8) 1583 [(0, .ref b), (1, .ref x), (2, .ref mo), (3, .ref out), (4, .int (nI i))] [] M' (cl + 60) (sl + 8000)) : G (gzz D s0 (p_, l, e_, R_, s_, m_, ar_, be_, me_, c_) room_1 FL 8) 1077 [(0, .ref b), (1, .ref x), (2, .ref mo), (3, .ref out), (4, .int (nI i))] [] M cl sl := by
  obtain ⟨fx, hfx⟩ := hx g M hI
  obtain ⟨P, ct, hP1, hP2⟩ := hS (xs (i + 1)) (xs (i + 2)) g M hI
  refine ri_aload_n h d_law_1077 rfl ?_
  refine ri_aload_n h d_law_1078 rfl ?_
  refine ri_iload h d_law_1079 rfl ?_
  refine ri_iconst h 1 d_law_1081 rfl ?_
  refine ri_iadd h d_law_1082 ?_
  refine ri_sld h (i + 1) d_law_1083 hX (nI_add i 1) (by omega) (by omega) ?_
  refine ri_aload_n h d_law_1084 rfl ?_
  refine ri_iload h d_law_1085 rfl ?_
  refine ri_iconst h 2 d_law_1087 rfl ?_
  refine ri_iadd h d_law_1088 ?_
  refine ri_sld h (i + 2) d_law_1089 hX (nI_add i 2) (by omega) (by omega) ?_
  refine ri_aload_n h d_law_1090 rfl ?_
  refine ri_callSX h [.ref x, .int (xs (i + 1)), .int (xs (i + 2)), .ref out] [] d_law_1091 cx_flat rfl rfl (Nat.le_of_ble_eq_true rfl) (Nat.le_of_ble_eq_true rfl) (Nat.le_of_ble_eq_true rfl) hcl hsl (lw_w_flat h0 (xs (i + 1)) (xs (i + 2)) hfx (fun k v M1 hP => (hP1 k v M1 hP).2.1) ct) (fun E M9 h9 => by obtain ⟨k, v, M1, -, h9, -⟩ := h9; cases h9) ?_
  rintro v9 M9 ⟨k, v, M1, hP, hv, fo, hfo, rfl⟩
  cases hv
  obtain ⟨hk10, -, fm, hfm⟩ := hP1 k v M1 hP
  have hmo : (if k = 0 then gup M1 out (al 1 (va_up fo 0 (Int32.toInt64 v))) else M1) mo = some (.inr (6, fm)) := by
    split
    · exact gup_t (Ne.symm (gneA hfo hfm)) hfm
    · exact hfm
  refine ri_istore h d_law_1094 (Nat.le_of_ble_eq_true rfl) ?_
  refine ri_aload_n h d_law_1096 rfl ?_
  refine ri_aload_n h d_law_1097 rfl ?_
  refine ri_iload h d_law_1098 rfl ?_
  refine ri_iconst h 1 d_law_1100 rfl ?_
  refine ri_iadd h d_law_1101 ?_
  refine ri_sld h (i + 1) d_law_1102 hX (nI_add i 1) (by omega) (by omega) ?_
  refine ri_aload_n h d_law_1103 rfl ?_
  refine ri_iload h d_law_1104 rfl ?_
  refine ri_iconst h 2 d_law_1106 rfl ?_
  refine ri_iadd h d_law_1107 ?_
  refine ri_sld h (i + 2) d_law_1108 hX (nI_add i 2) (by omega) (by omega) ?_
  refine ri_callV (r := (gR6, gT6, 44)) h [.int (xs (i + 1)), .int (xs (i + 2))] [] d_law_1109 cv_Lw_115 hmo rfl rfl rfl (Nat.le_of_ble_eq_true rfl) (Nat.le_of_ble_eq_true rfl) (Nat.le_of_ble_eq_true rfl) (by show cl + 60 + 0 ≤ 601024; omega) (by show sl + 8000 + 0 ≤ 7293000; omega) (hP2 k v M1 hP fo hfo) (fun E M9 h9 => by obtain ⟨v2, h9, -⟩ := h9; cases h9) ?_
  rintro v9 M2 ⟨w, hv2, heq, ⟨g', hI'⟩, ⟨fm2, hm2⟩, fo2, ho2, hf2⟩
  cases hv2
  refine ri_istore h d_law_1112 (Nat.le_of_ble_eq_true rfl) ?_
  refine ri_aload_n h d_law_1114 rfl ?_
  refine ri_cVv (r := (gR6, gT6, 44)) h [] [] d_law_1115 cv_Lw_81 hm2 rfl (k_thrown h0 hm2) rfl rfl (Nat.le_of_ble_eq_true rfl) (Nat.le_of_ble_eq_true rfl) (Nat.le_of_ble_eq_true rfl) (by show cl + 60 + 0 + 0 ≤ 601024; omega) (by show sl + 8000 + 0 + 0 ≤ 7293000; omega) ?_
  refine ri_iload h d_law_1118 rfl ?_
  refine ri_icmp_eq h 1125 d_law_1120 (by decide) (fun c_1120 => ?_) (fun c_1120 => ?_)
  · refine ri_iload h d_law_1125 rfl ?_
    refine ri_if_ne h 1142 d_law_1127 (by decide) (fun c_1127 => ?_) (fun c_1127 => ?_)
    · refine ri_goto h 1583 d_law_1142 (by decide) ?_
      exact ri_ls [(0, .ref b), (1, .ref x), (2, .ref mo), (3, .ref out), (4, .int (nI i))] ⟨rfl, rfl, rfl, rfl, rfl, trivial⟩ (kk g' M2 hI')
    · have hk0 : k = 0 := by
        rcases Nat.eq_zero_or_pos k with q | q
        · exact q
        · exact absurd c_1127 (nI_ne0 q (by omega))
      have e1 := heq hk0
      have e2 := hf2 hk0
      refine ri_aload_n h d_law_1130 rfl ?_
      refine ri_iconst h 0 d_law_1131 rfl ?_
      refine ri_lald h 0 d_law_1132 ho2 rfl (by omega) (by omega) ?_
      refine ri_iload h d_law_1133 rfl ?_
      refine ri_i2l h d_law_1135 ?_
      refine ri_lcmp_eq h 1142 d_law_1136 d_law_1137 (by decide) (fun c_1136 => ?_) (fun c_1136 => ?_)
      · refine ri_goto h 1583 d_law_1142 (by decide) ?_
        exact ri_ls [(0, .ref b), (1, .ref x), (2, .ref mo), (3, .ref out), (4, .int (nI i))] ⟨rfl, rfl, rfl, rfl, rfl, trivial⟩ (kk g' M2 hI')
      · exact absurd (e2.trans e1.symm) c_1136
  · exact absurd rfl c_1120
theorem lc_at {γ : Type} {Inv : γ → gH → Prop} (h : gF (gzz D s0 (p_, l, e_, R_, s_, m_, ar_, be_, me_, c_) room_1 FL 8) code "ShapeTreesLaw" (some .boolean) [] "law") (h0 : g_0 l D s0) (hX : va_X b L xs s0 s0.heap) (hL : L ≤ 5121) (i : Nat) (hi : i + 10 ≤ L) (hx : ∀ g M, Inv g M → ∃ fx, M x = some (.inr (5, fx))) (hS : ∀ (p0 : Int32) (p1 : Int32) (p2 : Int32), gStep l D s0 Inv x mo out y_ST_at (Cond.code y_ST_at b_ST_at 4 (some .long)) y_Md_at (Cond.code y_Md_at b_Md_at 5 (some .long)) ["java/lang/IndexOutOfBoundsException"] Value.long (fun x : Int64 => x) [.int p0, .int p1, .int p2]) {g : γ} (hI : Inv g M) (hcl : cl + 60 ≤ 601024) (hsl : sl + 8000 ≤ 7293000)
    (kk : ∀ g' M', Inv g' M' → G (gzz D s0 (p_, l, e_, R_, s_, m_, ar_, be_, me_, c_) room_1 FL 8) 1583 [(0, .ref b), (1, .ref x), (2, .ref mo), (3, .ref out), (4, .int (nI i))] [] M' (cl + 60) (sl + 8000)) : G (gzz D s0 (p_, l, e_, R_, s_, m_, ar_, be_, me_, c_) room_1 FL 8) 1145 [(0, .ref b), (1, .ref x), (2, .ref mo), (3, .ref out), (4, .int (nI i))] [] M cl sl := by
  obtain ⟨fx, hfx⟩ := hx g M hI
  obtain ⟨P, ct, hP1, hP2⟩ := hS (xs (i + 1)) (xs (i + 2)) (xs (i + 3)) g M hI
  refine ri_aload_n h d_law_1145 rfl ?_
  refine ri_aload_n h d_law_1146 rfl ?_
  refine ri_iload h d_law_1147 rfl ?_
  refine ri_iconst h 1 d_law_1149 rfl ?_
  refine ri_iadd h d_law_1150 ?_
  refine ri_sld h (i + 1) d_law_1151 hX (nI_add i 1) (by omega) (by omega) ?_
  refine ri_aload_n h d_law_1152 rfl ?_
  refine ri_iload h d_law_1153 rfl ?_
  refine ri_iconst h 2 d_law_1155 rfl ?_
  refine ri_iadd h d_law_1156 ?_
  refine ri_sld h (i + 2) d_law_1157 hX (nI_add i 2) (by omega) (by omega) ?_
  refine ri_aload_n h d_law_1158 rfl ?_
  refine ri_iload h d_law_1159 rfl ?_
  refine ri_iconst h 3 d_law_1161 rfl ?_
  refine ri_iadd h d_law_1162 ?_
  refine ri_sld h (i + 3) d_law_1163 hX (nI_add i 3) (by omega) (by omega) ?_
  refine ri_aload_n h d_law_1164 rfl ?_
  refine ri_callSX h [.ref x, .int (xs (i + 1)), .int (xs (i + 2)), .int (xs (i + 3)), .ref out] [] d_law_1165 cx_at rfl rfl (Nat.le_of_ble_eq_true rfl) (Nat.le_of_ble_eq_true rfl) (Nat.le_of_ble_eq_true rfl) hcl hsl (lw_w_at h0 (xs (i + 1)) (xs (i + 2)) (xs (i + 3)) hfx (fun k v M1 hP => (hP1 k v M1 hP).2.1) ct) (fun E M9 h9 => by obtain ⟨k, v, M1, -, h9, -⟩ := h9; cases h9) ?_
  rintro v9 M9 ⟨k, v, M1, hP, hv, fo, hfo, rfl⟩
  cases hv
  obtain ⟨hk10, -, fm, hfm⟩ := hP1 k v M1 hP
  have hmo : (if k = 0 then gup M1 out (al 1 (va_up fo 0 ((fun x : Int64 => x) v))) else M1) mo = some (.inr (6, fm)) := by
    split
    · exact gup_t (Ne.symm (gneA hfo hfm)) hfm
    · exact hfm
  refine ri_istore h d_law_1168 (Nat.le_of_ble_eq_true rfl) ?_
  refine ri_aload_n h d_law_1170 rfl ?_
  refine ri_aload_n h d_law_1171 rfl ?_
  refine ri_iload h d_law_1172 rfl ?_
  refine ri_iconst h 1 d_law_1174 rfl ?_
  refine ri_iadd h d_law_1175 ?_
  refine ri_sld h (i + 1) d_law_1176 hX (nI_add i 1) (by omega) (by omega) ?_
  refine ri_aload_n h d_law_1177 rfl ?_
  refine ri_iload h d_law_1178 rfl ?_
  refine ri_iconst h 2 d_law_1180 rfl ?_
  refine ri_iadd h d_law_1181 ?_
  refine ri_sld h (i + 2) d_law_1182 hX (nI_add i 2) (by omega) (by omega) ?_
  refine ri_aload_n h d_law_1183 rfl ?_
  refine ri_iload h d_law_1184 rfl ?_
  refine ri_iconst h 3 d_law_1186 rfl ?_
  refine ri_iadd h d_law_1187 ?_
  refine ri_sld h (i + 3) d_law_1188 hX (nI_add i 3) (by omega) (by omega) ?_
  refine ri_callV (r := (gR6, gT6, 44)) h [.int (xs (i + 1)), .int (xs (i + 2)), .int (xs (i + 3))] [] d_law_1189 cv_Lw_118 hmo rfl rfl rfl (Nat.le_of_ble_eq_true rfl) (Nat.le_of_ble_eq_true rfl) (Nat.le_of_ble_eq_true rfl) (by show cl + 60 + 0 ≤ 601024; omega) (by show sl + 8000 + 0 ≤ 7293000; omega) (hP2 k v M1 hP fo hfo) (fun E M9 h9 => by obtain ⟨v2, h9, -⟩ := h9; cases h9) ?_
  rintro v9 M2 ⟨w, hv2, heq, ⟨g', hI'⟩, ⟨fm2, hm2⟩, fo2, ho2, hf2⟩
  cases hv2
  refine ri_lstore h d_law_1192 (Nat.le_of_ble_eq_true rfl) ?_
  refine ri_aload_n h d_law_1194 rfl ?_
  refine ri_cVv (r := (gR6, gT6, 44)) h [] [] d_law_1195 cv_Lw_81 hm2 rfl (k_thrown h0 hm2) rfl rfl (Nat.le_of_ble_eq_true rfl) (Nat.le_of_ble_eq_true rfl) (Nat.le_of_ble_eq_true rfl) (by show cl + 60 + 0 + 0 ≤ 601024; omega) (by show sl + 8000 + 0 + 0 ≤ 7293000; omega) ?_
  refine ri_iload h d_law_1198 rfl ?_
  refine ri_icmp_eq h 1205 d_law_1200 (by decide) (fun c_1200 => ?_) (fun c_1200 => ?_)
  · refine ri_iload h d_law_1205 rfl ?_
    refine ri_if_ne h 1221 d_law_1207 (by decide) (fun c_1207 => ?_) (fun c_1207 => ?_)
    · refine ri_goto h 1583 d_law_1221 (by decide) ?_
      exact ri_ls [(0, .ref b), (1, .ref x), (2, .ref mo), (3, .ref out), (4, .int (nI i))] ⟨rfl, rfl, rfl, rfl, rfl, trivial⟩ (kk g' M2 hI')
    · have hk0 : k = 0 := by
        rcases Nat.eq_zero_or_pos k with q | q
        · exact q
        · exact absurd c_1207 (nI_ne0 q (by omega))
      have e1 := heq hk0
      have e2 := hf2 hk0
      refine ri_aload_n h d_law_1210 rfl ?_
      refine ri_iconst h 0 d_law_1211 rfl ?_
      refine ri_lald h 0 d_law_1212 ho2 rfl (by omega) (by omega) ?_
      refine ri_lload h d_law_1213 rfl ?_
      refine ri_lcmp_eq h 1221 d_law_1215 d_law_1216 (by decide) (fun c_1215 => ?_) (fun c_1215 => ?_)
      · refine ri_goto h 1583 d_law_1221 (by decide) ?_
        exact ri_ls [(0, .ref b), (1, .ref x), (2, .ref mo), (3, .ref out), (4, .int (nI i))] ⟨rfl, rfl, rfl, rfl, rfl, trivial⟩ (kk g' M2 hI')
      · exact absurd (e2.trans e1.symm) c_1215
  · exact absurd rfl c_1200
theorem lc_equalTo {γ : Type} {Inv : γ → gH → Prop} (h : gF (gzz D s0 (p_, l, e_, R_, s_, m_, ar_, be_, me_, c_) room_1 FL 8) code "ShapeTreesLaw" (some .boolean) [] "law") (h0 : g_0 l D s0) (hX : va_X b L xs s0 s0.heap) (hL : L ≤ 5121) (i : Nat) (hi : i + 10 ≤ L) (hx : ∀ g M, Inv g M → ∃ fx, M x = some (.inr (5, fx))) (hS : ∀ (p0 : Int32), gStep l D s0 Inv x mo out y_ST_equalTo (Cond.code y_ST_equalTo b_ST_equalTo 6 (some .int)) y_Md_equalTo (Cond.code y_Md_equalTo b_Md_equalTo 4 (some .int)) ["java/lang/IndexOutOfBoundsException", "java/lang/UnsupportedOperationException"] Value.int Int32.toInt64 [.int p0]) {g : γ} (hI : Inv g M) (hcl : cl + 60 ≤ 601024) (hsl : sl + 8000 ≤ 7293000)
    (kk : ∀ g' M', Inv g' M' → G (gzz D s0 (p_, l, e_, R_, s_, m_, ar_, be_, me_, c_) room_1 FL 8) 1583 [(0, .ref b), (1, .ref x), (2, .ref mo), (3, .ref out), (4, .int (nI i))] [] M' (cl + 60) (sl + 8000)) : G (gzz D s0 (p_, l, e_, R_, s_, m_, ar_, be_, me_, c_) room_1 FL 8) 1224 [(0, .ref b), (1, .ref x), (2, .ref mo), (3, .ref out), (4, .int (nI i))] [] M cl sl := by
  obtain ⟨fx, hfx⟩ := hx g M hI
  obtain ⟨P, ct, hP1, hP2⟩ := hS (xs (i + 1)) g M hI
  refine ri_aload_n h d_law_1224 rfl ?_
  refine ri_aload_n h d_law_1225 rfl ?_
  refine ri_iload h d_law_1226 rfl ?_
  refine ri_iconst h 1 d_law_1228 rfl ?_
  refine ri_iadd h d_law_1229 ?_
  refine ri_sld h (i + 1) d_law_1230 hX (nI_add i 1) (by omega) (by omega) ?_
  refine ri_aload_n h d_law_1231 rfl ?_
  refine ri_callSX h [.ref x, .int (xs (i + 1)), .ref out] [] d_law_1232 cx_equalTo rfl rfl (Nat.le_of_ble_eq_true rfl) (Nat.le_of_ble_eq_true rfl) (Nat.le_of_ble_eq_true rfl) hcl hsl (lw_w_equalTo h0 (xs (i + 1)) hfx (fun k v M1 hP => (hP1 k v M1 hP).2.1) ct) (fun E M9 h9 => by obtain ⟨k, v, M1, -, h9, -⟩ := h9; cases h9) ?_
  rintro v9 M9 ⟨k, v, M1, hP, hv, fo, hfo, rfl⟩
  cases hv
  obtain ⟨hk10, -, fm, hfm⟩ := hP1 k v M1 hP
  have hmo : (if k = 0 then gup M1 out (al 1 (va_up fo 0 (Int32.toInt64 v))) else M1) mo = some (.inr (6, fm)) := by
    split
    · exact gup_t (Ne.symm (gneA hfo hfm)) hfm
    · exact hfm
  refine ri_istore h d_law_1235 (Nat.le_of_ble_eq_true rfl) ?_
  refine ri_aload_n h d_law_1237 rfl ?_
  refine ri_aload_n h d_law_1238 rfl ?_
  refine ri_iload h d_law_1239 rfl ?_
  refine ri_iconst h 1 d_law_1241 rfl ?_
  refine ri_iadd h d_law_1242 ?_
  refine ri_sld h (i + 1) d_law_1243 hX (nI_add i 1) (by omega) (by omega) ?_
  refine ri_callV (r := (gR6, gT6, 44)) h [.int (xs (i + 1))] [] d_law_1244 cv_Lw_122 hmo rfl rfl rfl (Nat.le_of_ble_eq_true rfl) (Nat.le_of_ble_eq_true rfl) (Nat.le_of_ble_eq_true rfl) (by show cl + 60 + 0 ≤ 601024; omega) (by show sl + 8000 + 0 ≤ 7293000; omega) (hP2 k v M1 hP fo hfo) (fun E M9 h9 => by obtain ⟨v2, h9, -⟩ := h9; cases h9) ?_
  rintro v9 M2 ⟨w, hv2, heq, ⟨g', hI'⟩, ⟨fm2, hm2⟩, fo2, ho2, hf2⟩
  cases hv2
  refine ri_istore h d_law_1247 (Nat.le_of_ble_eq_true rfl) ?_
  refine ri_aload_n h d_law_1249 rfl ?_
  refine ri_cVv (r := (gR6, gT6, 44)) h [] [] d_law_1250 cv_Lw_81 hm2 rfl (k_thrown h0 hm2) rfl rfl (Nat.le_of_ble_eq_true rfl) (Nat.le_of_ble_eq_true rfl) (Nat.le_of_ble_eq_true rfl) (by show cl + 60 + 0 + 0 ≤ 601024; omega) (by show sl + 8000 + 0 + 0 ≤ 7293000; omega) ?_
  refine ri_iload h d_law_1253 rfl ?_
  refine ri_icmp_eq h 1260 d_law_1255 (by decide) (fun c_1255 => ?_) (fun c_1255 => ?_)
  · refine ri_iload h d_law_1260 rfl ?_
    refine ri_if_ne h 1277 d_law_1262 (by decide) (fun c_1262 => ?_) (fun c_1262 => ?_)
    · refine ri_goto h 1583 d_law_1277 (by decide) ?_
      exact ri_ls [(0, .ref b), (1, .ref x), (2, .ref mo), (3, .ref out), (4, .int (nI i))] ⟨rfl, rfl, rfl, rfl, rfl, trivial⟩ (kk g' M2 hI')
    · have hk0 : k = 0 := by
        rcases Nat.eq_zero_or_pos k with q | q
        · exact q
        · exact absurd c_1262 (nI_ne0 q (by omega))
      have e1 := heq hk0
      have e2 := hf2 hk0
      refine ri_aload_n h d_law_1265 rfl ?_
      refine ri_iconst h 0 d_law_1266 rfl ?_
      refine ri_lald h 0 d_law_1267 ho2 rfl (by omega) (by omega) ?_
      refine ri_iload h d_law_1268 rfl ?_
      refine ri_i2l h d_law_1270 ?_
      refine ri_lcmp_eq h 1277 d_law_1271 d_law_1272 (by decide) (fun c_1271 => ?_) (fun c_1271 => ?_)
      · refine ri_goto h 1583 d_law_1277 (by decide) ?_
        exact ri_ls [(0, .ref b), (1, .ref x), (2, .ref mo), (3, .ref out), (4, .int (nI i))] ⟨rfl, rfl, rfl, rfl, rfl, trivial⟩ (kk g' M2 hI')
      · exact absurd (e2.trans e1.symm) c_1271
  · exact absurd rfl c_1255
theorem lc_find {γ : Type} {Inv : γ → gH → Prop} (h : gF (gzz D s0 (p_, l, e_, R_, s_, m_, ar_, be_, me_, c_) room_1 FL 8) code "ShapeTreesLaw" (some .boolean) [] "law") (h0 : g_0 l D s0) (hX : va_X b L xs s0 s0.heap) (hL : L ≤ 5121) (i : Nat) (hi : i + 10 ≤ L) (hx : ∀ g M, Inv g M → ∃ fx, M x = some (.inr (5, fx))) (hS : ∀ (p0 : Int32) (p1 : Int64) (p2 : Int64) (p3 : Int64) (p4 : Int64), gStep l D s0 Inv x mo out y_ST_find (Cond.code y_ST_find b_ST_find 13 (some .int)) y_Md_find (Cond.code y_Md_find b_Md_find 13 (some .int)) ["java/lang/IndexOutOfBoundsException", "java/lang/IllegalArgumentException", "java/lang/UnsupportedOperationException"] Value.int Int32.toInt64 [.int p0, .long p1, .long p2, .long p3, .long p4]) {g : γ} (hI : Inv g M) (hcl : cl + 60 ≤ 601024) (hsl : sl + 8000 ≤ 7293000)
    (kk : ∀ g' M', Inv g' M' → G (gzz D s0 (p_, l, e_, R_, s_, m_, ar_, be_, me_, c_) room_1 FL 8) 1583 [(0, .ref b), (1, .ref x), (2, .ref mo), (3, .ref out), (4, .int (nI i))] [] M' (cl + 60) (sl + 8000)) : G (gzz D s0 (p_, l, e_, R_, s_, m_, ar_, be_, me_, c_) room_1 FL 8) 1280 [(0, .ref b), (1, .ref x), (2, .ref mo), (3, .ref out), (4, .int (nI i))] [] M cl sl := by
  obtain ⟨fx, hfx⟩ := hx g M hI
  obtain ⟨P, ct, hP1, hP2⟩ := hS (xs (i + 1)) (jl (xs (i + 2)) (xs (i + 3))) (jl (xs (i + 4)) (xs (i + 5))) (jl (xs (i + 6)) (xs (i + 7))) (jl (xs (i + 8)) (xs (i + 9))) g M hI
  refine ri_aload_n h d_law_1280 rfl ?_
  refine ri_aload_n h d_law_1281 rfl ?_
  refine ri_iload h d_law_1282 rfl ?_
  refine ri_iconst h 1 d_law_1284 rfl ?_
  refine ri_iadd h d_law_1285 ?_
  refine ri_sld h (i + 1) d_law_1286 hX (nI_add i 1) (by omega) (by omega) ?_
  refine ri_aload_n h d_law_1287 rfl ?_
  refine ri_iload h d_law_1288 rfl ?_
  refine ri_iconst h 2 d_law_1290 rfl ?_
  refine ri_iadd h d_law_1291 ?_
  refine ri_sld h (i + 2) d_law_1292 hX (nI_add i 2) (by omega) (by omega) ?_
  refine ri_i2l h d_law_1293 ?_
  refine ri_bipush h 32 d_law_1294 rfl ?_
  refine ri_lshl h d_law_1296 ?_
  refine ri_aload_n h d_law_1297 rfl ?_
  refine ri_iload h d_law_1298 rfl ?_
  refine ri_iconst h 3 d_law_1300 rfl ?_
  refine ri_iadd h d_law_1301 ?_
  refine ri_sld h (i + 3) d_law_1302 hX (nI_add i 3) (by omega) (by omega) ?_
  refine ri_i2l h d_law_1303 ?_
  refine ri_ldc2 h 4294967295 d_law_1304 kl_Lw_88 ?_
  refine ri_land h d_law_1307 ?_
  refine ri_lor h d_law_1308 ?_
  refine ri_aload_n h d_law_1309 rfl ?_
  refine ri_iload h d_law_1310 rfl ?_
  refine ri_iconst h 4 d_law_1312 rfl ?_
  refine ri_iadd h d_law_1313 ?_
  refine ri_sld h (i + 4) d_law_1314 hX (nI_add i 4) (by omega) (by omega) ?_
  refine ri_i2l h d_law_1315 ?_
  refine ri_bipush h 32 d_law_1316 rfl ?_
  refine ri_lshl h d_law_1318 ?_
  refine ri_aload_n h d_law_1319 rfl ?_
  refine ri_iload h d_law_1320 rfl ?_
  refine ri_iconst h 5 d_law_1322 rfl ?_
  refine ri_iadd h d_law_1323 ?_
  refine ri_sld h (i + 5) d_law_1324 hX (nI_add i 5) (by omega) (by omega) ?_
  refine ri_i2l h d_law_1325 ?_
  refine ri_ldc2 h 4294967295 d_law_1326 kl_Lw_88 ?_
  refine ri_land h d_law_1329 ?_
  refine ri_lor h d_law_1330 ?_
  refine ri_aload_n h d_law_1331 rfl ?_
  refine ri_iload h d_law_1332 rfl ?_
  refine ri_bipush h 6 d_law_1334 rfl ?_
  refine ri_iadd h d_law_1336 ?_
  refine ri_sld h (i + 6) d_law_1337 hX (nI_add i 6) (by omega) (by omega) ?_
  refine ri_i2l h d_law_1338 ?_
  refine ri_bipush h 32 d_law_1339 rfl ?_
  refine ri_lshl h d_law_1341 ?_
  refine ri_aload_n h d_law_1342 rfl ?_
  refine ri_iload h d_law_1343 rfl ?_
  refine ri_bipush h 7 d_law_1345 rfl ?_
  refine ri_iadd h d_law_1347 ?_
  refine ri_sld h (i + 7) d_law_1348 hX (nI_add i 7) (by omega) (by omega) ?_
  refine ri_i2l h d_law_1349 ?_
  refine ri_ldc2 h 4294967295 d_law_1350 kl_Lw_88 ?_
  refine ri_land h d_law_1353 ?_
  refine ri_lor h d_law_1354 ?_
  refine ri_aload_n h d_law_1355 rfl ?_
  refine ri_iload h d_law_1356 rfl ?_
  refine ri_bipush h 8 d_law_1358 rfl ?_
  refine ri_iadd h d_law_1360 ?_
  refine ri_sld h (i + 8) d_law_1361 hX (nI_add i 8) (by omega) (by omega) ?_
  refine ri_i2l h d_law_1362 ?_
  refine ri_bipush h 32 d_law_1363 rfl ?_
  refine ri_lshl h d_law_1365 ?_
  refine ri_aload_n h d_law_1366 rfl ?_
  refine ri_iload h d_law_1367 rfl ?_
  refine ri_bipush h 9 d_law_1369 rfl ?_
  refine ri_iadd h d_law_1371 ?_
  refine ri_sld h (i + 9) d_law_1372 hX (nI_add i 9) (by omega) (by omega) ?_
  refine ri_i2l h d_law_1373 ?_
  refine ri_ldc2 h 4294967295 d_law_1374 kl_Lw_88 ?_
  refine ri_land h d_law_1377 ?_
  refine ri_lor h d_law_1378 ?_
  refine ri_aload_n h d_law_1379 rfl ?_
  refine ri_callSX h [.ref x, .int (xs (i + 1)), .long (jl (xs (i + 2)) (xs (i + 3))), .long (jl (xs (i + 4)) (xs (i + 5))), .long (jl (xs (i + 6)) (xs (i + 7))), .long (jl (xs (i + 8)) (xs (i + 9))), .ref out] [] d_law_1380 cx_find rfl rfl (Nat.le_of_ble_eq_true rfl) (Nat.le_of_ble_eq_true rfl) (Nat.le_of_ble_eq_true rfl) hcl hsl (lw_w_find h0 (xs (i + 1)) (jl (xs (i + 2)) (xs (i + 3))) (jl (xs (i + 4)) (xs (i + 5))) (jl (xs (i + 6)) (xs (i + 7))) (jl (xs (i + 8)) (xs (i + 9))) hfx (fun k v M1 hP => (hP1 k v M1 hP).2.1) ct) (fun E M9 h9 => by obtain ⟨k, v, M1, -, h9, -⟩ := h9; cases h9) ?_
  rintro v9 M9 ⟨k, v, M1, hP, hv, fo, hfo, rfl⟩
  cases hv
  obtain ⟨hk10, -, fm, hfm⟩ := hP1 k v M1 hP
  have hmo : (if k = 0 then gup M1 out (al 1 (va_up fo 0 (Int32.toInt64 v))) else M1) mo = some (.inr (6, fm)) := by
    split
    · exact gup_t (Ne.symm (gneA hfo hfm)) hfm
    · exact hfm
  refine ri_istore h d_law_1383 (Nat.le_of_ble_eq_true rfl) ?_
  refine ri_aload_n h d_law_1385 rfl ?_
  refine ri_aload_n h d_law_1386 rfl ?_
  refine ri_iload h d_law_1387 rfl ?_
  refine ri_iconst h 1 d_law_1389 rfl ?_
  refine ri_iadd h d_law_1390 ?_
  refine ri_sld h (i + 1) d_law_1391 hX (nI_add i 1) (by omega) (by omega) ?_
  refine ri_aload_n h d_law_1392 rfl ?_
  refine ri_iload h d_law_1393 rfl ?_
  refine ri_iconst h 2 d_law_1395 rfl ?_
  refine ri_iadd h d_law_1396 ?_
  refine ri_sld h (i + 2) d_law_1397 hX (nI_add i 2) (by omega) (by omega) ?_
  refine ri_i2l h d_law_1398 ?_
  refine ri_bipush h 32 d_law_1399 rfl ?_
  refine ri_lshl h d_law_1401 ?_
  refine ri_aload_n h d_law_1402 rfl ?_
  refine ri_iload h d_law_1403 rfl ?_
  refine ri_iconst h 3 d_law_1405 rfl ?_
  refine ri_iadd h d_law_1406 ?_
  refine ri_sld h (i + 3) d_law_1407 hX (nI_add i 3) (by omega) (by omega) ?_
  refine ri_i2l h d_law_1408 ?_
  refine ri_ldc2 h 4294967295 d_law_1409 kl_Lw_88 ?_
  refine ri_land h d_law_1412 ?_
  refine ri_lor h d_law_1413 ?_
  refine ri_aload_n h d_law_1414 rfl ?_
  refine ri_iload h d_law_1415 rfl ?_
  refine ri_iconst h 4 d_law_1417 rfl ?_
  refine ri_iadd h d_law_1418 ?_
  refine ri_sld h (i + 4) d_law_1419 hX (nI_add i 4) (by omega) (by omega) ?_
  refine ri_i2l h d_law_1420 ?_
  refine ri_bipush h 32 d_law_1421 rfl ?_
  refine ri_lshl h d_law_1423 ?_
  refine ri_aload_n h d_law_1424 rfl ?_
  refine ri_iload h d_law_1425 rfl ?_
  refine ri_iconst h 5 d_law_1427 rfl ?_
  refine ri_iadd h d_law_1428 ?_
  refine ri_sld h (i + 5) d_law_1429 hX (nI_add i 5) (by omega) (by omega) ?_
  refine ri_i2l h d_law_1430 ?_
  refine ri_ldc2 h 4294967295 d_law_1431 kl_Lw_88 ?_
  refine ri_land h d_law_1434 ?_
  refine ri_lor h d_law_1435 ?_
  refine ri_aload_n h d_law_1436 rfl ?_
  refine ri_iload h d_law_1437 rfl ?_
  refine ri_bipush h 6 d_law_1439 rfl ?_
  refine ri_iadd h d_law_1441 ?_
  refine ri_sld h (i + 6) d_law_1442 hX (nI_add i 6) (by omega) (by omega) ?_
  refine ri_i2l h d_law_1443 ?_
  refine ri_bipush h 32 d_law_1444 rfl ?_
  refine ri_lshl h d_law_1446 ?_
  refine ri_aload_n h d_law_1447 rfl ?_
  refine ri_iload h d_law_1448 rfl ?_
  refine ri_bipush h 7 d_law_1450 rfl ?_
  refine ri_iadd h d_law_1452 ?_
  refine ri_sld h (i + 7) d_law_1453 hX (nI_add i 7) (by omega) (by omega) ?_
  refine ri_i2l h d_law_1454 ?_
  refine ri_ldc2 h 4294967295 d_law_1455 kl_Lw_88 ?_
  refine ri_land h d_law_1458 ?_
  refine ri_lor h d_law_1459 ?_
  refine ri_aload_n h d_law_1460 rfl ?_
  refine ri_iload h d_law_1461 rfl ?_
  refine ri_bipush h 8 d_law_1463 rfl ?_
  refine ri_iadd h d_law_1465 ?_
  refine ri_sld h (i + 8) d_law_1466 hX (nI_add i 8) (by omega) (by omega) ?_
  refine ri_i2l h d_law_1467 ?_
  refine ri_bipush h 32 d_law_1468 rfl ?_
  refine ri_lshl h d_law_1470 ?_
  refine ri_aload_n h d_law_1471 rfl ?_
  refine ri_iload h d_law_1472 rfl ?_
  refine ri_bipush h 9 d_law_1474 rfl ?_
  refine ri_iadd h d_law_1476 ?_
  refine ri_sld h (i + 9) d_law_1477 hX (nI_add i 9) (by omega) (by omega) ?_
  refine ri_i2l h d_law_1478 ?_
  refine ri_ldc2 h 4294967295 d_law_1479 kl_Lw_88 ?_
  refine ri_land h d_law_1482 ?_
  refine ri_lor h d_law_1483 ?_
  refine ri_callV (r := (gR6, gT6, 44)) h [.int (xs (i + 1)), .long (jl (xs (i + 2)) (xs (i + 3))), .long (jl (xs (i + 4)) (xs (i + 5))), .long (jl (xs (i + 6)) (xs (i + 7))), .long (jl (xs (i + 8)) (xs (i + 9)))] [] d_law_1484 cv_Lw_126 hmo rfl rfl rfl (Nat.le_of_ble_eq_true rfl) (Nat.le_of_ble_eq_true rfl) (Nat.le_of_ble_eq_true rfl) (by show cl + 60 + 0 ≤ 601024; omega) (by show sl + 8000 + 0 ≤ 7293000; omega) (hP2 k v M1 hP fo hfo) (fun E M9 h9 => by obtain ⟨v2, h9, -⟩ := h9; cases h9) ?_
  rintro v9 M2 ⟨w, hv2, heq, ⟨g', hI'⟩, ⟨fm2, hm2⟩, fo2, ho2, hf2⟩
  cases hv2
  refine ri_istore h d_law_1487 (Nat.le_of_ble_eq_true rfl) ?_
  refine ri_aload_n h d_law_1489 rfl ?_
  refine ri_cVv (r := (gR6, gT6, 44)) h [] [] d_law_1490 cv_Lw_81 hm2 rfl (k_thrown h0 hm2) rfl rfl (Nat.le_of_ble_eq_true rfl) (Nat.le_of_ble_eq_true rfl) (Nat.le_of_ble_eq_true rfl) (by show cl + 60 + 0 + 0 ≤ 601024; omega) (by show sl + 8000 + 0 + 0 ≤ 7293000; omega) ?_
  refine ri_iload h d_law_1493 rfl ?_
  refine ri_icmp_eq h 1500 d_law_1495 (by decide) (fun c_1495 => ?_) (fun c_1495 => ?_)
  · refine ri_iload h d_law_1500 rfl ?_
    refine ri_if_ne h 1517 d_law_1502 (by decide) (fun c_1502 => ?_) (fun c_1502 => ?_)
    · refine ri_goto h 1583 d_law_1517 (by decide) ?_
      exact ri_ls [(0, .ref b), (1, .ref x), (2, .ref mo), (3, .ref out), (4, .int (nI i))] ⟨rfl, rfl, rfl, rfl, rfl, trivial⟩ (kk g' M2 hI')
    · have hk0 : k = 0 := by
        rcases Nat.eq_zero_or_pos k with q | q
        · exact q
        · exact absurd c_1502 (nI_ne0 q (by omega))
      have e1 := heq hk0
      have e2 := hf2 hk0
      refine ri_aload_n h d_law_1505 rfl ?_
      refine ri_iconst h 0 d_law_1506 rfl ?_
      refine ri_lald h 0 d_law_1507 ho2 rfl (by omega) (by omega) ?_
      refine ri_iload h d_law_1508 rfl ?_
      refine ri_i2l h d_law_1510 ?_
      refine ri_lcmp_eq h 1517 d_law_1511 d_law_1512 (by decide) (fun c_1511 => ?_) (fun c_1511 => ?_)
      · refine ri_goto h 1583 d_law_1517 (by decide) ?_
        exact ri_ls [(0, .ref b), (1, .ref x), (2, .ref mo), (3, .ref out), (4, .int (nI i))] ⟨rfl, rfl, rfl, rfl, rfl, trivial⟩ (kk g' M2 hI')
      · exact absurd (e2.trans e1.symm) c_1511
  · exact absurd rfl c_1495
theorem lc_drop {γ : Type} {Inv : γ → gH → Prop} (h : gF (gzz D s0 (p_, l, e_, R_, s_, m_, ar_, be_, me_, c_) room_1 FL 8) code "ShapeTreesLaw" (some .boolean) [] "law") (h0 : g_0 l D s0) (hX : va_X b L xs s0 s0.heap) (hL : L ≤ 5121) (i : Nat) (hi : i + 10 ≤ L) (hx : ∀ g M, Inv g M → ∃ fx, M x = some (.inr (5, fx))) (hS : ∀ (p0 : Int32), gStep l D s0 Inv x mo out y_ST_drop (Cond.code y_ST_drop b_ST_drop 4 (some .boolean)) y_Md_drop (Cond.code y_Md_drop b_Md_drop 2 (some .boolean)) ["java/lang/IndexOutOfBoundsException"] Value.int jbool [.int p0]) {g : γ} (hI : Inv g M) (hcl : cl + 60 ≤ 601024) (hsl : sl + 8000 ≤ 7293000)
    (kk : ∀ g' M', Inv g' M' → G (gzz D s0 (p_, l, e_, R_, s_, m_, ar_, be_, me_, c_) room_1 FL 8) 1583 [(0, .ref b), (1, .ref x), (2, .ref mo), (3, .ref out), (4, .int (nI i))] [] M' (cl + 60) (sl + 8000)) : G (gzz D s0 (p_, l, e_, R_, s_, m_, ar_, be_, me_, c_) room_1 FL 8) 1520 [(0, .ref b), (1, .ref x), (2, .ref mo), (3, .ref out), (4, .int (nI i))] [] M cl sl := by
  obtain ⟨fx, hfx⟩ := hx g M hI
  obtain ⟨P, ct, hP1, hP2⟩ := hS (xs (i + 1)) g M hI
  refine ri_aload_n h d_law_1520 rfl ?_
  refine ri_aload_n h d_law_1521 rfl ?_
  refine ri_iload h d_law_1522 rfl ?_
  refine ri_iconst h 1 d_law_1524 rfl ?_
  refine ri_iadd h d_law_1525 ?_
  refine ri_sld h (i + 1) d_law_1526 hX (nI_add i 1) (by omega) (by omega) ?_
  refine ri_aload_n h d_law_1527 rfl ?_
  refine ri_callSX h [.ref x, .int (xs (i + 1)), .ref out] [] d_law_1528 cx_drop rfl rfl (Nat.le_of_ble_eq_true rfl) (Nat.le_of_ble_eq_true rfl) (Nat.le_of_ble_eq_true rfl) hcl hsl (lw_w_drop h0 (xs (i + 1)) hfx (fun k v M1 hP => (hP1 k v M1 hP).2.1) ct) (fun E M9 h9 => by obtain ⟨k, v, M1, -, h9, -⟩ := h9; cases h9) ?_
  rintro v9 M9 ⟨k, v, M1, hP, hv, fo, hfo, rfl⟩
  cases hv
  obtain ⟨hk10, -, fm, hfm⟩ := hP1 k v M1 hP
  have hmo : (if k = 0 then gup M1 out (al 1 (va_up fo 0 (jbool v))) else M1) mo = some (.inr (6, fm)) := by
    split
    · exact gup_t (Ne.symm (gneA hfo hfm)) hfm
    · exact hfm
  refine ri_istore h d_law_1531 (Nat.le_of_ble_eq_true rfl) ?_
  refine ri_aload_n h d_law_1533 rfl ?_
  refine ri_aload_n h d_law_1534 rfl ?_
  refine ri_iload h d_law_1535 rfl ?_
  refine ri_iconst h 1 d_law_1537 rfl ?_
  refine ri_iadd h d_law_1538 ?_
  refine ri_sld h (i + 1) d_law_1539 hX (nI_add i 1) (by omega) (by omega) ?_
  refine ri_callV (r := (gR6, gT6, 44)) h [.int (xs (i + 1))] [] d_law_1540 cv_Lw_129 hmo rfl rfl rfl (Nat.le_of_ble_eq_true rfl) (Nat.le_of_ble_eq_true rfl) (Nat.le_of_ble_eq_true rfl) (by show cl + 60 + 0 ≤ 601024; omega) (by show sl + 8000 + 0 ≤ 7293000; omega) (hP2 k v M1 hP fo hfo) (fun E M9 h9 => by obtain ⟨v2, h9, -⟩ := h9; cases h9) ?_
  rintro v9 M2 ⟨w, hv2, heq, ⟨g', hI'⟩, ⟨fm2, hm2⟩, fo2, ho2, hf2⟩
  cases hv2
  refine ri_istore h d_law_1543 (Nat.le_of_ble_eq_true rfl) ?_
  refine ri_aload_n h d_law_1545 rfl ?_
  refine ri_cVv (r := (gR6, gT6, 44)) h [] [] d_law_1546 cv_Lw_81 hm2 rfl (k_thrown h0 hm2) rfl rfl (Nat.le_of_ble_eq_true rfl) (Nat.le_of_ble_eq_true rfl) (Nat.le_of_ble_eq_true rfl) (by show cl + 60 + 0 + 0 ≤ 601024; omega) (by show sl + 8000 + 0 + 0 ≤ 7293000; omega) ?_
  refine ri_iload h d_law_1549 rfl ?_
  refine ri_icmp_eq h 1556 d_law_1551 (by decide) (fun c_1551 => ?_) (fun c_1551 => ?_)
  · refine ri_iload h d_law_1556 rfl ?_
    refine ri_if_ne h 1580 d_law_1558 (by decide) (fun c_1558 => ?_) (fun c_1558 => ?_)
    · refine ri_goto h 1583 d_law_1580 (by decide) ?_
      exact ri_ls [(0, .ref b), (1, .ref x), (2, .ref mo), (3, .ref out), (4, .int (nI i))] ⟨rfl, rfl, rfl, rfl, rfl, trivial⟩ (kk g' M2 hI')
    · have hk0 : k = 0 := by
        rcases Nat.eq_zero_or_pos k with q | q
        · exact q
        · exact absurd c_1558 (nI_ne0 q (by omega))
      have e1 := heq hk0
      have e2 := hf2 hk0
      refine ri_aload_n h d_law_1561 rfl ?_
      refine ri_iconst h 0 d_law_1562 rfl ?_
      refine ri_lald h 0 d_law_1563 ho2 rfl (by omega) (by omega) ?_
      refine ri_iload h d_law_1564 rfl ?_
      refine ri_if_eq h 1573 d_law_1566 (by decide) (fun c_1566 => ?_) (fun c_1566 => ?_)
      · refine ri_lconst h 0 d_law_1573 rfl ?_
        refine ri_lcmp_eq h 1580 d_law_1574 d_law_1575 (by decide) (fun c_1574 => ?_) (fun c_1574 => ?_)
        · refine ri_goto h 1583 d_law_1580 (by decide) ?_
          exact ri_ls [(0, .ref b), (1, .ref x), (2, .ref mo), (3, .ref out), (4, .int (nI i))] ⟨rfl, rfl, rfl, rfl, rfl, trivial⟩ (kk g' M2 hI')
        · exact absurd (e2.trans (e1.symm.trans (by rw [jbool, if_pos c_1566]))) c_1574
      · refine ri_lconst h 1 d_law_1569 rfl ?_
        refine ri_goto h 1574 d_law_1570 (by decide) ?_
        refine ri_lcmp_eq h 1580 d_law_1574 d_law_1575 (by decide) (fun c_1574 => ?_) (fun c_1574 => ?_)
        · refine ri_goto h 1583 d_law_1580 (by decide) ?_
          exact ri_ls [(0, .ref b), (1, .ref x), (2, .ref mo), (3, .ref out), (4, .int (nI i))] ⟨rfl, rfl, rfl, rfl, rfl, trivial⟩ (kk g' M2 hI')
        · exact absurd (e2.trans (e1.symm.trans (by rw [jbool, if_neg c_1566]))) c_1574
  · exact absurd rfl c_1551
end LC
