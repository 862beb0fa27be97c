/-! The law's wrappers: over any contract of the class's method -/
def fT {α : Type} (exs : List String) (mk : α → Value) (P : Nat → α → gH → Prop) : gR → gH → Prop := fun r M' => (∃ v, r = .inl (some (mk v)) ∧ P 0 v M') ∨ ∃ (k : Nat) (E : String) (v : α), exs[k]? = some E ∧ r = .inr E ∧ P (k + 1) v M'
def fW {α : Type} (out : Nat) (tl : α → Int64) (P : Nat → α → gH → Prop) : gR → gH → Prop := fun r M' => ∃ k v M1, P k v M1 ∧ r = .inl (some (.int (nI k))) ∧ ∃ fo, M1 out = some (al 1 fo) ∧ M' = if k = 0 then gup M1 out (al 1 (va_up fo 0 (tl v))) else M1
abbrev rkC : Room := rk 100 60 8000
abbrev rkW : Room := rk 101 60 8000
def jbool (x : Int32) : Int64 := if x = 0 then 0 else 1
theorem nc_iae_ise : gNC "java/lang/IllegalArgumentException" "java/lang/IllegalStateException" := fun a0 s0 h => flat_of_before _ h _ (by decide +kernel)
theorem nc_iae_iob : gNC "java/lang/IllegalArgumentException" "java/lang/IndexOutOfBoundsException" := fun a0 s0 h => flat_of_before _ h _ (by decide +kernel)
theorem nc_ise_iob : gNC "java/lang/IllegalStateException" "java/lang/IndexOutOfBoundsException" := fun a0 s0 h => flat_of_before _ h _ (by decide +kernel)
theorem nc_uoe_iae : gNC "java/lang/UnsupportedOperationException" "java/lang/IllegalArgumentException" := fun a0 s0 h => flat_of_before _ h _ (by decide +kernel)
theorem nc_uoe_iob : gNC "java/lang/UnsupportedOperationException" "java/lang/IndexOutOfBoundsException" := fun a0 s0 h => flat_of_before _ h _ (by decide +kernel)
section WR
variable {l : Launch} {D : gD} {s0 : State} {M : gH}
theorem lw_w_cell_1 (h0 : g_0 l D s0) {x out : Nat} {fx : List Value}  {P : Nat → Int32 → gH → Prop} (hx : M x = some (.inr (5, fx))) (hout : ∀ k v M1, P k v M1 → ∃ fo, M1 out = some (al 1 fo)) (ct : Ct l D s0 y_ST_cell (Cond.code y_ST_cell b_ST_cell 1 (some .int)) rkC [.ref x] M (fT ["java/lang/IllegalStateException"] Value.int P)) : Ct l D s0 y_Lw_cell_1 (Cond.codeWith y_Lw_cell_1 b_Lw_cell_1 3 (some .int) hh_Lw_cell_1) rkW [.ref x, .ref out] M (fW out Int32.toInt64 P) := by
  refine Ct.ofH h0 (by decide +kernel) rfl fun X hX h => ?_
  obtain ⟨p_, l', e_, R_, s_, m_, ar_, be_, me_, c_⟩ := X
  obtain rfl : l' = l := hX
  refine ri_aload_n h d_Lw_cell_1_0 rfl ?_
  refine ri_iconst h 0 d_Lw_cell_1_1 rfl ?_
  refine ri_aload_n h d_Lw_cell_1_2 rfl ?_
  refine ri_callVT (r := (gR5, gT5, 8)) h [] [.int 0, .ref out] d_Lw_cell_1_3 cv_Lw_7 hx rfl rfl rfl (Nat.le_of_ble_eq_true rfl) (Nat.le_of_ble_eq_true rfl) (Nat.le_of_ble_eq_true rfl) (Nat.le_of_ble_eq_true rfl) (Nat.le_of_ble_eq_true rfl) ct ?_ ?_
  · rintro E M1 (⟨v, h1, -⟩ | ⟨k, E', v, hk, hE, hP⟩)
    · cases h1
    · cases hE
      obtain ⟨fo, hfo⟩ := hout _ _ _ hP
      match k, hk with
      | 0, hk =>
        cases hk
        refine ri_catch h [] ⟨0, 8, 11, 13⟩ [] rfl (fun z hz => by cases hz) (by decide) (by decide) (by decide +kernel) (by decide +kernel) (fun q => ?_)
        refine ri_astore_n h d_Lw_cell_1_11 (Nat.le_of_ble_eq_true rfl) ?_
        refine ri_iconst h 1 d_Lw_cell_1_12 rfl ?_
        refine ri_ireturn h d_Lw_cell_1_13 (Nat.le_of_ble_eq_true rfl) (Nat.le_of_ble_eq_true rfl) ?_
        exact ⟨1, v, M1, hP, rfl, fo, hfo, by rw [if_neg (by decide)]⟩
      | n + 1, hk => simp at hk
  · rintro v M1 (⟨v, h1, hP⟩ | ⟨k, E', v, hk, hE, hP⟩)
    · cases h1
      obtain ⟨fo, hfo⟩ := hout _ _ _ hP
      refine ri_i2l h d_Lw_cell_1_6 ?_
      refine ri_last h 0 d_Lw_cell_1_7 hfo rfl (by omega) (by omega) ?_
      refine ri_goto h 14 d_Lw_cell_1_8 (by decide) ?_
      refine ri_iconst h 0 d_Lw_cell_1_14 rfl ?_
      refine ri_ireturn h d_Lw_cell_1_15 (Nat.le_of_ble_eq_true rfl) (Nat.le_of_ble_eq_true rfl) ?_
      exact ⟨0, v, M1, hP, rfl, fo, hfo, by rw [if_pos rfl]⟩
    · cases hE
theorem lw_w_polygon (h0 : g_0 l D s0) {x out : Nat} {fx : List Value} (p0 : Int32) (p1 : Int32) {P : Nat → Int32 → gH → Prop} (hx : M x = some (.inr (5, fx))) (hout : ∀ k v M1, P k v M1 → ∃ fo, M1 out = some (al 1 fo)) (ct : Ct l D s0 y_ST_polygon (Cond.code y_ST_polygon b_ST_polygon 4 (some .int)) rkC [.ref x, .int p0, .int p1] M (fT ["java/lang/IndexOutOfBoundsException", "java/lang/IllegalStateException"] Value.int P)) : Ct l D s0 y_Lw_polygon (Cond.codeWith y_Lw_polygon b_Lw_polygon 5 (some .int) hh_Lw_polygon) rkW [.ref x, .int p0, .int p1, .ref out] M (fW out Int32.toInt64 P) := by
  refine Ct.ofH h0 (by decide +kernel) rfl fun X hX h => ?_
  obtain ⟨p_, l', e_, R_, s_, m_, ar_, be_, me_, c_⟩ := X
  obtain rfl : l' = l := hX
  refine ri_aload_n h d_Lw_polygon_0 rfl ?_
  refine ri_iconst h 0 d_Lw_polygon_1 rfl ?_
  refine ri_aload_n h d_Lw_polygon_2 rfl ?_
  refine ri_iload_n h d_Lw_polygon_3 rfl ?_
  refine ri_iload_n h d_Lw_polygon_4 rfl ?_
  refine ri_callVT (r := (gR5, gT5, 8)) h [.int p0, .int p1] [.int 0, .ref out] d_Lw_polygon_5 cv_Lw_15 hx rfl rfl rfl (Nat.le_of_ble_eq_true rfl) (Nat.le_of_ble_eq_true rfl) (Nat.le_of_ble_eq_true rfl) (Nat.le_of_ble_eq_true rfl) (Nat.le_of_ble_eq_true rfl) ct ?_ ?_
  · rintro E M1 (⟨v, h1, -⟩ | ⟨k, E', v, hk, hE, hP⟩)
    · cases h1
    · cases hE
      obtain ⟨fo, hfo⟩ := hout _ _ _ hP
      match k, hk with
      | 0, hk =>
        cases hk
        refine ri_catch h [] ⟨0, 10, 13, 19⟩ [⟨0, 10, 17, 13⟩] rfl (fun z hz => by cases hz) (by decide) (by decide) (by decide +kernel) (by decide +kernel) (fun q => ?_)
        refine ri_astore h d_Lw_polygon_13 (Nat.le_of_ble_eq_true rfl) ?_
        refine ri_iconst h 1 d_Lw_polygon_15 rfl ?_
        refine ri_ireturn h d_Lw_polygon_16 (Nat.le_of_ble_eq_true rfl) (Nat.le_of_ble_eq_true rfl) ?_
        exact ⟨1, v, M1, hP, rfl, fo, hfo, by rw [if_neg (by decide)]⟩
      | 1, hk =>
        cases hk
        refine ri_catch h [⟨0, 10, 13, 19⟩] ⟨0, 10, 17, 13⟩ [] rfl (List.forall_mem_cons.mpr ⟨⟨by decide, "java/lang/IndexOutOfBoundsException", by decide +kernel, nc_ise_iob⟩, (fun z hz => by cases hz)⟩) (by decide) (by decide) (by decide +kernel) (by decide +kernel) (fun q => ?_)
        refine ri_astore h d_Lw_polygon_17 (Nat.le_of_ble_eq_true rfl) ?_
        refine ri_iconst h 2 d_Lw_polygon_19 rfl ?_
        refine ri_ireturn h d_Lw_polygon_20 (Nat.le_of_ble_eq_true rfl) (Nat.le_of_ble_eq_true rfl) ?_
        exact ⟨2, v, M1, hP, rfl, fo, hfo, by rw [if_neg (by decide)]⟩
      | n + 2, hk => simp at hk
  · rintro v M1 (⟨v, h1, hP⟩ | ⟨k, E', v, hk, hE, hP⟩)
    · cases h1
      obtain ⟨fo, hfo⟩ := hout _ _ _ hP
      refine ri_i2l h d_Lw_polygon_8 ?_
      refine ri_last h 0 d_Lw_polygon_9 hfo rfl (by omega) (by omega) ?_
      refine ri_goto h 21 d_Lw_polygon_10 (by decide) ?_
      refine ri_iconst h 0 d_Lw_polygon_21 rfl ?_
      refine ri_ireturn h d_Lw_polygon_22 (Nat.le_of_ble_eq_true rfl) (Nat.le_of_ble_eq_true rfl) ?_
      exact ⟨0, v, M1, hP, rfl, fo, hfo, by rw [if_pos rfl]⟩
    · cases hE
theorem lw_w_corner (h0 : g_0 l D s0) {x out : Nat} {fx : List Value} (p0 : Int32) (p1 : Int64) (p2 : Int64) {P : Nat → Int32 → gH → Prop} (hx : M x = some (.inr (5, fx))) (hout : ∀ k v M1, P k v M1 → ∃ fo, M1 out = some (al 1 fo)) (ct : Ct l D s0 y_ST_corner (Cond.code y_ST_corner b_ST_corner 6 (some .boolean)) rkC [.ref x, .int p0, .long p1, .long p2] M (fT ["java/lang/IndexOutOfBoundsException", "java/lang/IllegalStateException", "java/lang/IllegalArgumentException"] Value.int P)) : Ct l D s0 y_Lw_corner (Cond.codeWith y_Lw_corner b_Lw_corner 8 (some .int) hh_Lw_corner) rkW [.ref x, .int p0, .long p1, .long p2, .ref out] M (fW out jbool P) := by
  refine Ct.ofH h0 (by decide +kernel) rfl fun X hX h => ?_
  obtain ⟨p_, l', e_, R_, s_, m_, ar_, be_, me_, c_⟩ := X
  obtain rfl : l' = l := hX
  refine ri_aload h d_Lw_corner_0 rfl ?_
  refine ri_iconst h 0 d_Lw_corner_2 rfl ?_
  refine ri_aload_n h d_Lw_corner_3 rfl ?_
  refine ri_iload_n h d_Lw_corner_4 rfl ?_
  refine ri_lload_n h d_Lw_corner_5 rfl ?_
  refine ri_lload h d_Lw_corner_6 rfl ?_
  refine ri_callVT (r := (gR5, gT5, 8)) h [.int p0, .long p1, .long p2] [.int 0, .ref out] d_Lw_corner_8 cv_Lw_21 hx rfl rfl rfl (Nat.le_of_ble_eq_true rfl) (Nat.le_of_ble_eq_true rfl) (Nat.le_of_ble_eq_true rfl) (Nat.le_of_ble_eq_true rfl) (Nat.le_of_ble_eq_true rfl) ct ?_ ?_
  · rintro E M1 (⟨v, h1, -⟩ | ⟨k, E', v, hk, hE, hP⟩)
    · cases h1
    · cases hE
      obtain ⟨fo, hfo⟩ := hout _ _ _ hP
      match k, hk with
      | 0, hk =>
        cases hk
        refine ri_catch h [] ⟨0, 20, 23, 19⟩ [⟨0, 20, 27, 13⟩, ⟨0, 20, 31, 25⟩] rfl (fun z hz => by cases hz) (by decide) (by decide) (by decide +kernel) (by decide +kernel) (fun q => ?_)
        refine ri_astore h d_Lw_corner_23 (Nat.le_of_ble_eq_true rfl) ?_
        refine ri_iconst h 1 d_Lw_corner_25 rfl ?_
        refine ri_ireturn h d_Lw_corner_26 (Nat.le_of_ble_eq_true rfl) (Nat.le_of_ble_eq_true rfl) ?_
        exact ⟨1, v, M1, hP, rfl, fo, hfo, by rw [if_neg (by decide)]⟩
      | 1, hk =>
        cases hk
        refine ri_catch h [⟨0, 20, 23, 19⟩] ⟨0, 20, 27, 13⟩ [⟨0, 20, 31, 25⟩] rfl (List.forall_mem_cons.mpr ⟨⟨by decide, "java/lang/IndexOutOfBoundsException", by decide +kernel, nc_ise_iob⟩, (fun z hz => by cases hz)⟩) (by decide) (by decide) (by decide +kernel) (by decide +kernel) (fun q => ?_)
        refine ri_astore h d_Lw_corner_27 (Nat.le_of_ble_eq_true rfl) ?_
        refine ri_iconst h 2 d_Lw_corner_29 rfl ?_
        refine ri_ireturn h d_Lw_corner_30 (Nat.le_of_ble_eq_true rfl) (Nat.le_of_ble_eq_true rfl) ?_
        exact ⟨2, v, M1, hP, rfl, fo, hfo, by rw [if_neg (by decide)]⟩
      | 2, hk =>
        cases hk
        refine ri_catch h [⟨0, 20, 23, 19⟩, ⟨0, 20, 27, 13⟩] ⟨0, 20, 31, 25⟩ [] rfl (List.forall_mem_cons.mpr ⟨⟨by decide, "java/lang/IndexOutOfBoundsException", by decide +kernel, nc_iae_iob⟩, (List.forall_mem_cons.mpr ⟨⟨by decide, "java/lang/IllegalStateException", by decide +kernel, nc_iae_ise⟩, (fun z hz => by cases hz)⟩)⟩) (by decide) (by decide) (by decide +kernel) (by decide +kernel) (fun q => ?_)
        refine ri_astore h d_Lw_corner_31 (Nat.le_of_ble_eq_true rfl) ?_
        refine ri_iconst h 3 d_Lw_corner_33 rfl ?_
        refine ri_ireturn h d_Lw_corner_34 (Nat.le_of_ble_eq_true rfl) (Nat.le_of_ble_eq_true rfl) ?_
        exact ⟨3, v, M1, hP, rfl, fo, hfo, by rw [if_neg (by decide)]⟩
      | n + 3, hk => simp at hk
  · rintro v M1 (⟨v, h1, hP⟩ | ⟨k, E', v, hk, hE, hP⟩)
    · cases h1
      obtain ⟨fo, hfo⟩ := hout _ _ _ hP
      refine ri_if_eq h 18 d_Lw_corner_11 (by decide) (fun c_11 => ?_) (fun c_11 => ?_)
      · refine ri_lconst h 0 d_Lw_corner_18 rfl ?_
        refine ri_last h 0 d_Lw_corner_19 hfo rfl (by omega) (by omega) ?_
        refine ri_goto h 35 d_Lw_corner_20 (by decide) ?_
        refine ri_iconst h 0 d_Lw_corner_35 rfl ?_
        refine ri_ireturn h d_Lw_corner_36 (Nat.le_of_ble_eq_true rfl) (Nat.le_of_ble_eq_true rfl) ?_
        exact ⟨0, v, M1, hP, rfl, fo, hfo, by rw [if_pos rfl]; rw [jbool, if_pos c_11]⟩
      · refine ri_lconst h 1 d_Lw_corner_14 rfl ?_
        refine ri_goto h 19 d_Lw_corner_15 (by decide) ?_
        refine ri_last h 0 d_Lw_corner_19 hfo rfl (by omega) (by omega) ?_
        refine ri_goto h 35 d_Lw_corner_20 (by decide) ?_
        refine ri_iconst h 0 d_Lw_corner_35 rfl ?_
        refine ri_ireturn h d_Lw_corner_36 (Nat.le_of_ble_eq_true rfl) (Nat.le_of_ble_eq_true rfl) ?_
        exact ⟨0, v, M1, hP, rfl, fo, hfo, by rw [if_pos rfl]; rw [jbool, if_neg c_11]⟩
    · cases hE
theorem lw_w_path (h0 : g_0 l D s0) {x out : Nat} {fx : List Value} (p0 : Int32) (p1 : Int32) (p2 : Int64) (p3 : Int32) {P : Nat → Int32 → gH → Prop} (hx : M x = some (.inr (5, fx))) (hout : ∀ k v M1, P k v M1 → ∃ fo, M1 out = some (al 1 fo)) (ct : Ct l D s0 y_ST_path (Cond.code y_ST_path b_ST_path 7 (some .int)) rkC [.ref x, .int p0, .int p1, .long p2, .int p3] M (fT ["java/lang/IndexOutOfBoundsException", "java/lang/IllegalStateException", "java/lang/IllegalArgumentException"] Value.int P)) : Ct l D s0 y_Lw_path (Cond.codeWith y_Lw_path b_Lw_path 8 (some .int) hh_Lw_path) rkW [.ref x, .int p0, .int p1, .long p2, .int p3, .ref out] M (fW out Int32.toInt64 P) := by
  refine Ct.ofH h0 (by decide +kernel) rfl fun X hX h => ?_
  obtain ⟨p_, l', e_, R_, s_, m_, ar_, be_, me_, c_⟩ := X
  obtain rfl : l' = l := hX
  refine ri_aload h d_Lw_path_0 rfl ?_
  refine ri_iconst h 0 d_Lw_path_2 rfl ?_
  refine ri_aload_n h d_Lw_path_3 rfl ?_
  refine ri_iload_n h d_Lw_path_4 rfl ?_
  refine ri_iload_n h d_Lw_path_5 rfl ?_
  refine ri_lload_n h d_Lw_path_6 rfl ?_
  refine ri_iload h d_Lw_path_7 rfl ?_
  refine ri_callVT (r := (gR5, gT5, 8)) h [.int p0, .int p1, .long p2, .int p3] [.int 0, .ref out] d_Lw_path_9 cv_Lw_27 hx rfl rfl rfl (Nat.le_of_ble_eq_true rfl) (Nat.le_of_ble_eq_true rfl) (Nat.le_of_ble_eq_true rfl) (Nat.le_of_ble_eq_true rfl) (Nat.le_of_ble_eq_true rfl) ct ?_ ?_
  · rintro E M1 (⟨v, h1, -⟩ | ⟨k, E', v, hk, hE, hP⟩)
    · cases h1
    · cases hE
      obtain ⟨fo, hfo⟩ := hout _ _ _ hP
      match k, hk with
      | 0, hk =>
        cases hk
        refine ri_catch h [] ⟨0, 14, 17, 19⟩ [⟨0, 14, 21, 13⟩, ⟨0, 14, 25, 25⟩] rfl (fun z hz => by cases hz) (by decide) (by decide) (by decide +kernel) (by decide +kernel) (fun q => ?_)
        refine ri_astore h d_Lw_path_17 (Nat.le_of_ble_eq_true rfl) ?_
        refine ri_iconst h 1 d_Lw_path_19 rfl ?_
        refine ri_ireturn h d_Lw_path_20 (Nat.le_of_ble_eq_true rfl) (Nat.le_of_ble_eq_true rfl) ?_
        exact ⟨1, v, M1, hP, rfl, fo, hfo, by rw [if_neg (by decide)]⟩
      | 1, hk =>
        cases hk
        refine ri_catch h [⟨0, 14, 17, 19⟩] ⟨0, 14, 21, 13⟩ [⟨0, 14, 25, 25⟩] rfl (List.forall_mem_cons.mpr ⟨⟨by decide, "java/lang/IndexOutOfBoundsException", by decide +kernel, nc_ise_iob⟩, (fun z hz => by cases hz)⟩) (by decide) (by decide) (by decide +kernel) (by decide +kernel) (fun q => ?_)
        refine ri_astore h d_Lw_path_21 (Nat.le_of_ble_eq_true rfl) ?_
        refine ri_iconst h 2 d_Lw_path_23 rfl ?_
        refine ri_ireturn h d_Lw_path_24 (Nat.le_of_ble_eq_true rfl) (Nat.le_of_ble_eq_true rfl) ?_
        exact ⟨2, v, M1, hP, rfl, fo, hfo, by rw [if_neg (by decide)]⟩
      | 2, hk =>
        cases hk
        refine ri_catch h [⟨0, 14, 17, 19⟩, ⟨0, 14, 21, 13⟩] ⟨0, 14, 25, 25⟩ [] rfl (List.forall_mem_cons.mpr ⟨⟨by decide, "java/lang/IndexOutOfBoundsException", by decide +kernel, nc_iae_iob⟩, (List.forall_mem_cons.mpr ⟨⟨by decide, "java/lang/IllegalStateException", by decide +kernel, nc_iae_ise⟩, (fun z hz => by cases hz)⟩)⟩) (by decide) (by decide) (by decide +kernel) (by decide +kernel) (fun q => ?_)
        refine ri_astore h d_Lw_path_25 (Nat.le_of_ble_eq_true rfl) ?_
        refine ri_iconst h 3 d_Lw_path_27 rfl ?_
        refine ri_ireturn h d_Lw_path_28 (Nat.le_of_ble_eq_true rfl) (Nat.le_of_ble_eq_true rfl) ?_
        exact ⟨3, v, M1, hP, rfl, fo, hfo, by rw [if_neg (by decide)]⟩
      | n + 3, hk => simp at hk
  · rintro v M1 (⟨v, h1, hP⟩ | ⟨k, E', v, hk, hE, hP⟩)
    · cases h1
      obtain ⟨fo, hfo⟩ := hout _ _ _ hP
      refine ri_i2l h d_Lw_path_12 ?_
      refine ri_last h 0 d_Lw_path_13 hfo rfl (by omega) (by omega) ?_
      refine ri_goto h 29 d_Lw_path_14 (by decide) ?_
      refine ri_iconst h 0 d_Lw_path_29 rfl ?_
      refine ri_ireturn h d_Lw_path_30 (Nat.le_of_ble_eq_true rfl) (Nat.le_of_ble_eq_true rfl) ?_
      exact ⟨0, v, M1, hP, rfl, fo, hfo, by rw [if_pos rfl]⟩
    · cases hE
theorem lw_w_point (h0 : g_0 l D s0) {x out : Nat} {fx : List Value} (p0 : Int32) (p1 : Int64) (p2 : Int64) {P : Nat → Int32 → gH → Prop} (hx : M x = some (.inr (5, fx))) (hout : ∀ k v M1, P k v M1 → ∃ fo, M1 out = some (al 1 fo)) (ct : Ct l D s0 y_ST_point (Cond.code y_ST_point b_ST_point 6 (some .boolean)) rkC [.ref x, .int p0, .long p1, .long p2] M (fT ["java/lang/IndexOutOfBoundsException", "java/lang/IllegalStateException", "java/lang/IllegalArgumentException"] Value.int P)) : Ct l D s0 y_Lw_point (Cond.codeWith y_Lw_point b_Lw_point 8 (some .int) hh_Lw_point) rkW [.ref x, .int p0, .long p1, .long p2, .ref out] M (fW out jbool P) := by
  refine Ct.ofH h0 (by decide +kernel) rfl fun X hX h => ?_
  obtain ⟨p_, l', e_, R_, s_, m_, ar_, be_, me_, c_⟩ := X
  obtain rfl : l' = l := hX
  refine ri_aload h d_Lw_point_0 rfl ?_
  refine ri_iconst h 0 d_Lw_point_2 rfl ?_
  refine ri_aload_n h d_Lw_point_3 rfl ?_
  refine ri_iload_n h d_Lw_point_4 rfl ?_
  refine ri_lload_n h d_Lw_point_5 rfl ?_
  refine ri_lload h d_Lw_point_6 rfl ?_
  refine ri_callVT (r := (gR5, gT5, 8)) h [.int p0, .long p1, .long p2] [.int 0, .ref out] d_Lw_point_8 cv_Lw_31 hx rfl rfl rfl (Nat.le_of_ble_eq_true rfl) (Nat.le_of_ble_eq_true rfl) (Nat.le_of_ble_eq_true rfl) (Nat.le_of_ble_eq_true rfl) (Nat.le_of_ble_eq_true rfl) ct ?_ ?_
  · rintro E M1 (⟨v, h1, -⟩ | ⟨k, E', v, hk, hE, hP⟩)
    · cases h1
    · cases hE
      obtain ⟨fo, hfo⟩ := hout _ _ _ hP
      match k, hk with
      | 0, hk =>
        cases hk
        refine ri_catch h [] ⟨0, 20, 23, 19⟩ [⟨0, 20, 27, 13⟩, ⟨0, 20, 31, 25⟩] rfl (fun z hz => by cases hz) (by decide) (by decide) (by decide +kernel) (by decide +kernel) (fun q => ?_)
        refine ri_astore h d_Lw_point_23 (Nat.le_of_ble_eq_true rfl) ?_
        refine ri_iconst h 1 d_Lw_point_25 rfl ?_
        refine ri_ireturn h d_Lw_point_26 (Nat.le_of_ble_eq_true rfl) (Nat.le_of_ble_eq_true rfl) ?_
        exact ⟨1, v, M1, hP, rfl, fo, hfo, by rw [if_neg (by decide)]⟩
      | 1, hk =>
        cases hk
        refine ri_catch h [⟨0, 20, 23, 19⟩] ⟨0, 20, 27, 13⟩ [⟨0, 20, 31, 25⟩] rfl (List.forall_mem_cons.mpr ⟨⟨by decide, "java/lang/IndexOutOfBoundsException", by decide +kernel, nc_ise_iob⟩, (fun z hz => by cases hz)⟩) (by decide) (by decide) (by decide +kernel) (by decide +kernel) (fun q => ?_)
        refine ri_astore h d_Lw_point_27 (Nat.le_of_ble_eq_true rfl) ?_
        refine ri_iconst h 2 d_Lw_point_29 rfl ?_
        refine ri_ireturn h d_Lw_point_30 (Nat.le_of_ble_eq_true rfl) (Nat.le_of_ble_eq_true rfl) ?_
        exact ⟨2, v, M1, hP, rfl, fo, hfo, by rw [if_neg (by decide)]⟩
      | 2, hk =>
        cases hk
        refine ri_catch h [⟨0, 20, 23, 19⟩, ⟨0, 20, 27, 13⟩] ⟨0, 20, 31, 25⟩ [] rfl (List.forall_mem_cons.mpr ⟨⟨by decide, "java/lang/IndexOutOfBoundsException", by decide +kernel, nc_iae_iob⟩, (List.forall_mem_cons.mpr ⟨⟨by decide, "java/lang/IllegalStateException", by decide +kernel, nc_iae_ise⟩, (fun z hz => by cases hz)⟩)⟩) (by decide) (by decide) (by decide +kernel) (by decide +kernel) (fun q => ?_)
        refine ri_astore h d_Lw_point_31 (Nat.le_of_ble_eq_true rfl) ?_
        refine ri_iconst h 3 d_Lw_point_33 rfl ?_
        refine ri_ireturn h d_Lw_point_34 (Nat.le_of_ble_eq_true rfl) (Nat.le_of_ble_eq_true rfl) ?_
        exact ⟨3, v, M1, hP, rfl, fo, hfo, by rw [if_neg (by decide)]⟩
      | n + 3, hk => simp at hk
  · rintro v M1 (⟨v, h1, hP⟩ | ⟨k, E', v, hk, hE, hP⟩)
    · cases h1
      obtain ⟨fo, hfo⟩ := hout _ _ _ hP
      refine ri_if_eq h 18 d_Lw_point_11 (by decide) (fun c_11 => ?_) (fun c_11 => ?_)
      · refine ri_lconst h 0 d_Lw_point_18 rfl ?_
        refine ri_last h 0 d_Lw_point_19 hfo rfl (by omega) (by omega) ?_
        refine ri_goto h 35 d_Lw_point_20 (by decide) ?_
        refine ri_iconst h 0 d_Lw_point_35 rfl ?_
        refine ri_ireturn h d_Lw_point_36 (Nat.le_of_ble_eq_true rfl) (Nat.le_of_ble_eq_true rfl) ?_
        exact ⟨0, v, M1, hP, rfl, fo, hfo, by rw [if_pos rfl]; rw [jbool, if_pos c_11]⟩
      · refine ri_lconst h 1 d_Lw_point_14 rfl ?_
        refine ri_goto h 19 d_Lw_point_15 (by decide) ?_
        refine ri_last h 0 d_Lw_point_19 hfo rfl (by omega) (by omega) ?_
        refine ri_goto h 35 d_Lw_point_20 (by decide) ?_
        refine ri_iconst h 0 d_Lw_point_35 rfl ?_
        refine ri_ireturn h d_Lw_point_36 (Nat.le_of_ble_eq_true rfl) (Nat.le_of_ble_eq_true rfl) ?_
        exact ⟨0, v, M1, hP, rfl, fo, hfo, by rw [if_pos rfl]; rw [jbool, if_neg c_11]⟩
    · cases hE
theorem lw_w_place (h0 : g_0 l D s0) {x out : Nat} {fx : List Value} (p0 : Int32) (p1 : Int32) (p2 : Int64) (p3 : Int64) (p4 : Int32) {P : Nat → Int32 → gH → Prop} (hx : M x = some (.inr (5, fx))) (hout : ∀ k v M1, P k v M1 → ∃ fo, M1 out = some (al 1 fo)) (ct : Ct l D s0 y_ST_place (Cond.code y_ST_place b_ST_place 11 (some .int)) rkC [.ref x, .int p0, .int p1, .long p2, .long p3, .int p4] M (fT ["java/lang/IndexOutOfBoundsException", "java/lang/IllegalStateException", "java/lang/IllegalArgumentException"] Value.int P)) : Ct l D s0 y_Lw_place (Cond.codeWith y_Lw_place b_Lw_place 10 (some .int) hh_Lw_place) rkW [.ref x, .int p0, .int p1, .long p2, .long p3, .int p4, .ref out] M (fW out Int32.toInt64 P) := by
  refine Ct.ofH h0 (by decide +kernel) rfl fun X hX h => ?_
  obtain ⟨p_, l', e_, R_, s_, m_, ar_, be_, me_, c_⟩ := X
  obtain rfl : l' = l := hX
  refine ri_aload h d_Lw_place_0 rfl ?_
  refine ri_iconst h 0 d_Lw_place_2 rfl ?_
  refine ri_aload_n h d_Lw_place_3 rfl ?_
  refine ri_iload_n h d_Lw_place_4 rfl ?_
  refine ri_iload_n h d_Lw_place_5 rfl ?_
  refine ri_lload_n h d_Lw_place_6 rfl ?_
  refine ri_lload h d_Lw_place_7 rfl ?_
  refine ri_iload h d_Lw_place_9 rfl ?_
  refine ri_callVT (r := (gR5, gT5, 8)) h [.int p0, .int p1, .long p2, .long p3, .int p4] [.int 0, .ref out] d_Lw_place_11 cv_Lw_34 hx rfl rfl rfl (Nat.le_of_ble_eq_true rfl) (Nat.le_of_ble_eq_true rfl) (Nat.le_of_ble_eq_true rfl) (Nat.le_of_ble_eq_true rfl) (Nat.le_of_ble_eq_true rfl) ct ?_ ?_
  · rintro E M1 (⟨v, h1, -⟩ | ⟨k, E', v, hk, hE, hP⟩)
    · cases h1
    · cases hE
      obtain ⟨fo, hfo⟩ := hout _ _ _ hP
      match k, hk with
      | 0, hk =>
        cases hk
        refine ri_catch h [] ⟨0, 16, 19, 19⟩ [⟨0, 16, 23, 13⟩, ⟨0, 16, 27, 25⟩] rfl (fun z hz => by cases hz) (by decide) (by decide) (by decide +kernel) (by decide +kernel) (fun q => ?_)
        refine ri_astore h d_Lw_place_19 (Nat.le_of_ble_eq_true rfl) ?_
        refine ri_iconst h 1 d_Lw_place_21 rfl ?_
        refine ri_ireturn h d_Lw_place_22 (Nat.le_of_ble_eq_true rfl) (Nat.le_of_ble_eq_true rfl) ?_
        exact ⟨1, v, M1, hP, rfl, fo, hfo, by rw [if_neg (by decide)]⟩
      | 1, hk =>
        cases hk
        refine ri_catch h [⟨0, 16, 19, 19⟩] ⟨0, 16, 23, 13⟩ [⟨0, 16, 27, 25⟩] rfl (List.forall_mem_cons.mpr ⟨⟨by decide, "java/lang/IndexOutOfBoundsException", by decide +kernel, nc_ise_iob⟩, (fun z hz => by cases hz)⟩) (by decide) (by decide) (by decide +kernel) (by decide +kernel) (fun q => ?_)
        refine ri_astore h d_Lw_place_23 (Nat.le_of_ble_eq_true rfl) ?_
        refine ri_iconst h 2 d_Lw_place_25 rfl ?_
        refine ri_ireturn h d_Lw_place_26 (Nat.le_of_ble_eq_true rfl) (Nat.le_of_ble_eq_true rfl) ?_
        exact ⟨2, v, M1, hP, rfl, fo, hfo, by rw [if_neg (by decide)]⟩
      | 2, hk =>
        cases hk
        refine ri_catch h [⟨0, 16, 19, 19⟩, ⟨0, 16, 23, 13⟩] ⟨0, 16, 27, 25⟩ [] rfl (List.forall_mem_cons.mpr ⟨⟨by decide, "java/lang/IndexOutOfBoundsException", by decide +kernel, nc_iae_iob⟩, (List.forall_mem_cons.mpr ⟨⟨by decide, "java/lang/IllegalStateException", by decide +kernel, nc_iae_ise⟩, (fun z hz => by cases hz)⟩)⟩) (by decide) (by decide) (by decide +kernel) (by decide +kernel) (fun q => ?_)
        refine ri_astore h d_Lw_place_27 (Nat.le_of_ble_eq_true rfl) ?_
        refine ri_iconst h 3 d_Lw_place_29 rfl ?_
        refine ri_ireturn h d_Lw_place_30 (Nat.le_of_ble_eq_true rfl) (Nat.le_of_ble_eq_true rfl) ?_
        exact ⟨3, v, M1, hP, rfl, fo, hfo, by rw [if_neg (by decide)]⟩
      | n + 3, hk => simp at hk
  · rintro v M1 (⟨v, h1, hP⟩ | ⟨k, E', v, hk, hE, hP⟩)
    · cases h1
      obtain ⟨fo, hfo⟩ := hout _ _ _ hP
      refine ri_i2l h d_Lw_place_14 ?_
      refine ri_last h 0 d_Lw_place_15 hfo rfl (by omega) (by omega) ?_
      refine ri_goto h 31 d_Lw_place_16 (by decide) ?_
      refine ri_iconst h 0 d_Lw_place_31 rfl ?_
      refine ri_ireturn h d_Lw_place_32 (Nat.le_of_ble_eq_true rfl) (Nat.le_of_ble_eq_true rfl) ?_
      exact ⟨0, v, M1, hP, rfl, fo, hfo, by rw [if_pos rfl]⟩
    · cases hE
theorem lw_w_array (h0 : g_0 l D s0) {x out : Nat} {fx : List Value} (p0 : Int32) (p1 : Int32) (p2 : Int32) (p3 : Int64) (p4 : Int64) {P : Nat → Int32 → gH → Prop} (hx : M x = some (.inr (5, fx))) (hout : ∀ k v M1, P k v M1 → ∃ fo, M1 out = some (al 1 fo)) (ct : Ct l D s0 y_ST_array (Cond.code y_ST_array b_ST_array 9 (some .int)) rkC [.ref x, .int p0, .int p1, .int p2, .long p3, .long p4] M (fT ["java/lang/IndexOutOfBoundsException", "java/lang/IllegalArgumentException"] Value.int P)) : Ct l D s0 y_Lw_array (Cond.codeWith y_Lw_array b_Lw_array 10 (some .int) hh_Lw_array) rkW [.ref x, .int p0, .int p1, .int p2, .long p3, .long p4, .ref out] M (fW out Int32.toInt64 P) := by
  refine Ct.ofH h0 (by decide +kernel) rfl fun X hX h => ?_
  obtain ⟨p_, l', e_, R_, s_, m_, ar_, be_, me_, c_⟩ := X
  obtain rfl : l' = l := hX
  refine ri_aload h d_Lw_array_0 rfl ?_
  refine ri_iconst h 0 d_Lw_array_2 rfl ?_
  refine ri_aload_n h d_Lw_array_3 rfl ?_
  refine ri_iload_n h d_Lw_array_4 rfl ?_
  refine ri_iload_n h d_Lw_array_5 rfl ?_
  refine ri_iload_n h d_Lw_array_6 rfl ?_
  refine ri_lload h d_Lw_array_7 rfl ?_
  refine ri_lload h d_Lw_array_9 rfl ?_
  refine ri_callVT (r := (gR5, gT5, 8)) h [.int p0, .int p1, .int p2, .long p3, .long p4] [.int 0, .ref out] d_Lw_array_11 cv_Lw_38 hx rfl rfl rfl (Nat.le_of_ble_eq_true rfl) (Nat.le_of_ble_eq_true rfl) (Nat.le_of_ble_eq_true rfl) (Nat.le_of_ble_eq_true rfl) (Nat.le_of_ble_eq_true rfl) ct ?_ ?_
  · rintro E M1 (⟨v, h1, -⟩ | ⟨k, E', v, hk, hE, hP⟩)
    · cases h1
    · cases hE
      obtain ⟨fo, hfo⟩ := hout _ _ _ hP
      match k, hk with
      | 0, hk =>
        cases hk
        refine ri_catch h [] ⟨0, 16, 19, 19⟩ [⟨0, 16, 23, 25⟩] rfl (fun z hz => by cases hz) (by decide) (by decide) (by decide +kernel) (by decide +kernel) (fun q => ?_)
        refine ri_astore h d_Lw_array_19 (Nat.le_of_ble_eq_true rfl) ?_
        refine ri_iconst h 1 d_Lw_array_21 rfl ?_
        refine ri_ireturn h d_Lw_array_22 (Nat.le_of_ble_eq_true rfl) (Nat.le_of_ble_eq_true rfl) ?_
        exact ⟨1, v, M1, hP, rfl, fo, hfo, by rw [if_neg (by decide)]⟩
      | 1, hk =>
        cases hk
        refine ri_catch h [⟨0, 16, 19, 19⟩] ⟨0, 16, 23, 25⟩ [] rfl (List.forall_mem_cons.mpr ⟨⟨by decide, "java/lang/IndexOutOfBoundsException", by decide +kernel, nc_iae_iob⟩, (fun z hz => by cases hz)⟩) (by decide) (by decide) (by decide +kernel) (by decide +kernel) (fun q => ?_)
        refine ri_astore h d_Lw_array_23 (Nat.le_of_ble_eq_true rfl) ?_
        refine ri_iconst h 2 d_Lw_array_25 rfl ?_
        refine ri_ireturn h d_Lw_array_26 (Nat.le_of_ble_eq_true rfl) (Nat.le_of_ble_eq_true rfl) ?_
        exact ⟨2, v, M1, hP, rfl, fo, hfo, by rw [if_neg (by decide)]⟩
      | n + 2, hk => simp at hk
  · rintro v M1 (⟨v, h1, hP⟩ | ⟨k, E', v, hk, hE, hP⟩)
    · cases h1
      obtain ⟨fo, hfo⟩ := hout _ _ _ hP
      refine ri_i2l h d_Lw_array_14 ?_
      refine ri_last h 0 d_Lw_array_15 hfo rfl (by omega) (by omega) ?_
      refine ri_goto h 27 d_Lw_array_16 (by decide) ?_
      refine ri_iconst h 0 d_Lw_array_27 rfl ?_
      refine ri_ireturn h d_Lw_array_28 (Nat.le_of_ble_eq_true rfl) (Nat.le_of_ble_eq_true rfl) ?_
      exact ⟨0, v, M1, hP, rfl, fo, hfo, by rw [if_pos rfl]⟩
    · cases hE
theorem lw_w_box (h0 : g_0 l D s0) {x out : Nat} {fx : List Value} (p0 : Int32) (p1 : Int32) (p2 : Int32) {P : Nat → Int64 → gH → Prop} (hx : M x = some (.inr (5, fx))) (hout : ∀ k v M1, P k v M1 → ∃ fo, M1 out = some (al 1 fo)) (ct : Ct l D s0 y_ST_box (Cond.code y_ST_box b_ST_box 5 (some .long)) rkC [.ref x, .int p0, .int p1, .int p2] M (fT ["java/lang/IndexOutOfBoundsException", "java/lang/IllegalStateException"] Value.long P)) : Ct l D s0 y_Lw_box (Cond.codeWith y_Lw_box b_Lw_box 6 (some .int) hh_Lw_box) rkW [.ref x, .int p0, .int p1, .int p2, .ref out] M (fW out (fun x => x) P) := by
  refine Ct.ofH h0 (by decide +kernel) rfl fun X hX h => ?_
  obtain ⟨p_, l', e_, R_, s_, m_, ar_, be_, me_, c_⟩ := X
  obtain rfl : l' = l := hX
  refine ri_aload h d_Lw_box_0 rfl ?_
  refine ri_iconst h 0 d_Lw_box_2 rfl ?_
  refine ri_aload_n h d_Lw_box_3 rfl ?_
  refine ri_iload_n h d_Lw_box_4 rfl ?_
  refine ri_iload_n h d_Lw_box_5 rfl ?_
  refine ri_iload_n h d_Lw_box_6 rfl ?_
  refine ri_callVT (r := (gR5, gT5, 8)) h [.int p0, .int p1, .int p2] [.int 0, .ref out] d_Lw_box_7 cv_Lw_42 hx rfl rfl rfl (Nat.le_of_ble_eq_true rfl) (Nat.le_of_ble_eq_true rfl) (Nat.le_of_ble_eq_true rfl) (Nat.le_of_ble_eq_true rfl) (Nat.le_of_ble_eq_true rfl) ct ?_ ?_
  · rintro E M1 (⟨v, h1, -⟩ | ⟨k, E', v, hk, hE, hP⟩)
    · cases h1
    · cases hE
      obtain ⟨fo, hfo⟩ := hout _ _ _ hP
      match k, hk with
      | 0, hk =>
        cases hk
        refine ri_catch h [] ⟨0, 11, 14, 19⟩ [⟨0, 11, 18, 13⟩] rfl (fun z hz => by cases hz) (by decide) (by decide) (by decide +kernel) (by decide +kernel) (fun q => ?_)
        refine ri_astore h d_Lw_box_14 (Nat.le_of_ble_eq_true rfl) ?_
        refine ri_iconst h 1 d_Lw_box_16 rfl ?_
        refine ri_ireturn h d_Lw_box_17 (Nat.le_of_ble_eq_true rfl) (Nat.le_of_ble_eq_true rfl) ?_
        exact ⟨1, v, M1, hP, rfl, fo, hfo, by rw [if_neg (by decide)]⟩
      | 1, hk =>
        cases hk
        refine ri_catch h [⟨0, 11, 14, 19⟩] ⟨0, 11, 18, 13⟩ [] rfl (List.forall_mem_cons.mpr ⟨⟨by decide, "java/lang/IndexOutOfBoundsException", by decide +kernel, nc_ise_iob⟩, (fun z hz => by cases hz)⟩) (by decide) (by decide) (by decide +kernel) (by decide +kernel) (fun q => ?_)
        refine ri_astore h d_Lw_box_18 (Nat.le_of_ble_eq_true rfl) ?_
        refine ri_iconst h 2 d_Lw_box_20 rfl ?_
        refine ri_ireturn h d_Lw_box_21 (Nat.le_of_ble_eq_true rfl) (Nat.le_of_ble_eq_true rfl) ?_
        exact ⟨2, v, M1, hP, rfl, fo, hfo, by rw [if_neg (by decide)]⟩
      | n + 2, hk => simp at hk
  · rintro v M1 (⟨v, h1, hP⟩ | ⟨k, E', v, hk, hE, hP⟩)
    · cases h1
      obtain ⟨fo, hfo⟩ := hout _ _ _ hP
      refine ri_last h 0 d_Lw_box_10 hfo rfl (by omega) (by omega) ?_
      refine ri_goto h 22 d_Lw_box_11 (by decide) ?_
      refine ri_iconst h 0 d_Lw_box_22 rfl ?_
      refine ri_ireturn h d_Lw_box_23 (Nat.le_of_ble_eq_true rfl) (Nat.le_of_ble_eq_true rfl) ?_
      exact ⟨0, v, M1, hP, rfl, fo, hfo, by rw [if_pos rfl]⟩
    · cases hE
theorem lw_w_flat (h0 : g_0 l D s0) {x out : Nat} {fx : List Value} (p0 : Int32) (p1 : Int32) {P : Nat → Int32 → gH → Prop} (hx : M x = some (.inr (5, fx))) (hout : ∀ k v M1, P k v M1 → ∃ fo, M1 out = some (al 1 fo)) (ct : Ct l D s0 y_ST_flat (Cond.code y_ST_flat b_ST_flat 4 (some .int)) rkC [.ref x, .int p0, .int p1] M (fT ["java/lang/IndexOutOfBoundsException", "java/lang/UnsupportedOperationException"] Value.int P)) : Ct l D s0 y_Lw_flat (Cond.codeWith y_Lw_flat b_Lw_flat 5 (some .int) hh_Lw_flat) rkW [.ref x, .int p0, .int p1, .ref out] M (fW out Int32.toInt64 P) := by
  refine Ct.ofH h0 (by decide +kernel) rfl fun X hX h => ?_
  obtain ⟨p_, l', e_, R_, s_, m_, ar_, be_, me_, c_⟩ := X
  obtain rfl : l' = l := hX
  refine ri_aload_n h d_Lw_flat_0 rfl ?_
  refine ri_iconst h 0 d_Lw_flat_1 rfl ?_
  refine ri_aload_n h d_Lw_flat_2 rfl ?_
  refine ri_iload_n h d_Lw_flat_3 rfl ?_
  refine ri_iload_n h d_Lw_flat_4 rfl ?_
  refine ri_callVT (r := (gR5, gT5, 8)) h [.int p0, .int p1] [.int 0, .ref out] d_Lw_flat_5 cv_Lw_46 hx rfl rfl rfl (Nat.le_of_ble_eq_true rfl) (Nat.le_of_ble_eq_true rfl) (Nat.le_of_ble_eq_true rfl) (Nat.le_of_ble_eq_true rfl) (Nat.le_of_ble_eq_true rfl) ct ?_ ?_
  · rintro E M1 (⟨v, h1, -⟩ | ⟨k, E', v, hk, hE, hP⟩)
    · cases h1
    · cases hE
      obtain ⟨fo, hfo⟩ := hout _ _ _ hP
      match k, hk with
      | 0, hk =>
        cases hk
        refine ri_catch h [] ⟨0, 10, 13, 19⟩ [⟨0, 10, 17, 49⟩] rfl (fun z hz => by cases hz) (by decide) (by decide) (by decide +kernel) (by decide +kernel) (fun q => ?_)
        refine ri_astore h d_Lw_flat_13 (Nat.le_of_ble_eq_true rfl) ?_
        refine ri_iconst h 1 d_Lw_flat_15 rfl ?_
        refine ri_ireturn h d_Lw_flat_16 (Nat.le_of_ble_eq_true rfl) (Nat.le_of_ble_eq_true rfl) ?_
        exact ⟨1, v, M1, hP, rfl, fo, hfo, by rw [if_neg (by decide)]⟩
      | 1, hk =>
        cases hk
        refine ri_catch h [⟨0, 10, 13, 19⟩] ⟨0, 10, 17, 49⟩ [] rfl (List.forall_mem_cons.mpr ⟨⟨by decide, "java/lang/IndexOutOfBoundsException", by decide +kernel, nc_uoe_iob⟩, (fun z hz => by cases hz)⟩) (by decide) (by decide) (by decide +kernel) (by decide +kernel) (fun q => ?_)
        refine ri_astore h d_Lw_flat_17 (Nat.le_of_ble_eq_true rfl) ?_
        refine ri_iconst h 2 d_Lw_flat_19 rfl ?_
        refine ri_ireturn h d_Lw_flat_20 (Nat.le_of_ble_eq_true rfl) (Nat.le_of_ble_eq_true rfl) ?_
        exact ⟨2, v, M1, hP, rfl, fo, hfo, by rw [if_neg (by decide)]⟩
      | n + 2, hk => simp at hk
  · rintro v M1 (⟨v, h1, hP⟩ | ⟨k, E', v, hk, hE, hP⟩)
    · cases h1
      obtain ⟨fo, hfo⟩ := hout _ _ _ hP
      refine ri_i2l h d_Lw_flat_8 ?_
      refine ri_last h 0 d_Lw_flat_9 hfo rfl (by omega) (by omega) ?_
      refine ri_goto h 21 d_Lw_flat_10 (by decide) ?_
      refine ri_iconst h 0 d_Lw_flat_21 rfl ?_
      refine ri_ireturn h d_Lw_flat_22 (Nat.le_of_ble_eq_true rfl) (Nat.le_of_ble_eq_true rfl) ?_
      exact ⟨0, v, M1, hP, rfl, fo, hfo, by rw [if_pos rfl]⟩
    · cases hE
theorem lw_w_at (h0 : g_0 l D s0) {x out : Nat} {fx : List Value} (p0 : Int32) (p1 : Int32) (p2 : Int32) {P : Nat → Int64 → gH → Prop} (hx : M x = some (.inr (5, fx))) (hout : ∀ k v M1, P k v M1 → ∃ fo, M1 out = some (al 1 fo)) (ct : Ct l D s0 y_ST_at (Cond.code y_ST_at b_ST_at 4 (some .long)) rkC [.ref x, .int p0, .int p1, .int p2] M (fT ["java/lang/IndexOutOfBoundsException"] Value.long P)) : Ct l D s0 y_Lw_at (Cond.codeWith y_Lw_at b_Lw_at 6 (some .int) hh_Lw_at) rkW [.ref x, .int p0, .int p1, .int p2, .ref out] M (fW out (fun x => x) P) := by
  refine Ct.ofH h0 (by decide +kernel) rfl fun X hX h => ?_
  obtain ⟨p_, l', e_, R_, s_, m_, ar_, be_, me_, c_⟩ := X
  obtain rfl : l' = l := hX
  refine ri_aload h d_Lw_at_0 rfl ?_
  refine ri_iconst h 0 d_Lw_at_2 rfl ?_
  refine ri_aload_n h d_Lw_at_3 rfl ?_
  refine ri_iload_n h d_Lw_at_4 rfl ?_
  refine ri_iload_n h d_Lw_at_5 rfl ?_
  refine ri_iload_n h d_Lw_at_6 rfl ?_
  refine ri_callVT (r := (gR5, gT5, 8)) h [.int p0, .int p1, .int p2] [.int 0, .ref out] d_Lw_at_7 cv_Lw_51 hx rfl rfl rfl (Nat.le_of_ble_eq_true rfl) (Nat.le_of_ble_eq_true rfl) (Nat.le_of_ble_eq_true rfl) (Nat.le_of_ble_eq_true rfl) (Nat.le_of_ble_eq_true rfl) ct ?_ ?_
  · rintro E M1 (⟨v, h1, -⟩ | ⟨k, E', v, hk, hE, hP⟩)
    · cases h1
    · cases hE
      obtain ⟨fo, hfo⟩ := hout _ _ _ hP
      match k, hk with
      | 0, hk =>
        cases hk
        refine ri_catch h [] ⟨0, 11, 14, 19⟩ [] rfl (fun z hz => by cases hz) (by decide) (by decide) (by decide +kernel) (by decide +kernel) (fun q => ?_)
        refine ri_astore h d_Lw_at_14 (Nat.le_of_ble_eq_true rfl) ?_
        refine ri_iconst h 1 d_Lw_at_16 rfl ?_
        refine ri_ireturn h d_Lw_at_17 (Nat.le_of_ble_eq_true rfl) (Nat.le_of_ble_eq_true rfl) ?_
        exact ⟨1, v, M1, hP, rfl, fo, hfo, by rw [if_neg (by decide)]⟩
      | n + 1, hk => simp at hk
  · rintro v M1 (⟨v, h1, hP⟩ | ⟨k, E', v, hk, hE, hP⟩)
    · cases h1
      obtain ⟨fo, hfo⟩ := hout _ _ _ hP
      refine ri_last h 0 d_Lw_at_10 hfo rfl (by omega) (by omega) ?_
      refine ri_goto h 18 d_Lw_at_11 (by decide) ?_
      refine ri_iconst h 0 d_Lw_at_18 rfl ?_
      refine ri_ireturn h d_Lw_at_19 (Nat.le_of_ble_eq_true rfl) (Nat.le_of_ble_eq_true rfl) ?_
      exact ⟨0, v, M1, hP, rfl, fo, hfo, by rw [if_pos rfl]⟩
    · cases hE
theorem lw_w_equalTo (h0 : g_0 l D s0) {x out : Nat} {fx : List Value} (p0 : Int32) {P : Nat → Int32 → gH → Prop} (hx : M x = some (.inr (5, fx))) (hout : ∀ k v M1, P k v M1 → ∃ fo, M1 out = some (al 1 fo)) (ct : Ct l D s0 y_ST_equalTo (Cond.code y_ST_equalTo b_ST_equalTo 6 (some .int)) rkC [.ref x, .int p0] M (fT ["java/lang/IndexOutOfBoundsException", "java/lang/UnsupportedOperationException"] Value.int P)) : Ct l D s0 y_Lw_equalTo (Cond.codeWith y_Lw_equalTo b_Lw_equalTo 4 (some .int) hh_Lw_equalTo) rkW [.ref x, .int p0, .ref out] M (fW out Int32.toInt64 P) := by
  refine Ct.ofH h0 (by decide +kernel) rfl fun X hX h => ?_
  obtain ⟨p_, l', e_, R_, s_, m_, ar_, be_, me_, c_⟩ := X
  obtain rfl : l' = l := hX
  refine ri_aload_n h d_Lw_equalTo_0 rfl ?_
  refine ri_iconst h 0 d_Lw_equalTo_1 rfl ?_
  refine ri_aload_n h d_Lw_equalTo_2 rfl ?_
  refine ri_iload_n h d_Lw_equalTo_3 rfl ?_
  refine ri_callVT (r := (gR5, gT5, 8)) h [.int p0] [.int 0, .ref out] d_Lw_equalTo_4 cv_Lw_54 hx rfl rfl rfl (Nat.le_of_ble_eq_true rfl) (Nat.le_of_ble_eq_true rfl) (Nat.le_of_ble_eq_true rfl) (Nat.le_of_ble_eq_true rfl) (Nat.le_of_ble_eq_true rfl) ct ?_ ?_
  · rintro E M1 (⟨v, h1, -⟩ | ⟨k, E', v, hk, hE, hP⟩)
    · cases h1
    · cases hE
      obtain ⟨fo, hfo⟩ := hout _ _ _ hP
      match k, hk with
      | 0, hk =>
        cases hk
        refine ri_catch h [] ⟨0, 9, 12, 19⟩ [⟨0, 9, 15, 49⟩] rfl (fun z hz => by cases hz) (by decide) (by decide) (by decide +kernel) (by decide +kernel) (fun q => ?_)
        refine ri_astore_n h d_Lw_equalTo_12 (Nat.le_of_ble_eq_true rfl) ?_
        refine ri_iconst h 1 d_Lw_equalTo_13 rfl ?_
        refine ri_ireturn h d_Lw_equalTo_14 (Nat.le_of_ble_eq_true rfl) (Nat.le_of_ble_eq_true rfl) ?_
        exact ⟨1, v, M1, hP, rfl, fo, hfo, by rw [if_neg (by decide)]⟩
      | 1, hk =>
        cases hk
        refine ri_catch h [⟨0, 9, 12, 19⟩] ⟨0, 9, 15, 49⟩ [] rfl (List.forall_mem_cons.mpr ⟨⟨by decide, "java/lang/IndexOutOfBoundsException", by decide +kernel, nc_uoe_iob⟩, (fun z hz => by cases hz)⟩) (by decide) (by decide) (by decide +kernel) (by decide +kernel) (fun q => ?_)
        refine ri_astore_n h d_Lw_equalTo_15 (Nat.le_of_ble_eq_true rfl) ?_
        refine ri_iconst h 2 d_Lw_equalTo_16 rfl ?_
        refine ri_ireturn h d_Lw_equalTo_17 (Nat.le_of_ble_eq_true rfl) (Nat.le_of_ble_eq_true rfl) ?_
        exact ⟨2, v, M1, hP, rfl, fo, hfo, by rw [if_neg (by decide)]⟩
      | n + 2, hk => simp at hk
  · rintro v M1 (⟨v, h1, hP⟩ | ⟨k, E', v, hk, hE, hP⟩)
    · cases h1
      obtain ⟨fo, hfo⟩ := hout _ _ _ hP
      refine ri_i2l h d_Lw_equalTo_7 ?_
      refine ri_last h 0 d_Lw_equalTo_8 hfo rfl (by omega) (by omega) ?_
      refine ri_goto h 18 d_Lw_equalTo_9 (by decide) ?_
      refine ri_iconst h 0 d_Lw_equalTo_18 rfl ?_
      refine ri_ireturn h d_Lw_equalTo_19 (Nat.le_of_ble_eq_true rfl) (Nat.le_of_ble_eq_true rfl) ?_
      exact ⟨0, v, M1, hP, rfl, fo, hfo, by rw [if_pos rfl]⟩
    · cases hE
theorem lw_w_find (h0 : g_0 l D s0) {x out : Nat} {fx : List Value} (p0 : Int32) (p1 : Int64) (p2 : Int64) (p3 : Int64) (p4 : Int64) {P : Nat → Int32 → gH → Prop} (hx : M x = some (.inr (5, fx))) (hout : ∀ k v M1, P k v M1 → ∃ fo, M1 out = some (al 1 fo)) (ct : Ct l D s0 y_ST_find (Cond.code y_ST_find b_ST_find 13 (some .int)) rkC [.ref x, .int p0, .long p1, .long p2, .long p3, .long p4] M (fT ["java/lang/IndexOutOfBoundsException", "java/lang/IllegalArgumentException", "java/lang/UnsupportedOperationException"] Value.int P)) : Ct l D s0 y_Lw_find (Cond.codeWith y_Lw_find b_Lw_find 12 (some .int) hh_Lw_find) rkW [.ref x, .int p0, .long p1, .long p2, .long p3, .long p4, .ref out] M (fW out Int32.toInt64 P) := by
  refine Ct.ofH h0 (by decide +kernel) rfl fun X hX h => ?_
  obtain ⟨p_, l', e_, R_, s_, m_, ar_, be_, me_, c_⟩ := X
  obtain rfl : l' = l := hX
  refine ri_aload h d_Lw_find_0 rfl ?_
  refine ri_iconst h 0 d_Lw_find_2 rfl ?_
  refine ri_aload_n h d_Lw_find_3 rfl ?_
  refine ri_iload_n h d_Lw_find_4 rfl ?_
  refine ri_lload_n h d_Lw_find_5 rfl ?_
  refine ri_lload h d_Lw_find_6 rfl ?_
  refine ri_lload h d_Lw_find_8 rfl ?_
  refine ri_lload h d_Lw_find_10 rfl ?_
  refine ri_callVT (r := (gR5, gT5, 8)) h [.int p0, .long p1, .long p2, .long p3, .long p4] [.int 0, .ref out] d_Lw_find_12 cv_Lw_58 hx rfl rfl rfl (Nat.le_of_ble_eq_true rfl) (Nat.le_of_ble_eq_true rfl) (Nat.le_of_ble_eq_true rfl) (Nat.le_of_ble_eq_true rfl) (Nat.le_of_ble_eq_true rfl) ct ?_ ?_
  · rintro E M1 (⟨v, h1, -⟩ | ⟨k, E', v, hk, hE, hP⟩)
    · cases h1
    · cases hE
      obtain ⟨fo, hfo⟩ := hout _ _ _ hP
      match k, hk with
      | 0, hk =>
        cases hk
        refine ri_catch h [] ⟨0, 17, 20, 19⟩ [⟨0, 17, 24, 25⟩, ⟨0, 17, 28, 49⟩] rfl (fun z hz => by cases hz) (by decide) (by decide) (by decide +kernel) (by decide +kernel) (fun q => ?_)
        refine ri_astore h d_Lw_find_20 (Nat.le_of_ble_eq_true rfl) ?_
        refine ri_iconst h 1 d_Lw_find_22 rfl ?_
        refine ri_ireturn h d_Lw_find_23 (Nat.le_of_ble_eq_true rfl) (Nat.le_of_ble_eq_true rfl) ?_
        exact ⟨1, v, M1, hP, rfl, fo, hfo, by rw [if_neg (by decide)]⟩
      | 1, hk =>
        cases hk
        refine ri_catch h [⟨0, 17, 20, 19⟩] ⟨0, 17, 24, 25⟩ [⟨0, 17, 28, 49⟩] rfl (List.forall_mem_cons.mpr ⟨⟨by decide, "java/lang/IndexOutOfBoundsException", by decide +kernel, nc_iae_iob⟩, (fun z hz => by cases hz)⟩) (by decide) (by decide) (by decide +kernel) (by decide +kernel) (fun q => ?_)
        refine ri_astore h d_Lw_find_24 (Nat.le_of_ble_eq_true rfl) ?_
        refine ri_iconst h 2 d_Lw_find_26 rfl ?_
        refine ri_ireturn h d_Lw_find_27 (Nat.le_of_ble_eq_true rfl) (Nat.le_of_ble_eq_true rfl) ?_
        exact ⟨2, v, M1, hP, rfl, fo, hfo, by rw [if_neg (by decide)]⟩
      | 2, hk =>
        cases hk
        refine ri_catch h [⟨0, 17, 20, 19⟩, ⟨0, 17, 24, 25⟩] ⟨0, 17, 28, 49⟩ [] rfl (List.forall_mem_cons.mpr ⟨⟨by decide, "java/lang/IndexOutOfBoundsException", by decide +kernel, nc_uoe_iob⟩, (List.forall_mem_cons.mpr ⟨⟨by decide, "java/lang/IllegalArgumentException", by decide +kernel, nc_uoe_iae⟩, (fun z hz => by cases hz)⟩)⟩) (by decide) (by decide) (by decide +kernel) (by decide +kernel) (fun q => ?_)
        refine ri_astore h d_Lw_find_28 (Nat.le_of_ble_eq_true rfl) ?_
        refine ri_iconst h 3 d_Lw_find_30 rfl ?_
        refine ri_ireturn h d_Lw_find_31 (Nat.le_of_ble_eq_true rfl) (Nat.le_of_ble_eq_true rfl) ?_
        exact ⟨3, v, M1, hP, rfl, fo, hfo, by rw [if_neg (by decide)]⟩
      | n + 3, hk => simp at hk
  · rintro v M1 (⟨v, h1, hP⟩ | ⟨k, E', v, hk, hE, hP⟩)
    · cases h1
      obtain ⟨fo, hfo⟩ := hout _ _ _ hP
      refine ri_i2l h d_Lw_find_15 ?_
      refine ri_last h 0 d_Lw_find_16 hfo rfl (by omega) (by omega) ?_
      refine ri_goto h 32 d_Lw_find_17 (by decide) ?_
      refine ri_iconst h 0 d_Lw_find_32 rfl ?_
      refine ri_ireturn h d_Lw_find_33 (Nat.le_of_ble_eq_true rfl) (Nat.le_of_ble_eq_true rfl) ?_
      exact ⟨0, v, M1, hP, rfl, fo, hfo, by rw [if_pos rfl]⟩
    · cases hE
theorem lw_w_drop (h0 : g_0 l D s0) {x out : Nat} {fx : List Value} (p0 : Int32) {P : Nat → Int32 → gH → Prop} (hx : M x = some (.inr (5, fx))) (hout : ∀ k v M1, P k v M1 → ∃ fo, M1 out = some (al 1 fo)) (ct : Ct l D s0 y_ST_drop (Cond.code y_ST_drop b_ST_drop 4 (some .boolean)) rkC [.ref x, .int p0] M (fT ["java/lang/IndexOutOfBoundsException"] Value.int P)) : Ct l D s0 y_Lw_drop (Cond.codeWith y_Lw_drop b_Lw_drop 4 (some .int) hh_Lw_drop) rkW [.ref x, .int p0, .ref out] M (fW out jbool P) := by
  refine Ct.ofH h0 (by decide +kernel) rfl fun X hX h => ?_
  obtain ⟨p_, l', e_, R_, s_, m_, ar_, be_, me_, c_⟩ := X
  obtain rfl : l' = l := hX
  refine ri_aload_n h d_Lw_drop_0 rfl ?_
  refine ri_iconst h 0 d_Lw_drop_1 rfl ?_
  refine ri_aload_n h d_Lw_drop_2 rfl ?_
  refine ri_iload_n h d_Lw_drop_3 rfl ?_
  refine ri_callVT (r := (gR5, gT5, 8)) h [.int p0] [.int 0, .ref out] d_Lw_drop_4 cv_Lw_62 hx rfl rfl rfl (Nat.le_of_ble_eq_true rfl) (Nat.le_of_ble_eq_true rfl) (Nat.le_of_ble_eq_true rfl) (Nat.le_of_ble_eq_true rfl) (Nat.le_of_ble_eq_true rfl) ct ?_ ?_
  · rintro E M1 (⟨v, h1, -⟩ | ⟨k, E', v, hk, hE, hP⟩)
    · cases h1
    · cases hE
      obtain ⟨fo, hfo⟩ := hout _ _ _ hP
      match k, hk with
      | 0, hk =>
        cases hk
        refine ri_catch h [] ⟨0, 16, 19, 19⟩ [] rfl (fun z hz => by cases hz) (by decide) (by decide) (by decide +kernel) (by decide +kernel) (fun q => ?_)
        refine ri_astore_n h d_Lw_drop_19 (Nat.le_of_ble_eq_true rfl) ?_
        refine ri_iconst h 1 d_Lw_drop_20 rfl ?_
        refine ri_ireturn h d_Lw_drop_21 (Nat.le_of_ble_eq_true rfl) (Nat.le_of_ble_eq_true rfl) ?_
        exact ⟨1, v, M1, hP, rfl, fo, hfo, by rw [if_neg (by decide)]⟩
      | n + 1, hk => simp at hk
  · rintro v M1 (⟨v, h1, hP⟩ | ⟨k, E', v, hk, hE, hP⟩)
    · cases h1
      obtain ⟨fo, hfo⟩ := hout _ _ _ hP
      refine ri_if_eq h 14 d_Lw_drop_7 (by decide) (fun c_7 => ?_) (fun c_7 => ?_)
      · refine ri_lconst h 0 d_Lw_drop_14 rfl ?_
        refine ri_last h 0 d_Lw_drop_15 hfo rfl (by omega) (by omega) ?_
        refine ri_goto h 22 d_Lw_drop_16 (by decide) ?_
        refine ri_iconst h 0 d_Lw_drop_22 rfl ?_
        refine ri_ireturn h d_Lw_drop_23 (Nat.le_of_ble_eq_true rfl) (Nat.le_of_ble_eq_true rfl) ?_
        exact ⟨0, v, M1, hP, rfl, fo, hfo, by rw [if_pos rfl]; rw [jbool, if_pos c_7]⟩
      · refine ri_lconst h 1 d_Lw_drop_10 rfl ?_
        refine ri_goto h 15 d_Lw_drop_11 (by decide) ?_
        refine ri_last h 0 d_Lw_drop_15 hfo rfl (by omega) (by omega) ?_
        refine ri_goto h 22 d_Lw_drop_16 (by decide) ?_
        refine ri_iconst h 0 d_Lw_drop_22 rfl ?_
        refine ri_ireturn h d_Lw_drop_23 (Nat.le_of_ble_eq_true rfl) (Nat.le_of_ble_eq_true rfl) ?_
        exact ⟨0, v, M1, hP, rfl, fo, hfo, by rw [if_pos rfl]; rw [jbool, if_neg c_7]⟩
    · cases hE
end WR
