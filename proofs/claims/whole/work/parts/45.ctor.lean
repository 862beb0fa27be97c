/-! Constructors -/
theorem gno {M : gH} {a b : Nat} {e : gE} (h : gup M a e b = none) : M b = none := (gup_no.mp h).2
section CT
variable {l : Launch} {D : gD} {s0 : State} {M : gH} {a z : Nat}
theorem k_Fl_init (h0 : g_0 l D s0) (hM : M a = some (.inr (2, [.null, .null, .null, .null, .null, .int 0, .int 0, .long 0, .int 0, .null, .null]))) : Ct l D s0 y_Fl_init (Cond.code y_Fl_init b_Fl_init 1 none) (rk 2 7 21000) [.ref a] M (fV fun M' => ∃ q1 q2 q3 q4 q5 q6 q7 : Nat, Fr M [(q1, ash 3000 (fun _ => none)), (q2, ai 3000 (fun _ => 0)), (q3, ai 3000 (fun _ => 0)), (q4, al 3000 (fun _ => 0)), (q5, al 3000 (fun _ => 0)), (q6, ai 3000 (fun _ => 0)), (q7, ai 3000 (fun _ => 0))] ∧ M' = gup (gl M [(q1, ash 3000 (fun _ => none)), (q2, ai 3000 (fun _ => 0)), (q3, ai 3000 (fun _ => 0)), (q4, al 3000 (fun _ => 0)), (q5, al 3000 (fun _ => 0)), (q6, ai 3000 (fun _ => 0)), (q7, ai 3000 (fun _ => 0))]) a (.inr (2, [.ref q1, .ref q2, .ref q3, .ref q4, .ref q5, .int 0, .int 0, .long 0, .int 0, .ref q6, .ref q7]))) := by
  refine Ct.of h0 (by decide +kernel) rfl fun X hX h => ?_
  obtain ⟨p_, l', e_, R_, s_, m_, ar_, be_, me_, c_⟩ := X
  obtain rfl : l' = l := hX
  have HA0 : M a = some _ := hM
  refine ri_aload_n h d_Fl_init_0 rfl ?_
  refine ri_obj h d_Fl_init_1 ob_Fl_3 (Nat.le_of_ble_eq_true rfl) (Nat.le_of_ble_eq_true rfl) ?_
  refine ri_aload_n h d_Fl_init_4 rfl ?_
  refine ri_sipush h 3000 d_Fl_init_5 rfl ?_
  refine ri_anew h 4 3000 d_Fl_init_8 (by decide) rfl (by decide +kernel) (by decide +kernel) rfl (by decide) (Nat.le_of_ble_eq_true rfl) (Nat.le_of_ble_eq_true rfl) (fun q1 hq => ?_)
  have g1 := hq
  have nq1 : a ≠ q1 := gneN HA0 hq
  have HA1 := gup_t (e := ash 3000 (fun _ => none)) nq1 HA0
  refine ri_putF h d_Fl_init_11 fi_Fl_11 HA1 rfl rfl ?_
  refine ri_M (gup (gl M [(q1, ash 3000 (fun _ => none))]) a (.inr (2, [.ref q1, .null, .null, .null, .null, .int 0, .int 0, .long 0, .int 0, .null, .null]))) (rfl) ?_
  have HA2 : gup (gl M [(q1, ash 3000 (fun _ => none))]) a (.inr (2, [.ref q1, .null, .null, .null, .null, .int 0, .int 0, .long 0, .int 0, .null, .null])) a = _ := gup_s
  refine ri_aload_n h d_Fl_init_14 rfl ?_
  refine ri_sipush h 3000 d_Fl_init_15 rfl ?_
  refine ri_newarr h 0 3000 d_Fl_init_18 (by decide) rfl (by decide +kernel) rfl (by decide) (Nat.le_of_ble_eq_true rfl) (Nat.le_of_ble_eq_true rfl) (fun q2 hq => ?_)
  have g2 := hq
  have nq2 : a ≠ q2 := gneN HA2 hq
  have HA3 := gup_t (e := ai 3000 (fun _ => 0)) nq2 HA2
  refine ri_putF h d_Fl_init_20 fi_Fl_17 HA3 rfl rfl ?_
  refine ri_M (gup (gl M [(q1, ash 3000 (fun _ => none)), (q2, ai 3000 (fun _ => 0))]) a (.inr (2, [.ref q1, .ref q2, .null, .null, .null, .int 0, .int 0, .long 0, .int 0, .null, .null]))) (gl_x (M := gl M [(q1, ash 3000 (fun _ => none))]) (x := a) (o := .inr (2, [.ref q1, .null, .null, .null, .null, .int 0, .int 0, .long 0, .int 0, .null, .null])) (o' := .inr (2, [.ref q1, .ref q2, .null, .null, .null, .int 0, .int 0, .long 0, .int 0, .null, .null])) (L := [(q2, ai 3000 (fun _ => 0))])) ?_
  have HA4 : gup (gl M [(q1, ash 3000 (fun _ => none)), (q2, ai 3000 (fun _ => 0))]) a (.inr (2, [.ref q1, .ref q2, .null, .null, .null, .int 0, .int 0, .long 0, .int 0, .null, .null])) a = _ := gup_s
  refine ri_aload_n h d_Fl_init_23 rfl ?_
  refine ri_sipush h 3000 d_Fl_init_24 rfl ?_
  refine ri_newarr h 0 3000 d_Fl_init_27 (by decide) rfl (by decide +kernel) rfl (by decide) (Nat.le_of_ble_eq_true rfl) (Nat.le_of_ble_eq_true rfl) (fun q3 hq => ?_)
  have g3 := hq
  have nq3 : a ≠ q3 := gneN HA4 hq
  have HA5 := gup_t (e := ai 3000 (fun _ => 0)) nq3 HA4
  refine ri_putF h d_Fl_init_29 fi_Fl_21 HA5 rfl rfl ?_
  refine ri_M (gup (gl M [(q1, ash 3000 (fun _ => none)), (q2, ai 3000 (fun _ => 0)), (q3, ai 3000 (fun _ => 0))]) a (.inr (2, [.ref q1, .ref q2, .ref q3, .null, .null, .int 0, .int 0, .long 0, .int 0, .null, .null]))) (gl_x (M := gl M [(q1, ash 3000 (fun _ => none)), (q2, ai 3000 (fun _ => 0))]) (x := a) (o := .inr (2, [.ref q1, .ref q2, .null, .null, .null, .int 0, .int 0, .long 0, .int 0, .null, .null])) (o' := .inr (2, [.ref q1, .ref q2, .ref q3, .null, .null, .int 0, .int 0, .long 0, .int 0, .null, .null])) (L := [(q3, ai 3000 (fun _ => 0))])) ?_
  have HA6 : gup (gl M [(q1, ash 3000 (fun _ => none)), (q2, ai 3000 (fun _ => 0)), (q3, ai 3000 (fun _ => 0))]) a (.inr (2, [.ref q1, .ref q2, .ref q3, .null, .null, .int 0, .int 0, .long 0, .int 0, .null, .null])) a = _ := gup_s
  refine ri_aload_n h d_Fl_init_32 rfl ?_
  refine ri_sipush h 3000 d_Fl_init_33 rfl ?_
  refine ri_newarr h 1 3000 d_Fl_init_36 (by decide) rfl (by decide +kernel) rfl (by decide) (Nat.le_of_ble_eq_true rfl) (Nat.le_of_ble_eq_true rfl) (fun q4 hq => ?_)
  have g4 := hq
  have nq4 : a ≠ q4 := gneN HA6 hq
  have HA7 := gup_t (e := al 3000 (fun _ => 0)) nq4 HA6
  refine ri_putF h d_Fl_init_38 fi_Fl_24 HA7 rfl rfl ?_
  refine ri_M (gup (gl M [(q1, ash 3000 (fun _ => none)), (q2, ai 3000 (fun _ => 0)), (q3, ai 3000 (fun _ => 0)), (q4, al 3000 (fun _ => 0))]) a (.inr (2, [.ref q1, .ref q2, .ref q3, .ref q4, .null, .int 0, .int 0, .long 0, .int 0, .null, .null]))) (gl_x (M := gl M [(q1, ash 3000 (fun _ => none)), (q2, ai 3000 (fun _ => 0)), (q3, ai 3000 (fun _ => 0))]) (x := a) (o := .inr (2, [.ref q1, .ref q2, .ref q3, .null, .null, .int 0, .int 0, .long 0, .int 0, .null, .null])) (o' := .inr (2, [.ref q1, .ref q2, .ref q3, .ref q4, .null, .int 0, .int 0, .long 0, .int 0, .null, .null])) (L := [(q4, al 3000 (fun _ => 0))])) ?_
  have HA8 : gup (gl M [(q1, ash 3000 (fun _ => none)), (q2, ai 3000 (fun _ => 0)), (q3, ai 3000 (fun _ => 0)), (q4, al 3000 (fun _ => 0))]) a (.inr (2, [.ref q1, .ref q2, .ref q3, .ref q4, .null, .int 0, .int 0, .long 0, .int 0, .null, .null])) a = _ := gup_s
  refine ri_aload_n h d_Fl_init_41 rfl ?_
  refine ri_sipush h 3000 d_Fl_init_42 rfl ?_
  refine ri_newarr h 1 3000 d_Fl_init_45 (by decide) rfl (by decide +kernel) rfl (by decide) (Nat.le_of_ble_eq_true rfl) (Nat.le_of_ble_eq_true rfl) (fun q5 hq => ?_)
  have g5 := hq
  have nq5 : a ≠ q5 := gneN HA8 hq
  have HA9 := gup_t (e := al 3000 (fun _ => 0)) nq5 HA8
  refine ri_putF h d_Fl_init_47 fi_Fl_28 HA9 rfl rfl ?_
  refine ri_M (gup (gl M [(q1, ash 3000 (fun _ => none)), (q2, ai 3000 (fun _ => 0)), (q3, ai 3000 (fun _ => 0)), (q4, al 3000 (fun _ => 0)), (q5, al 3000 (fun _ => 0))]) a (.inr (2, [.ref q1, .ref q2, .ref q3, .ref q4, .ref q5, .int 0, .int 0, .long 0, .int 0, .null, .null]))) (gl_x (M := gl M [(q1, ash 3000 (fun _ => none)), (q2, ai 3000 (fun _ => 0)), (q3, ai 3000 (fun _ => 0)), (q4, al 3000 (fun _ => 0))]) (x := a) (o := .inr (2, [.ref q1, .ref q2, .ref q3, .ref q4, .null, .int 0, .int 0, .long 0, .int 0, .null, .null])) (o' := .inr (2, [.ref q1, .ref q2, .ref q3, .ref q4, .ref q5, .int 0, .int 0, .long 0, .int 0, .null, .null])) (L := [(q5, al 3000 (fun _ => 0))])) ?_
  have HA10 : gup (gl M [(q1, ash 3000 (fun _ => none)), (q2, ai 3000 (fun _ => 0)), (q3, ai 3000 (fun _ => 0)), (q4, al 3000 (fun _ => 0)), (q5, al 3000 (fun _ => 0))]) a (.inr (2, [.ref q1, .ref q2, .ref q3, .ref q4, .ref q5, .int 0, .int 0, .long 0, .int 0, .null, .null])) a = _ := gup_s
  refine ri_aload_n h d_Fl_init_50 rfl ?_
  refine ri_sipush h 3000 d_Fl_init_51 rfl ?_
  refine ri_newarr h 0 3000 d_Fl_init_54 (by decide) rfl (by decide +kernel) rfl (by decide) (Nat.le_of_ble_eq_true rfl) (Nat.le_of_ble_eq_true rfl) (fun q6 hq => ?_)
  have g6 := hq
  have nq6 : a ≠ q6 := gneN HA10 hq
  have HA11 := gup_t (e := ai 3000 (fun _ => 0)) nq6 HA10
  refine ri_putF h d_Fl_init_56 fi_Fl_31 HA11 rfl rfl ?_
  refine ri_M (gup (gl M [(q1, ash 3000 (fun _ => none)), (q2, ai 3000 (fun _ => 0)), (q3, ai 3000 (fun _ => 0)), (q4, al 3000 (fun _ => 0)), (q5, al 3000 (fun _ => 0)), (q6, ai 3000 (fun _ => 0))]) a (.inr (2, [.ref q1, .ref q2, .ref q3, .ref q4, .ref q5, .int 0, .int 0, .long 0, .int 0, .ref q6, .null]))) (gl_x (M := gl M [(q1, ash 3000 (fun _ => none)), (q2, ai 3000 (fun _ => 0)), (q3, ai 3000 (fun _ => 0)), (q4, al 3000 (fun _ => 0)), (q5, al 3000 (fun _ => 0))]) (x := a) (o := .inr (2, [.ref q1, .ref q2, .ref q3, .ref q4, .ref q5, .int 0, .int 0, .long 0, .int 0, .null, .null])) (o' := .inr (2, [.ref q1, .ref q2, .ref q3, .ref q4, .ref q5, .int 0, .int 0, .long 0, .int 0, .ref q6, .null])) (L := [(q6, ai 3000 (fun _ => 0))])) ?_
  have HA12 : gup (gl M [(q1, ash 3000 (fun _ => none)), (q2, ai 3000 (fun _ => 0)), (q3, ai 3000 (fun _ => 0)), (q4, al 3000 (fun _ => 0)), (q5, al 3000 (fun _ => 0)), (q6, ai 3000 (fun _ => 0))]) a (.inr (2, [.ref q1, .ref q2, .ref q3, .ref q4, .ref q5, .int 0, .int 0, .long 0, .int 0, .ref q6, .null])) a = _ := gup_s
  refine ri_aload_n h d_Fl_init_59 rfl ?_
  refine ri_sipush h 3000 d_Fl_init_60 rfl ?_
  refine ri_newarr h 0 3000 d_Fl_init_63 (by decide) rfl (by decide +kernel) rfl (by decide) (Nat.le_of_ble_eq_true rfl) (Nat.le_of_ble_eq_true rfl) (fun q7 hq => ?_)
  have g7 := hq
  have nq7 : a ≠ q7 := gneN HA12 hq
  have HA13 := gup_t (e := ai 3000 (fun _ => 0)) nq7 HA12
  refine ri_putF h d_Fl_init_65 fi_Fl_34 HA13 rfl rfl ?_
  refine ri_M (gup (gl M [(q1, ash 3000 (fun _ => none)), (q2, ai 3000 (fun _ => 0)), (q3, ai 3000 (fun _ => 0)), (q4, al 3000 (fun _ => 0)), (q5, al 3000 (fun _ => 0)), (q6, ai 3000 (fun _ => 0)), (q7, ai 3000 (fun _ => 0))]) a (.inr (2, [.ref q1, .ref q2, .ref q3, .ref q4, .ref q5, .int 0, .int 0, .long 0, .int 0, .ref q6, .ref q7]))) (gl_x (M := gl M [(q1, ash 3000 (fun _ => none)), (q2, ai 3000 (fun _ => 0)), (q3, ai 3000 (fun _ => 0)), (q4, al 3000 (fun _ => 0)), (q5, al 3000 (fun _ => 0)), (q6, ai 3000 (fun _ => 0))]) (x := a) (o := .inr (2, [.ref q1, .ref q2, .ref q3, .ref q4, .ref q5, .int 0, .int 0, .long 0, .int 0, .ref q6, .null])) (o' := .inr (2, [.ref q1, .ref q2, .ref q3, .ref q4, .ref q5, .int 0, .int 0, .long 0, .int 0, .ref q6, .ref q7])) (L := [(q7, ai 3000 (fun _ => 0))])) ?_
  have HA14 : gup (gl M [(q1, ash 3000 (fun _ => none)), (q2, ai 3000 (fun _ => 0)), (q3, ai 3000 (fun _ => 0)), (q4, al 3000 (fun _ => 0)), (q5, al 3000 (fun _ => 0)), (q6, ai 3000 (fun _ => 0)), (q7, ai 3000 (fun _ => 0))]) a (.inr (2, [.ref q1, .ref q2, .ref q3, .ref q4, .ref q5, .int 0, .int 0, .long 0, .int 0, .ref q6, .ref q7])) a = _ := gup_s
  refine ri_return h d_Fl_init_68 (Nat.le_of_ble_eq_true rfl) (Nat.le_of_ble_eq_true rfl) ?_
  exact ⟨rfl, q1, q2, q3, q4, q5, q6, q7, ⟨g1, gno g2, gno g3, gno g4, gno g5, gno g6, gno g7, trivial⟩, rfl⟩
theorem k_Cl_init (h0 : g_0 l D s0) (hz : gz s0 z) (hM : M a = some (.inr (1, [.null, .null, .int 0, .int 0, .int 0, .null]))) : Ct l D s0 y_Cl_init (Cond.code y_Cl_init b_Cl_init 1 none) (rk 4 3 11) [.ref a] M (fV fun M' => ∃ q1 q2 q3 : Nat, Fr M [(q1, als z 0 0), (q2, als z 0 0), (q3, bx 0 0 0 0 1)] ∧ M' = gup (gl M [(q1, als z 0 0), (q2, als z 0 0), (q3, bx 0 0 0 0 1)]) a (.inr (1, [.ref q1, .ref q2, .int 0, .int 0, .int 0, .ref q3]))) := by
  refine Ct.of h0 (by decide +kernel) rfl fun X hX h => ?_
  obtain ⟨p_, l', e_, R_, s_, m_, ar_, be_, me_, c_⟩ := X
  obtain rfl : l' = l := hX
  have HA0 : M a = some _ := hM
  refine ri_aload_n h d_Cl_init_0 rfl ?_
  refine ri_obj h d_Cl_init_1 ob_Cl_3 (Nat.le_of_ble_eq_true rfl) (Nat.le_of_ble_eq_true rfl) ?_
  refine ri_aload_n h d_Cl_init_4 rfl ?_
  refine ri_new h d_Cl_init_5 nw_Cl_9 (Nat.le_of_ble_eq_true rfl) (Nat.le_of_ble_eq_true rfl) (fun q1 hq => ?_)
  have g1 := hq
  have nq1 : a ≠ q1 := gneN HA0 hq
  refine ri_dup h d_Cl_init_8 rfl ?_
  refine ri_cI0 h [] [.ref q1, .ref a] d_Cl_init_9 ci_Cl_11 (k_AL_init (x := .null) (n := 0) (mc := 0) h0 hz gup_s) rfl rfl (Nat.le_of_ble_eq_true rfl) (Nat.le_of_ble_eq_true rfl) (Nat.le_of_ble_eq_true rfl) (Nat.le_of_ble_eq_true rfl) (Nat.le_of_ble_eq_true rfl) ?_
  rw [gup_u]
  have HA1 := gup_t (e := als z 0 0) nq1 HA0
  refine ri_putF h d_Cl_init_12 fi_Cl_12 HA1 rfl rfl ?_
  refine ri_M (gup (gl M [(q1, als z 0 0)]) a (.inr (1, [.ref q1, .null, .int 0, .int 0, .int 0, .null]))) (rfl) ?_
  have HA2 : gup (gl M [(q1, als z 0 0)]) a (.inr (1, [.ref q1, .null, .int 0, .int 0, .int 0, .null])) a = _ := gup_s
  refine ri_aload_n h d_Cl_init_15 rfl ?_
  refine ri_new h d_Cl_init_16 nw_Cl_9 (Nat.le_of_ble_eq_true rfl) (Nat.le_of_ble_eq_true rfl) (fun q2 hq => ?_)
  have g2 := hq
  have nq2 : a ≠ q2 := gneN HA2 hq
  refine ri_dup h d_Cl_init_19 rfl ?_
  refine ri_cI0 h [] [.ref q2, .ref a] d_Cl_init_20 ci_Cl_11 (k_AL_init (x := .null) (n := 0) (mc := 0) h0 hz gup_s) rfl rfl (Nat.le_of_ble_eq_true rfl) (Nat.le_of_ble_eq_true rfl) (Nat.le_of_ble_eq_true rfl) (Nat.le_of_ble_eq_true rfl) (Nat.le_of_ble_eq_true rfl) ?_
  rw [gup_u]
  have HA3 := gup_t (e := als z 0 0) nq2 HA2
  refine ri_putF h d_Cl_init_23 fi_Cl_18 HA3 rfl rfl ?_
  refine ri_M (gup (gl M [(q1, als z 0 0), (q2, als z 0 0)]) a (.inr (1, [.ref q1, .ref q2, .int 0, .int 0, .int 0, .null]))) (gl_x (M := gl M [(q1, als z 0 0)]) (x := a) (o := .inr (1, [.ref q1, .null, .int 0, .int 0, .int 0, .null])) (o' := .inr (1, [.ref q1, .ref q2, .int 0, .int 0, .int 0, .null])) (L := [(q2, als z 0 0)])) ?_
  have HA4 : gup (gl M [(q1, als z 0 0), (q2, als z 0 0)]) a (.inr (1, [.ref q1, .ref q2, .int 0, .int 0, .int 0, .null])) a = _ := gup_s
  refine ri_aload_n h d_Cl_init_26 rfl ?_
  refine ri_new h d_Cl_init_27 nw_Cl_21 (Nat.le_of_ble_eq_true rfl) (Nat.le_of_ble_eq_true rfl) (fun q3 hq => ?_)
  have g3 := hq
  have nq3 : a ≠ q3 := gneN HA4 hq
  refine ri_dup h d_Cl_init_30 rfl ?_
  refine ri_cIN0 h [] [.ref q3, .ref a] d_Cl_init_31 ci_Cl_23 (k_Bx_init (x0 := 0) (y0 := 0) (x1 := 0) (y1 := 0) (n := 0) h0 gup_s) rfl rfl (Nat.le_of_ble_eq_true rfl) (Nat.le_of_ble_eq_true rfl) (Nat.le_of_ble_eq_true rfl) (Nat.le_of_ble_eq_true rfl) (Nat.le_of_ble_eq_true rfl) ?_
  rw [gup_u]
  have HA5 := gup_t (e := bx 0 0 0 0 1) nq3 HA4
  refine ri_putF h d_Cl_init_34 fi_Cl_24 HA5 rfl rfl ?_
  refine ri_M (gup (gl M [(q1, als z 0 0), (q2, als z 0 0), (q3, bx 0 0 0 0 1)]) a (.inr (1, [.ref q1, .ref q2, .int 0, .int 0, .int 0, .ref q3]))) (gl_x (M := gl M [(q1, als z 0 0), (q2, als z 0 0)]) (x := a) (o := .inr (1, [.ref q1, .ref q2, .int 0, .int 0, .int 0, .null])) (o' := .inr (1, [.ref q1, .ref q2, .int 0, .int 0, .int 0, .ref q3])) (L := [(q3, bx 0 0 0 0 1)])) ?_
  have HA6 : gup (gl M [(q1, als z 0 0), (q2, als z 0 0), (q3, bx 0 0 0 0 1)]) a (.inr (1, [.ref q1, .ref q2, .int 0, .int 0, .int 0, .ref q3])) a = _ := gup_s
  refine ri_return h d_Cl_init_37 (Nat.le_of_ble_eq_true rfl) (Nat.le_of_ble_eq_true rfl) ?_
  exact ⟨rfl, q1, q2, q3, ⟨g1, gno g2, gno g3, trivial⟩, rfl⟩
theorem k_Sh_init (h0 : g_0 l D s0) (layer : Int32) (w : Int64) (ends : Int32) (hM : M a = some (.inr (4, [.int 0, .long 0, .int 0, .null, .null, .int 0, .int 0, .null, .null, .null]))) : Ct l D s0 y_Sh_init (Cond.code y_Sh_init b_Sh_init 5 none) (rk 2 5 70) [.ref a, .int layer, .long w, .int ends] M (fV fun M' => ∃ q1 q2 q3 q4 q5 : Nat, Fr M [(q1, al 24 (fun _ => 0)), (q2, al 24 (fun _ => 0)), (q3, bx 0 0 0 0 1), (q4, ai 8 (fun _ => 0)), (q5, ai 8 (fun _ => 0))] ∧ M' = gup (gl M [(q1, al 24 (fun _ => 0)), (q2, al 24 (fun _ => 0)), (q3, bx 0 0 0 0 1), (q4, ai 8 (fun _ => 0)), (q5, ai 8 (fun _ => 0))]) a (.inr (4, [.int layer, .long w, .int ends, .ref q1, .ref q2, .int 0, .int 0, .ref q3, .ref q4, .ref q5]))) := by
  refine Ct.of h0 (by decide +kernel) rfl fun X hX h => ?_
  obtain ⟨p_, l', e_, R_, s_, m_, ar_, be_, me_, c_⟩ := X
  obtain rfl : l' = l := hX
  have HA0 : M a = some _ := hM
  refine ri_aload_n h d_Sh_init_0 rfl ?_
  refine ri_obj h d_Sh_init_1 ob_Sh_3 (Nat.le_of_ble_eq_true rfl) (Nat.le_of_ble_eq_true rfl) ?_
  refine ri_aload_n h d_Sh_init_4 rfl ?_
  refine ri_bipush h 24 d_Sh_init_5 rfl ?_
  refine ri_newarr h 1 24 d_Sh_init_7 (by decide) rfl (by decide +kernel) rfl (by decide) (Nat.le_of_ble_eq_true rfl) (Nat.le_of_ble_eq_true rfl) (fun q1 hq => ?_)
  have g1 := hq
  have nq1 : a ≠ q1 := gneN HA0 hq
  have HA1 := gup_t (e := al 24 (fun _ => 0)) nq1 HA0
  refine ri_putF h d_Sh_init_9 fi_Sh_9 HA1 rfl rfl ?_
  refine ri_M (gup (gl M [(q1, al 24 (fun _ => 0))]) a (.inr (4, [.int 0, .long 0, .int 0, .ref q1, .null, .int 0, .int 0, .null, .null, .null]))) (rfl) ?_
  have HA2 : gup (gl M [(q1, al 24 (fun _ => 0))]) a (.inr (4, [.int 0, .long 0, .int 0, .ref q1, .null, .int 0, .int 0, .null, .null, .null])) a = _ := gup_s
  refine ri_aload_n h d_Sh_init_12 rfl ?_
  refine ri_bipush h 24 d_Sh_init_13 rfl ?_
  refine ri_newarr h 1 24 d_Sh_init_15 (by decide) rfl (by decide +kernel) rfl (by decide) (Nat.le_of_ble_eq_true rfl) (Nat.le_of_ble_eq_true rfl) (fun q2 hq => ?_)
  have g2 := hq
  have nq2 : a ≠ q2 := gneN HA2 hq
  have HA3 := gup_t (e := al 24 (fun _ => 0)) nq2 HA2
  refine ri_putF h d_Sh_init_17 fi_Sh_15 HA3 rfl rfl ?_
  refine ri_M (gup (gl M [(q1, al 24 (fun _ => 0)), (q2, al 24 (fun _ => 0))]) a (.inr (4, [.int 0, .long 0, .int 0, .ref q1, .ref q2, .int 0, .int 0, .null, .null, .null]))) (gl_x (M := gl M [(q1, al 24 (fun _ => 0))]) (x := a) (o := .inr (4, [.int 0, .long 0, .int 0, .ref q1, .null, .int 0, .int 0, .null, .null, .null])) (o' := .inr (4, [.int 0, .long 0, .int 0, .ref q1, .ref q2, .int 0, .int 0, .null, .null, .null])) (L := [(q2, al 24 (fun _ => 0))])) ?_
  have HA4 : gup (gl M [(q1, al 24 (fun _ => 0)), (q2, al 24 (fun _ => 0))]) a (.inr (4, [.int 0, .long 0, .int 0, .ref q1, .ref q2, .int 0, .int 0, .null, .null, .null])) a = _ := gup_s
  refine ri_aload_n h d_Sh_init_20 rfl ?_
  refine ri_new h d_Sh_init_21 nw_Sh_18 (Nat.le_of_ble_eq_true rfl) (Nat.le_of_ble_eq_true rfl) (fun q3 hq => ?_)
  have g3 := hq
  have nq3 : a ≠ q3 := gneN HA4 hq
  refine ri_dup h d_Sh_init_24 rfl ?_
  refine ri_cIN0 h [] [.ref q3, .ref a] d_Sh_init_25 ci_Sh_20 (k_Bx_init (x0 := 0) (y0 := 0) (x1 := 0) (y1 := 0) (n := 0) h0 gup_s) rfl rfl (Nat.le_of_ble_eq_true rfl) (Nat.le_of_ble_eq_true rfl) (Nat.le_of_ble_eq_true rfl) (Nat.le_of_ble_eq_true rfl) (Nat.le_of_ble_eq_true rfl) ?_
  rw [gup_u]
  have HA5 := gup_t (e := bx 0 0 0 0 1) nq3 HA4
  refine ri_putF h d_Sh_init_28 fi_Sh_21 HA5 rfl rfl ?_
  refine ri_M (gup (gl M [(q1, al 24 (fun _ => 0)), (q2, al 24 (fun _ => 0)), (q3, bx 0 0 0 0 1)]) a (.inr (4, [.int 0, .long 0, .int 0, .ref q1, .ref q2, .int 0, .int 0, .ref q3, .null, .null]))) (gl_x (M := gl M [(q1, al 24 (fun _ => 0)), (q2, al 24 (fun _ => 0))]) (x := a) (o := .inr (4, [.int 0, .long 0, .int 0, .ref q1, .ref q2, .int 0, .int 0, .null, .null, .null])) (o' := .inr (4, [.int 0, .long 0, .int 0, .ref q1, .ref q2, .int 0, .int 0, .ref q3, .null, .null])) (L := [(q3, bx 0 0 0 0 1)])) ?_
  have HA6 : gup (gl M [(q1, al 24 (fun _ => 0)), (q2, al 24 (fun _ => 0)), (q3, bx 0 0 0 0 1)]) a (.inr (4, [.int 0, .long 0, .int 0, .ref q1, .ref q2, .int 0, .int 0, .ref q3, .null, .null])) a = _ := gup_s
  refine ri_aload_n h d_Sh_init_31 rfl ?_
  refine ri_bipush h 8 d_Sh_init_32 rfl ?_
  refine ri_newarr h 0 8 d_Sh_init_34 (by decide) rfl (by decide +kernel) rfl (by decide) (Nat.le_of_ble_eq_true rfl) (Nat.le_of_ble_eq_true rfl) (fun q4 hq => ?_)
  have g4 := hq
  have nq4 : a ≠ q4 := gneN HA6 hq
  have HA7 := gup_t (e := ai 8 (fun _ => 0)) nq4 HA6
  refine ri_putF h d_Sh_init_36 fi_Sh_25 HA7 rfl rfl ?_
  refine ri_M (gup (gl M [(q1, al 24 (fun _ => 0)), (q2, al 24 (fun _ => 0)), (q3, bx 0 0 0 0 1), (q4, ai 8 (fun _ => 0))]) a (.inr (4, [.int 0, .long 0, .int 0, .ref q1, .ref q2, .int 0, .int 0, .ref q3, .ref q4, .null]))) (gl_x (M := gl M [(q1, al 24 (fun _ => 0)), (q2, al 24 (fun _ => 0)), (q3, bx 0 0 0 0 1)]) (x := a) (o := .inr (4, [.int 0, .long 0, .int 0, .ref q1, .ref q2, .int 0, .int 0, .ref q3, .null, .null])) (o' := .inr (4, [.int 0, .long 0, .int 0, .ref q1, .ref q2, .int 0, .int 0, .ref q3, .ref q4, .null])) (L := [(q4, ai 8 (fun _ => 0))])) ?_
  have HA8 : gup (gl M [(q1, al 24 (fun _ => 0)), (q2, al 24 (fun _ => 0)), (q3, bx 0 0 0 0 1), (q4, ai 8 (fun _ => 0))]) a (.inr (4, [.int 0, .long 0, .int 0, .ref q1, .ref q2, .int 0, .int 0, .ref q3, .ref q4, .null])) a = _ := gup_s
  refine ri_aload_n h d_Sh_init_39 rfl ?_
  refine ri_bipush h 8 d_Sh_init_40 rfl ?_
  refine ri_newarr h 0 8 d_Sh_init_42 (by decide) rfl (by decide +kernel) rfl (by decide) (Nat.le_of_ble_eq_true rfl) (Nat.le_of_ble_eq_true rfl) (fun q5 hq => ?_)
  have g5 := hq
  have nq5 : a ≠ q5 := gneN HA8 hq
  have HA9 := gup_t (e := ai 8 (fun _ => 0)) nq5 HA8
  refine ri_putF h d_Sh_init_44 fi_Sh_29 HA9 rfl rfl ?_
  refine ri_M (gup (gl M [(q1, al 24 (fun _ => 0)), (q2, al 24 (fun _ => 0)), (q3, bx 0 0 0 0 1), (q4, ai 8 (fun _ => 0)), (q5, ai 8 (fun _ => 0))]) a (.inr (4, [.int 0, .long 0, .int 0, .ref q1, .ref q2, .int 0, .int 0, .ref q3, .ref q4, .ref q5]))) (gl_x (M := gl M [(q1, al 24 (fun _ => 0)), (q2, al 24 (fun _ => 0)), (q3, bx 0 0 0 0 1), (q4, ai 8 (fun _ => 0))]) (x := a) (o := .inr (4, [.int 0, .long 0, .int 0, .ref q1, .ref q2, .int 0, .int 0, .ref q3, .ref q4, .null])) (o' := .inr (4, [.int 0, .long 0, .int 0, .ref q1, .ref q2, .int 0, .int 0, .ref q3, .ref q4, .ref q5])) (L := [(q5, ai 8 (fun _ => 0))])) ?_
  have HA10 : gup (gl M [(q1, al 24 (fun _ => 0)), (q2, al 24 (fun _ => 0)), (q3, bx 0 0 0 0 1), (q4, ai 8 (fun _ => 0)), (q5, ai 8 (fun _ => 0))]) a (.inr (4, [.int 0, .long 0, .int 0, .ref q1, .ref q2, .int 0, .int 0, .ref q3, .ref q4, .ref q5])) a = _ := gup_s
  refine ri_aload_n h d_Sh_init_47 rfl ?_
  refine ri_iload_n h d_Sh_init_48 rfl ?_
  refine ri_putF h d_Sh_init_49 fi_Sh_32 HA10 rfl rfl ?_
  refine ri_M (gup (gl M [(q1, al 24 (fun _ => 0)), (q2, al 24 (fun _ => 0)), (q3, bx 0 0 0 0 1), (q4, ai 8 (fun _ => 0)), (q5, ai 8 (fun _ => 0))]) a (.inr (4, [.int layer, .long 0, .int 0, .ref q1, .ref q2, .int 0, .int 0, .ref q3, .ref q4, .ref q5]))) (gup_u) ?_
  have HA11 : gup (gl M [(q1, al 24 (fun _ => 0)), (q2, al 24 (fun _ => 0)), (q3, bx 0 0 0 0 1), (q4, ai 8 (fun _ => 0)), (q5, ai 8 (fun _ => 0))]) a (.inr (4, [.int layer, .long 0, .int 0, .ref q1, .ref q2, .int 0, .int 0, .ref q3, .ref q4, .ref q5])) a = _ := gup_s
  refine ri_aload_n h d_Sh_init_52 rfl ?_
  refine ri_lload_n h d_Sh_init_53 rfl ?_
  refine ri_putF h d_Sh_init_54 fi_Sh_36 HA11 rfl rfl ?_
  refine ri_M (gup (gl M [(q1, al 24 (fun _ => 0)), (q2, al 24 (fun _ => 0)), (q3, bx 0 0 0 0 1), (q4, ai 8 (fun _ => 0)), (q5, ai 8 (fun _ => 0))]) a (.inr (4, [.int layer, .long w, .int 0, .ref q1, .ref q2, .int 0, .int 0, .ref q3, .ref q4, .ref q5]))) (gup_u) ?_
  have HA12 : gup (gl M [(q1, al 24 (fun _ => 0)), (q2, al 24 (fun _ => 0)), (q3, bx 0 0 0 0 1), (q4, ai 8 (fun _ => 0)), (q5, ai 8 (fun _ => 0))]) a (.inr (4, [.int layer, .long w, .int 0, .ref q1, .ref q2, .int 0, .int 0, .ref q3, .ref q4, .ref q5])) a = _ := gup_s
  refine ri_aload_n h d_Sh_init_57 rfl ?_
  refine ri_iload h d_Sh_init_58 rfl ?_
  refine ri_putF h d_Sh_init_60 fi_Sh_40 HA12 rfl rfl ?_
  refine ri_M (gup (gl M [(q1, al 24 (fun _ => 0)), (q2, al 24 (fun _ => 0)), (q3, bx 0 0 0 0 1), (q4, ai 8 (fun _ => 0)), (q5, ai 8 (fun _ => 0))]) a (.inr (4, [.int layer, .long w, .int ends, .ref q1, .ref q2, .int 0, .int 0, .ref q3, .ref q4, .ref q5]))) (gup_u) ?_
  have HA13 : gup (gl M [(q1, al 24 (fun _ => 0)), (q2, al 24 (fun _ => 0)), (q3, bx 0 0 0 0 1), (q4, ai 8 (fun _ => 0)), (q5, ai 8 (fun _ => 0))]) a (.inr (4, [.int layer, .long w, .int ends, .ref q1, .ref q2, .int 0, .int 0, .ref q3, .ref q4, .ref q5])) a = _ := gup_s
  refine ri_return h d_Sh_init_63 (Nat.le_of_ble_eq_true rfl) (Nat.le_of_ble_eq_true rfl) ?_
  exact ⟨rfl, q1, q2, q3, q4, q5, ⟨g1, gno g2, gno g3, gno g4, gno g5, trivial⟩, rfl⟩
theorem k_Pl_init (h0 : g_0 l D s0) (of : Nat) (x y : Int64) (turn : Int32) (hM : M a = some (.inr (3, [.null, .long 0, .long 0, .int 0, .null, .int 0, .int 0, .long 0, .long 0]))) : Ct l D s0 y_Pl_init (Cond.code y_Pl_init b_Pl_init 7 none) (rk 2 1 5) [.ref a, .ref of, .long x, .long y, .int turn] M (fV fun M' => ∃ q1 : Nat, Fr M [(q1, bx 0 0 0 0 1)] ∧ M' = gup (gl M [(q1, bx 0 0 0 0 1)]) a (.inr (3, [.ref of, .long x, .long y, .int turn, .ref q1, .int 1, .int 1, .long 0, .long 0]))) := by
  refine Ct.of h0 (by decide +kernel) rfl fun X hX h => ?_
  obtain ⟨p_, l', e_, R_, s_, m_, ar_, be_, me_, c_⟩ := X
  obtain rfl : l' = l := hX
  have HA0 : M a = some _ := hM
  refine ri_aload_n h d_Pl_init_0 rfl ?_
  refine ri_obj h d_Pl_init_1 ob_Pl_1 (Nat.le_of_ble_eq_true rfl) (Nat.le_of_ble_eq_true rfl) ?_
  refine ri_aload_n h d_Pl_init_4 rfl ?_
  refine ri_new h d_Pl_init_5 nw_Pl_7 (Nat.le_of_ble_eq_true rfl) (Nat.le_of_ble_eq_true rfl) (fun q1 hq => ?_)
  have g1 := hq
  have nq1 : a ≠ q1 := gneN HA0 hq
  refine ri_dup h d_Pl_init_8 rfl ?_
  refine ri_cIN0 h [] [.ref q1, .ref a] d_Pl_init_9 ci_Pl_9 (k_Bx_init (x0 := 0) (y0 := 0) (x1 := 0) (y1 := 0) (n := 0) h0 gup_s) rfl rfl (Nat.le_of_ble_eq_true rfl) (Nat.le_of_ble_eq_true rfl) (Nat.le_of_ble_eq_true rfl) (Nat.le_of_ble_eq_true rfl) (Nat.le_of_ble_eq_true rfl) ?_
  rw [gup_u]
  have HA1 := gup_t (e := bx 0 0 0 0 1) nq1 HA0
  refine ri_putF h d_Pl_init_12 fi_Pl_10 HA1 rfl rfl ?_
  refine ri_M (gup (gl M [(q1, bx 0 0 0 0 1)]) a (.inr (3, [.null, .long 0, .long 0, .int 0, .ref q1, .int 0, .int 0, .long 0, .long 0]))) (rfl) ?_
  have HA2 : gup (gl M [(q1, bx 0 0 0 0 1)]) a (.inr (3, [.null, .long 0, .long 0, .int 0, .ref q1, .int 0, .int 0, .long 0, .long 0])) a = _ := gup_s
  refine ri_aload_n h d_Pl_init_15 rfl ?_
  refine ri_iconst h 1 d_Pl_init_16 rfl ?_
  refine ri_put h d_Pl_init_17 fl_Pl_16 (fun r hr => by cases hr; rfl) HA2 rfl rfl ?_
  refine ri_M (gup (gl M [(q1, bx 0 0 0 0 1)]) a (.inr (3, [.null, .long 0, .long 0, .int 0, .ref q1, .int 1, .int 0, .long 0, .long 0]))) (gup_u) ?_
  have HA3 : gup (gl M [(q1, bx 0 0 0 0 1)]) a (.inr (3, [.null, .long 0, .long 0, .int 0, .ref q1, .int 1, .int 0, .long 0, .long 0])) a = _ := gup_s
  refine ri_aload_n h d_Pl_init_20 rfl ?_
  refine ri_iconst h 1 d_Pl_init_21 rfl ?_
  refine ri_put h d_Pl_init_22 fl_Pl_20 (fun r hr => by cases hr; rfl) HA3 rfl rfl ?_
  refine ri_M (gup (gl M [(q1, bx 0 0 0 0 1)]) a (.inr (3, [.null, .long 0, .long 0, .int 0, .ref q1, .int 1, .int 1, .long 0, .long 0]))) (gup_u) ?_
  have HA4 : gup (gl M [(q1, bx 0 0 0 0 1)]) a (.inr (3, [.null, .long 0, .long 0, .int 0, .ref q1, .int 1, .int 1, .long 0, .long 0])) a = _ := gup_s
  refine ri_aload_n h d_Pl_init_25 rfl ?_
  refine ri_aload_n h d_Pl_init_26 rfl ?_
  refine ri_putF h d_Pl_init_27 fi_Pl_23 HA4 rfl rfl ?_
  refine ri_M (gup (gl M [(q1, bx 0 0 0 0 1)]) a (.inr (3, [.ref of, .long 0, .long 0, .int 0, .ref q1, .int 1, .int 1, .long 0, .long 0]))) (gup_u) ?_
  have HA5 : gup (gl M [(q1, bx 0 0 0 0 1)]) a (.inr (3, [.ref of, .long 0, .long 0, .int 0, .ref q1, .int 1, .int 1, .long 0, .long 0])) a = _ := gup_s
  refine ri_aload_n h d_Pl_init_30 rfl ?_
  refine ri_lload_n h d_Pl_init_31 rfl ?_
  refine ri_putF h d_Pl_init_32 fi_Pl_27 HA5 rfl rfl ?_
  refine ri_M (gup (gl M [(q1, bx 0 0 0 0 1)]) a (.inr (3, [.ref of, .long x, .long 0, .int 0, .ref q1, .int 1, .int 1, .long 0, .long 0]))) (gup_u) ?_
  have HA6 : gup (gl M [(q1, bx 0 0 0 0 1)]) a (.inr (3, [.ref of, .long x, .long 0, .int 0, .ref q1, .int 1, .int 1, .long 0, .long 0])) a = _ := gup_s
  refine ri_aload_n h d_Pl_init_35 rfl ?_
  refine ri_lload h d_Pl_init_36 rfl ?_
  refine ri_putF h d_Pl_init_38 fi_Pl_31 HA6 rfl rfl ?_
  refine ri_M (gup (gl M [(q1, bx 0 0 0 0 1)]) a (.inr (3, [.ref of, .long x, .long y, .int 0, .ref q1, .int 1, .int 1, .long 0, .long 0]))) (gup_u) ?_
  have HA7 : gup (gl M [(q1, bx 0 0 0 0 1)]) a (.inr (3, [.ref of, .long x, .long y, .int 0, .ref q1, .int 1, .int 1, .long 0, .long 0])) a = _ := gup_s
  refine ri_aload_n h d_Pl_init_41 rfl ?_
  refine ri_iload h d_Pl_init_42 rfl ?_
  refine ri_putF h d_Pl_init_44 fi_Pl_34 HA7 rfl rfl ?_
  refine ri_M (gup (gl M [(q1, bx 0 0 0 0 1)]) a (.inr (3, [.ref of, .long x, .long y, .int turn, .ref q1, .int 1, .int 1, .long 0, .long 0]))) (gup_u) ?_
  have HA8 : gup (gl M [(q1, bx 0 0 0 0 1)]) a (.inr (3, [.ref of, .long x, .long y, .int turn, .ref q1, .int 1, .int 1, .long 0, .long 0])) a = _ := gup_s
  refine ri_return h d_Pl_init_47 (Nat.le_of_ble_eq_true rfl) (Nat.le_of_ble_eq_true rfl) ?_
  exact ⟨rfl, q1, ⟨g1, trivial⟩, rfl⟩
end CT
