/-! The law from its entry to its loop -/
abbrev rkS : Room := rk 20 40 64000
abbrev rkMd : Room := rk 20 40 470000
abbrev frST : gE := .inr (5, [.int 0, .null, .null, .null, .null, .null, .null, .null])
abbrev frMd : gE := .inr (6, [.int 0, .int 0, .int 0, .null, .null, .null, .null, .null, .null, .null, .null, .int 0, .null, .null, .null, .null, .null, .null, .null, .null, .null, .int 0, .null, .null, .null, .null, .int 0, .null, .null, .null, .null, .null, .null, .int 0, .long 0, .long 0, .long 0, .long 0, .long 0, .long 0, .int 0, .null, .null, .null])
/-- the constructors lead to an invariant that every call keeps -/
def Init3 (l : Launch) (D : gD) (s0 : State) : Prop := ∀ v : Int32, ∃ (A1 : Nat → gH → Prop) (A2 : Nat → Nat → gH → Prop),
  (∀ x, Ct l D s0 y_ST_init (Cond.code y_ST_init b_ST_init 2 none) rkS [.ref x, .int v] (gup (fun _ => none) x frST) (fV (A1 x))) ∧
  (∀ x mo M1, A1 x M1 → M1 mo = none → Ct l D s0 y_Md_init (Cond.code y_Md_init b_Md_init 2 none) rkMd [.ref mo, .int v] (gup M1 mo frMd) (fV (A2 x mo))) ∧
  (∀ x mo out M2, A2 x mo M2 → M2 out = none → ∃ (γ : Type) (Inv : γ → gH → Prop) (g : γ), Inv g (gup M2 out (al 1 (fun _ => 0))) ∧ Steps13 l D s0 Inv x mo out)
section LS
variable {l : Launch} {D : gD} {s0 : State} {M : gH} {p_ : Program} {e_ : Env} {R_ : Room} {s_ : State} {m_ : MethodId} {ar_ : Array Value} {be_ : List Frame} {me_ : Method} {c_ : Code} {b L : Nat} {xs : Nat → Int32}
theorem k_cell0 (h0 : g_0 l D s0) (hX : va_X b L xs s0 s0.heap) (hL : L ≤ 5121) : Ct l D s0 y_Lw_cell_0 (Cond.code y_Lw_cell_0 b_Lw_cell_0 2 (some .int)) (rk 0 0 0) [.ref b, .int 0] M (fR (some (.int (if 0 < L then xs 0 else 0))) M) := by
  refine Ct.of h0 (by decide +kernel) rfl fun X hX h => ?_
  obtain ⟨p_, l', e_, R_, s_, m_, ar_, be_, me_, c_⟩ := X
  obtain rfl : l' = l := hX
  refine ri_iload_n h d_Lw_cell_0_0 rfl ?_
  refine ri_aload_n h d_Lw_cell_0_1 rfl ?_
  refine ri_slen h d_Lw_cell_0_2 hX ?_
  refine ri_icmp_ge h 12 d_Lw_cell_0_3 (by decide) (fun c_3 => ?_) (fun c_3 => ?_)
  · refine ri_iconst h 0 d_Lw_cell_0_12 rfl ?_
    refine ri_ireturn h d_Lw_cell_0_13 (Nat.le_of_ble_eq_true rfl) (Nat.le_of_ble_eq_true rfl) ?_
    exact ⟨by rw [if_neg (fun q => (nI_ge q (by omega)) c_3)], rfl⟩
  · have hp : 0 < L := by
      rcases Nat.eq_zero_or_pos L with q | q
      · subst q; exact absurd (Int32.le_refl _) c_3
      · exact q
    refine ri_aload_n h d_Lw_cell_0_6 rfl ?_
    refine ri_iload_n h d_Lw_cell_0_7 rfl ?_
    refine ri_sld h 0 d_Lw_cell_0_8 hX rfl hp (by omega) ?_
    refine ri_goto h 13 d_Lw_cell_0_9 (by decide) ?_
    refine ri_ireturn h d_Lw_cell_0_13 (Nat.le_of_ble_eq_true rfl) (Nat.le_of_ble_eq_true rfl) ?_
    exact ⟨by rw [if_pos hp], rfl⟩
theorem law_start (h : gF (gzz D s0 (p_, l, e_, R_, s_, m_, ar_, be_, me_, c_) room_1 FL 8) code "ShapeTreesLaw" (some .boolean) [] "law") (h0 : g_0 l D s0) (hX : va_X b L xs s0 s0.heap) (hL : L ≤ 5121) (hI : Init3 l D s0) : G (gzz D s0 (p_, l, e_, R_, s_, m_, ar_, be_, me_, c_) room_1 FL 8) 0 [(0, .ref b)] [] (fun _ => none) 0 0 := by
  obtain ⟨A1, A2, c1, c2, c3⟩ := hI (if 0 < L then xs 0 else 0)
  refine ri_new h d_law_0 nw_Lw_8 (Nat.le_of_ble_eq_true rfl) (Nat.le_of_ble_eq_true rfl) (fun x hx => ?_)
  refine ri_dup h d_law_3 rfl ?_
  refine ri_aload_n h d_law_4 rfl ?_
  refine ri_iconst h 0 d_law_5 rfl ?_
  refine ri_cSv h [.ref b, .int 0] [.ref x, .ref x] d_law_6 cs_Lw_66 (k_cell0 h0 hX hL) rfl rfl (Nat.le_of_ble_eq_true rfl) (Nat.le_of_ble_eq_true rfl) (Nat.le_of_ble_eq_true rfl) (Nat.le_of_ble_eq_true rfl) (Nat.le_of_ble_eq_true rfl) ?_
  refine ri_callI h [.int (if 0 < L then xs 0 else 0)] [.ref x] d_law_9 ci_Lw_71 rfl rfl (Nat.le_of_ble_eq_true rfl) (Nat.le_of_ble_eq_true rfl) (Nat.le_of_ble_eq_true rfl) (Nat.le_of_ble_eq_true rfl) (Nat.le_of_ble_eq_true rfl) (c1 x) fV_x ?_
  rintro v9 M1 ⟨hv, hA1⟩
  cases hv
  refine ri_widen (cl' := 41) (sl' := 64008) (Nat.le_of_ble_eq_true rfl) (Nat.le_of_ble_eq_true rfl) ?_
  refine ri_astore_n h d_law_12 (Nat.le_of_ble_eq_true rfl) ?_
  refine ri_new h d_law_13 nw_Lw_74 (Nat.le_of_ble_eq_true rfl) (Nat.le_of_ble_eq_true rfl) (fun mo hmo => ?_)
  refine ri_dup h d_law_16 rfl ?_
  refine ri_aload_n h d_law_17 rfl ?_
  refine ri_iconst h 0 d_law_18 rfl ?_
  refine ri_cSv h [.ref b, .int 0] [.ref mo, .ref mo] d_law_19 cs_Lw_66 (k_cell0 h0 hX hL) rfl rfl (Nat.le_of_ble_eq_true rfl) (Nat.le_of_ble_eq_true rfl) (Nat.le_of_ble_eq_true rfl) (Nat.le_of_ble_eq_true rfl) (Nat.le_of_ble_eq_true rfl) ?_
  refine ri_callI h [.int (if 0 < L then xs 0 else 0)] [.ref mo] d_law_22 ci_Lw_76 rfl rfl (Nat.le_of_ble_eq_true rfl) (Nat.le_of_ble_eq_true rfl) (Nat.le_of_ble_eq_true rfl) (Nat.le_of_ble_eq_true rfl) (Nat.le_of_ble_eq_true rfl) (c2 x mo M1 hA1 hmo) fV_x ?_
  rintro v9 M2 ⟨hv, hA2⟩
  cases hv
  refine ri_widen (cl' := 99) (sl' := 699999) (Nat.le_of_ble_eq_true rfl) (Nat.le_of_ble_eq_true rfl) ?_
  refine ri_astore_n h d_law_25 (Nat.le_of_ble_eq_true rfl) ?_
  refine ri_iconst h 1 d_law_26 rfl ?_
  refine ri_newarr h 1 1 d_law_27 (by decide) rfl (by decide +kernel) rfl (by decide) (Nat.le_of_ble_eq_true rfl) (Nat.le_of_ble_eq_true rfl) (fun out hout => ?_)
  refine ri_astore_n h d_law_29 (Nat.le_of_ble_eq_true rfl) ?_
  refine ri_iconst h 1 d_law_30 rfl ?_
  refine ri_istore h d_law_31 (Nat.le_of_ble_eq_true rfl) ?_
  obtain ⟨γ, Inv, g, hInv, hS⟩ := c3 x mo out M2 hA2 hout
  exact ri_ls [(0, .ref b), (1, .ref x), (2, .ref mo), (3, .ref out), (4, .int (nI (1 + 10 * 0)))] ⟨rfl, rfl, rfl, rfl, rfl, trivial⟩ (law_loop h h0 hX hL hS 513 0 (by omega) (by omega) g _ hInv)
end LS
