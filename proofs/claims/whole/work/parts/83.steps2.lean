/-! More steps: place, array, box, flat, at, find -/
section STQ
variable {l : Launch} {D : gD} {s0 : State} {M : gH} {z : Nat} {ad : gA} {Q : CS} {N : MS}
theorem st_place (h0 : g_0 l D s0) (hz : gz s0 z) (hS : HS z ad Q N M) (hW : WF Q) (hR : MR Q N) (p o : Int32) (x y : Int64) (t : Int32) : gBody l D s0 z (ad 0 0) (ad 30 0) (ad 70 0) y_ST_place (Cond.code y_ST_place b_ST_place 11 (some .int)) y_Md_place (Cond.code y_Md_place b_Md_place 8 (some .int)) ["java/lang/IndexOutOfBoundsException", "java/lang/IllegalStateException", "java/lang/IllegalArgumentException"] Value.int Int32.toInt64 [.int p, .int o, .long x, .long y, .int t] M := by
  by_cases hp : (∃ c, c < Q.nC ∧ p = nI c) ∧ ∃ c, c < Q.nC ∧ o = nI c
  · obtain ⟨⟨c, hc, rfl⟩, ⟨a, ha, rfl⟩⟩ := id hp
    by_cases hn : Q.nP < 80
    · by_cases hx : nearB x ∧ nearB y ∧ ¬ t < 0 ∧ t < 8
      · obtain ⟨h1, h2, h3, h4⟩ := hx
        obtain ⟨u, hu, rfl⟩ := ix_of (n := 8) (by decide) h3 h4
        by_cases hr : Rch (Ed Q) a c
        · refine gS_ok (v := (-1 : Int32)) (v2 := (-1 : Int32)) rfl (fun _ Q' => ∃ σ : Nat → Int32, (∀ x, σ x = 0 ∨ σ x = 1) ∧ Q' = Q.set_ce (snc Q.ce σ)) ((k_place_0 h0 hS hW.wb hW.wl hW.se hc ha hn h1 h2 hu hr).mono (fun r M' h => ⟨h.1, by obtain ⟨-, σ, hS, hσ⟩ := h; exact ⟨ad, _, Ko.rfl, ⟨σ, hσ, rfl⟩, hS⟩⟩)) ?_
          rintro ad' Q' o M' ⟨σ, hσ, rfl⟩ hS
          refine (k_mplace_0 h0 hS (Q := Q) (N := N.set_out o) hR hW.wb hW.wl hc ha hn h1 h2 hu hr).mono (fun r M' h => ⟨h.1, ?_⟩)
          obtain ⟨-, N', hS, u', rfl⟩ := h
          exact ⟨_, hS, hW.sn hσ, show MR Q N from hR, rfl, rfl⟩
        · refine gS_ok (v := nI Q.nP) (v2 := nI Q.nP) rfl (fun _ Q' => ∃ σ : Nat → Int32, (∀ x, σ x = 0 ∨ σ x = 1) ∧ Q' = (Q.set_ce (snc Q.ce σ)).addP c (r0P c a x y u)) ((k_place_ok h0 hz hS hW.wb hW.wt hW.wl hW.se hc ha hn h1 h2 hu hr).mono (fun r M' h => ⟨h.1, by obtain ⟨-, σ, ad', hk, hS, hσ⟩ := h; exact ⟨ad', _, hk, ⟨σ, hσ, rfl⟩, hS⟩⟩)) ?_
          rintro ad' Q' o M' ⟨σ, hσ, rfl⟩ hS
          refine (k_mplace_ok h0 hS (Q := Q) (N := N.set_out o) hR hW.wb hW.wl hc ha hn h1 h2 hu hr).mono (fun r M' h => ⟨h.1, ?_⟩)
          obtain ⟨-, N', hS, u', rfl⟩ := h
          exact ⟨_, hS, (hW.sn hσ).addP hn hc ha hu h1 h2 hr, MR.place (Q := Q) (N := N.set_out o) hR 0 u' c a x y u, rfl, rfl⟩
      · exact gS_no' (k := 2) rfl (by decide) hS hW (k_place_no3 h0 hS hW.wb hc ha hn hx) (fM_no (k_mplace_no3 h0 hS hR hW.wb hp.1 hp.2 hn hx) hR)
    · exact gS_no' (k := 1) rfl (by decide) hS hW (k_place_no2 h0 hS hW.wb hc ha hn) (fM_no (k_mplace_no2 h0 hS hR hW.wb hp.1 hp.2 (by have := hW.wb.2.2.1; omega)) hR)
  · exact gS_no' (k := 0) rfl (by decide) hS hW (k_place_no1 h0 hS hW.wb hp) (fM_no (k_mplace_no1 h0 hS hR hW.wb hp) hR)
theorem ix_20 {a : Int32} (h1 : ¬ a < 1) (h2 : a ≤ 20) : ∃ x, a = nI x ∧ 1 ≤ x ∧ x ≤ 20 := by
  rw [Int32.lt_iff_toInt_lt, show (1 : Int32).toInt = 1 by decide] at h1
  rw [Int32.le_iff_toInt_le, show (20 : Int32).toInt = 20 by decide] at h2
  have h3 : ¬ a < 0 := by rw [Int32.lt_iff_toInt_lt, show (0 : Int32).toInt = 0 by decide]; omega
  obtain ⟨x, hx, rfl⟩ := ix_of (n := 21) (by decide) h3 (by rw [Int32.lt_iff_toInt_lt, nI_toInt (by decide)]; omega)
  rw [nI_toInt (by omega)] at h1
  exact ⟨x, rfl, by omega, by omega⟩
theorem st_array (h0 : g_0 l D s0) (hS : HS z ad Q N M) (hW : WF Q) (hR : MR Q N) (p a b : Int32) (u v : Int64) : gBody l D s0 z (ad 0 0) (ad 30 0) (ad 70 0) y_ST_array (Cond.code y_ST_array b_ST_array 9 (some .int)) y_Md_array (Cond.code y_Md_array b_Md_array 8 (some .int)) ["java/lang/IndexOutOfBoundsException", "java/lang/IllegalArgumentException"] Value.int Int32.toInt64 [.int p, .int a, .int b, .long u, .long v] M := by
  by_cases hp : ∃ c, c < Q.nP ∧ p = nI c
  · obtain ⟨c, hc, rfl⟩ := id hp
    by_cases hn : ¬ a < 1 ∧ ¬ 20 < a ∧ ¬ b < 1 ∧ b ≤ 20 ∧ nearB u ∧ nearB v
    · obtain ⟨h1, h2, h3, h4, h5, h6⟩ := hn
      obtain ⟨a, rfl, ha⟩ := ix_20 h1 (Int32.not_lt.mp h2)
      obtain ⟨b, rfl, hb⟩ := ix_20 h3 h4
      refine gS_ok (v := nI (a * b)) (v2 := nI (a * b)) rfl (fun _ Q' => Q' = Q.set_pl (va_up Q.pl c (((((Q.pl c).set_cols a).set_rows b).set_dx u).set_dy v))) ((k_array_ok h0 hS hW.wb hc ha hb h5 h6).mono (fun r M' h => ⟨h.1, ad, _, Ko.rfl, rfl, h.2⟩)) ?_
      rintro ad' Q' o M' rfl hS
      exact fM_of (k_marray_ok h0 hS (Q := Q) (N := N.set_out o) hR hW.wb hc ha hb h5 h6) (hW.array hc ha hb h5 h6) (MR.array (N := N.set_out o) hR 0) rfl rfl
    · exact gS_no' (k := 1) rfl (by decide) hS hW (k_array_no2 h0 hS hW.wb hc hn) (fM_no (k_marray_no2 h0 hS hR hW.wb hc hn) hR)
  · exact gS_no' (k := 0) rfl (by decide) hS hW (k_array_no1 h0 hS hW.wb hp) (fM_no (k_marray_no1 h0 hS hR hW.wb hp) hR)
theorem st_at (h0 : g_0 l D s0) (hS : HS z ad Q N M) (hW : WF Q) (hR : MR Q N) (v w a : Int32) : gBody l D s0 z (ad 0 0) (ad 30 0) (ad 70 0) y_ST_at (Cond.code y_ST_at b_ST_at 4 (some .long)) y_Md_at (Cond.code y_Md_at b_Md_at 5 (some .long)) ["java/lang/IndexOutOfBoundsException"] Value.long (fun x => x) [.int v, .int w, .int a] M := by
  by_cases hn : ∃ i k x, i < (Q.fl 0).cnt ∧ v = nI i ∧ k < (Q.fl 0).cor i ∧ w = nI k ∧ x < 2 ∧ a = nI x
  · obtain ⟨i, k, x, hi, rfl, hk, rfl, hx, rfl⟩ := hn
    refine gS_ok (v := if x = 0 then FX Q.sh (Q.fl 0) i k else FY Q.sh (Q.fl 0) i k) (v2 := if x = 0 then FX Q.sh (Q.fl 0) i k else FY Q.sh (Q.fl 0) i k) rfl (fun _ Q' => Q' = Q) ((k_at_ok h0 hS hW.fl hW.sc hi hk hx).mono (fun r M' h => ⟨h.1, ad, _, Ko.rfl, rfl, h.2 ▸ hS⟩)) ?_
    rintro ad' Q' o M' rfl hS
    exact fM_of (k_mat_ok h0 hS (Q := Q') (N := N.set_out o) hR hW.fl hW.sc hi hk hx) hW (show MR Q' ((N.set_out o).set_code 0) from hR) rfl rfl
  · exact gS_no' (k := 0) rfl (by decide) hS hW (k_at_no h0 hS hW.fl hW.sc hn) (fM_no (k_mat_no h0 hS hR hW.fl hW.sc hn) hR)
theorem MR.nw {N N' : MS} (h : MR Q N) (e : NW N N') : MR Q N' := h.ne e.1 (fun j hj => (e.2.1 j (by omega)).2) (fun j hj => e.2.2 j (by omega))
theorem ix_4 {w : Int32} (h1 : ¬ w < 0) (h2 : w ≤ nI 3) : ∃ x, x < 4 ∧ w = nI x := by
  refine ix_of (by decide) h1 ?_
  rw [Int32.lt_iff_toInt_lt]
  rw [Int32.le_iff_toInt_le] at h2
  have e1 : (nI 3).toInt = 3 := by decide
  have e2 : (nI 4).toInt = 4 := by decide
  omega
theorem HB.ex {b : BxR} {P : Pts} (h : HB b P) : (b.n = 1 ↔ ∀ x y, ¬ P x y) := by
  rcases h with ⟨h1, h2⟩ | ⟨h1, -, ⟨y, h2⟩, -⟩
  · exact ⟨fun _ => h2, fun _ => h1⟩
  · exact ⟨fun e => by rw [h1] at e; exact absurd e (by decide), fun q => absurd h2 (q _ _)⟩
/-- there is a box of the cell: by points alone -/
theorem ex_min (f : Int → Prop) : ∀ (n : Nat) (a : Int), (∃ x, f x ∧ x ≤ a + n) → (∀ x, f x → a ≤ x) → ∃ x, f x ∧ ∀ y, f y → x ≤ y
  | 0, a, ⟨x, h1, h2⟩, hb => ⟨x, h1, fun y hy => by have := hb y hy; omega⟩
  | n + 1, a, ⟨x, h1, h2⟩, hb => by
    by_cases h : f a
    · exact ⟨a, h, hb⟩
    · exact ex_min f n (a + 1) ⟨x, h1, by omega⟩ (fun y hy => by
        have := hb y hy
        have : y ≠ a := fun e => h (e ▸ hy)
        omega)
theorem ex_bnd (f : Int → Prop) {B : Nat} (h : ∃ x, f x) (hb : ∀ x, f x → -(B : Int) ≤ x ∧ x ≤ B) : (∃ x, f x ∧ ∀ y, f y → x ≤ y) ∧ ∃ x, f x ∧ ∀ y, f y → y ≤ x := by
  obtain ⟨x, hx⟩ := h
  have b := hb x hx
  refine ⟨ex_min f (2 * B) (-(B : Int)) ⟨x, hx, by omega⟩ (fun y hy => (hb y hy).1), ?_⟩
  obtain ⟨y, h1, h2⟩ := ex_min (fun x => f (-x)) (2 * B) (-(B : Int)) ⟨-x, by rw [Int.neg_neg]; exact hx, by omega⟩ (fun y hy => by have := hb _ hy; omega)
  exact ⟨-y, h1, fun z hz => by have := h2 (-z) (by rw [Int.neg_neg]; exact hz); omega⟩
theorem PT_box (hW : WF Q) {c : Nat} (hc : c < Q.nC) (v : Int32) : ∃ bb, HB bb (PT Q v c) ∧ True := by
  by_cases he : ∃ x y, PT Q v c x y
  · have hB := PT_b (lay := v) hW.wl hW.wx 21 c hc
    obtain ⟨x, y, hp⟩ := he
    have hBx : ∀ a, (∃ y, PT Q v c a y) → -((500000000 : Nat) : Int) ≤ a ∧ a ≤ ((500000000 : Nat) : Int) := fun a ⟨y, hq⟩ => by have := hB a y hq; omega
    have hBy : ∀ a, (∃ x, PT Q v c x a) → -((500000000 : Nat) : Int) ≤ a ∧ a ≤ ((500000000 : Nat) : Int) := fun a ⟨x, hq⟩ => by have := hB x a hq; omega
    obtain ⟨⟨x0, h1, h2⟩, ⟨x1, h3, h4⟩⟩ := ex_bnd _ ⟨x, y, hp⟩ hBx
    obtain ⟨⟨y0, h5, h6⟩, ⟨y1, h7, h8⟩⟩ := ex_bnd _ ⟨y, x, hp⟩ hBy
    have e : ∀ a : Int, -((500000000 : Nat) : Int) ≤ a ∧ a ≤ ((500000000 : Nat) : Int) → (Int64.ofInt a).toInt = a := fun a ha => by rw [Int64.toInt_ofInt]; exact bm64 (by omega) (by omega)
    refine ⟨(Int64.ofInt x0, Int64.ofInt y0, Int64.ofInt x1, Int64.ofInt y1, 0), Or.inr ⟨rfl, ?_⟩, trivial⟩
    show (∀ x y, PT Q v c x y → (Int64.ofInt x0).toInt ≤ x ∧ x ≤ (Int64.ofInt x1).toInt ∧ (Int64.ofInt y0).toInt ≤ y ∧ y ≤ (Int64.ofInt y1).toInt) ∧ (∃ y, PT Q v c (Int64.ofInt x0).toInt y) ∧ (∃ y, PT Q v c (Int64.ofInt x1).toInt y) ∧ (∃ x, PT Q v c x (Int64.ofInt y0).toInt) ∧ ∃ x, PT Q v c x (Int64.ofInt y1).toInt
    rw [e x0 (hBx _ h1), e x1 (hBx _ h3), e y0 (hBy _ h5), e y1 (hBy _ h7)]
    exact ⟨fun a b hq => ⟨h2 a ⟨b, hq⟩, h4 a ⟨b, hq⟩, h6 b ⟨a, hq⟩, h8 b ⟨a, hq⟩⟩, h1, h3, h5, h7⟩
  · exact ⟨(0, 0, 0, 0, 1), Or.inl ⟨rfl, fun x y hp => he ⟨x, y, hp⟩⟩, trivial⟩
theorem st_box (h0 : g_0 l D s0) (hS : HS z ad Q N M) (hW : WF Q) (hR : MR Q N) (p v w : Int32) : gBody l D s0 z (ad 0 0) (ad 30 0) (ad 70 0) y_ST_box (Cond.code y_ST_box b_ST_box 5 (some .long)) y_Md_box (Cond.code y_Md_box b_Md_box 6 (some .long)) ["java/lang/IndexOutOfBoundsException", "java/lang/IllegalStateException"] Value.long (fun x => x) [.int p, .int v, .int w] M := by
  by_cases hn : (∃ c, c < Q.nC ∧ p = nI c) ∧ (¬ v < 0 ∧ v < Q.L) ∧ ¬ w < 0 ∧ w ≤ nI 3
  · obtain ⟨⟨c, hc, rfl⟩, hv, h1, h2⟩ := hn
    obtain ⟨w, hw, rfl⟩ := ix_4 h1 h2
    by_cases hz0 : SZ Q v c = 0
    · have hem := (SZ_0 hW.wl hW.wx 21 c hc).mp hz0
      refine gS_no (v2 := (0 : Int64)) (k := 1) rfl (by decide) (fun Q' => ∃ (m : Nat → Int32) (sz : Nat → Nat) (b pb : Nat → BxR), (∀ x, m x = 0 ∨ m x = 1) ∧ Q' = msQ Q m sz b pb) ((k_box_no2 h0 hS hW.wb hW.wl hW.wx hW.me hc hv hw hz0).mono (fun r M' h => ⟨h.1, by obtain ⟨-, m, sz, b, pb, hS, h01⟩ := h; exact ⟨_, ⟨m, sz, b, pb, h01, rfl⟩, hS⟩⟩)) ?_
      rintro Q' M' ⟨m, sz, b, pb, h01, rfl⟩ hS
      refine (k_mbox h0 hS (Q := Q) hR.m0 hW.wb hW.wl hW.wx hW.wc hW.wp hc hv hw).mono (fun r M' h => ?_)
      obtain ⟨N1, hnw, hbx, ⟨q1, -, -⟩ | ⟨q1, q2, hS⟩⟩ := h
      · have := (HB.ex hbx).mpr hem
        have this : (1 : Int32) - N1.i 42 c = 1 := this
        rw [q1] at this
        exact absurd this (by decide)
      · have hmr : MR Q N1 := MR.nw (N := N.set_code 0) hR hnw
        exact ⟨q2, _, hS, hW.ms h01, show MR Q (N1.set_code 2) from hmr, rfl⟩
    · obtain ⟨bb, hbb, hbn⟩ : ∃ bb, HB bb (PT Q v c) ∧ True := by
        have := hW.wx
        exact PT_box hW hc v
      refine gS_ok (v := bside w bb.x0 bb.y0 bb.x1 bb.y1) (v2 := bside w bb.x0 bb.y0 bb.x1 bb.y1) rfl (fun _ Q' => ∃ (m : Nat → Int32) (sz : Nat → Nat) (b pb : Nat → BxR), (∀ x, m x = 0 ∨ m x = 1) ∧ Q' = msQ Q m sz b pb) ((k_box_ok h0 hS hW.wb hW.wl hW.wx hW.me hc hv hw hz0 hbb).mono (fun r M' h => ⟨h.1, by obtain ⟨-, m, sz, b, pb, hS, h01⟩ := h; exact ⟨ad, _, Ko.rfl, ⟨m, sz, b, pb, h01, rfl⟩, hS⟩⟩)) ?_
      rintro ad' Q' o M' ⟨m, sz, b, pb, h01, rfl⟩ hS
      refine (k_mbox h0 hS (Q := Q) (N := N.set_out o) hR.m0 hW.wb hW.wl hW.wx hW.wc hW.wp hc hv hw).mono (fun r M' h => ?_)
      obtain ⟨N1, hnw, hbx, ⟨q1, q2, hS⟩ | ⟨q1, -, -⟩⟩ := h
      · have hn0 : (bxv N1 c).n = 0 := by show (1 : Int32) - N1.i 42 c = 0; rw [q1]; decide
        have he := (HB.uniq hbx hbb).2 hn0
        rw [he] at q2
        have hmr : MR Q N1 := MR.nw (N := (N.set_out o).set_code 0) hR hnw
        exact ⟨q2, _, hS, hW.ms h01, show MR Q (N1.set_code 0) from hmr, rfl, hnw.1.2.2.2.2.2.1⟩
      · have hn1 : (bxv N1 c).n = 1 := by show (1 : Int32) - N1.i 42 c = 1; rw [q1]; decide
        exact absurd ((SZ_0 hW.wl hW.wx 21 c hc).mpr ((HB.ex hbx).mp hn1)) hz0
  · exact gS_no' (k := 0) rfl (by decide) hS hW (k_box_no1 h0 hS hW.wb hn) (fM_no (k_mbox_no1 h0 hS hR.m0 hW.wb hn) hR)
theorem st_flat (h0 : g_0 l D s0) (hS : HS z ad Q N M) (hW : WF Q) (hR : MR Q N) (p v : Int32) : gBody l D s0 z (ad 0 0) (ad 30 0) (ad 70 0) y_ST_flat (Cond.code y_ST_flat b_ST_flat 4 (some .int)) y_Md_flat (Cond.code y_Md_flat b_Md_flat 3 (some .int)) ["java/lang/IndexOutOfBoundsException", "java/lang/UnsupportedOperationException"] Value.int Int32.toInt64 [.int p, .int v] M := by
  by_cases hn : (∃ c, c < Q.nC ∧ p = nI c) ∧ (¬ v < 0 ∧ v < Q.L)
  · obtain ⟨⟨c, hc, rfl⟩, hv⟩ := hn
    by_cases hz0 : SZ Q (-1) c ≤ 3000
    · have hlen : (FLn Q v 21 c (0, 0, 0)).length ≤ 3000 := Nat.le_trans (FLn_lay hW.wl 21 c (0, 0, 0)) (by rw [FLn_len hW.wl hW.wb 21 c _ hc (rho_lt hW.wb)]; exact hz0)
      refine gS_ok (v := nI (FLn Q v 21 c (0, 0, 0)).length) (v2 := nI (FLn Q v 21 c (0, 0, 0)).length) rfl (fun _ Q' => ∃ (m : Nat → Int32) (sz : Nat → Nat) (b pb : Nat → BxR) (r : FlR), (∀ x, m x = 0 ∨ m x = 1) ∧ cLs Q r (FLn Q v 21 c (0, 0, 0)) ∧ (∀ i s, r.sh i = some s → s < Q.nS) ∧ Q' = lq Q m sz b pb 0 r) ((k_flat_ok h0 hS hW.wb hW.wl hW.wx hW.wc hW.wt hW.me hc hv hz0).mono (fun r M' h => ⟨h.1, by obtain ⟨-, m, sz, b, pb, r, hS, h01, hcl, hsh⟩ := h; exact ⟨ad, _, Ko.rfl, ⟨m, sz, b, pb, r, h01, hcl, hsh, rfl⟩, hS⟩⟩)) ?_
      rintro ad' Q' o M' ⟨m, sz, b, pb, r, h01, hcl, hsh, rfl⟩ hS
      refine (k_mflat_ok h0 hS (Q := Q) (N := N.set_out o) hR.m0 hW.wb hW.wl hW.wx hW.wc hc hv hz0).mono (fun r' M' h => ⟨h.1, ?_⟩)
      obtain ⟨-, N', hS, u, N1, hnz, hf, rfl⟩ := h
      have hok := FLn_ok (lay := v) hW.wl hW.wc 21 c (0, 0, 0) hc (by decide)
      refine ⟨_, hS, (hW.ms h01).f0 hsh hcl hlen hok, ?_, hnz.1.2.2.2.2.2.2.1, hnz.1.2.2.2.2.2.1⟩
      have hm1 : MR0 Q N1 := MR0.ne (N := ((N.set_out o).set_l (va_up N.l 28 u)).set_code 0) (show MR0 Q N from hR.m0) hnz.1
      refine ⟨hm1.1, hm1.2.1, hm1.2.2.1, hm1.2.2.2.1, hm1.2.2.2.2.1, hm1.2.2.2.2.2.1, hm1.2.2.2.2.2.2, hcl.1.symm, fun i hi => ?_⟩
      have hi : i < r.cnt := hi
      have hil : i < (FLn Q v 21 c (0, 0, 0)).length := by rw [← hcl.1]; exact hi
      obtain ⟨g1, g2, g3, g4, g5⟩ := hcl.2 i hil
      obtain ⟨f1, f2, f3⟩ := hf i hil
      have hsi : r.s i = (FLn Q v 21 c (0, 0, 0))[i].1 := by show (r.sh i).getD 0 = _; rw [g1]; rfl
      refine ⟨f2.trans (congrArg nI g2.symm), fun k hk => ?_⟩
      have hk : k < (Q.sh (FLn Q v 21 c (0, 0, 0))[i].1).cnt := by rw [← g2]; exact hk
      obtain ⟨f4, f5⟩ := f3 k hk
      constructor
      · refine f4.trans ?_
        show _ = FX Q.sh r i k
        unfold FX
        rw [hsi, g3, g4]
      · refine f5.trans ?_
        show _ = FY Q.sh r i k
        unfold FY
        rw [hsi, g3, g5]
    · refine gS_no (v2 := (0 : Int32)) (k := 1) rfl (by decide) (fun Q' => ∃ (m : Nat → Int32) (sz : Nat → Nat) (b pb : Nat → BxR), (∀ x, m x = 0 ∨ m x = 1) ∧ Q' = msQ Q m sz b pb) ((k_flat_no2 h0 hS hW.wb hW.wl hW.wx hW.me hc hv hz0).mono (fun r M' h => ⟨h.1, by obtain ⟨-, m, sz, b, pb, hS, h01⟩ := h; exact ⟨_, ⟨m, sz, b, pb, h01, rfl⟩, hS⟩⟩)) ?_
      rintro Q' M' ⟨m, sz, b, pb, h01, rfl⟩ hS
      refine (k_mflat_no2 h0 hS (Q := Q) hR.m0 hW.wb hW.wl hW.wx hW.wc hc hv hz0).mono (fun r M' h => ⟨h.1, ?_⟩)
      obtain ⟨-, N', hS, u, rfl⟩ := h
      exact ⟨_, hS, hW.ms h01, show MR Q N from hR, rfl⟩
  · refine gS_no' (k := 0) rfl (by decide) hS hW (k_flat_no1 h0 hS hW.wb hn) ((k_mflat_no1 h0 hS hR.m0 hW.wb hW.wl hW.wx hW.wc hn).mono (fun r M' h => ⟨h.1, ?_⟩))
    obtain ⟨-, N', hS, u, rfl⟩ := h
    exact ⟨_, hS, show MR Q N from hR, rfl⟩
theorem st_find (h0 : g_0 l D s0) (hS : HS z ad Q N M) (hW : WF Q) (hR : MR Q N) (p : Int32) (x0 y0 x1 y1 : Int64) : gBody l D s0 z (ad 0 0) (ad 30 0) (ad 70 0) y_ST_find (Cond.code y_ST_find b_ST_find 13 (some .int)) y_Md_find (Cond.code y_Md_find b_Md_find 13 (some .int)) ["java/lang/IndexOutOfBoundsException", "java/lang/IllegalArgumentException", "java/lang/UnsupportedOperationException"] Value.int Int32.toInt64 [.int p, .long x0, .long y0, .long x1, .long y1] M := by
  by_cases hp : ∃ c, c < Q.nC ∧ p = nI c
  · obtain ⟨c, hc, rfl⟩ := id hp
    by_cases hn : findB x0 y0 x1 y1
    · by_cases hz0 : SZ Q (-1) c ≤ 3000
      · refine gS_ok (v := nI ((FLn Q (-1) 21 c (0, 0, 0)).filter (fnd Q x0 y0 x1 y1)).length) (v2 := nI ((FLn Q (-1) 21 c (0, 0, 0)).filter (fnd Q x0 y0 x1 y1)).length) rfl (fun _ Q' => ∃ (m : Nat → Int32) (sz : Nat → Nat) (b pb : Nat → BxR) (r : FlR) (sb : BxR), (∀ x, m x = 0 ∨ m x = 1) ∧ (∀ i s, r.sh i = some s → s < Q.nS) ∧ Q' = (lq Q m sz b pb 1 r).set_sb sb) ((k_find_ok h0 hS hW.wb hW.wl hW.wx hW.wc hW.wt hW.me hc hn hz0).mono (fun r M' h => ⟨h.1, by obtain ⟨-, m, sz, b, pb, r, sb, hS, h01, hsh⟩ := h; exact ⟨ad, _, Ko.rfl, ⟨m, sz, b, pb, r, sb, h01, hsh, rfl⟩, hS⟩⟩)) ?_
        rintro ad' Q' o M' ⟨m, sz, b, pb, r, sb, h01, hsh, rfl⟩ hS
        refine (k_mfind_ok h0 hS (Q := Q) (N := N.set_out o) hR.m0 hW.wb hW.wl hW.wx hW.wc hW.wp hc hn hz0).mono (fun r' M' h => ⟨h.1, ?_⟩)
        obtain ⟨-, N', hS, u, N1, b', e', hnz, rfl⟩ := h
        exact ⟨_, hS, ((hW.ms h01).f1 (j := 1) (by decide) hsh).sb sb, show MR Q N1 from MR.ne (N := ((N.set_out o).set_l (va_up N.l 28 u)).set_code 0) (show MR Q N from hR) hnz.1 (fun j hj => (hnz.2.2.2.1 j (Or.inr (by omega))).2) (fun j hj => hnz.2.2.2.2 j (Or.inr (by omega))), hnz.1.2.2.2.2.2.2.1, hnz.1.2.2.2.2.2.1⟩
      · refine gS_no (v2 := (0 : Int32)) (k := 2) rfl (by decide) (fun Q' => ∃ (m : Nat → Int32) (sz : Nat → Nat) (b pb : Nat → BxR), (∀ x, m x = 0 ∨ m x = 1) ∧ Q' = msQ Q m sz b pb) ((k_find_no3 h0 hS hW.wb hW.wl hW.wx hW.me hc hn hz0).mono (fun r M' h => ⟨h.1, by obtain ⟨-, m, sz, b, pb, hS, h01⟩ := h; exact ⟨_, ⟨m, sz, b, pb, h01, rfl⟩, hS⟩⟩)) ?_
        rintro Q' M' ⟨m, sz, b, pb, h01, rfl⟩ hS
        refine (k_mfind_no3 h0 hS (Q := Q) hR.m0 hW.wb hW.wl hW.wx hW.wc hc hn hz0).mono (fun r M' h => ⟨h.1, ?_⟩)
        obtain ⟨-, N', hS, u, rfl⟩ := h
        exact ⟨_, hS, hW.ms h01, show MR Q N from hR, rfl⟩
    · refine gS_no' (k := 1) rfl (by decide) hS hW (k_find_no2 h0 hS hW.wb hc hn) ((k_mfind_no2 h0 hS hR.m0 hW.wb hW.wl hW.wx hW.wc hp hn).mono (fun r M' h => ⟨h.1, ?_⟩))
      obtain ⟨-, N', hS, u, rfl⟩ := h
      exact ⟨_, hS, show MR Q N from hR, rfl⟩
  · refine gS_no' (k := 0) rfl (by decide) hS hW (k_find_no1 h0 hS hW.wb hp) ((k_mfind_no1 h0 hS hR.m0 hW.wb hW.wl hW.wx hW.wc hp).mono (fun r M' h => ⟨h.1, ?_⟩))
    obtain ⟨-, N', hS, u, rfl⟩ := h
    exact ⟨_, hS, show MR Q N from hR, rfl⟩
end STQ
