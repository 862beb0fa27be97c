/-! The steps: class and model, from the invariant to the invariant -/
def Inv (z x mo out : Nat) (g : gA × CS × MS) (M : gH) : Prop := HS z g.1 g.2.1 g.2.2 M ∧ WF g.2.1 ∧ MR g.2.1 g.2.2 ∧ g.1 0 0 = x ∧ g.1 30 0 = mo ∧ g.1 70 0 = out
theorem MR.ne {Q : CS} {N N' : MS} (h : MR Q N) (e : NE N N') (h1 : ∀ j, 6000 ≤ j → N'.i 25 j = N.i 25 j) (h2 : ∀ j, 144000 ≤ j → N'.l 22 j = N.l 22 j ∧ N'.l 23 j = N.l 23 j) : MR Q N' := by
  obtain ⟨a1, a2, a3, a4, a5, a6, a7⟩ := h.m0.ne e
  refine ⟨a1, a2, a3, a4, a5, a6, a7, e.2.2.2.2.1.trans h.ha, fun i hi => ⟨(h1 _ (by omega)).trans (h.i25 hi), fun k hk => ⟨(h2 _ (by omega)).1.trans (h.i22 hi hk), (h2 _ (by omega)).2.trans (h.i23 hi hk)⟩⟩⟩
section STP
variable {l : Launch} {D : gD} {s0 : State} {M : gH} {z : Nat} {ad : gA} {Q : CS} {N : MS}
/-- what a step asks, at one state -/
def gBody {α : Type} (l : Launch) (D : gD) (s0 : State) (z x mo out : Nat) (yc : MethodName) (wc : Cond) (ym : MethodName) (wm : Cond) (exs : List String) (mk : α → Value) (tl : α → Int64) (as : List Value) (M : gH) : Prop := ∃ P : Nat → α → gH → Prop, Ct l D s0 yc wc rkC (.ref x :: as) M (fT exs mk P) ∧ (∀ k v M1, P k v M1 → k < 10 ∧ (∃ fo, M1 out = some (al 1 fo)) ∧ ∃ fm, M1 mo = some (.inr (6, fm))) ∧
    ∀ k v M1, P k v M1 → ∀ fo, M1 out = some (al 1 fo) → Ct l D s0 ym wm rkM (.ref mo :: as) (if k = 0 then gup M1 out (al 1 (va_up fo 0 (tl v))) else M1) (fun r M2 => ∃ v2, r = .inl (some (mk v2)) ∧ (k = 0 → tl v2 = tl v) ∧ (∃ g', Inv z x mo out g' M2) ∧ (∃ fm, M2 mo = some (.inr (6, .int (nI k) :: fm))) ∧ ∃ fo2, M2 out = some (al 1 fo2) ∧ (k = 0 → fo2 0 = tl v))
theorem gS_ok {α : Type} {yc ym : MethodName} {wc wm : Cond} {exs : List String} {mk : α → Value} {tl : α → Int64} {as : List Value} {v v2 : α} (htl : tl v2 = tl v) (S : gA → CS → Prop)
    (hc : Ct l D s0 yc wc rkC (.ref (ad 0 0) :: as) M (fS (some (mk v)) (fun M' => ∃ (ad' : gA) (Q' : CS), Ko ad ad' ∧ S ad' Q' ∧ HS z ad' Q' N M')))
    (hm : ∀ (ad' : gA) (Q' : CS) (o : Nat → Int64) (M' : gH), S ad' Q' → HS z ad' Q' (N.set_out o) M' → Ct l D s0 ym wm rkM (.ref (ad' 30 0) :: as) M' (fM z ad' Q' (some (mk v2)) (fun N' => WF Q' ∧ MR Q' N' ∧ N'.code = 0 ∧ N'.out = o))) :
    gBody l D s0 z (ad 0 0) (ad 30 0) (ad 70 0) yc wc ym wm exs mk tl as M := by
  refine ⟨fun k w M1 => k = 0 ∧ w = v ∧ ∃ (ad' : gA) (Q' : CS), Ko ad ad' ∧ S ad' Q' ∧ HS z ad' Q' N M1, hc.mono (fun r M' h => Or.inl ⟨v, h.1, rfl, rfl, h.2⟩), ?_, ?_⟩
  · rintro k w M1 ⟨rfl, rfl, ad', Q', ⟨k1, k2, k3⟩, -, hS⟩
    exact ⟨by decide, ⟨N.out, by rw [← k3]; exact hS.out⟩, ⟨_, by rw [← k2]; exact hS.mo⟩⟩
  · rintro k w M1 ⟨rfl, rfl, ad', Q', ⟨k1, k2, k3⟩, hSQ, hS⟩ fo hfo
    rw [if_pos rfl, ← k3, ← k2]
    refine (hm ad' Q' _ _ hSQ (hS.set_out (va_up fo 0 (tl w)))).mono ?_
    rintro r M2 ⟨hr, N', hS', hW, hR, h0, ho⟩
    refine ⟨v2, hr, fun _ => htl, ⟨(ad', Q', N'), hS', hW, hR, k1, rfl, rfl⟩, ?_, N'.out, hS'.out, fun _ => by rw [ho]; exact va_up_s⟩
    have := hS'.mo
    rw [show mdO ad' N' = mdO ad' (N'.set_code N'.code) from rfl, h0] at this
    exact ⟨_, this⟩
theorem gS_no {α : Type} {yc ym : MethodName} {wc wm : Cond} {exs : List String} {mk : α → Value} {tl : α → Int64} {as : List Value} {v2 : α} {k : Nat} {E : String} (hk : exs[k]? = some E) (hk9 : k + 1 < 10) (S : CS → Prop)
    (hc : Ct l D s0 yc wc rkC (.ref (ad 0 0) :: as) M (fun r M' => r = .inr E ∧ ∃ Q' : CS, S Q' ∧ HS z ad Q' N M'))
    (hm : ∀ (Q' : CS) (M' : gH), S Q' → HS z ad Q' N M' → Ct l D s0 ym wm rkM (.ref (ad 30 0) :: as) M' (fM z ad Q' (some (mk v2)) (fun N' => WF Q' ∧ MR Q' N' ∧ N'.code = k + 1))) :
    gBody l D s0 z (ad 0 0) (ad 30 0) (ad 70 0) yc wc ym wm exs mk tl as M := by
  refine ⟨fun k' w M1 => k' = k + 1 ∧ ∃ Q' : CS, S Q' ∧ HS z ad Q' N M1, hc.mono (fun r M' h => Or.inr ⟨k, E, v2, hk, h.1, rfl, h.2⟩), ?_, ?_⟩
  · rintro k' w M1 ⟨rfl, Q', -, hS⟩
    exact ⟨hk9, ⟨N.out, hS.out⟩, ⟨_, hS.mo⟩⟩
  · rintro k' w M1 ⟨rfl, Q', hSQ, hS⟩ fo hfo
    rw [if_neg (Nat.succ_ne_zero k)]
    refine (hm Q' _ hSQ hS).mono ?_
    rintro r M2 ⟨hr, N', hS', hW, hR, h0⟩
    refine ⟨v2, hr, fun e => absurd e (Nat.succ_ne_zero k), ⟨(ad, Q', N'), hS', hW, hR, rfl, rfl, rfl⟩, ?_, N'.out, hS'.out, fun e => absurd e (Nat.succ_ne_zero k)⟩
    have := hS'.mo
    rw [show mdO ad N' = mdO ad (N'.set_code N'.code) from rfl, h0] at this
    exact ⟨_, this⟩
/-- refused with the state left as it was -/
theorem gS_no' {α : Type} {yc ym : MethodName} {wc wm : Cond} {exs : List String} {mk : α → Value} {tl : α → Int64} {as : List Value} {v2 : α} {k : Nat} {E : String} (hk : exs[k]? = some E) (hk9 : k + 1 < 10) (hS : HS z ad Q N M) (hW : WF Q)
    (hc : Ct l D s0 yc wc rkC (.ref (ad 0 0) :: as) M (fE E M))
    (hm : Ct l D s0 ym wm rkM (.ref (ad 30 0) :: as) M (fM z ad Q (some (mk v2)) (fun N' => MR Q N' ∧ N'.code = k + 1))) :
    gBody l D s0 z (ad 0 0) (ad 30 0) (ad 70 0) yc wc ym wm exs mk tl as M := by
  refine ⟨fun k' w M1 => k' = k + 1 ∧ M1 = M, hc.mono (fun r M' h => Or.inr ⟨k, E, v2, hk, h.1, rfl, h.2⟩), ?_, ?_⟩
  · rintro k' w M1 ⟨rfl, rfl⟩
    exact ⟨hk9, ⟨N.out, hS.out⟩, ⟨_, hS.mo⟩⟩
  · rintro k' w M1 ⟨rfl, rfl⟩ fo hfo
    rw [if_neg (Nat.succ_ne_zero k)]
    refine hm.mono ?_
    rintro r M2 ⟨hr, N', hS', hR, h0⟩
    refine ⟨v2, hr, fun e => absurd e (Nat.succ_ne_zero k), ⟨(ad, Q, N'), hS', hW, hR, rfl, rfl, rfl⟩, ?_, N'.out, hS'.out, fun e => absurd e (Nat.succ_ne_zero k)⟩
    have := hS'.mo
    rw [show mdO ad N' = mdO ad (N'.set_code N'.code) from rfl, h0] at this
    exact ⟨_, this⟩
/-- the model's end, where the new state is named -/
theorem fM_of {ad : gA} {Qc Q' : CS} {ym : MethodName} {wm : Cond} {as : List Value} {M : gH} {v : Value} {N1 : MS} {k : Nat} {o : Nat → Int64} (h : Ct l D s0 ym wm rkM as M (fM z ad Qc (some v) (fun N' => N' = N1))) (hW : WF Q') (hR : MR Q' N1) (hk : N1.code = k) (ho : N1.out = o) : Ct l D s0 ym wm rkM as M (fM z ad Qc (some v) (fun N' => WF Q' ∧ MR Q' N' ∧ N'.code = k ∧ N'.out = o)) := h.mono (fun r M' h => ⟨h.1, by obtain ⟨-, N', hS, rfl⟩ := h; exact ⟨_, hS, hW, hR, hk, ho⟩⟩)
theorem fM_no {ad : gA} {Q : CS} {ym : MethodName} {wm : Cond} {as : List Value} {M : gH} {v : Value} {N : MS} {k : Nat} (h : Ct l D s0 ym wm rkM as M (fM z ad Q (some v) (fun N' => N' = N.set_code k))) (hR : MR Q N) : Ct l D s0 ym wm rkM as M (fM z ad Q (some v) (fun N' => MR Q N' ∧ N'.code = k)) := h.mono (fun r M' h => ⟨h.1, by obtain ⟨-, N', hS, rfl⟩ := h; exact ⟨_, hS, hR, rfl⟩⟩)
theorem st_cell (h0 : g_0 l D s0) (hz : gz s0 z) (hS : HS z ad Q N M) (hW : WF Q) (hR : MR Q N) : gBody l D s0 z (ad 0 0) (ad 30 0) (ad 70 0) y_ST_cell (Cond.code y_ST_cell b_ST_cell 1 (some .int)) y_Md_cell (Cond.code y_Md_cell b_Md_cell 1 (some .int)) ["java/lang/IllegalStateException"] Value.int Int32.toInt64 [] M := by
  by_cases hn : Q.nC < 20
  · refine gS_ok (v := nI Q.nC) (v2 := nI Q.nC) rfl (fun _ Q' => Q' = Q.addC) ((k_cell_ok h0 hz hS hW.wb hW.wt hn).mono (fun r M' h => ⟨h.1, by obtain ⟨-, ad', hk, hS⟩ := h; exact ⟨ad', _, hk, rfl, hS⟩⟩)) ?_
    rintro ad' Q' o M' rfl hS
    exact fM_of (k_mcell_ok h0 hS (Q := Q) (N := N.set_out o) hR hn) (hW.addC hn) ⟨hR.la, congrArg (· + 1) hR.nc, hR.2.2⟩ rfl rfl
  · exact gS_no' (k := 0) rfl (by decide) hS hW (k_cell_no h0 hS hW.wb hn) (fM_no (k_mcell_no h0 hS hR (by have := hW.wb.1; omega)) hR)
theorem st_polygon (h0 : g_0 l D s0) (hz : gz s0 z) (hS : HS z ad Q N M) (hW : WF Q) (hR : MR Q N) (p v : Int32) : gBody l D s0 z (ad 0 0) (ad 30 0) (ad 70 0) y_ST_polygon (Cond.code y_ST_polygon b_ST_polygon 4 (some .int)) y_Md_polygon (Cond.code y_Md_polygon b_Md_polygon 3 (some .int)) ["java/lang/IndexOutOfBoundsException", "java/lang/IllegalStateException"] Value.int Int32.toInt64 [.int p, .int v] M := by
  by_cases hp : ∃ c, c < Q.nC ∧ p = nI c
  · obtain ⟨c, hc, rfl⟩ := id hp
    by_cases hv : ¬ v < 0 ∧ v < Q.L
    · by_cases hn : Q.nS < 120
      · refine gS_ok (v := nI Q.nS) (v2 := nI Q.nS) rfl (fun _ Q' => Q' = Q.addS c (r0S c v 0 0)) ((k_polygon_ok h0 hz hS hW.wb hW.wt hc hv hn).mono (fun r M' h => ⟨h.1, by obtain ⟨-, ad', hk, hS⟩ := h; exact ⟨ad', _, hk, rfl, hS⟩⟩)) ?_
        rintro ad' Q' o M' rfl hS
        exact fM_of (k_mpolygon_ok h0 hS (Q := Q) (N := N.set_out o) hR hW.wb hc hv hn) (hW.addS hn hc (Or.inl rfl) (Or.inl rfl)) (MR.shape (N := N.set_out o) hR hW.fl 0 c v 0 0) rfl rfl
      · exact gS_no' (k := 1) rfl (by decide) hS hW (k_polygon_no3 h0 hS hW.wb hc hv hn) (fM_no (k_mpolygon_no2 h0 hS hR hW.wb hp hv (by have := hW.wb.2.1; omega)) hR)
    · exact gS_no' (k := 0) rfl (by decide) hS hW (k_polygon_no2 h0 hS hW.wb hc hv) (fM_no (k_mpolygon_no1 h0 hS hR hW.wb (Or.inr hv)) hR)
  · exact gS_no' (k := 0) rfl (by decide) hS hW (k_polygon_no1 h0 hS hW.wb hp) (fM_no (k_mpolygon_no1 h0 hS hR hW.wb (Or.inl hp)) hR)
theorem end_i {e : Int32} (he : ¬ e < 0 ∧ e ≤ 1) : e = 0 ∨ e = 1 := by
  obtain ⟨x, hx, rfl⟩ := ix_2 he.1 he.2
  rcases (show x = 0 ∨ x = 1 by omega) with rfl | rfl
  · exact Or.inl rfl
  · exact Or.inr rfl
theorem st_path (h0 : g_0 l D s0) (hz : gz s0 z) (hS : HS z ad Q N M) (hW : WF Q) (hR : MR Q N) (p v : Int32) (w : Int64) (e : Int32) : gBody l D s0 z (ad 0 0) (ad 30 0) (ad 70 0) y_ST_path (Cond.code y_ST_path b_ST_path 7 (some .int)) y_Md_path (Cond.code y_Md_path b_Md_path 6 (some .int)) ["java/lang/IndexOutOfBoundsException", "java/lang/IllegalStateException", "java/lang/IllegalArgumentException"] Value.int Int32.toInt64 [.int p, .int v, .long w, .int e] M := by
  by_cases hp : ∃ c, c < Q.nC ∧ p = nI c
  · obtain ⟨c, hc, rfl⟩ := id hp
    by_cases hv : ¬ v < 0 ∧ v < Q.L
    · by_cases hn : Q.nS < 120
      · by_cases hw : wideB w ∧ ¬ e < 0 ∧ e ≤ 1
        · refine gS_ok (v := nI Q.nS) (v2 := nI Q.nS) rfl (fun _ Q' => Q' = Q.addS c (r0S c v w e)) ((k_path_ok h0 hz hS hW.wb hW.wt hc hv hn hw.1 hw.2).mono (fun r M' h => ⟨h.1, by obtain ⟨-, ad', hk, hS⟩ := h; exact ⟨ad', _, hk, rfl, hS⟩⟩)) ?_
          rintro ad' Q' o M' rfl hS
          exact fM_of (k_mpath_ok h0 hS (Q := Q) (N := N.set_out o) hR hW.wb hc hv hn hw.1 hw.2) (hW.addS hn hc (Or.inr hw.1) (end_i hw.2)) (MR.shape (N := N.set_out o) hR hW.fl 0 c v w e) rfl rfl
        · exact gS_no' (k := 2) rfl (by decide) hS hW (k_path_no4 h0 hS hW.wb hc hv hn hw) (fM_no (k_mpath_no3 h0 hS hR hW.wb hp hv hn hw) hR)
      · exact gS_no' (k := 1) rfl (by decide) hS hW (k_path_no3 h0 hS hW.wb hc hv hn) (fM_no (k_mpath_no2 h0 hS hR hW.wb hp hv (by have := hW.wb.2.1; omega)) hR)
    · exact gS_no' (k := 0) rfl (by decide) hS hW (k_path_no2 h0 hS hW.wb hc hv) (fM_no (k_mpath_no1 h0 hS hR hW.wb (Or.inr hv)) hR)
  · exact gS_no' (k := 0) rfl (by decide) hS hW (k_path_no1 h0 hS hW.wb hp) (fM_no (k_mpath_no1 h0 hS hR hW.wb (Or.inl hp)) hR)
theorem st_corner (h0 : g_0 l D s0) (hS : HS z ad Q N M) (hW : WF Q) (hR : MR Q N) (p : Int32) (x y : Int64) : gBody l D s0 z (ad 0 0) (ad 30 0) (ad 70 0) y_ST_corner (Cond.code y_ST_corner b_ST_corner 6 (some .boolean)) y_Md_corner (Cond.code y_Md_corner b_Md_corner 7 (some .boolean)) ["java/lang/IndexOutOfBoundsException", "java/lang/IllegalStateException", "java/lang/IllegalArgumentException"] Value.int jbool [.int p, .long x, .long y] M := by
  by_cases hp : ∃ s, s < Q.nS ∧ p = nI s ∧ (Q.sh s).drop = 0 ∧ spath (Q.sh s).w = 0
  · obtain ⟨s, hs, rfl, hd, hq⟩ := hp
    by_cases hc : (Q.sh s).cnt < 24
    · by_cases hx : nearB x ∧ nearB y
      · by_cases ht : takesB (Q.sh s) x y
        · refine gS_ok (v := (1 : Int32)) (v2 := (1 : Int32)) rfl (fun _ Q' => Q' = Q.set_sh (va_up Q.sh s (addR (Q.sh s) x y))) ((k_corner_ok h0 hS hW.wb hs hd hq hx.1 hx.2 ht hc).mono (fun r M' h => ⟨h.1, ad, _, Ko.rfl, rfl, h.2⟩)) ?_
          rintro ad' Q' o M' rfl hS
          exact fM_of (k_mcorner_ok h0 hS (Q := Q) (N := N.set_out o) hR hW.wb hs hd hq hc hx.1 hx.2 ht) (hW.addCorner hs hc hx.1 hx.2 ht) (MR.add (N := N.set_out o) hR hW.fl 0 hs hW.sc hc x y) rfl rfl
        · refine gS_ok (v := (0 : Int32)) (v2 := (0 : Int32)) rfl (fun _ Q' => Q' = Q) ((k_corner_0 h0 hS hW.wb hs hd hq hx.1 hx.2 ht hc).mono (fun r M' h => ⟨h.1, ad, _, Ko.rfl, rfl, h.2 ▸ hS⟩)) ?_
          rintro ad' Q' o M' rfl hS
          exact fM_of (k_mcorner_0 h0 hS (Q := Q') (N := N.set_out o) hR hW.wb hs hd hq hc hx.1 hx.2 ht) hW (show MR Q' ((N.set_out o).set_code 0) from hR) rfl rfl
      · exact gS_no' (k := 2) rfl (by decide) hS hW (k_corner_no2 h0 hS hW.wb hs hd hq hc hx) (fM_no (k_mcorner_no3 h0 hS hR hW.wb hs hd hq hc hx) hR)
    · have hc : (Q.sh s).cnt = 24 := by have := hW.sc s hs; omega
      exact gS_no' (k := 1) rfl (by decide) hS hW (k_corner_no1 h0 hS hW.wb hs hd hq hc) (fM_no (k_mcorner_no2 h0 hS hR hW.wb hs hd hq hc) hR)
  · exact gS_no' (k := 0) rfl (by decide) hS hW (k_corner_no h0 hS hW.wb hp) (fM_no (k_mcorner_no1 h0 hS hR hW.wb hp) hR)
theorem st_point (h0 : g_0 l D s0) (hS : HS z ad Q N M) (hW : WF Q) (hR : MR Q N) (p : Int32) (x y : Int64) : gBody l D s0 z (ad 0 0) (ad 30 0) (ad 70 0) y_ST_point (Cond.code y_ST_point b_ST_point 6 (some .boolean)) y_Md_point (Cond.code y_Md_point b_Md_point 7 (some .boolean)) ["java/lang/IndexOutOfBoundsException", "java/lang/IllegalStateException", "java/lang/IllegalArgumentException"] Value.int jbool [.int p, .long x, .long y] M := by
  by_cases hp : ∃ s, s < Q.nS ∧ p = nI s ∧ (Q.sh s).drop = 0 ∧ spath (Q.sh s).w = 1
  · obtain ⟨s, hs, rfl, hd, hq⟩ := hp
    by_cases hc : (Q.sh s).cnt < 24
    · by_cases hx : nearB x ∧ nearB y
      · by_cases ht : takesB (Q.sh s) x y
        · refine gS_ok (v := (1 : Int32)) (v2 := (1 : Int32)) rfl (fun _ Q' => Q' = Q.set_sh (va_up Q.sh s (addR (Q.sh s) x y))) ((k_point_ok h0 hS hW.wb hs hd hq hx.1 hx.2 ht hc).mono (fun r M' h => ⟨h.1, ad, _, Ko.rfl, rfl, h.2⟩)) ?_
          rintro ad' Q' o M' rfl hS
          exact fM_of (k_mpoint_ok h0 hS (Q := Q) (N := N.set_out o) hR hW.wb hs hd hq hc hx.1 hx.2 ht) (hW.addCorner hs hc hx.1 hx.2 ht) (MR.add (N := N.set_out o) hR hW.fl 0 hs hW.sc hc x y) rfl rfl
        · refine gS_ok (v := (0 : Int32)) (v2 := (0 : Int32)) rfl (fun _ Q' => Q' = Q) ((k_point_0 h0 hS hW.wb hs hd hq hx.1 hx.2 ht hc).mono (fun r M' h => ⟨h.1, ad, _, Ko.rfl, rfl, h.2 ▸ hS⟩)) ?_
          rintro ad' Q' o M' rfl hS
          exact fM_of (k_mpoint_0 h0 hS (Q := Q') (N := N.set_out o) hR hW.wb hs hd hq hc hx.1 hx.2 ht) hW (show MR Q' ((N.set_out o).set_code 0) from hR) rfl rfl
      · exact gS_no' (k := 2) rfl (by decide) hS hW (k_point_no2 h0 hS hW.wb hs hd hq hc hx) (fM_no (k_mpoint_no3 h0 hS hR hW.wb hs hd hq hc hx) hR)
    · have hc : (Q.sh s).cnt = 24 := by have := hW.sc s hs; omega
      exact gS_no' (k := 1) rfl (by decide) hS hW (k_point_no1 h0 hS hW.wb hs hd hq hc) (fM_no (k_mpoint_no2 h0 hS hR hW.wb hs hd hq hc) hR)
  · exact gS_no' (k := 0) rfl (by decide) hS hW (k_point_no h0 hS hW.wb hp) (fM_no (k_mpoint_no1 h0 hS hR hW.wb hp) hR)
theorem st_drop (h0 : g_0 l D s0) (hS : HS z ad Q N M) (hW : WF Q) (hR : MR Q N) (p : Int32) : gBody l D s0 z (ad 0 0) (ad 30 0) (ad 70 0) y_ST_drop (Cond.code y_ST_drop b_ST_drop 4 (some .boolean)) y_Md_drop (Cond.code y_Md_drop b_Md_drop 2 (some .boolean)) ["java/lang/IndexOutOfBoundsException"] Value.int jbool [.int p] M := by
  by_cases hp : ∃ c, c < Q.nS ∧ p = nI c
  · obtain ⟨s, hs, rfl⟩ := id hp
    rcases hW.dr s hs with hd | hd
    · refine gS_ok (v := (1 : Int32)) (v2 := (1 : Int32)) rfl (fun _ Q' => Q' = Q.set_sh (va_up Q.sh s ((Q.sh s).set_drop 1))) ((k_drop_ok h0 hS hW.wb hs hd).mono (fun r M' h => ⟨h.1, ad, _, Ko.rfl, rfl, h.2⟩)) ?_
      rintro ad' Q' o M' rfl hS
      exact fM_of (k_mdrop_ok h0 hS (Q := Q) (N := N.set_out o) hR hW.wb hs hd) (hW.drop hs) (MR.drop (N := N.set_out o) hR hW.fl 0 hs) rfl rfl
    · refine gS_ok (v := (0 : Int32)) (v2 := (0 : Int32)) rfl (fun _ Q' => Q' = Q) ((k_drop_ok2 h0 hS hW.wb hs hd).mono (fun r M' h => ⟨h.1, ad, _, Ko.rfl, rfl, h.2⟩)) ?_
      rintro ad' Q' o M' rfl hS
      exact fM_of (k_mdrop_0 h0 hS (Q := Q') (N := N.set_out o) hR hW.wb hs hd) hW (show MR Q' ((N.set_out o).set_code 0) from hR) rfl rfl
  · exact gS_no' (k := 0) rfl (by decide) hS hW (k_drop_no h0 hS hW.wb hp) (fM_no (k_mdrop_no h0 hS hR hW.wb hp) hR)
end STP
