/-! layFromZero -/
/-- other orders settled -/
abbrev fsS (sh : Nat → ShR) (F T : Nat → Nat → Int32) : Nat → ShR := fun s => ((sh s).set_fi (F s)).set_st (T s)
abbrev eS (Q : CS) (F T : Nat → Nat → Int32) (g : Nat → FlR) : CS := (Q.set_sh (fsS Q.sh F T)).set_fl g
theorem fsS_up {sh : Nat → ShR} {F T : Nat → Nat → Int32} {s : Nat} {a b : Nat → Int32} : va_up (fsS sh F T) s (((fsS sh F T s).set_fi a).set_st b) = fsS sh (va_up F s a) (va_up T s b) := by
  funext d
  unfold fsS va_up
  split
  · subst_vars; rfl
  · rfl
section ESS
variable {Q : CS} {F T : Nat → Nat → Int32} {g : Nat → FlR} {lay : Int32}
theorem SZn_eS : ∀ n c, SZn (eS Q F T g) lay n c = SZn Q lay n c
  | 0, _ => rfl
  | n + 1, c => by
    have h : (fun p => (Q.pl p).cols * (Q.pl p).rows * SZn (eS Q F T g) lay n (Q.pl p).of) = fun p => (Q.pl p).cols * (Q.pl p).rows * SZn Q lay n (Q.pl p).of := funext fun p => by rw [SZn_eS n]
    show ((Q.ce c).ss.filter (fun s => onB (Q.sh s) lay)).length + ((Q.ce c).ps.map (fun p => (Q.pl p).cols * (Q.pl p).rows * SZn (eS Q F T g) lay n (Q.pl p).of)).sum = ((Q.ce c).ss.filter (fun s => onB (Q.sh s) lay)).length + ((Q.ce c).ps.map (fun p => (Q.pl p).cols * (Q.pl p).rows * SZn Q lay n (Q.pl p).of)).sum
    rw [h]
theorem PTn_eS : ∀ n c, PTn (eS Q F T g) lay n c = PTn Q lay n c
  | 0, _ => rfl
  | n + 1, c => by
    have h : ∀ p, PTn (eS Q F T g) lay n (Q.pl p).of = PTn Q lay n (Q.pl p).of := fun p => PTn_eS n _
    funext x y
    show ((∃ s, s ∈ (Q.ce c).ss ∧ onB (Q.sh s) lay = true ∧ SPt (Q.sh s) x y) ∨ ∃ p, p ∈ (Q.ce c).ps ∧ PIm (Q.pl p) (PTn (eS Q F T g) lay n (Q.pl p).of) x y) = ((∃ s, s ∈ (Q.ce c).ss ∧ onB (Q.sh s) lay = true ∧ SPt (Q.sh s) x y) ∨ ∃ p, p ∈ (Q.ce c).ps ∧ PIm (Q.pl p) (PTn Q lay n (Q.pl p).of) x y)
    simp only [h]
theorem FLn_eS : ∀ n c t, FLn (eS Q F T g) lay n c t = FLn Q lay n c t
  | 0, _, _ => rfl
  | n + 1, c, t => by
    have hp : posF (eS Q F T g) c 0 = posF Q c 0 := by
      have hz : nzP (eS Q F T g) c = nzP Q c := by
        funext p
        show (decide ((Q.pl p).cell = c) && decide (SZn (eS Q F T g) (-1) 21 (Q.pl p).of ≠ 0)) = (decide ((Q.pl p).cell = c) && decide (SZn Q (-1) 21 (Q.pl p).of ≠ 0))
        rw [SZn_eS]
      show ((List.range' 0 (Q.nP - 0)).filter (nzP (eS Q F T g) c)).flatMap (fun p => rowsF (Q.pl p) p 0) = ((List.range' 0 (Q.nP - 0)).filter (nzP Q c)).flatMap (fun p => rowsF (Q.pl p) p 0)
      rw [hz]
    have h : (fun x : Ps => FLn (eS Q F T g) lay n (Q.pl x.1).of (nxt t (Q.pl x.1) x.2.1 x.2.2)) = fun x : Ps => FLn Q lay n (Q.pl x.1).of (nxt t (Q.pl x.1) x.2.1 x.2.2) := funext fun p => FLn_eS n _ _
    show ownL Q lay c t ++ (posF (eS Q F T g) c 0).flatMap (fun x => FLn (eS Q F T g) lay n (Q.pl x.1).of (nxt t (Q.pl x.1) x.2.1 x.2.2)) = ownL Q lay c t ++ (posF Q c 0).flatMap (fun x => FLn Q lay n (Q.pl x.1).of (nxt t (Q.pl x.1) x.2.1 x.2.2))
    rw [h, hp]
theorem keyR_fs {r : ShR} {a b : Nat → Int32} {t : Nat} {X Y : Int} : keyR ((r.set_fi a).set_st b) t X Y = keyR r t X Y := rfl
theorem key_of {S : CS} {w : It} (h : S.sh w.1 = fsS Q.sh F T w.1) : key S w = key Q w := by
  unfold key
  rw [h]
  exact keyR_fs
theorem key_eS (w : It) : key (eS Q F T g) w = key Q w := key_of rfl
theorem key_eF : key (eS Q F T g) = key Q := funext key_eS
end ESS
theorem PcP_fs {r : ShR} {a b : Nat → Int32} {k : Nat} : PcP ((r.set_fi a).set_st b) k = PcP r k := rfl
theorem SPt_fs {r : ShR} {a b : Nat → Int32} : SPt ((r.set_fi a).set_st b) = SPt r := rfl
theorem WPt_fs {r : ShR} {a b : Nat → Int32} (h : WPt r) : WPt ((r.set_fi a).set_st b) := h
theorem onB_fs {r : ShR} {a b : Nat → Int32} {lay : Int32} : onB ((r.set_fi a).set_st b) lay = onB r lay := rfl
section ESW
variable {Q : CS} {F T : Nat → Nat → Int32} {g : Nat → FlR}
theorem WB_eS (h : WB Q) : WB (eS Q F T g) := h
theorem WL_eS (h : WL Q) : WL (eS Q F T g) := h
theorem WSC_eS (h : WSC Q) : WSC (eS Q F T g) := h
theorem WX_eS (h : WX Q) : WX (eS Q F T g) := by
  intro s hs
  obtain ⟨h1, h2, h3, h4⟩ := h s hs
  have e : (eS Q F T g).sh s = ((Q.sh s).set_fi (F s)).set_st (T s) := rfl
  rw [e, SPt_fs]
  refine ⟨h1, h2, h3, fun lay hl => h4 lay ?_⟩
  rw [onB_fs] at hl
  exact hl
end ESW
theorem eS_ms {Q : CS} {F T : Nat → Nat → Int32} {g : Nat → FlR} {m : Nat → Int32} {sz : Nat → Nat} {b pb : Nat → BxR} : msQ (eS Q F T g) m sz b pb = ((msQ Q m sz b pb).set_sh (fsS Q.sh F T)).set_fl g := rfl
theorem C_sh {A : CS} {sh sh' : Nat → ShR} {g : Nat → FlR} : ((A.set_sh sh).set_fl g).set_sh sh' = (A.set_sh sh').set_fl g := rfl
theorem C_fl {A : CS} {sh : Nat → ShR} {g g' : Nat → FlR} : ((A.set_sh sh).set_fl g).set_fl g' = (A.set_sh sh).set_fl g' := rfl
theorem C_1 {A : CS} {sh : Nat → ShR} {g : Nat → FlR} : ((A.set_sh sh).set_fl g).fl = g := rfl
theorem C_2 {A : CS} {sh : Nat → ShR} {g : Nat → FlR} : ((A.set_sh sh).set_fl g).sh = sh := rfl
theorem C_3 {A : CS} {sh : Nat → ShR} {g : Nat → FlR} : ((A.set_sh sh).set_fl g).nS = A.nS ∧ ((A.set_sh sh).set_fl g).nC = A.nC ∧ ((A.set_sh sh).set_fl g).ce = A.ce := ⟨rfl, rfl, rfl⟩
theorem itm_of {S : CS} {w : It} {r : ShR} (e : S.sh w.1 = r) (h1 : w.1 < S.nS) (h2 : w.2.1 < 8) (h3 : r.cnt ≤ 24) (h4 : 0 < r.cnt) (h5 : ¬ r.st w.2.1 = 0) (h6 : OrdOk r w.2.1) (h7 : Big w.2.2.1) (h8 : Big w.2.2.2) (h9 : WPt r) : itm S w := by
  unfold itm
  rw [e]
  exact ⟨h1, h2, h3, h4, h5, h6, h7, h8, h9⟩
theorem WFl_of {n : Nat} {sh sh' : Nat → ShR} {r : FlR} (h : ∀ s, (sh' s).cnt = (sh s).cnt) (hf : WFl n sh r) : WFl n sh' r := by
  refine ⟨hf.1, fun i hi => ?_⟩
  obtain ⟨a1, a2, a3, a4⟩ := hf.2 i hi
  exact ⟨a1, a2, by rw [h]; exact a3, a4⟩
def zit (u v : Int64) (w : It) : It := (w.1, w.2.1, w.2.2.1 - u, w.2.2.2 - v)
def LZ (Q : CS) (ts : List It) (u v : Int64) (i : Nat) (r : FlR) : Prop := r.cnt = ts.length ∧ (∀ (k : Nat) (h : k < ts.length), r.sh k = some ts[k].1 ∧ r.cor k = (Q.sh ts[k].1).cnt ∧ r.tu k = ts[k].2.1 ∧ r.xs k = (if k < i then ts[k].2.2.1 - u else ts[k].2.2.1) ∧ r.ys k = (if k < i then ts[k].2.2.2 - v else ts[k].2.2.2)) ∧ (∀ k, k < i → r.ord k = k) ∧ r.srt = 0 ∧ (∀ i s, r.sh i = some s → s < Q.nS) ∧ r.mark = mks (((ts.take i).map (zit u v)).map (key Q))
section LAZ
variable {l : Launch} {D : gD} {s0 : State} {M : gH} {z : Nat} {ad : gA} {Q : CS} {N : MS} {F T : Nat → Nat → Int32} {g : Nat → FlR} {m : Nat → Int32} {sz : Nat → Nat} {b pb : Nat → BxR} {c : Nat}
/-- a flat shape that is moved by the corner of its box -/
theorem zit_ok (hW : WF Q) (hc : c < Q.nC) (hB : HB (b c) (PT Q (-1) c)) {w : It} (h : w ∈ FLn Q (-1) 21 c (0, 0, 0)) : w.1 < Q.nS ∧ w.2.1 < 8 ∧ (Q.sh w.1).cnt ≤ 24 ∧ 0 < (Q.sh w.1).cnt ∧ Big (w.2.2.1 - (b c).x0) ∧ Big (w.2.2.2 - (b c).y0) ∧ WPt (Q.sh w.1) ∧ (b c).n = 0 ∧ (w.2.2.1 - (b c).x0).toInt = w.2.2.1.toInt - (b c).x0.toInt ∧ (w.2.2.2 - (b c).y0).toInt = w.2.2.2.toInt - (b c).y0.toInt ∧ onB (Q.sh w.1) (-1) = true := by
  obtain ⟨o1, o2⟩ := FLn_ok hW.wl hW.wc 21 c (0, 0, 0) hc (by decide) _ h
  obtain ⟨a1, a2, a3, a4, a5⟩ := FLn_big hW.wl 21 c (0, 0, 0) 0 hc ⟨by decide, by decide, by decide, by decide, by decide⟩ (by omega) w h
  have hon := FLn_on hW.wl 21 c (0, 0, 0) _ h
  have h24 := hW.sc _ o1
  have hcn := ((onB_iff h24).mp hon).2
  have hn0 : (b c).n = 0 := by
    rcases hB with ⟨q1, q2⟩ | ⟨q1, -⟩
    · have hz : SZ Q (-1) c = 0 := (SZ_0 hW.wl hW.wx 21 c hc).mpr q2
      have : (FLn Q (-1) 21 c (0, 0, 0)).length = 0 := by rw [FLn_len hW.wl hW.wb 21 c _ hc (rho_lt hW.wb)]; exact hz
      rw [List.eq_nil_of_length_eq_zero this] at h
      exact absurd h List.not_mem_nil
    · exact q1
  obtain ⟨-, ⟨y0, hy⟩, -, ⟨x0, hx⟩, -⟩ := hB.at hn0
  have p1 := PT_b (lay := -1) hW.wl hW.wx 21 c hc _ _ hy
  have p2 := PT_b (lay := -1) hW.wl hW.wx 21 c hc _ _ hx
  have e1 : (w.2.2.1 - (b c).x0).toInt = w.2.2.1.toInt - (b c).x0.toInt := t_sub (by omega) (by omega)
  have e2 : (w.2.2.2 - (b c).y0).toInt = w.2.2.2.toInt - (b c).y0.toInt := t_sub (by omega) (by omega)
  exact ⟨o1, o2, h24, by split at hcn <;> omega, ⟨by omega, by omega⟩, ⟨by omega, by omega⟩, hW.wp _ o1, hn0, e1, e2, hon⟩
theorem k_mark_of (h0 : g_0 l D s0) (hS : HS z ad Q N M) {j1 i1 : Nat} {w1 : It} {r : FlR} (hj1 : j1 < 3) (hr : Q.fl j1 = r) (hF1 : WFl Q.nS Q.sh r) (hi1 : i1 < r.cnt) (e1 : cIt r i1 w1) (o1 : itm Q w1) : Ct l D s0 y_Fl_markOf (Cond.code y_Fl_markOf b_Fl_markOf 5 (some .long)) (rk 2 0 0) [.ref (ad 3 j1), .int (nI i1)] M (fR (some (.long (mkK (key Q w1)))) M) := by
  subst hr
  exact k_markOf h0 hS hj1 hF1 hi1 e1 o1
theorem LZ.step {ts : List It} {u v : Int64} {i : Nat} {r : FlR} (h : LZ Q ts u v i r) (hi : i < ts.length) {k : Int64} (hk : k = mkK (key Q (zit u v ts[i]))) : LZ Q ts u v (i + 1) ((((r.set_xs (va_up r.xs i (ts[i].2.2.1 - u))).set_ys (va_up r.ys i (ts[i].2.2.2 - v))).set_ord (va_up r.ord i i)).set_mark (r.mark + k)) := by
  obtain ⟨h1, h2, h3, h4, h5, h6⟩ := h
  refine ⟨h1, fun k hk => ?_, fun k hk => ?_, h4, h5, ?_⟩
  · obtain ⟨g1, g2, g3, g4, g5⟩ := h2 k hk
    refine ⟨g1, g2, g3, ?_, ?_⟩
    · show va_up r.xs i (ts[i].2.2.1 - u) k = _
      by_cases e : k = i
      · subst e
        rw [va_up_s, if_pos (by omega)]
      · rw [va_up_n e, g4]
        by_cases q : k < i
        · rw [if_pos q, if_pos (by omega)]
        · rw [if_neg q, if_neg (by omega)]
    · show va_up r.ys i (ts[i].2.2.2 - v) k = _
      by_cases e : k = i
      · subst e
        rw [va_up_s, if_pos (by omega)]
      · rw [va_up_n e, g5]
        by_cases q : k < i
        · rw [if_pos q, if_pos (by omega)]
        · rw [if_neg q, if_neg (by omega)]
  · show va_up r.ord i i k = k
    by_cases e : k = i
    · subst e
      rw [va_up_s]
    · rw [va_up_n e]
      exact h3 k (by omega)
  · show r.mark + _ = _
    rw [take_snoc ts i hi, List.map_append, List.map_append, List.map_singleton, List.map_singleton, mks_snoc, h6, hk]
theorem LZ.wfl {ts : List It} {u v : Int64} {i : Nat} {r : FlR} (h : LZ Q ts u v i r) (hok : ItOk Q ts) (hl : ts.length ≤ 3000) : WFl Q.nS Q.sh r := by
  obtain ⟨h1, h2, h3, h4, h5, h6⟩ := h
  refine ⟨by omega, fun k hk => ?_⟩
  have hk : k < ts.length := by omega
  obtain ⟨g1, g2, g3, g4, g5⟩ := h2 k hk
  have e : r.s k = ts[k].1 := by show (r.sh k).getD 0 = _; rw [g1]; rfl
  obtain ⟨o1, o2⟩ := hok _ (List.getElem_mem hk)
  exact ⟨by rw [g1, e], by rw [e]; exact o1, by rw [e, g2]; exact Nat.le_refl _, by rw [g3]; exact o2⟩
theorem LZ.fg {ts : List It} {u v : Int64} {r : FlR} {F T : Nat → Nat → Int32} {g : Nat → FlR} (h : LZ Q ts u v ts.length r) (hok : ItOk Q ts) (hl : ts.length ≤ 3000) (hO : ∀ s, s < Q.nS → ∀ t, t < 8 → OrdOk (fsS Q.sh F T s) t) (hT : ∀ (k : Nat) (h : k < ts.length), ¬ T ts[k].1 ts[k].2.1 = 0) (hz : ∀ w, w ∈ ts → (Q.sh w.1).cnt ≤ 24 ∧ 0 < (Q.sh w.1).cnt ∧ Big (w.2.2.1 - u) ∧ Big (w.2.2.2 - v) ∧ WPt (Q.sh w.1)) : FG (eS Q F T g) r (ts.map (zit u v)) := by
  have hwf := h.wfl hok hl
  obtain ⟨h1, h2, h3, h4, h5, h6⟩ := h
  have hor : sl r.ord 0 r.cnt = List.range r.cnt := by
    rw [sl_cong (g := fun i => i) (fun i _ hi => h3 i (by omega))]
    unfold sl
    rw [List.map_id', Nat.sub_zero, List.range_eq_range']
  refine ⟨by rw [List.length_map]; exact h1, ⟨WFl_of (fun _ => rfl) hwf, fun i hi => ?_⟩, by rw [hor], Or.inl h4, by rw [List.take_length] at h6; rw [key_eF]; exact h6, h5⟩
  have hi' : i < ts.length := by omega
  have hgd : (ts.map (zit u v)).getD i i0 = zit u v ts[i] := by
    rw [List.getD_eq_getElem?_getD, List.getElem?_map, List.getElem?_eq_getElem hi']
    rfl
  dsimp only
  rw [hgd]
  obtain ⟨g1, g2, g3, g4, g5⟩ := h2 i hi'
  rw [if_pos hi'] at g4 g5
  obtain ⟨o1, o2⟩ := hok _ (List.getElem_mem hi')
  obtain ⟨z1, z2, z3, z4, z5⟩ := hz _ (List.getElem_mem hi')
  exact ⟨⟨g1, g3, g4, g5⟩, itm_of (r := fsS Q.sh F T ts[i].1) rfl o1 o2 z1 z2 (hT i hi') (hO _ o1 _ o2) z3 z4 (WPt_fs z5)⟩
end LAZ
