/-! isEqual and equalTo: the model -/
/-- the keys that are not used yet -/
def KU (B : List (List Int)) (n : Nat) (U : Nat → Int32) : List (List Int) := ((List.range n).filter (fun j => decide (U j = 0))).map (fun j => B.getD j [])
theorem KU_0 {B : List (List Int)} {U : Nat → Int32} (h : ∀ j, j < B.length → U j = 0) : KU B B.length U = B := by
  unfold KU
  have e : (List.range B.length).filter (fun j => decide (U j = 0)) = List.range B.length := List.filter_eq_self.mpr fun j hj => decide_eq_true (h j (List.mem_range.mp hj))
  rw [e]
  refine List.ext_getElem (by rw [List.length_map, List.length_range]) fun i h1 h2 => ?_
  rw [List.getElem_map, List.getElem_range, List.getD_eq_getElem?_getD, List.getElem?_eq_getElem h2]
  rfl
theorem KU_t {B : List (List Int)} {n b : Nat} {U : Nat → Int32} {x : List Int} (hb : b < n) (hu : U b = 0) (hx : B.getD b [] = x) : (KU B n U).Perm (x :: KU B n (va_up U b 1)) := by
  unfold KU
  have e : (List.range n).filter (fun j => decide (va_up U b 1 j = 0)) = ((List.range n).filter (fun j => decide (U j = 0))).erase b := by
    rw [List.Nodup.erase_eq_filter (List.nodup_range.filter _), List.filter_filter]
    refine List.filter_congr fun j _ => ?_
    by_cases q : j = b
    · subst q
      rw [va_up_s]
      simp
    · rw [va_up_n q]
      simp [q]
  have hm : b ∈ (List.range n).filter (fun j => decide (U j = 0)) := List.mem_filter.mpr ⟨List.mem_range.mpr hb, decide_eq_true hu⟩
  rw [e, ← hx]
  exact (List.perm_cons_erase hm).map (fun j => B.getD j [])
theorem KU_n {B : List (List Int)} {n : Nat} {U : Nat → Int32} {x : List Int} (h : ∀ j, j < n → ¬ (U j = 0 ∧ x = B.getD j [])) : x ∉ KU B n U := by
  intro q
  obtain ⟨j, h1, h2⟩ := List.mem_map.mp q
  obtain ⟨h3, h4⟩ := List.mem_filter.mp h1
  exact h j (List.mem_range.mp h3) ⟨of_decide_eq_true h4, h2.symm⟩
/-- all that equalTo leaves of the model -/
def NX2 (N N' : MS) : Prop := NE N N' ∧ (∀ j, 6000 ≤ j → N'.i 25 j = N.i 25 j) ∧ ∀ j, 144000 ≤ j → N'.l 22 j = N.l 22 j ∧ N'.l 23 j = N.l 23 j
theorem NX2.refl {N : MS} : NX2 N N := ⟨NE.rfl, fun _ _ => rfl, fun _ _ => ⟨rfl, rfl⟩⟩
theorem NX2.trans {N N1 N2 : MS} (h : NX2 N N1) (h2 : NX2 N1 N2) : NX2 N N2 := ⟨h.1.trans h2.1, fun j hj => (h2.2.1 j hj).trans (h.2.1 j hj), fun j hj => ⟨(h2.2.2 j hj).1.trans (h.2.2 j hj).1, (h2.2.2 j hj).2.trans (h.2.2 j hj).2⟩⟩
theorem NT.nx {set : Nat} (hs : set < 2) {N N1 : MS} (h : NT set N N1) : NX2 N N1 := ⟨h.1, fun j hj => (h.2.2.1 j (Or.inr (by omega))).2, fun j hj => h.2.2.2 j (Or.inr (by omega))⟩
theorem fLs_nt {Q : CS} {N N' : MS} {zs : List It} (h : fLs Q N 0 zs) (hnt : NT 1 N N') (hl : zs.length ≤ 3000) (h24 : ∀ w, w ∈ zs → (Q.sh w.1).cnt ≤ 24) : fLs Q N' 0 zs :=
  fLs_cong h (fun i hi => hnt.2.2.1 _ (Or.inl (by omega))) (fun i k hi hk => hnt.2.2.2 _ (Or.inl (by omega))) (fun i hi => h24 _ (List.getElem_mem hi))
theorem fLs_us {Q : CS} {N : MS} {set : Nat} {zs : List It} {g : Nat → Int32} (h : fLs Q N set zs) (h24 : ∀ w, w ∈ zs → (Q.sh w.1).cnt ≤ 24) : fLs Q (N.set_i (va_up N.i 43 g)) set zs :=
  fLs_cong h (fun i hi => ⟨congrFun (va_up_n (g := N.i) (v := g) (show (24 : Nat) ≠ 43 by decide)) _, congrFun (va_up_n (g := N.i) (v := g) (show (25 : Nat) ≠ 43 by decide)) _⟩) (fun i k hi hk => ⟨rfl, rfl⟩) (fun i hi => h24 _ (List.getElem_mem hi))
section MEQ
variable {l : Launch} {D : gD} {s0 : State} {M : gH} {z : Nat} {ad : gA} {Q Qc : CS} {N : MS} {c d : Nat} {b : Nat → BxR}
variable {p_ : Program} {e_ : Env} {R_ : Room} {s_ : State} {m_ : MethodId} {ar_ : Array Value} {be_ : List Frame} {me_ : Method} {c_ : Code} {Fp : gR → gH → Prop}
theorem zs_ok (hWF : WF Q) (hc : c < Q.nC) (hB : HB (b c) (PT Q (-1) c)) {w : It} (h : w ∈ zsC Q b c) : itO Q w := by
  obtain ⟨w', h1, rfl⟩ := List.mem_map.mp h
  obtain ⟨a1, a2, a3, a4, a5, a6, a7, -⟩ := zit_ok (b := b) hWF hc hB h1
  exact ⟨a1, a2, a3, a4, a5, a6, a7⟩
/-- the shapes of one set are matched with those of the other -/
theorem meq_2 (h0 : g_0 l D s0) (h : gF (gzz D s0 (p_, l, e_, R_, s_, m_, ar_, be_, me_, c_) (rk 6 0 0) Fp 6) b_Md_isEqual y_Md_isEqual.cls (some .boolean) [] y_Md_isEqual.name) (hWF : WF Q) (hm0 : MR0 Q N) {n : Nat} {y1 y2 : List It} (hn : n ≤ 3000) (hl1 : y1.length = n) (hl2 : y2.length = n) (ho1 : ∀ w, w ∈ y1 → itO Q w) (ho2 : ∀ w, w ∈ y2 → itO Q w) (kr : ∀ (bb : Int32) M N', ((bb = 1 ∧ (y1.map (key Q)).Perm (y2.map (key Q))) ∨ (bb = 0 ∧ ¬ (y1.map (key Q)).Perm (y2.map (key Q)))) → HS z ad Qc N' M → NT 1 N N' → Fp (.inl (some (.int bb))) M) : ∀ (q a : Nat), a + q = n → ∀ (M : gH) (N1 : MS), HS z ad Qc N1 M → NT 1 N N1 → fLs Q N1 0 y1 → fLs Q N1 1 y2 → (KU (y2.map (key Q)) n (N1.i 43)).length + a = n → ((y1.map (key Q)).Perm (y2.map (key Q)) ↔ ((y1.map (key Q)).drop a).Perm (KU (y2.map (key Q)) n (N1.i 43))) → G (gzz D s0 (p_, l, e_, R_, s_, m_, ar_, be_, me_, c_) (rk 6 0 0) Fp 6) 47 [(0, .ref (ad 30 0)), (1, .int (nI n)), (3, .int (nI n)), (4, .int (nI a))] [] M 0 0 := by
  have h24 : ∀ w, itO Q w → (Q.sh w.1).cnt ≤ 24 := fun w q => q.2.2.1
  intro q
  induction q with
  | zero =>
    intro a ha M N1 hS hnt hf1 hf2 hlen hiff
    have hp : (y1.map (key Q)).Perm (y2.map (key Q)) := hiff.mpr (by
      rw [List.drop_of_length_le (by rw [List.length_map]; omega), List.eq_nil_of_length_eq_zero (show (KU (y2.map (key Q)) n (N1.i 43)).length = 0 by omega)])
    refine ri_iload h d_Md_isEqual_47 rfl ?_
    refine ri_iload_n h d_Md_isEqual_49 rfl ?_
    first | refine ri_icmpN_ge h 111 d_Md_isEqual_50 (by decide) (by omega) (by omega) (fun c_50 => ?_) (fun c_50 => ?_) | refine ri_icmp_ge h 111 d_Md_isEqual_50 (by decide) (fun c_50 => ?_) (fun c_50 => ?_)
    · refine ri_iconstN h 1 d_Md_isEqual_111 rfl ?_
      refine ri_zreturn h d_Md_isEqual_112 (Nat.le_of_ble_eq_true rfl) (Nat.le_of_ble_eq_true rfl) (by first | rfl | assumption) ?_
      exact kr (nI 1) M N1 (Or.inl ⟨rfl, hp⟩) hS hnt
    · omega
  | succ q ih =>
    intro a ha M N1 hS hnt hf1 hf2 hlen hiff
    have hm : MR0 Q N1 := hm0.ne hnt.1
    have ha1 : a < y1.length := by omega
    have ha3 : a < 3000 := by omega
    have hdrop : (y1.map (key Q)).drop a = key Q y1[a] :: (y1.map (key Q)).drop (a + 1) := by
      rw [List.drop_eq_getElem_cons (by rw [List.length_map]; exact ha1), List.getElem_map]
    have hgd : ∀ (j : Nat) (hj : j < y2.length), (y2.map (key Q)).getD j [] = key Q y2[j] := fun j hj => by
      rw [List.getD_eq_getElem?_getD, List.getElem?_map, List.getElem?_eq_getElem hj]
      rfl
    have LB : ∀ (q j : Nat), j + q = n → (∀ x, x < j → ¬ (N1.i 43 x = 0 ∧ key Q y1[a] = (y2.map (key Q)).getD x [])) → G (gzz D s0 (p_, l, e_, R_, s_, m_, ar_, be_, me_, c_) (rk 6 0 0) Fp 6) 56 [(0, .ref (ad 30 0)), (1, .int (nI n)), (3, .int (nI n)), (4, .int (nI a)), (5, .int (nI j))] [] M 0 0 := by
      intro q
      induction q with
      | zero =>
        intro j hj hlt
        obtain rfl : j = n := by omega
        have hnp : ¬ (y1.map (key Q)).Perm (y2.map (key Q)) := fun hp => by
          have hp := hiff.mp hp
          rw [hdrop] at hp
          exact KU_n hlt (hp.subset List.mem_cons_self)
        refine ri_iload h d_Md_isEqual_56 rfl ?_
        refine ri_iload_n h d_Md_isEqual_58 rfl ?_
        first | refine ri_icmpN_ge h 89 d_Md_isEqual_59 (by decide) (by omega) (by omega) (fun c_59 => ?_) (fun c_59 => ?_) | refine ri_icmp_ge h 89 d_Md_isEqual_59 (by decide) (fun c_59 => ?_) (fun c_59 => ?_)
        · refine ri_iload h d_Md_isEqual_89 rfl ?_
          refine ri_iload_n h d_Md_isEqual_91 rfl ?_
          first | refine ri_icmpN_ne h 97 d_Md_isEqual_92 (by decide) (by omega) (by omega) (fun c_92 => ?_) (fun c_92 => ?_) | refine ri_icmp_ne h 97 d_Md_isEqual_92 (by decide) (fun c_92 => ?_) (fun c_92 => ?_)
          · first | exact absurd rfl c_92 | exact absurd c_92 (by omega)
          · refine ri_iconstN h 0 d_Md_isEqual_95 rfl ?_
            refine ri_zreturn h d_Md_isEqual_96 (Nat.le_of_ble_eq_true rfl) (Nat.le_of_ble_eq_true rfl) (by first | rfl | assumption) ?_
            exact kr (nI 0) M N1 (Or.inr ⟨rfl, hnp⟩) hS hnt
        · omega
      | succ q ihb =>
        intro j hj hlt
        have hjn : j < n := by omega
        have hj2 : j < y2.length := by omega
        have hj3 : j < 3000 := by omega
        have NEXT : ¬ (N1.i 43 j = 0 ∧ key Q y1[a] = (y2.map (key Q)).getD j []) → G (gzz D s0 (p_, l, e_, R_, s_, m_, ar_, be_, me_, c_) (rk 6 0 0) Fp 6) 83 [(0, .ref (ad 30 0)), (1, .int (nI n)), (3, .int (nI n)), (4, .int (nI a)), (5, .int (nI j))] [] M 0 0 := by
          intro hneg
          first | refine ri_iincN h d_Md_isEqual_83 rfl (Nat.le_of_ble_eq_true rfl) ?_ | refine ri_iinc h _ d_Md_isEqual_83 rfl rfl (Nat.le_of_ble_eq_true rfl) ?_
          refine ri_goto h 56 d_Md_isEqual_86 (by decide) ?_
          refine ri_ls [(0, .ref (ad 30 0)), (1, .int (nI n)), (3, .int (nI n)), (4, .int (nI a)), (5, .int (nI (j + 1)))] ⟨rfl, rfl, rfl, rfl, rfl, trivial⟩ (ihb (j + 1) (by omega) (fun x hx => ?_))
          rcases (show x < j ∨ x = j by omega) with e | rfl
          · exact hlt x e
          · exact hneg
        refine ri_iload h d_Md_isEqual_56 rfl ?_
        refine ri_iload_n h d_Md_isEqual_58 rfl ?_
        first | refine ri_icmpN_ge h 89 d_Md_isEqual_59 (by decide) (by omega) (by omega) (fun c_59 => ?_) (fun c_59 => ?_) | refine ri_icmp_ge h 89 d_Md_isEqual_59 (by decide) (fun c_59 => ?_) (fun c_59 => ?_)
        · omega
        refine ri_aload_n h d_Md_isEqual_62 rfl ?_
        refine ri_get h d_Md_isEqual_63 fl_Md_100 (by first | assumption | exact hS.mo | exact gup_s) (by rfl) ?_
        refine ri_iload h d_Md_isEqual_66 rfl ?_
        refine ri_zald h _ d_Md_isEqual_68 (by first | assumption | exact hS.a43) (by first | rfl | assumption) (by first | assumption | omega) (by first | decide | omega) ?_
        first | refine ri_ifB_ne h 83 d_Md_isEqual_69 (by decide) (fun c_69 => ?_) (fun c_69 => ?_) | refine ri_ifN_ne h 83 d_Md_isEqual_69 (by decide) (by omega) (fun c_69 => ?_) (fun c_69 => ?_) | refine ri_if_ne h 83 d_Md_isEqual_69 (by decide) (fun c_69 => ?_) (fun c_69 => ?_)
        · exact ri_ls [(0, .ref (ad 30 0)), (1, .int (nI n)), (3, .int (nI n)), (4, .int (nI a)), (5, .int (nI j))] ⟨rfl, rfl, rfl, rfl, rfl, trivial⟩ (NEXT (fun q => c_69 q.1))
        by_cases hk : key Q y1[a] = key Q y2[j]
        · refine ri_aload_n h d_Md_isEqual_72 rfl ?_
          refine ri_iload h d_Md_isEqual_73 rfl ?_
          refine ri_iload h d_Md_isEqual_75 rfl ?_
          refine ri_cVv_2 (r := (gR6, gT6, 44)) h d_Md_isEqual_77 cv_Md_231 (by first | exact hS.lcO | exact hS.lsO | exact hS.lpO | exact hS.cesO (by first | assumption | omega) | exact hS.cepO (by first | assumption | omega) | exact ⟨_, (by first | assumption | exact hS.st | exact hS.mo | exact hS.out | exact hS.sb | exact hS.ce (by first | assumption | omega) | exact hS.ceb (by first | assumption | omega) | exact hS.sh (by first | assumption | omega) | exact hS.shb (by first | assumption | omega) | exact hS.pl (by first | assumption | omega) | exact hS.plb (by first | assumption | omega) | exact hS.fl (by first | assumption | omega) | exact gup_s | (refine gup_t (by assumption) ?_; first | assumption | exact gup_s | (refine gup_t (by assumption) ?_; first | assumption | exact gup_s | (refine gup_t (by assumption) ?_; first | assumption | exact gup_s))))⟩) rfl (k_misSame (bb := nI 1) h0 hS hm hWF ha3 hj3 (hf1 a ha1) (hf2 j hj2) (ho1 _ (List.getElem_mem ha1)) (ho2 _ (List.getElem_mem hj2)) (Or.inl ⟨rfl, hk⟩)) (Nat.le_of_ble_eq_true rfl) (Nat.le_of_ble_eq_true rfl) (Nat.le_of_ble_eq_true rfl) (Nat.le_of_ble_eq_true rfl) (Nat.le_of_ble_eq_true rfl) ?_
          first | refine ri_ifB_ne h 89 d_Md_isEqual_80 (by decide) (fun c_80 => ?_) (fun c_80 => ?_) | refine ri_ifN_ne h 89 d_Md_isEqual_80 (by decide) (by omega) (fun c_80 => ?_) (fun c_80 => ?_) | refine ri_if_ne h 89 d_Md_isEqual_80 (by decide) (fun c_80 => ?_) (fun c_80 => ?_)
          · refine ri_iload h d_Md_isEqual_89 rfl ?_
            refine ri_iload_n h d_Md_isEqual_91 rfl ?_
            first | refine ri_icmpN_ne h 97 d_Md_isEqual_92 (by decide) (by omega) (by omega) (fun c_92 => ?_) (fun c_92 => ?_) | refine ri_icmp_ne h 97 d_Md_isEqual_92 (by decide) (fun c_92 => ?_) (fun c_92 => ?_)
            · refine ri_aload_n h d_Md_isEqual_97 rfl ?_
              refine ri_get h d_Md_isEqual_98 fl_Md_100 (by first | assumption | exact hS.mo | exact gup_s) (by rfl) ?_
              refine ri_iload h d_Md_isEqual_101 rfl ?_
              refine ri_iconstN h 1 d_Md_isEqual_103 rfl ?_
              refine ri_zast h _ d_Md_isEqual_104 (by first | assumption | exact hS.a43) (by first | rfl | assumption) (by first | assumption | omega) (by first | decide | omega) (by first | rfl | exact bI_n | assumption) ?_
              refine ri_gH (hS.set_mb 43 rfl _) (fun M hS => ?_)
              first | refine ri_iincN h d_Md_isEqual_105 rfl (Nat.le_of_ble_eq_true rfl) ?_ | refine ri_iinc h _ d_Md_isEqual_105 rfl rfl (Nat.le_of_ble_eq_true rfl) ?_
              refine ri_goto h 47 d_Md_isEqual_108 (by decide) ?_
              have hpm : (KU (y2.map (key Q)) n (N1.i 43)).Perm (key Q y1[a] :: KU (y2.map (key Q)) n (va_up (N1.i 43) j 1)) := KU_t hjn c_69 ((hgd j hj2).trans hk.symm)
              have hle := hpm.length_eq
              rw [List.length_cons] at hle
              have e43 : (N1.set_i (va_up N1.i 43 (va_up (N1.i 43) j (nI 1)))).i 43 = va_up (N1.i 43) j 1 := va_up_s (g := N1.i) (j := 43) (v := va_up (N1.i 43) j (nI 1))
              refine ri_ls [(0, .ref (ad 30 0)), (1, .int (nI n)), (3, .int (nI n)), (4, .int (nI (a + 1)))] ⟨rfl, rfl, rfl, rfl, trivial⟩ (ih (a + 1) (by omega) M _ hS (hnt.trans NT.us) (fLs_us hf1 (fun w hw => h24 w (ho1 w hw))) (fLs_us hf2 (fun w hw => h24 w (ho2 w hw))) ?_ ?_)
              · rw [e43]; omega
              · rw [e43, hiff, hdrop]
                exact ⟨fun q => (List.perm_cons _).mp (q.trans hpm), fun q => ((List.perm_cons _).mpr q).trans hpm.symm⟩
            · omega
          · exact absurd c_80 (by decide)
        · refine ri_aload_n h d_Md_isEqual_72 rfl ?_
          refine ri_iload h d_Md_isEqual_73 rfl ?_
          refine ri_iload h d_Md_isEqual_75 rfl ?_
          refine ri_cVv_2 (r := (gR6, gT6, 44)) h d_Md_isEqual_77 cv_Md_231 (by first | exact hS.lcO | exact hS.lsO | exact hS.lpO | exact hS.cesO (by first | assumption | omega) | exact hS.cepO (by first | assumption | omega) | exact ⟨_, (by first | assumption | exact hS.st | exact hS.mo | exact hS.out | exact hS.sb | exact hS.ce (by first | assumption | omega) | exact hS.ceb (by first | assumption | omega) | exact hS.sh (by first | assumption | omega) | exact hS.shb (by first | assumption | omega) | exact hS.pl (by first | assumption | omega) | exact hS.plb (by first | assumption | omega) | exact hS.fl (by first | assumption | omega) | exact gup_s | (refine gup_t (by assumption) ?_; first | assumption | exact gup_s | (refine gup_t (by assumption) ?_; first | assumption | exact gup_s | (refine gup_t (by assumption) ?_; first | assumption | exact gup_s))))⟩) rfl (k_misSame (bb := nI 0) h0 hS hm hWF ha3 hj3 (hf1 a ha1) (hf2 j hj2) (ho1 _ (List.getElem_mem ha1)) (ho2 _ (List.getElem_mem hj2)) (Or.inr ⟨rfl, hk⟩)) (Nat.le_of_ble_eq_true rfl) (Nat.le_of_ble_eq_true rfl) (Nat.le_of_ble_eq_true rfl) (Nat.le_of_ble_eq_true rfl) (Nat.le_of_ble_eq_true rfl) ?_
          first | refine ri_ifB_ne h 89 d_Md_isEqual_80 (by decide) (fun c_80 => ?_) (fun c_80 => ?_) | refine ri_ifN_ne h 89 d_Md_isEqual_80 (by decide) (by omega) (fun c_80 => ?_) (fun c_80 => ?_) | refine ri_if_ne h 89 d_Md_isEqual_80 (by decide) (fun c_80 => ?_) (fun c_80 => ?_)
          · exact absurd rfl c_80
          · exact ri_ls [(0, .ref (ad 30 0)), (1, .int (nI n)), (3, .int (nI n)), (4, .int (nI a)), (5, .int (nI j))] ⟨rfl, rfl, rfl, rfl, rfl, trivial⟩ (NEXT (fun q => hk (q.2.trans (hgd j hj2))))
    refine ri_iload h d_Md_isEqual_47 rfl ?_
    refine ri_iload_n h d_Md_isEqual_49 rfl ?_
    first | refine ri_icmpN_ge h 111 d_Md_isEqual_50 (by decide) (by omega) (by omega) (fun c_50 => ?_) (fun c_50 => ?_) | refine ri_icmp_ge h 111 d_Md_isEqual_50 (by decide) (fun c_50 => ?_) (fun c_50 => ?_)
    · omega
    refine ri_iconstN h 0 d_Md_isEqual_53 rfl ?_
    refine ri_istore h d_Md_isEqual_54 (Nat.le_of_ble_eq_true rfl) ?_
    exact ri_ls [(0, .ref (ad 30 0)), (1, .int (nI n)), (3, .int (nI n)), (4, .int (nI a)), (5, .int (nI 0))] ⟨rfl, rfl, rfl, rfl, rfl, trivial⟩ (LB n 0 (by omega) (fun x hx => by omega))
theorem k_misEqual (h0 : g_0 l D s0) (hS : HS z ad Qc N M) (hm : MR0 Q N) (hWF : WF Q) (hc : c < Q.nC) (hd : d < Q.nC) (hB : ∀ x, x < Q.nC → HB (b x) (PT Q (-1) x)) (hnc : SZ Q (-1) c ≤ 3000) (hnd : SZ Q (-1) d ≤ 3000) (hu : ∀ x, x < Q.nC → szR Q (N.l 28) x) (hf : fLs Q N 0 (zsC Q b c)) {bb : Int32} (hbb : (bb = 1 ∧ (keys Q b c).Perm (keys Q b d)) ∨ (bb = 0 ∧ ¬ (keys Q b c).Perm (keys Q b d))) : Ct l D s0 y_Md_isEqual (Cond.code y_Md_isEqual b_Md_isEqual 6 (some .boolean)) (rk 6 0 0) [.ref (ad 30 0), .int (nI (zsC Q b c).length), .int (nI d)] M (fS (some (.int bb)) (fun M' => ∃ N', HS z ad Qc N' M' ∧ NT 1 N N')) := by
  have hyes : (keys Q b c).Perm (keys Q b d) → bb = 1 := fun q => by
    rcases hbb with ⟨e, -⟩ | ⟨-, q'⟩
    · exact e
    · exact absurd q q'
  have hno : ¬ (keys Q b c).Perm (keys Q b d) → bb = 0 := fun q => by
    rcases hbb with ⟨-, q'⟩ | ⟨e, -⟩
    · exact absurd q' q
    · exact e
  have hlc : (FLn Q (-1) 21 c (0, 0, 0)).length = SZ Q (-1) c := FLn_len hWF.wl hWF.wb 21 c _ hc (rho_lt hWF.wb)
  have hld : (FLn Q (-1) 21 d (0, 0, 0)).length = SZ Q (-1) d := FLn_len hWF.wl hWF.wb 21 d _ hd (rho_lt hWF.wb)
  have hzc : (zsC Q b c).length = SZ Q (-1) c := by rw [List.length_map]; exact hlc
  have hzd : (zsC Q b d).length = SZ Q (-1) d := by rw [List.length_map]; exact hld
  have hpl : (keys Q b c).Perm (keys Q b d) → SZ Q (-1) c = SZ Q (-1) d := fun q => by
    have := q.length_eq
    rw [keys_len hWF hc, keys_len hWF hd] at this
    exact this
  have ho1 : ∀ w, w ∈ zsC Q b c → itO Q w := fun w hw => zs_ok hWF hc (hB c hc) hw
  have ho2 : ∀ w, w ∈ zsC Q b d → itO Q w := fun w hw => zs_ok hWF hd (hB d hd) hw
  have hm0 := hm
  rw [hzc]
  refine Ct.of h0 (by decide +kernel) rfl fun X hX h => ?_
  obtain ⟨p_, l', e_, R_, s_, m_, ar_, be_, me_, c_⟩ := X
  obtain rfl : l' = l := hX
  refine ri_aload_n h d_Md_isEqual_0 rfl ?_
  refine ri_iconstN h 1 d_Md_isEqual_1 rfl ?_
  refine ri_iload_n h d_Md_isEqual_2 rfl ?_
  refine ri_iconst h (-1) d_Md_isEqual_3 rfl ?_
  refine ri_dVv_3 (r := (gR6, gT6, 44)) h d_Md_isEqual_4 cv_Md_185 (by first | exact hS.lcO | exact hS.lsO | exact hS.lpO | exact hS.cesO (by first | assumption | omega) | exact hS.cepO (by first | assumption | omega) | exact ⟨_, (by first | assumption | exact hS.st | exact hS.mo | exact hS.out | exact hS.sb | exact hS.ce (by first | assumption | omega) | exact hS.ceb (by first | assumption | omega) | exact hS.sh (by first | assumption | omega) | exact hS.shb (by first | assumption | omega) | exact hS.pl (by first | assumption | omega) | exact hS.plb (by first | assumption | omega) | exact hS.fl (by first | assumption | omega) | exact gup_s | (refine gup_t (by assumption) ?_; first | assumption | exact gup_s | (refine gup_t (by assumption) ?_; first | assumption | exact gup_s | (refine gup_t (by assumption) ?_; first | assumption | exact gup_s))))⟩) rfl (k_mlay (lay := -1) h0 hS hm hWF.wb hWF.wl hWF.wx hWF.wc (show 1 < 3 by decide) hd hu (by rw [hld]; exact hnd)) (Nat.le_of_ble_eq_true rfl) (Nat.le_of_ble_eq_true rfl) (Nat.le_of_ble_eq_true rfl) (Nat.le_of_ble_eq_true rfl) (Nat.le_of_ble_eq_true rfl) (fun M hS => ?_)
  obtain ⟨N1, hS, hnz, hfl⟩ := hS
  rw [hld]
  by_cases hsz : SZ Q (-1) c = SZ Q (-1) d
  · refine ri_istore_n h d_Md_isEqual_7 (Nat.le_of_ble_eq_true rfl) ?_
    refine ri_iload_n h d_Md_isEqual_8 rfl ?_
    refine ri_iload_n h d_Md_isEqual_9 rfl ?_
    first | refine ri_icmpN_eq h 15 d_Md_isEqual_10 (by decide) (by omega) (by omega) (fun c_10 => ?_) (fun c_10 => ?_) | refine ri_icmp_eq h 15 d_Md_isEqual_10 (by decide) (fun c_10 => ?_) (fun c_10 => ?_)
    · have hm1 : MR0 Q N1 := hm0.ne hnz.1
      refine ri_aload_n h d_Md_isEqual_15 rfl ?_
      refine ri_iconstN h 1 d_Md_isEqual_16 rfl ?_
      refine ri_iload_n h d_Md_isEqual_17 rfl ?_
      have htz := k_mtoZero (b := b) h0 hS hm1 hWF (show 1 < 3 by decide) hd (hB d hd) (by rw [hld]; exact hnd) hfl
      rw [hld] at htz
      refine ri_dV0_2 (r := (gR6, gT6, 44)) h d_Md_isEqual_18 cv_Md_228 (by first | exact hS.lcO | exact hS.lsO | exact hS.lpO | exact hS.cesO (by first | assumption | omega) | exact hS.cepO (by first | assumption | omega) | exact ⟨_, (by first | assumption | exact hS.st | exact hS.mo | exact hS.out | exact hS.sb | exact hS.ce (by first | assumption | omega) | exact hS.ceb (by first | assumption | omega) | exact hS.sh (by first | assumption | omega) | exact hS.shb (by first | assumption | omega) | exact hS.pl (by first | assumption | omega) | exact hS.plb (by first | assumption | omega) | exact hS.fl (by first | assumption | omega) | exact gup_s | (refine gup_t (by assumption) ?_; first | assumption | exact gup_s | (refine gup_t (by assumption) ?_; first | assumption | exact gup_s | (refine gup_t (by assumption) ?_; first | assumption | exact gup_s))))⟩) rfl (htz) (Nat.le_of_ble_eq_true rfl) (Nat.le_of_ble_eq_true rfl) (Nat.le_of_ble_eq_true rfl) (Nat.le_of_ble_eq_true rfl) (Nat.le_of_ble_eq_true rfl) (fun M hS => ?_)
      obtain ⟨N2, hS, hnt, hf2⟩ := hS
      have hnt2 : NT 1 N N2 := hnz.nt.trans hnt
      have hf1 : fLs Q N2 0 (zsC Q b c) := fLs_nt hf hnt2 (by omega) (fun w hw => (ho1 w hw).2.2.1)
      have LU : ∀ (q k : Nat), k + q = SZ Q (-1) c → ∀ (M : gH) (N3 : MS), HS z ad Qc N3 M → NT 1 N N3 → fLs Q N3 0 (zsC Q b c) → fLs Q N3 1 (zsC Q b d) → (∀ j, j < k → N3.i 43 j = 0) → G (gzz D s0 (p_, l', e_, R_, s_, m_, ar_, be_, me_, c_) (rk 6 0 0) (fS (some (.int bb)) (fun M' => ∃ N', HS z ad Qc N' M' ∧ NT 1 N N')) 6) 24 [(0, .ref (ad 30 0)), (1, .int (nI (SZ Q (-1) c))), (3, .int (nI (SZ Q (-1) c))), (4, .int (nI k))] [] M 0 0 := by
        intro q
        induction q with
        | zero =>
          intro k hk M N3 hS hnt hf1 hf2 hz
          have hkl : ((zsC Q b d).map (key Q)).length = SZ Q (-1) c := by rw [List.length_map]; omega
          have hKU : KU ((zsC Q b d).map (key Q)) (SZ Q (-1) c) (N3.i 43) = (zsC Q b d).map (key Q) := by
            rw [← hkl]
            exact KU_0 (fun j hj => hz j (by omega))
          refine ri_iload h d_Md_isEqual_24 rfl ?_
          refine ri_iload_n h d_Md_isEqual_26 rfl ?_
          first | refine ri_icmpN_ge h 44 d_Md_isEqual_27 (by decide) (by omega) (by omega) (fun c_27 => ?_) (fun c_27 => ?_) | refine ri_icmp_ge h 44 d_Md_isEqual_27 (by decide) (fun c_27 => ?_) (fun c_27 => ?_)
          · refine ri_iconstN h 0 d_Md_isEqual_44 rfl ?_
            refine ri_istore h d_Md_isEqual_45 (Nat.le_of_ble_eq_true rfl) ?_
            refine ri_ls [(0, .ref (ad 30 0)), (1, .int (nI (SZ Q (-1) c))), (3, .int (nI (SZ Q (-1) c))), (4, .int (nI 0))] ⟨rfl, rfl, rfl, rfl, trivial⟩ (meq_2 (y1 := zsC Q b c) (y2 := zsC Q b d) h0 h hWF hm0 hnc hzc (by omega) ho1 ho2 (fun b' M N' hb' hS hnt => ⟨?_, N', hS, hnt⟩) (SZ Q (-1) c) 0 (by omega) M N3 hS hnt hf1 hf2 ?_ ?_)
            · rcases hb' with ⟨rfl, hp⟩ | ⟨rfl, hp⟩
              · rw [hyes hp]
              · rw [hno hp]
            · rw [hKU]; omega
            · rw [hKU]; exact Iff.rfl
          · omega
        | succ q ih =>
          intro k hk M N3 hS hnt hf1 hf2 hz
          have hk3 : k < 3000 := by omega
          refine ri_iload h d_Md_isEqual_24 rfl ?_
          refine ri_iload_n h d_Md_isEqual_26 rfl ?_
          first | refine ri_icmpN_ge h 44 d_Md_isEqual_27 (by decide) (by omega) (by omega) (fun c_27 => ?_) (fun c_27 => ?_) | refine ri_icmp_ge h 44 d_Md_isEqual_27 (by decide) (fun c_27 => ?_) (fun c_27 => ?_)
          · omega
          refine ri_aload_n h d_Md_isEqual_30 rfl ?_
          refine ri_get h d_Md_isEqual_31 fl_Md_100 (by first | assumption | exact hS.mo | exact gup_s) (by rfl) ?_
          refine ri_iload h d_Md_isEqual_34 rfl ?_
          refine ri_iconstN h 0 d_Md_isEqual_36 rfl ?_
          refine ri_zast h _ d_Md_isEqual_37 (by first | assumption | exact hS.a43) (by first | rfl | assumption) (by first | assumption | omega) (by first | decide | omega) (by first | rfl | exact bI_n | assumption) ?_
          refine ri_gH (hS.set_mb 43 rfl _) (fun M hS => ?_)
          first | refine ri_iincN h d_Md_isEqual_38 rfl (Nat.le_of_ble_eq_true rfl) ?_ | refine ri_iinc h _ d_Md_isEqual_38 rfl rfl (Nat.le_of_ble_eq_true rfl) ?_
          refine ri_goto h 24 d_Md_isEqual_41 (by decide) ?_
          have e43 : (N3.set_i (va_up N3.i 43 (va_up (N3.i 43) k (nI 0)))).i 43 = va_up (N3.i 43) k 0 := va_up_s (g := N3.i) (j := 43) (v := va_up (N3.i 43) k (nI 0))
          refine ri_ls [(0, .ref (ad 30 0)), (1, .int (nI (SZ Q (-1) c))), (3, .int (nI (SZ Q (-1) c))), (4, .int (nI (k + 1)))] ⟨rfl, rfl, rfl, rfl, trivial⟩ (ih (k + 1) (by omega) M _ hS (hnt.trans NT.us) (fLs_us hf1 (fun w hw => (ho1 w hw).2.2.1)) (fLs_us hf2 (fun w hw => (ho2 w hw).2.2.1)) (fun j hj => ?_))
          rw [e43]
          rcases (show j < k ∨ j = k by omega) with e | rfl
          · rw [va_up_n (by omega)]; exact hz j e
          · exact va_up_s
      refine ri_iconstN h 0 d_Md_isEqual_21 rfl ?_
      refine ri_istore h d_Md_isEqual_22 (Nat.le_of_ble_eq_true rfl) ?_
      refine ri_ls [(0, .ref (ad 30 0)), (1, .int (nI (SZ Q (-1) c))), (3, .int (nI (SZ Q (-1) c))), (4, .int (nI 0))] ⟨rfl, rfl, by rw [hsz]; rfl, rfl, trivial⟩ (LU (SZ Q (-1) c) 0 (by omega) M N2 hS hnt2 hf1 hf2 (fun j hj => by omega))
    · omega
  · have eb := hno (fun q => hsz (hpl q))
    refine ri_istore_n h d_Md_isEqual_7 (Nat.le_of_ble_eq_true rfl) ?_
    refine ri_iload_n h d_Md_isEqual_8 rfl ?_
    refine ri_iload_n h d_Md_isEqual_9 rfl ?_
    first | refine ri_icmpN_eq h 15 d_Md_isEqual_10 (by decide) (by omega) (by omega) (fun c_10 => ?_) (fun c_10 => ?_) | refine ri_icmp_eq h 15 d_Md_isEqual_10 (by decide) (fun c_10 => ?_) (fun c_10 => ?_)
    · omega
    · refine ri_iconstN h 0 d_Md_isEqual_13 rfl ?_
      refine ri_zreturn h d_Md_isEqual_14 (Nat.le_of_ble_eq_true rfl) (Nat.le_of_ble_eq_true rfl) (by first | rfl | assumption) ?_
      exact ⟨by rw [eb]; rfl, N1, hS, hnz.nt⟩
end MEQ
