/-! The step of equalTo -/
theorem MR_eS {Q : CS} {F T : Nat → Nat → Int32} {g : Nat → FlR} {N : MS} (hg : g 0 = Q.fl 0) (h : MR Q N) : MR (eS Q F T g) N := by
  obtain ⟨a1, a2, a3, a4, a5, a6, a7, a8, a9⟩ := h
  refine ⟨a1, a2, a3, a4, a5, a6, a7, ?_, ?_⟩
  · show N.hand = (g 0).cnt
    rw [hg]; exact a8
  · show ∀ i, i < (g 0).cnt → N.i 25 (6000 + i) = nI ((g 0).cor i) ∧ ∀ k, k < (g 0).cor i → N.l 22 (144000 + 24 * i + k) = FX (fsS Q.sh F T) (g 0) i k ∧ N.l 23 (144000 + 24 * i + k) = FY (fsS Q.sh F T) (g 0) i k
    rw [hg]; exact a9
theorem MR_ms {Q : CS} {N : MS} {m : Nat → Int32} {sz : Nat → Nat} {b pb : Nat → BxR} (h : MR Q N) : MR (msQ Q m sz b pb) N := h
theorem eqA.uniq {Q : CS} {b : Nat → BxR} {c : Nat} {v v2 : Int32} (h : eqA Q b c v) (h2 : eqA Q b c v2) : v = v2 := by
  rcases h with ⟨i, a1, a2, a3, a4⟩ | ⟨a1, a2⟩
  · rcases h2 with ⟨j, b1, b2, b3, b4⟩ | ⟨b1, b2⟩
    · rcases Nat.lt_trichotomy i j with q | q | q
      · exact absurd a3 (b4 i q)
      · rw [a2, b2, q]
      · exact absurd b3 (a4 j q)
    · exact absurd a3 (b2 i a1)
  · rcases h2 with ⟨j, b1, b2, b3, b4⟩ | ⟨b1, b2⟩
    · exact absurd b3 (a2 j b1)
    · rw [a1, b1]
section STE
variable {l : Launch} {D : gD} {s0 : State} {M : gH} {z : Nat} {ad : gA} {Q : CS} {N : MS}
theorem gS_v {α : Type} {yc ym : MethodName} {wc wm : Cond} {exs : List String} {mk : α → Value} {tl : α → Int64} {as : List Value} (S : α → CS → Prop)
    (hc : Ct l D s0 yc wc rkC (.ref (ad 0 0) :: as) M (fun r M' => ∃ (v : α) (Q' : CS), r = .inl (some (mk v)) ∧ S v Q' ∧ HS z ad Q' N M'))
    (hm : ∀ (v : α) (Q' : CS) (o : Nat → Int64) (M' : gH), S v Q' → HS z ad Q' (N.set_out o) M' → Ct l D s0 ym wm rkM (.ref (ad 30 0) :: as) M' (fun r M2 => ∃ (v2 : α) (N' : MS), r = .inl (some (mk v2)) ∧ tl v2 = tl v ∧ HS z ad Q' N' M2 ∧ WF Q' ∧ MR Q' N' ∧ N'.code = 0 ∧ N'.out = o)) :
    gBody l D s0 z (ad 0 0) (ad 30 0) (ad 70 0) yc wc ym wm exs mk tl as M := by
  refine ⟨fun k w M1 => k = 0 ∧ ∃ (Q' : CS), S w Q' ∧ HS z ad Q' N M1, hc.mono (fun r M' h => by obtain ⟨v, Q', h1, h2, h3⟩ := h; exact Or.inl ⟨v, h1, rfl, Q', h2, h3⟩), ?_, ?_⟩
  · rintro k w M1 ⟨rfl, Q', -, hS⟩
    exact ⟨by decide, ⟨N.out, hS.out⟩, ⟨_, hS.mo⟩⟩
  · rintro k w M1 ⟨rfl, Q', hSQ, hS⟩ fo hfo
    rw [if_pos rfl]
    refine (hm w Q' _ _ hSQ (hS.set_out (va_up fo 0 (tl w)))).mono ?_
    rintro r M2 ⟨v2, N', hr, htl, hS', hW, hR, h0, ho⟩
    refine ⟨v2, hr, fun _ => htl, ⟨(ad, Q', N'), hS', hW, hR, rfl, rfl, rfl⟩, ?_, N'.out, hS'.out, fun _ => by rw [ho]; exact va_up_s⟩
    have := hS'.mo
    rw [show mdO ad N' = mdO ad (N'.set_code N'.code) from rfl, h0] at this
    exact ⟨_, this⟩
theorem st_equalTo (h0 : g_0 l D s0) (hS : HS z ad Q N M) (hW : WF Q) (hR : MR Q N) (p : Int32) : gBody l D s0 z (ad 0 0) (ad 30 0) (ad 70 0) y_ST_equalTo (Cond.code y_ST_equalTo b_ST_equalTo 6 (some .int)) y_Md_equalTo (Cond.code y_Md_equalTo b_Md_equalTo 4 (some .int)) ["java/lang/IndexOutOfBoundsException", "java/lang/UnsupportedOperationException"] Value.int Int32.toInt64 [.int p] M := by
  by_cases hp : ∃ c, c < Q.nC ∧ p = nI c
  · obtain ⟨c, hc, rfl⟩ := id hp
    by_cases hn : ∀ x, x ≤ c → SZ Q (-1) x ≤ 3000
    · refine gS_v (N := N) (fun v Q' => ∃ (m : Nat → Int32) (sz : Nat → Nat) (b pb : Nat → BxR) (F T : Nat → Nat → Int32) (g : Nat → FlR), Q' = msQ (eS Q F T g) m sz b pb ∧ (∀ x, m x = 0 ∨ m x = 1) ∧ (∀ x, x < Q.nC → dnC Q (-1) sz b x) ∧ eqA Q b c v ∧ (∀ s, s < Q.nS → ∀ t, t < 8 → OrdOk (fsS Q.sh F T s) t) ∧ g 0 = Q.fl 0 ∧ ∀ j, j < 3 → ∀ i s, (g j).sh i = some s → s < Q.nS) ((k_equalTo_ok h0 hS hW hc hn).mono (fun r M' h => ?_)) ?_
      · obtain ⟨v, m, sz, b, pb, F, T, g, h1, h2, h3, h4, h5, h6, h7, h8⟩ := h
        exact ⟨v, _, h1, ⟨m, sz, b, pb, F, T, g, rfl, h2, h3, h4, h6, h7, h8⟩, h5⟩
      · rintro v Q' o M' ⟨m, sz, b, pb, F, T, g, rfl, h2, h3, h4, h6, h7, h8⟩ hS
        refine (k_mequalTo_ok (b := b) h0 hS (Q := Q) (N := N.set_out o) hR.m0 hW hc (fun x hx => (h3 x hx).2) hn).mono (fun r' M' h => ?_)
        obtain ⟨v2, N', u, g1, g2, g3, g4⟩ := h
        have hMR : MR Q N' := MR.ne (N := ((N.set_out o).set_l (va_up N.l 28 u)).set_code 0) (show MR Q N from hR) g4.1 g4.2.1 g4.2.2
        exact ⟨v2, N', g1, by rw [g2.uniq h4], g3, (WF_eS hW h6 h7 h8).ms h2, MR_ms (MR_eS h7 hMR), g4.1.2.2.2.2.2.2.1, g4.1.2.2.2.2.2.1⟩
    · refine gS_no (v2 := (0 : Int32)) (k := 1) rfl (by decide) (fun Q' => ∃ (m : Nat → Int32) (sz : Nat → Nat) (b pb : Nat → BxR), (∀ x, m x = 0 ∨ m x = 1) ∧ Q' = msQ Q m sz b pb) ((k_equalTo_no2 h0 hS hW hc hn).mono (fun r M' h => ⟨h.1, by obtain ⟨-, m, sz, b, pb, hS, h01⟩ := h; exact ⟨_, ⟨m, sz, b, pb, h01, rfl⟩, hS⟩⟩)) ?_
      rintro Q' M' ⟨m, sz, b, pb, h01, rfl⟩ hS
      refine (k_mequalTo_no2 h0 hS (Q := Q) hR.m0 hW hc hn).mono (fun r M' h => ⟨h.1, ?_⟩)
      obtain ⟨-, N', hS, u, rfl⟩ := h
      exact ⟨_, hS, hW.ms h01, show MR Q N from hR, rfl⟩
  · refine gS_no' (k := 0) rfl (by decide) hS hW (k_equalTo_no1 h0 hS hW.wb hp) ((k_mequalTo_no1 h0 hS hR.m0 hW hp).mono (fun r M' h => ⟨h.1, ?_⟩))
    obtain ⟨-, N', hS, u, rfl⟩ := h
    exact ⟨_, hS, show MR Q N from hR, rfl⟩
end STE
