/-! The invariant, the constructors, the whole -/
theorem WF_0 (v : Int32) : WF (Q0 v) := by
  refine ⟨⟨Nat.zero_le _, Nat.zero_le _, Nat.zero_le _, fun c hc => absurd hc (Nat.not_lt_zero c)⟩, ⟨fun p hp => absurd hp (Nat.not_lt_zero p), (fun j _ i s (h : (none : Option Nat) = some s) => nomatch h), fun c hc => absurd hc (Nat.not_lt_zero c)⟩, ⟨fun c hc => absurd hc (Nat.not_lt_zero c), fun p hp => absurd hp (Nat.not_lt_zero p), ?_⟩, fun s hs => absurd hs (Nat.not_lt_zero s), fun s hs => absurd hs (Nat.not_lt_zero s), fun s hs => absurd hs (Nat.not_lt_zero s), fun s hs => absurd hs (Nat.not_lt_zero s), fun _ => Or.inl rfl, fun _ => Or.inl rfl, ⟨Nat.zero_le _, fun i hi => absurd hi (Nat.not_lt_zero i)⟩, fun s hs => absurd hs (Nat.not_lt_zero s), fun s hs => absurd hs (Nat.not_lt_zero s)⟩
  rintro x y ⟨p, hp, -⟩
  exact absurd hp (Nat.not_lt_zero p)
theorem MR_0 (v : Int32) : MR (Q0 v) (N0 v) :=
  ⟨rfl, rfl, rfl, rfl, fun s hs => absurd hs (Nat.not_lt_zero s), fun _ _ => rfl, fun p hp => absurd hp (Nat.not_lt_zero p), rfl, fun i hi => absurd hi (Nat.not_lt_zero i)⟩
section WHO
variable {l : Launch} {D : gD} {s0 : State} {z x mo out : Nat}
theorem steps13 (h0 : g_0 l D s0) (hz : gz s0 z) : Steps13 l D s0 (Inv z x mo out) x mo out := by
  refine ⟨fun g M h => ?_, fun _ g M h => ?_, fun p0 p1 g M h => ?_, fun p0 p1 p2 g M h => ?_, fun p0 p1 p2 p3 g M h => ?_, fun p0 p1 p2 g M h => ?_, fun p0 p1 p2 p3 p4 g M h => ?_, fun p0 p1 p2 p3 p4 g M h => ?_, fun p0 p1 p2 g M h => ?_, fun p0 p1 g M h => ?_, fun p0 p1 p2 g M h => ?_, fun p0 g M h => ?_, fun p0 p1 p2 p3 p4 g M h => ?_, fun p0 g M h => ?_⟩
  all_goals (obtain ⟨hS, hW, hR, e1, e2, e3⟩ := h; subst e1; subst e2; subst e3)
  · exact ⟨_, hS.st⟩
  · exact st_cell h0 hz hS hW hR
  · exact st_polygon h0 hz hS hW hR p0 p1
  · exact st_corner h0 hS hW hR p0 p1 p2
  · exact st_path h0 hz hS hW hR p0 p1 p2 p3
  · exact st_point h0 hS hW hR p0 p1 p2
  · exact st_place h0 hz hS hW hR p0 p1 p2 p3 p4
  · exact st_array h0 hS hW hR p0 p1 p2 p3 p4
  · exact st_box h0 hS hW hR p0 p1 p2
  · exact st_flat h0 hS hW hR p0 p1
  · exact st_at h0 hS hW hR p0 p1 p2
  · exact st_equalTo h0 hS hW hR p0
  · exact st_find h0 hS hW hR p0 p1 p2 p3 p4
  · exact st_drop h0 hS hW hR p0
theorem init3 (h0 : g_0 l D s0) (hz : gz s0 z) : Init3 l D s0 := by
  intro v
  refine ⟨A1 v z, A2 v z, fun x => k_ST_init h0 hz v gup_s, fun x mo M1 h1 hn => (k_Md_init h0 v gup_s).mono (fun r M' h => ?_), fun x mo out M2 h2 hn => ?_⟩
  · exact ⟨h.1, M1, h1, hn, h.2⟩
  · obtain ⟨ad, e1, e2, e3, hS⟩ := HS_start h2 hn
    exact ⟨gA × CS × MS, Inv z x mo out, (ad, Q0 v, N0 v), ⟨hS, WF_0 v, MR_0 v, e1, e2, e3⟩, steps13 h0 hz⟩
end WHO
theorem i_vc : Claimed_1_1 ∧ Claimed_1_2 := i_vc_of fun _ _ _ _ h0 hz => init3 h0 hz
