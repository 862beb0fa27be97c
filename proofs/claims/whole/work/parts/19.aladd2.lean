/-! ArrayList.add, by the list -/
theorem ri_N {Z : gZ} {pc cl sl : Nat} {ls : List (Nat × Value)} {st : List Value} {M : gH} (k : g_N Z.1.2 M → G Z pc ls st M cl sl) : G Z pc ls st M cl sl := by
  obtain ⟨⟨D, s0⟩, ⟨p, l, e, R, s, m, args, below, meth, c⟩, ⟨mc, ms, fr, lo⟩, F, nL⟩ := Z
  intro H locs arr hP hS hN hL hl
  exact k hN H locs arr hP hS hN hL hl
theorem gz_lt {s0 : State} {z : Nat} (hz : gz s0 z) : z < s0.heap.size := by
  obtain ⟨-, cell, h, -⟩ := hz
  exact (Array.getElem?_eq_some_iff.mp h).1
def LL (z : Nat) (M : gH) (a : Nat) (xs : List Nat) (d : Nat) : Prop := ∃ mc : Int32, M a = some (als d (nI xs.length) mc) ∧ ((xs = [] ∧ d = z) ∨ ∃ (cap : Nat) (g : Nat → Option Nat), M d = some (ao cap g) ∧ xs.length ≤ cap ∧ cap ≤ 2 * xs.length + 10 ∧ 0 < cap ∧ (∀ i, i < cap → xs.length ≤ i → g i = none) ∧ ∀ (i : Nat) (h : i < xs.length), g i = some xs[i])
/-- what add leaves behind -/
def LA (z : Nat) (M M' : gH) (a : Nat) (xs : List Nat) (d e : Nat) : Prop := ∃ d', LL z M' a (xs ++ [e]) d' ∧ (d' = d ∨ M d' = none) ∧ d' ≠ z ∧ (∀ b x, M b = some x → b ≠ a → b ≠ d → M' b = some x) ∧ (∀ b, M b = none → b ≠ d' → M' b = none)
section A2
variable {l : Launch} {D : gD} {s0 : State} {M : gH} {a d z : Nat}
theorem k_grow0 (h0 : g_0 l D s0) (hz : gz s0 z) {mc : Int32} {cap : Nat} {g : Nat → Option Nat} (hM : M a = some (als d (nI cap) mc)) (hd : M d = some (ao cap g)) (hzN : d ≠ z) (hc0 : 0 < cap) (hc : cap < 500) (hf : ∀ i, i < cap → g i = none ∨ ∃ y ci vs, g i = some y ∧ M y = some (.inr (ci, vs)) ∧ gFit ci 3) : Ct l D s0 y_AL_grow_0 (Cond.code y_AL_grow_0 b_AL_grow_0 1 (some (.array (.object "java/lang/Object")))) (rk 4 1 1000) [.ref a] M (fQ fun q M' => M q = none ∧ M' = gup (gup M q (ao (cap + max 1 (cap / 2)) (va_cpy g (fun _ => none) 0 0 cap))) a (als q (nI cap) mc)) := by
  refine Ct.of h0 (by decide +kernel) rfl fun X hX h => ?_
  obtain ⟨p_, l', e_, R_, s_, m_, ar_, be_, me_, c_⟩ := X
  obtain rfl : l' = l := hX
  refine ri_aload_n h d_AL_grow_0_0 rfl ?_
  refine ri_aload_n h d_AL_grow_0_1 rfl ?_
  refine ri_get h d_AL_grow_0_2 fl_AL_48 (by first | assumption | exact gup_s | (refine gup_t (by assumption) ?_; first | assumption | exact gup_s | (refine gup_t (by assumption) ?_; first | assumption | exact gup_s | (refine gup_t (by assumption) ?_; first | assumption | exact gup_s)))) (by rfl) ?_
  refine ri_iconst h 1 d_AL_grow_0_5 rfl ?_
  refine ri_iadd h d_AL_grow_0_6 ?_
  rw [nI_1]
  refine ri_callV (r := (gR7, gT7, 3)) h [.int (nI (cap + 1))] [] d_AL_grow_0_7 cv_AL_69 hM rfl rfl rfl (Nat.le_of_ble_eq_true rfl) (Nat.le_of_ble_eq_true rfl) (Nat.le_of_ble_eq_true rfl) (Nat.le_of_ble_eq_true rfl) (Nat.le_of_ble_eq_true rfl) (k_grow1 h0 hz hM hd hzN hc0 hc hf) (fun _ _ h9 => absurd h9 (fQ_x _ _)) ?_
  rintro v M' ⟨q, hv, hq, hM'⟩
  cases hv
  refine ri_areturn h (by first | exact Or.inl ⟨_, rfl⟩ | exact Or.inr ⟨_, rfl⟩) d_AL_grow_0_10 (Nat.le_of_ble_eq_true rfl) (Nat.le_of_ble_eq_true rfl) ?_
  exact ⟨q, rfl, hq, hM'⟩
theorem k_grow0z (h0 : g_0 l D s0) (hz : gz s0 z) {mc : Int32} (hM : M a = some (als z 0 mc)) : Ct l D s0 y_AL_grow_0 (Cond.code y_AL_grow_0 b_AL_grow_0 1 (some (.array (.object "java/lang/Object")))) (rk 4 1 1000) [.ref a] M (fQ fun q M' => M q = none ∧ M' = gup (gup M q (ao 10 (fun _ => none))) a (als q 0 mc)) := by
  refine Ct.of h0 (by decide +kernel) rfl fun X hX h => ?_
  obtain ⟨p_, l', e_, R_, s_, m_, ar_, be_, me_, c_⟩ := X
  obtain rfl : l' = l := hX
  refine ri_aload_n h d_AL_grow_0_0 rfl ?_
  refine ri_aload_n h d_AL_grow_0_1 rfl ?_
  refine ri_get h d_AL_grow_0_2 fl_AL_48 (by first | assumption | exact gup_s | (refine gup_t (by assumption) ?_; first | assumption | exact gup_s | (refine gup_t (by assumption) ?_; first | assumption | exact gup_s | (refine gup_t (by assumption) ?_; first | assumption | exact gup_s)))) (by rfl) ?_
  refine ri_iconst h 1 d_AL_grow_0_5 rfl ?_
  refine ri_iadd h d_AL_grow_0_6 ?_
  refine ri_callV (r := (gR7, gT7, 3)) h [.int 1] [] d_AL_grow_0_7 cv_AL_69 hM rfl rfl rfl (Nat.le_of_ble_eq_true rfl) (Nat.le_of_ble_eq_true rfl) (Nat.le_of_ble_eq_true rfl) (Nat.le_of_ble_eq_true rfl) (Nat.le_of_ble_eq_true rfl) (k_grow1z h0 hz hM) (fun _ _ h9 => absurd h9 (fQ_x _ _)) ?_
  rintro v M' ⟨q, hv, hq, hM'⟩
  cases hv
  refine ri_areturn h (by first | exact Or.inl ⟨_, rfl⟩ | exact Or.inr ⟨_, rfl⟩) d_AL_grow_0_10 (Nat.le_of_ble_eq_true rfl) (Nat.le_of_ble_eq_true rfl) ?_
  exact ⟨q, rfl, hq, hM'⟩
theorem LL_put {M0 : gH} {xs : List Nat} {e q cap : Nat} {g : Nat → Option Nat} {mc : Int32} (hlen : xs.length < cap) (hcap : cap ≤ 2 * xs.length + 12) (haq : a ≠ q) (hn : ∀ i, i < cap → xs.length ≤ i → g i = none) (hg : ∀ (i : Nat) (h : i < xs.length), g i = some xs[i]) : LL z (gup (gup M0 q (ao cap (va_up g xs.length (some e)))) a (als q (nI (xs.length + 1)) mc)) a (xs ++ [e]) q := by
  refine ⟨mc, by rw [gup_s, List.length_append]; rfl, Or.inr ⟨cap, _, gup_t (Ne.symm haq) gup_s, by rw [List.length_append]; simp; omega, by rw [List.length_append]; simp; omega, by omega, ?_, ?_⟩⟩
  · intro i hi h2
    rw [List.length_append] at h2
    simp at h2
    rw [va_up, if_neg (by omega)]
    exact hn i hi (by omega)
  · intro i hi
    rw [List.length_append] at hi
    simp at hi
    by_cases h : i = xs.length
    · subst h
      simp [va_up]
    · rw [va_up, if_neg h, hg i (by omega), List.getElem_append_left (by omega)]
theorem k_add1 (h0 : g_0 l D s0) (hz : gz s0 z) (hMz : M z = none) {xs : List Nat} {e ci : Nat} {vs : List Value} (hL : LL z M a xs d) (hlen : xs.length < 240) (he : M e = some (.inr (ci, vs))) (hfit : gFit ci 3) (hci : ci ≠ 7) (hel : ∀ x ∈ xs, ∃ ci vs, M x = some (.inr (ci, vs)) ∧ gFit ci 3) : Ct l D s0 y_AL_add_1 (Cond.code y_AL_add_1 b_AL_add_1 4 none) (rk 5 1 1000) [.ref a, .ref e, .ref d, .int (nI xs.length)] M (fV fun M' => LA z M M' a xs d e) := by
  obtain ⟨mc, hM, hcase⟩ := hL
  have hea : e ≠ a := gneC he hM hci
  refine Ct.of h0 (by decide +kernel) rfl fun X hX h => ?_
  obtain ⟨p_, l', e_, R_, s_, m_, ar_, be_, me_, c_⟩ := X
  obtain rfl : l' = l := hX
  rcases hcase with ⟨rfl, rfl⟩ | ⟨cap, g, hd, hle, hcap, hc0, hnn, hg⟩
  · refine ri_iload_n h d_AL_add_1_0 rfl ?_
    refine ri_aload_n h d_AL_add_1_1 rfl ?_
    refine ri_alenZ h hz d_AL_add_1_2 ?_
    refine ri_icmp_ne h 11 d_AL_add_1_3 (by decide) (fun c_3 => ?_) (fun c_3 => ?_)
    · exact absurd rfl c_3
    · refine ri_aload_n h d_AL_add_1_6 rfl ?_
      refine ri_callV (r := (gR7, gT7, 3)) h [] [] d_AL_add_1_7 cv_AL_129 hM rfl rfl rfl (Nat.le_of_ble_eq_true rfl) (Nat.le_of_ble_eq_true rfl) (Nat.le_of_ble_eq_true rfl) (Nat.le_of_ble_eq_true rfl) (Nat.le_of_ble_eq_true rfl) (k_grow0z h0 hz hM) (fun _ _ h9 => absurd h9 (fQ_x _ _)) ?_
      rintro v M' ⟨q, hv, hq, hM'⟩
      cases hv
      subst hM'
      have haq : a ≠ q := gneN hM hq
      refine ri_N (fun hNN => ?_)
      have hqz : q ≠ d := by
        have h1 := hNN q _ (gup_t (Ne.symm haq) gup_s)
        have h2 := gz_lt hz
        intro h3
        rw [h3] at h1
        exact absurd h1 (Nat.not_le.mpr h2)
      have heq : e ≠ q := gneN he hq
      refine ri_astore_n h d_AL_add_1_10 (Nat.le_of_ble_eq_true rfl) ?_
      refine ri_aload_n h d_AL_add_1_11 rfl ?_
      refine ri_iload_n h d_AL_add_1_12 rfl ?_
      refine ri_aload_n h d_AL_add_1_13 rfl ?_
      refine ri_aast h 0 d_AL_add_1_14 (gup_t (Ne.symm haq) gup_s) (gup_t hea (gup_t heq he)) hfit rfl (by omega) (by omega) ?_
      have hA : gup (gup (gup M q (ao 10 (fun _ => none))) a (als q 0 mc)) q (ao 10 (va_up (fun _ => none) 0 (some e))) a = some (als q 0 mc) := gup_t haq gup_s
      refine ri_aload_n h d_AL_add_1_15 rfl ?_
      refine ri_iload_n h d_AL_add_1_16 rfl ?_
      refine ri_iconst h 1 d_AL_add_1_17 rfl ?_
      refine ri_iadd h d_AL_add_1_18 ?_
      refine ri_put h d_AL_add_1_19 fl_AL_48 (fun r hr => by cases hr; rfl) (by first | assumption | exact gup_s | (refine gup_t (by assumption) ?_; first | assumption | exact gup_s | (refine gup_t (by assumption) ?_; first | assumption | exact gup_s | (refine gup_t (by assumption) ?_; first | assumption | exact gup_s)))) (by first | rfl | assumption) (by first | rfl | decide | assumption) ?_
      refine ri_return h d_AL_add_1_22 (Nat.le_of_ble_eq_true rfl) (Nat.le_of_ble_eq_true rfl) ?_
      refine ⟨rfl, q, ?_, Or.inr hq, hqz, fun b x hb h1 h2 => gup_t h1 (gup_t (gneN hb hq) (gup_t h1 (gup_t (gneN hb hq) hb))), fun b hb hbq => gup_t (Ne.symm (gneN hM hb)) (gup_t hbq (gup_t (Ne.symm (gneN hM hb)) (gup_t hbq hb)))⟩
      exact LL_put (xs := []) (cap := 10) (by decide) (by decide) haq (fun _ _ _ => rfl) (fun i hi => absurd hi (by simp))
  · have hda : d ≠ a := gneA hd hM
    have hed : e ≠ d := Ne.symm (gneA hd he)
    by_cases hfull : xs.length = cap
    · refine ri_iload_n h d_AL_add_1_0 rfl ?_
      refine ri_aload_n h d_AL_add_1_1 rfl ?_
      refine ri_alen h d_AL_add_1_2 (by first | assumption | exact gup_s | (refine gup_t (by assumption) ?_; first | assumption | exact gup_s | (refine gup_t (by assumption) ?_; first | assumption | exact gup_s | (refine gup_t (by assumption) ?_; first | assumption | exact gup_s)))) ?_
      refine ri_icmp_ne h 11 d_AL_add_1_3 (by decide) (fun c_3 => ?_) (fun c_3 => ?_)
      · exact absurd (by rw [hfull]) c_3
      · refine ri_aload_n h d_AL_add_1_6 rfl ?_
        refine ri_callV (r := (gR7, gT7, 3)) h [] [] d_AL_add_1_7 cv_AL_129 hM rfl rfl rfl (Nat.le_of_ble_eq_true rfl) (Nat.le_of_ble_eq_true rfl) (Nat.le_of_ble_eq_true rfl) (Nat.le_of_ble_eq_true rfl) (Nat.le_of_ble_eq_true rfl) (k_grow0 (cap := cap) h0 hz (by rw [← hfull]; exact hM) hd (gneN hd hMz) hc0 (by omega) (fun i hi => Or.inr ?_)) (fun _ _ h9 => absurd h9 (fQ_x _ _)) ?_
        · obtain ⟨c9, v9, m9, f9⟩ := hel (xs[i]'(by omega)) (List.getElem_mem _)
          exact ⟨_, c9, v9, hg i (by omega), m9, f9⟩
        · rintro v M' ⟨q, hv, hq, hM'⟩
          cases hv
          subst hM'
          have haq : a ≠ q := gneN hM hq
          refine ri_N (fun hNN => ?_)
          have hqz : q ≠ z := by
            have h1 := hNN q _ (gup_t (Ne.symm haq) gup_s)
            have h2 := gz_lt hz
            intro h3
            rw [h3] at h1
            exact absurd h1 (Nat.not_le.mpr h2)
          have heq : e ≠ q := gneN he hq
          have hmx : 1 ≤ max 1 (cap / 2) := by omega
          have hmy : max 1 (cap / 2) ≤ cap := by omega
          refine ri_astore_n h d_AL_add_1_10 (Nat.le_of_ble_eq_true rfl) ?_
          refine ri_aload_n h d_AL_add_1_11 rfl ?_
          refine ri_iload_n h d_AL_add_1_12 rfl ?_
          refine ri_aload_n h d_AL_add_1_13 rfl ?_
          refine ri_aast h xs.length d_AL_add_1_14 (gup_t (Ne.symm haq) gup_s) (gup_t hea (gup_t heq he)) hfit rfl (by omega) (by omega) ?_
          have hA : gup (gup (gup M q (ao (cap + max 1 (cap / 2)) (va_cpy g (fun _ => none) 0 0 cap))) a (als q (nI cap) mc)) q (ao (cap + max 1 (cap / 2)) (va_up (va_cpy g (fun _ => none) 0 0 cap) xs.length (some e))) a = some (als q (nI cap) mc) := gup_t haq gup_s
          refine ri_aload_n h d_AL_add_1_15 rfl ?_
          refine ri_iload_n h d_AL_add_1_16 rfl ?_
          refine ri_iconst h 1 d_AL_add_1_17 rfl ?_
          refine ri_iadd h d_AL_add_1_18 ?_
          rw [nI_1]
          refine ri_put h d_AL_add_1_19 fl_AL_48 (fun r hr => by cases hr; rfl) (by first | assumption | exact gup_s | (refine gup_t (by assumption) ?_; first | assumption | exact gup_s | (refine gup_t (by assumption) ?_; first | assumption | exact gup_s | (refine gup_t (by assumption) ?_; first | assumption | exact gup_s)))) (by first | rfl | assumption) (by first | rfl | decide | assumption) ?_
          refine ri_return h d_AL_add_1_22 (Nat.le_of_ble_eq_true rfl) (Nat.le_of_ble_eq_true rfl) ?_
          refine ⟨rfl, q, ?_, Or.inr hq, hqz, fun b x hb h1 h2 => gup_t h1 (gup_t (gneN hb hq) (gup_t h1 (gup_t (gneN hb hq) hb))), fun b hb hbq => gup_t (Ne.symm (gneN hM hb)) (gup_t hbq (gup_t (Ne.symm (gneN hM hb)) (gup_t hbq hb)))⟩
          refine LL_put (by omega) (by omega) haq (fun i hi h2 => by rw [va_cpy, if_neg (by omega)]) (fun i hi => by rw [va_cpy, if_pos (by omega), Nat.zero_add, Nat.sub_zero]; exact hg i hi)
    · refine ri_iload_n h d_AL_add_1_0 rfl ?_
      refine ri_aload_n h d_AL_add_1_1 rfl ?_
      refine ri_alen h d_AL_add_1_2 (by first | assumption | exact gup_s | (refine gup_t (by assumption) ?_; first | assumption | exact gup_s | (refine gup_t (by assumption) ?_; first | assumption | exact gup_s | (refine gup_t (by assumption) ?_; first | assumption | exact gup_s)))) ?_
      refine ri_icmp_ne h 11 d_AL_add_1_3 (by decide) (fun c_3 => ?_) (fun c_3 => ?_)
      · refine ri_ls [(0, .ref a), (1, .ref e), (2, .ref d), (3, .int (nI xs.length))] ⟨rfl, rfl, rfl, rfl, trivial⟩ ?_
        refine ri_aload_n h d_AL_add_1_11 rfl ?_
        refine ri_iload_n h d_AL_add_1_12 rfl ?_
        refine ri_aload_n h d_AL_add_1_13 rfl ?_
        refine ri_aast h xs.length d_AL_add_1_14 hd he hfit rfl (by omega) (by omega) ?_
        have hA : gup M d (ao cap (va_up g xs.length (some e))) a = some (als d (nI xs.length) mc) := gup_t (Ne.symm hda) hM
        refine ri_aload_n h d_AL_add_1_15 rfl ?_
        refine ri_iload_n h d_AL_add_1_16 rfl ?_
        refine ri_iconst h 1 d_AL_add_1_17 rfl ?_
        refine ri_iadd h d_AL_add_1_18 ?_
        rw [nI_1]
        refine ri_put h d_AL_add_1_19 fl_AL_48 (fun r hr => by cases hr; rfl) (by first | assumption | exact gup_s | (refine gup_t (by assumption) ?_; first | assumption | exact gup_s | (refine gup_t (by assumption) ?_; first | assumption | exact gup_s | (refine gup_t (by assumption) ?_; first | assumption | exact gup_s)))) (by first | rfl | assumption) (by first | rfl | decide | assumption) ?_
        refine ri_return h d_AL_add_1_22 (Nat.le_of_ble_eq_true rfl) (Nat.le_of_ble_eq_true rfl) ?_
        refine ⟨rfl, d, ?_, Or.inl rfl, gneN hd hMz, fun b x hb h1 h2 => gup_t h1 (gup_t h2 hb), fun b hb hbq => gup_t (Ne.symm (gneN hM hb)) (gup_t hbq hb)⟩
        exact LL_put (by omega) (by omega) (Ne.symm hda) (fun i hi h2 => hnn i hi h2) hg
      · exact absurd c_3 (fun q => hfull ((nI_eq (by omega) (by omega)).mp q))
theorem k_AL_add (h0 : g_0 l D s0) (hz : gz s0 z) (hMz : M z = none) {xs : List Nat} {e ci : Nat} {vs : List Value} (hL : LL z M a xs d) (hlen : xs.length < 240) (he : M e = some (.inr (ci, vs))) (hfit : gFit ci 3) (hci : ci ≠ 7) (hel : ∀ x ∈ xs, ∃ ci vs, M x = some (.inr (ci, vs)) ∧ gFit ci 3 ∧ ci ≠ 7) : Ct l D s0 y_AL_add_0 (Cond.code y_AL_add_0 b_AL_add_0 2 (some .boolean)) (rk 6 1 1000) [.ref a, .ref e] M (fun r M' => r = .inl (some (.int 1)) ∧ LA z M M' a xs d e) := by
  obtain ⟨mc, hM, hcase⟩ := id hL
  have hea : e ≠ a := gneC he hM hci
  have haz : a ≠ z := gneN hM hMz
  refine Ct.of h0 (by decide +kernel) rfl fun X hX h => ?_
  obtain ⟨p_, l', e_, R_, s_, m_, ar_, be_, me_, c_⟩ := X
  obtain rfl : l' = l := hX
  refine ri_aload_n h d_AL_add_0_0 rfl ?_
  refine ri_dup h d_AL_add_0_1 rfl ?_
  refine ri_get h d_AL_add_0_2 fl_AL_63 (by first | assumption | exact gup_s | (refine gup_t (by assumption) ?_; first | assumption | exact gup_s | (refine gup_t (by assumption) ?_; first | assumption | exact gup_s | (refine gup_t (by assumption) ?_; first | assumption | exact gup_s)))) (by rfl) ?_
  refine ri_iconst h 1 d_AL_add_0_5 rfl ?_
  refine ri_iadd h d_AL_add_0_6 ?_
  refine ri_put h d_AL_add_0_7 fl_AL_63 (fun r hr => by cases hr; rfl) (by first | assumption | exact gup_s | (refine gup_t (by assumption) ?_; first | assumption | exact gup_s | (refine gup_t (by assumption) ?_; first | assumption | exact gup_s | (refine gup_t (by assumption) ?_; first | assumption | exact gup_s)))) (by first | rfl | assumption) (by first | rfl | decide | assumption) ?_
  refine ri_aload_n h d_AL_add_0_10 rfl ?_
  refine ri_aload_n h d_AL_add_0_11 rfl ?_
  refine ri_aload_n h d_AL_add_0_12 rfl ?_
  refine ri_get h d_AL_add_0_13 fl_AL_9 (by first | assumption | exact gup_s | (refine gup_t (by assumption) ?_; first | assumption | exact gup_s | (refine gup_t (by assumption) ?_; first | assumption | exact gup_s | (refine gup_t (by assumption) ?_; first | assumption | exact gup_s)))) (by rfl) ?_
  refine ri_aload_n h d_AL_add_0_16 rfl ?_
  refine ri_get h d_AL_add_0_17 fl_AL_48 (by first | assumption | exact gup_s | (refine gup_t (by assumption) ?_; first | assumption | exact gup_s | (refine gup_t (by assumption) ?_; first | assumption | exact gup_s | (refine gup_t (by assumption) ?_; first | assumption | exact gup_s)))) (by rfl) ?_
  have hL2 : LL z (gup M a (als d (nI xs.length) (mc + 1))) a xs d := by
    refine ⟨mc + 1, gup_s, ?_⟩
    rcases hcase with h1 | ⟨cap, g, hd, hr⟩
    · exact Or.inl h1
    · exact Or.inr ⟨cap, g, gup_t (gneA hd hM) hd, hr⟩
  refine ri_callV (r := (gR7, gT7, 3)) h [.ref e, .ref d, .int (nI xs.length)] [] d_AL_add_0_20 cv_AL_131 gup_s rfl rfl rfl (Nat.le_of_ble_eq_true rfl) (Nat.le_of_ble_eq_true rfl) (Nat.le_of_ble_eq_true rfl) (Nat.le_of_ble_eq_true rfl) (Nat.le_of_ble_eq_true rfl) (k_add1 h0 hz (gup_t (Ne.symm haz) hMz) hL2 hlen (gup_t hea he) hfit hci (fun x hx => ?_)) (fun _ _ h9 => absurd h9 (fV_x _ _)) ?_
  · obtain ⟨c9, v9, m9, f9, n9⟩ := hel x hx
    exact ⟨c9, v9, gup_t (gneC m9 hM n9) m9, f9⟩
  · rintro v M' ⟨hv, d', hL', hd', hdz, hk, hn⟩
    cases hv
    refine ri_iconst h 1 d_AL_add_0_23 rfl ?_
    refine ri_zreturn h d_AL_add_0_24 (Nat.le_of_ble_eq_true rfl) (Nat.le_of_ble_eq_true rfl) (by first | rfl | assumption) ?_
    refine ⟨rfl, d', hL', ?_, hdz, fun b x hb h1 h2 => hk b x (gup_t h1 hb) h1 h2, fun b hb h1 => hn b (gup_t (Ne.symm (gneN hM hb)) hb) h1⟩
    rcases hd' with h1 | h1
    · exact Or.inl h1
    · by_cases h2 : d' = a
      · subst h2
        rw [gup_s] at h1
        cases h1
      · rw [gup_n h2] at h1
        exact Or.inr h1
end A2
