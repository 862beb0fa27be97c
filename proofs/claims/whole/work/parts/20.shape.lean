/-! Shape: reads -/
abbrev sho (layer : Int32) (width : Int64) (ends : Int32) (xa ya : Nat) (cnt dropped : Int32) (bxa fa sa : Nat) : gE := .inr (4, [.int layer, .long width, .int ends, .ref xa, .ref ya, .int cnt, .int dropped, .ref bxa, .ref fa, .ref sa])
def spath (w : Int64) : Int32 := if 0 < w then 1 else 0
def son (layer : Int32) (w : Int64) (cnt dropped : Int32) (L : Int32) : Int32 := if dropped = 0 ∧ (if 0 < w then 2 else 3) ≤ cnt ∧ (L = -1 ∨ L = layer) then 1 else 0
section SH
variable {l : Launch} {D : gD} {s0 : State} {M : gH} {a xa ya bxa fa sa : Nat} {layer ends cnt dropped : Int32} {w : Int64}
theorem k_isPath (h0 : g_0 l D s0) (hM : M a = some (sho layer w ends xa ya cnt dropped bxa fa sa)) : Ct l D s0 y_Sh_isPath (Cond.code y_Sh_isPath b_Sh_isPath 1 (some .boolean)) (rk 0 0 0) [.ref a] M (fR (some (.int (spath w))) M) := by
  refine Ct.of h0 (by decide +kernel) rfl fun X hX h => ?_
  obtain ⟨p_, l', e_, R_, s_, m_, ar_, be_, me_, c_⟩ := X
  obtain rfl : l' = l := hX
  refine ri_aload_n h d_Sh_isPath_0 rfl ?_
  refine ri_get h d_Sh_isPath_1 fl_Sh_36 (by first | assumption | exact gup_s | (refine gup_t (by assumption) ?_; first | assumption | exact gup_s | (refine gup_t (by assumption) ?_; first | assumption | exact gup_s | (refine gup_t (by assumption) ?_; first | assumption | exact gup_s)))) (by rfl) ?_
  refine ri_lconst h 0 d_Sh_isPath_4 rfl ?_
  refine ri_lcmp_le h 13 d_Sh_isPath_5 d_Sh_isPath_6 (by decide) (fun c_5 => ?_) (fun c_5 => ?_)
  · refine ri_iconst h 0 d_Sh_isPath_13 rfl ?_
    refine ri_zreturn h d_Sh_isPath_14 (Nat.le_of_ble_eq_true rfl) (Nat.le_of_ble_eq_true rfl) (by first | rfl | assumption) ?_
    exact ⟨by rw [spath, if_neg (Int64.not_lt.mpr c_5)], rfl⟩
  · refine ri_iconst h 1 d_Sh_isPath_9 rfl ?_
    refine ri_goto h 14 d_Sh_isPath_10 (by decide) ?_
    refine ri_zreturn h d_Sh_isPath_14 (Nat.le_of_ble_eq_true rfl) (Nat.le_of_ble_eq_true rfl) (by first | rfl | assumption) ?_
    exact ⟨by rw [spath, if_pos (Int64.not_le.mp c_5)], rfl⟩
theorem k_isOn (h0 : g_0 l D s0) (hM : M a = some (sho layer w ends xa ya cnt dropped bxa fa sa)) (L : Int32) : Ct l D s0 y_Sh_isOn (Cond.code y_Sh_isOn b_Sh_isOn 3 (some .boolean)) (rk 1 0 0) [.ref a, .int L] M (fR (some (.int (son layer w cnt dropped L))) M) := by
  refine Ct.of h0 (by decide +kernel) rfl fun X hX h => ?_
  obtain ⟨p_, l', e_, R_, s_, m_, ar_, be_, me_, c_⟩ := X
  obtain rfl : l' = l := hX
  have k25 : ∀ t : Int32, (t = 0 ↔ (if 0 < w then 2 else 3) ≤ cnt) → G (gzz D s0 (p_, l', e_, R_, s_, m_, ar_, be_, me_, c_) (rk 1 0 0) (fR (some (.int (son layer w cnt dropped L))) M) 3) 25 [(0, .ref a), (1, .int L), (2, .int t)] [] M 0 0 := by
    intro t ht
    refine ri_aload_n h d_Sh_isOn_25 rfl ?_
    refine ri_get h d_Sh_isOn_26 fl_Sh_50 (by first | assumption | exact gup_s | (refine gup_t (by assumption) ?_; first | assumption | exact gup_s | (refine gup_t (by assumption) ?_; first | assumption | exact gup_s | (refine gup_t (by assumption) ?_; first | assumption | exact gup_s)))) (by rfl) ?_
    refine ri_if_ne h 53 d_Sh_isOn_29 (by decide) (fun c_29 => ?_) (fun c_29 => ?_)
    · refine ri_iconst h 0 d_Sh_isOn_53 rfl ?_
      refine ri_zreturn h d_Sh_isOn_54 (Nat.le_of_ble_eq_true rfl) (Nat.le_of_ble_eq_true rfl) (by first | rfl | assumption) ?_
      exact ⟨by rw [son, if_neg (fun z => c_29 z.1)], rfl⟩
    · refine ri_iload_n h d_Sh_isOn_32 rfl ?_
      refine ri_if_ne h 53 d_Sh_isOn_33 (by decide) (fun c_33 => ?_) (fun c_33 => ?_)
      · refine ri_iconst h 0 d_Sh_isOn_53 rfl ?_
        refine ri_zreturn h d_Sh_isOn_54 (Nat.le_of_ble_eq_true rfl) (Nat.le_of_ble_eq_true rfl) (by first | rfl | assumption) ?_
        exact ⟨by rw [son, if_neg (fun z => c_33 (ht.mpr z.2.1))], rfl⟩
      · refine ri_iload_n h d_Sh_isOn_36 rfl ?_
        refine ri_iconst h (-1) d_Sh_isOn_37 rfl ?_
        refine ri_icmp_eq h 49 d_Sh_isOn_38 (by decide) (fun c_38 => ?_) (fun c_38 => ?_)
        · refine ri_iconst h 1 d_Sh_isOn_49 rfl ?_
          refine ri_goto h 54 d_Sh_isOn_50 (by decide) ?_
          refine ri_zreturn h d_Sh_isOn_54 (Nat.le_of_ble_eq_true rfl) (Nat.le_of_ble_eq_true rfl) (by first | rfl | assumption) ?_
          exact ⟨by rw [son, if_pos ⟨c_29, ht.mp c_33, Or.inl c_38⟩], rfl⟩
        · refine ri_iload_n h d_Sh_isOn_41 rfl ?_
          refine ri_aload_n h d_Sh_isOn_42 rfl ?_
          refine ri_get h d_Sh_isOn_43 fl_Sh_32 (by first | assumption | exact gup_s | (refine gup_t (by assumption) ?_; first | assumption | exact gup_s | (refine gup_t (by assumption) ?_; first | assumption | exact gup_s | (refine gup_t (by assumption) ?_; first | assumption | exact gup_s)))) (by rfl) ?_
          refine ri_icmp_ne h 53 d_Sh_isOn_46 (by decide) (fun c_46 => ?_) (fun c_46 => ?_)
          · refine ri_iconst h 0 d_Sh_isOn_53 rfl ?_
            refine ri_zreturn h d_Sh_isOn_54 (Nat.le_of_ble_eq_true rfl) (Nat.le_of_ble_eq_true rfl) (by first | rfl | assumption) ?_
            exact ⟨by rw [son, if_neg (fun z => z.2.2.elim c_38 c_46)], rfl⟩
          · refine ri_iconst h 1 d_Sh_isOn_49 rfl ?_
            refine ri_goto h 54 d_Sh_isOn_50 (by decide) ?_
            refine ri_zreturn h d_Sh_isOn_54 (Nat.le_of_ble_eq_true rfl) (Nat.le_of_ble_eq_true rfl) (by first | rfl | assumption) ?_
            exact ⟨by rw [son, if_pos ⟨c_29, ht.mp c_33, Or.inr c_46⟩], rfl⟩
  have k16 : ∀ b : Int32, b = (if 0 < w then 2 else 3) → G (gzz D s0 (p_, l', e_, R_, s_, m_, ar_, be_, me_, c_) (rk 1 0 0) (fR (some (.int (son layer w cnt dropped L))) M) 3) 16 [(0, .ref a), (1, .int L)] [.int b, .int cnt] M 0 0 := by
    intro b hb
    refine ri_icmp_ge h 23 d_Sh_isOn_16 (by decide) (fun c_16 => ?_) (fun c_16 => ?_)
    · refine ri_iconst h 0 d_Sh_isOn_23 rfl ?_
      refine ri_istore_n h d_Sh_isOn_24 (Nat.le_of_ble_eq_true rfl) ?_
      exact ri_ls [(0, .ref a), (1, .int L), (2, .int 0)] ⟨rfl, rfl, rfl, trivial⟩ (k25 0 ⟨fun _ => hb ▸ c_16, fun _ => rfl⟩)
    · refine ri_iconst h 1 d_Sh_isOn_19 rfl ?_
      refine ri_goto h 24 d_Sh_isOn_20 (by decide) ?_
      refine ri_istore_n h d_Sh_isOn_24 (Nat.le_of_ble_eq_true rfl) ?_
      exact ri_ls [(0, .ref a), (1, .int L), (2, .int 1)] ⟨rfl, rfl, rfl, trivial⟩ (k25 1 ⟨fun z => absurd z (by decide), fun z => absurd (hb ▸ z) c_16⟩)
  refine ri_aload_n h d_Sh_isOn_0 rfl ?_
  refine ri_get h d_Sh_isOn_1 fl_Sh_43 (by first | assumption | exact gup_s | (refine gup_t (by assumption) ?_; first | assumption | exact gup_s | (refine gup_t (by assumption) ?_; first | assumption | exact gup_s | (refine gup_t (by assumption) ?_; first | assumption | exact gup_s)))) (by rfl) ?_
  refine ri_aload_n h d_Sh_isOn_4 rfl ?_
  refine ri_cVv (r := (gR4, gT4, 10)) h [] [.int cnt] d_Sh_isOn_5 cv_Sh_46 (by first | assumption | exact gup_s | (refine gup_t (by assumption) ?_; first | assumption | exact gup_s | (refine gup_t (by assumption) ?_; first | assumption | exact gup_s | (refine gup_t (by assumption) ?_; first | assumption | exact gup_s)))) rfl (k_isPath h0 hM) rfl rfl (Nat.le_of_ble_eq_true rfl) (Nat.le_of_ble_eq_true rfl) (Nat.le_of_ble_eq_true rfl) (Nat.le_of_ble_eq_true rfl) (Nat.le_of_ble_eq_true rfl) ?_
  refine ri_if_eq h 15 d_Sh_isOn_8 (by decide) (fun c_8 => ?_) (fun c_8 => ?_)
  · refine ri_iconst h 3 d_Sh_isOn_15 rfl ?_
    exact ri_ls [(0, .ref a), (1, .int L)] ⟨rfl, rfl, trivial⟩ (k16 3 (by
      unfold spath at c_8
      split at c_8
      · exact absurd c_8 (by decide)
      · rw [if_neg (by assumption)]))
  · refine ri_iconst h 2 d_Sh_isOn_11 rfl ?_
    refine ri_goto h 16 d_Sh_isOn_12 (by decide) ?_
    exact ri_ls [(0, .ref a), (1, .int L)] ⟨rfl, rfl, trivial⟩ (k16 2 (by
      unfold spath at c_8
      split at c_8
      · rw [if_pos (by assumption)]
      · exact absurd rfl c_8))
theorem k_compareKind (h0 : g_0 l D s0) {b xa2 ya2 bxa2 fa2 sa2 : Nat} {layer2 ends2 cnt2 dropped2 : Int32} {w2 : Int64} (hM : M a = some (sho layer w ends xa ya cnt dropped bxa fa sa)) (hb : M b = some (sho layer2 w2 ends2 xa2 ya2 cnt2 dropped2 bxa2 fa2 sa2)) : Ct l D s0 y_Sh_compareKind (Cond.code y_Sh_compareKind b_Sh_compareKind 3 (some .int)) (rk 1 0 0) [.ref a, .ref b] M (fR (some (.int (if icmp layer layer2 ≠ 0 then icmp layer layer2 else if jcmp w w2 ≠ 0 then jcmp w w2 else if icmp ends ends2 ≠ 0 then icmp ends ends2 else icmp cnt cnt2))) M) := by
  refine Ct.of h0 (by decide +kernel) rfl fun X hX h => ?_
  obtain ⟨p_, l', e_, R_, s_, m_, ar_, be_, me_, c_⟩ := X
  obtain rfl : l' = l := hX
  refine ri_aload_n h d_Sh_compareKind_0 rfl ?_
  refine ri_get h d_Sh_compareKind_1 fl_Sh_32 (by first | assumption | exact gup_s | (refine gup_t (by assumption) ?_; first | assumption | exact gup_s | (refine gup_t (by assumption) ?_; first | assumption | exact gup_s | (refine gup_t (by assumption) ?_; first | assumption | exact gup_s)))) (by rfl) ?_
  refine ri_aload_n h d_Sh_compareKind_4 rfl ?_
  refine ri_get h d_Sh_compareKind_5 fl_Sh_32 (by first | assumption | exact gup_s | (refine gup_t (by assumption) ?_; first | assumption | exact gup_s | (refine gup_t (by assumption) ?_; first | assumption | exact gup_s | (refine gup_t (by assumption) ?_; first | assumption | exact gup_s)))) (by rfl) ?_
  refine ri_cSv h [.int layer, .int layer2] [] d_Sh_compareKind_8 cs_Sh_113 (m_icmp h0 _ _ _) rfl rfl (Nat.le_of_ble_eq_true rfl) (Nat.le_of_ble_eq_true rfl) (Nat.le_of_ble_eq_true rfl) (Nat.le_of_ble_eq_true rfl) (Nat.le_of_ble_eq_true rfl) ?_
  refine ri_istore_n h d_Sh_compareKind_11 (Nat.le_of_ble_eq_true rfl) ?_
  refine ri_iload_n h d_Sh_compareKind_12 rfl ?_
  refine ri_if_ne h 28 d_Sh_compareKind_13 (by decide) (fun c_13 => ?_) (fun c_13 => ?_)
  · refine ri_iload_n h d_Sh_compareKind_28 rfl ?_
    refine ri_if_ne h 44 d_Sh_compareKind_29 (by decide) (fun c_29 => ?_) (fun c_29 => ?_)
    · refine ri_iload_n h d_Sh_compareKind_44 rfl ?_
      refine ri_if_ne h 60 d_Sh_compareKind_45 (by decide) (fun c_45 => ?_) (fun c_45 => ?_)
      · refine ri_iload_n h d_Sh_compareKind_60 rfl ?_
        refine ri_ireturn h d_Sh_compareKind_61 (Nat.le_of_ble_eq_true rfl) (Nat.le_of_ble_eq_true rfl) ?_
        exact ⟨by rw [if_pos c_13], rfl⟩
      · exact absurd c_45 c_13
    · exact absurd c_29 c_13
  · refine ri_aload_n h d_Sh_compareKind_16 rfl ?_
    refine ri_get h d_Sh_compareKind_17 fl_Sh_36 (by first | assumption | exact gup_s | (refine gup_t (by assumption) ?_; first | assumption | exact gup_s | (refine gup_t (by assumption) ?_; first | assumption | exact gup_s | (refine gup_t (by assumption) ?_; first | assumption | exact gup_s)))) (by rfl) ?_
    refine ri_aload_n h d_Sh_compareKind_20 rfl ?_
    refine ri_get h d_Sh_compareKind_21 fl_Sh_36 (by first | assumption | exact gup_s | (refine gup_t (by assumption) ?_; first | assumption | exact gup_s | (refine gup_t (by assumption) ?_; first | assumption | exact gup_s | (refine gup_t (by assumption) ?_; first | assumption | exact gup_s)))) (by rfl) ?_
    refine ri_cSv h [.long w, .long w2] [] d_Sh_compareKind_24 cs_Sh_106 (m_jcmp h0 _ _ _) rfl rfl (Nat.le_of_ble_eq_true rfl) (Nat.le_of_ble_eq_true rfl) (Nat.le_of_ble_eq_true rfl) (Nat.le_of_ble_eq_true rfl) (Nat.le_of_ble_eq_true rfl) ?_
    refine ri_istore_n h d_Sh_compareKind_27 (Nat.le_of_ble_eq_true rfl) ?_
    refine ri_iload_n h d_Sh_compareKind_28 rfl ?_
    refine ri_if_ne h 44 d_Sh_compareKind_29 (by decide) (fun c_29 => ?_) (fun c_29 => ?_)
    · refine ri_iload_n h d_Sh_compareKind_44 rfl ?_
      refine ri_if_ne h 60 d_Sh_compareKind_45 (by decide) (fun c_45 => ?_) (fun c_45 => ?_)
      · refine ri_iload_n h d_Sh_compareKind_60 rfl ?_
        refine ri_ireturn h d_Sh_compareKind_61 (Nat.le_of_ble_eq_true rfl) (Nat.le_of_ble_eq_true rfl) ?_
        exact ⟨by rw [if_neg (fun z => z c_13), if_pos c_29], rfl⟩
      · exact absurd c_45 c_29
    · refine ri_aload_n h d_Sh_compareKind_32 rfl ?_
      refine ri_get h d_Sh_compareKind_33 fl_Sh_40 (by first | assumption | exact gup_s | (refine gup_t (by assumption) ?_; first | assumption | exact gup_s | (refine gup_t (by assumption) ?_; first | assumption | exact gup_s | (refine gup_t (by assumption) ?_; first | assumption | exact gup_s)))) (by rfl) ?_
      refine ri_aload_n h d_Sh_compareKind_36 rfl ?_
      refine ri_get h d_Sh_compareKind_37 fl_Sh_40 (by first | assumption | exact gup_s | (refine gup_t (by assumption) ?_; first | assumption | exact gup_s | (refine gup_t (by assumption) ?_; first | assumption | exact gup_s | (refine gup_t (by assumption) ?_; first | assumption | exact gup_s)))) (by rfl) ?_
      refine ri_cSv h [.int ends, .int ends2] [] d_Sh_compareKind_40 cs_Sh_113 (m_icmp h0 _ _ _) rfl rfl (Nat.le_of_ble_eq_true rfl) (Nat.le_of_ble_eq_true rfl) (Nat.le_of_ble_eq_true rfl) (Nat.le_of_ble_eq_true rfl) (Nat.le_of_ble_eq_true rfl) ?_
      refine ri_istore_n h d_Sh_compareKind_43 (Nat.le_of_ble_eq_true rfl) ?_
      refine ri_iload_n h d_Sh_compareKind_44 rfl ?_
      refine ri_if_ne h 60 d_Sh_compareKind_45 (by decide) (fun c_45 => ?_) (fun c_45 => ?_)
      · refine ri_iload_n h d_Sh_compareKind_60 rfl ?_
        refine ri_ireturn h d_Sh_compareKind_61 (Nat.le_of_ble_eq_true rfl) (Nat.le_of_ble_eq_true rfl) ?_
        exact ⟨by rw [if_neg (fun z => z c_13), if_neg (fun z => z c_29), if_pos c_45], rfl⟩
      · refine ri_aload_n h d_Sh_compareKind_48 rfl ?_
        refine ri_get h d_Sh_compareKind_49 fl_Sh_43 (by first | assumption | exact gup_s | (refine gup_t (by assumption) ?_; first | assumption | exact gup_s | (refine gup_t (by assumption) ?_; first | assumption | exact gup_s | (refine gup_t (by assumption) ?_; first | assumption | exact gup_s)))) (by rfl) ?_
        refine ri_aload_n h d_Sh_compareKind_52 rfl ?_
        refine ri_get h d_Sh_compareKind_53 fl_Sh_43 (by first | assumption | exact gup_s | (refine gup_t (by assumption) ?_; first | assumption | exact gup_s | (refine gup_t (by assumption) ?_; first | assumption | exact gup_s | (refine gup_t (by assumption) ?_; first | assumption | exact gup_s)))) (by rfl) ?_
        refine ri_cSv h [.int cnt, .int cnt2] [] d_Sh_compareKind_56 cs_Sh_113 (m_icmp h0 _ _ _) rfl rfl (Nat.le_of_ble_eq_true rfl) (Nat.le_of_ble_eq_true rfl) (Nat.le_of_ble_eq_true rfl) (Nat.le_of_ble_eq_true rfl) (Nat.le_of_ble_eq_true rfl) ?_
        refine ri_istore_n h d_Sh_compareKind_59 (Nat.le_of_ble_eq_true rfl) ?_
        refine ri_iload_n h d_Sh_compareKind_60 rfl ?_
        refine ri_ireturn h d_Sh_compareKind_61 (Nat.le_of_ble_eq_true rfl) (Nat.le_of_ble_eq_true rfl) ?_
        exact ⟨by rw [if_neg (fun z => z c_13), if_neg (fun z => z c_29), if_neg (fun z => z c_45)], rfl⟩
end SH
