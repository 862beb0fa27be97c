/-! Writes, one field or element at a time; reads where the record is named -/
theorem va_up_u {α : Type} {g : Nat → α} {i : Nat} {a b : α} : va_up (va_up g i a) i b = va_up g i b := by
  funext j
  unfold va_up
  split <;> rfl
theorem va_up_nI {g : Nat → Nat} {k x : Nat} : va_up (fun j => nI (g j)) k (nI x) = fun j => nI (va_up g k x j) := by
  funext j
  unfold va_up
  split <;> rfl
theorem va_up_map {g : Nat → Option Nat} {f : Nat → Nat} {k x : Nat} : va_up (fun j => (g j).map f) k (some (f x)) = fun j => (va_up g k (some x) j).map f := by
  funext j
  unfold va_up
  split <;> rfl
theorem va_up_id {α : Type} {g : Nat → α} {i : Nat} : va_up g i (g i) = g := by
  funext j
  unfold va_up
  split
  · subst_vars; rfl
  · rfl
section PU
variable {z : Nat} {ad : gA} {Q : CS} {N : MS} {M : gH} {i : Nat}
theorem ri_gH {Z : gZ} {pc cl sl : Nat} {ls : List (Nat × Value)} {st : List Value} (hp : HS z ad Q N M) (k : ∀ M, HS z ad Q N M → G Z pc ls st M cl sl) : G Z pc ls st M cl sl := k M hp
theorem ri_gH2 {Z : gZ} {pc cl sl : Nat} {ls : List (Nat × Value)} {st : List Value} {α : Type} {x y : α} (hp : HS z ad Q N M ∧ x = y) (k : ∀ M, HS z ad Q N M → x = y → G Z pc ls st M cl sl) : G Z pc ls st M cl sl := k M hp.1 hp.2
theorem HS.cong {Q' : CS} {N' : MS} (h : HS z ad Q N M) (e : Q = Q') (e' : N = N') : HS z ad Q' N' M := e ▸ e' ▸ h
theorem HS.p_code (h : HS z ad Q N M) (v : Nat) : HS z ad Q (N.set_code v) (gup M (ad 30 0) (mdO ad (N.set_code v))) := h.set_mo _ rfl rfl rfl
theorem HS.p_cells (h : HS z ad Q N M) (v : Nat) : HS z ad Q (N.set_cells v) (gup M (ad 30 0) (mdO ad (N.set_cells v))) := h.set_mo _ rfl rfl rfl
theorem HS.p_shapes (h : HS z ad Q N M) (v : Nat) : HS z ad Q (N.set_shapes v) (gup M (ad 30 0) (mdO ad (N.set_shapes v))) := h.set_mo _ rfl rfl rfl
theorem HS.p_places (h : HS z ad Q N M) (v : Nat) : HS z ad Q (N.set_places v) (gup M (ad 30 0) (mdO ad (N.set_places v))) := h.set_mo _ rfl rfl rfl
theorem HS.p_hand (h : HS z ad Q N M) (v : Nat) : HS z ad Q (N.set_hand v) (gup M (ad 30 0) (mdO ad (N.set_hand v))) := h.set_mo _ rfl rfl rfl
theorem HS.p_depth (h : HS z ad Q N M) (v : Int32) : HS z ad Q (N.set_depth v) (gup M (ad 30 0) (mdO ad (N.set_depth v))) := h.set_mo _ rfl rfl rfl
theorem HS.p_any (h : HS z ad Q N M) (v : Int32) : HS z ad Q (N.set_any v) (gup M (ad 30 0) (mdO ad (N.set_any v))) := h.set_mo _ rfl rfl rfl
theorem HS.p_px (h : HS z ad Q N M) (v : Int64) : HS z ad Q (N.set_px v) (gup M (ad 30 0) (mdO ad (N.set_px v))) := h.set_mo _ rfl rfl rfl
theorem HS.p_py (h : HS z ad Q N M) (v : Int64) : HS z ad Q (N.set_py v) (gup M (ad 30 0) (mdO ad (N.set_py v))) := h.set_mo _ rfl rfl rfl
theorem HS.p_x0 (h : HS z ad Q N M) (v : Int64) : HS z ad Q (N.set_x0 v) (gup M (ad 30 0) (mdO ad (N.set_x0 v))) := h.set_mo _ rfl rfl rfl
theorem HS.p_y0 (h : HS z ad Q N M) (v : Int64) : HS z ad Q (N.set_y0 v) (gup M (ad 30 0) (mdO ad (N.set_y0 v))) := h.set_mo _ rfl rfl rfl
theorem HS.p_x1 (h : HS z ad Q N M) (v : Int64) : HS z ad Q (N.set_x1 v) (gup M (ad 30 0) (mdO ad (N.set_x1 v))) := h.set_mo _ rfl rfl rfl
theorem HS.p_y1 (h : HS z ad Q N M) (v : Int64) : HS z ad Q (N.set_y1 v) (gup M (ad 30 0) (mdO ad (N.set_y1 v))) := h.set_mo _ rfl rfl rfl
theorem HS.ce_of (h : HS z ad Q N M) (hi : i < Q.nC) {r : CeR} (hr : Q.ce i = r) : M (ad 12 i) = some (ceO ad i r) := hr ▸ h.ce hi
theorem HS.ceb_of (h : HS z ad Q N M) (hi : i < Q.nC) {r : CeR} (hr : Q.ce i = r) : M (ad 17 i) = some (BxR.e r.bx) := hr ▸ h.ceb hi
theorem HS.sh_of (h : HS z ad Q N M) (hi : i < Q.nS) {r : ShR} (hr : Q.sh i = r) : M (ad 18 i) = some (shO ad i r) := hr ▸ h.sh hi
theorem HS.shx_of (h : HS z ad Q N M) (hi : i < Q.nS) {r : ShR} (hr : Q.sh i = r) : M (ad 19 i) = some (al 24 r.xs) := hr ▸ h.shx hi
theorem HS.shy_of (h : HS z ad Q N M) (hi : i < Q.nS) {r : ShR} (hr : Q.sh i = r) : M (ad 20 i) = some (al 24 r.ys) := hr ▸ h.shy hi
theorem HS.shb_of (h : HS z ad Q N M) (hi : i < Q.nS) {r : ShR} (hr : Q.sh i = r) : M (ad 21 i) = some (BxR.e r.bx) := hr ▸ h.shb hi
theorem HS.shf_of (h : HS z ad Q N M) (hi : i < Q.nS) {r : ShR} (hr : Q.sh i = r) : M (ad 22 i) = some (ai 8 r.fi) := hr ▸ h.shf hi
theorem HS.sht_of (h : HS z ad Q N M) (hi : i < Q.nS) {r : ShR} (hr : Q.sh i = r) : M (ad 23 i) = some (ai 8 r.st) := hr ▸ h.sht hi
theorem HS.pl_of (h : HS z ad Q N M) (hi : i < Q.nP) {r : PlR} (hr : Q.pl i = r) : M (ad 24 i) = some (plO ad i r) := hr ▸ h.pl hi
theorem HS.plb_of (h : HS z ad Q N M) (hi : i < Q.nP) {r : PlR} (hr : Q.pl i = r) : M (ad 25 i) = some (BxR.e r.bx) := hr ▸ h.plb hi
theorem HS.fl_of (h : HS z ad Q N M) (hi : i < 3) {r : FlR} (hr : Q.fl i = r) : M (ad 3 i) = some (flO ad i r) := hr ▸ h.fl hi
theorem HS.fls_of (h : HS z ad Q N M) (hi : i < 3) {r : FlR} (hr : Q.fl i = r) : M (ad 4 i) = some (ash 3000 (fun j => (r.sh j).map (ad 18))) := hr ▸ h.fls hi
theorem HS.flc_of (h : HS z ad Q N M) (hi : i < 3) {r : FlR} (hr : Q.fl i = r) : M (ad 5 i) = some (ain 3000 r.cor) := hr ▸ h.flc hi
theorem HS.flt_of (h : HS z ad Q N M) (hi : i < 3) {r : FlR} (hr : Q.fl i = r) : M (ad 6 i) = some (ain 3000 r.tu) := hr ▸ h.flt hi
theorem HS.flo_of (h : HS z ad Q N M) (hi : i < 3) {r : FlR} (hr : Q.fl i = r) : M (ad 9 i) = some (ain 3000 r.ord) := hr ▸ h.flo hi
theorem HS.flp_of (h : HS z ad Q N M) (hi : i < 3) {r : FlR} (hr : Q.fl i = r) : M (ad 10 i) = some (ain 3000 r.spa) := hr ▸ h.flp hi
theorem HS.flx_of (h : HS z ad Q N M) (hi : i < 3) {r : FlR} (hr : Q.fl i = r) : M (ad 7 i) = some (al 3000 r.xs) := hr ▸ h.flx hi
theorem HS.fly_of (h : HS z ad Q N M) (hi : i < 3) {r : FlR} (hr : Q.fl i = r) : M (ad 8 i) = some (al 3000 r.ys) := hr ▸ h.fly hi
theorem HS.p_seen (h : HS z ad Q N M) (hi : i < Q.nC) {r : CeR} (hr : Q.ce i = r) (v : Int32) : HS z ad (Q.set_ce (va_up Q.ce i (r.set_seen v))) N (gup M (ad 12 i) (ceO ad i (r.set_seen v))) ∧ (Q.set_ce (va_up Q.ce i (r.set_seen v))).ce i = (r.set_seen v) := by
  subst hr
  exact ⟨h.set_ce hi _ rfl rfl rfl, va_up_s⟩
theorem HS.p_meas (h : HS z ad Q N M) (hi : i < Q.nC) {r : CeR} (hr : Q.ce i = r) (v : Int32) : HS z ad (Q.set_ce (va_up Q.ce i (r.set_meas v))) N (gup M (ad 12 i) (ceO ad i (r.set_meas v))) ∧ (Q.set_ce (va_up Q.ce i (r.set_meas v))).ce i = (r.set_meas v) := by
  subst hr
  exact ⟨h.set_ce hi _ rfl rfl rfl, va_up_s⟩
theorem HS.p_size (h : HS z ad Q N M) (hi : i < Q.nC) {r : CeR} (hr : Q.ce i = r) (v : Nat) : HS z ad (Q.set_ce (va_up Q.ce i (r.set_size v))) N (gup M (ad 12 i) (ceO ad i (r.set_size v))) ∧ (Q.set_ce (va_up Q.ce i (r.set_size v))).ce i = (r.set_size v) := by
  subst hr
  exact ⟨h.set_ce hi _ rfl rfl rfl, va_up_s⟩
theorem HS.p_ceb (h : HS z ad Q N M) (hi : i < Q.nC) {r : CeR} (hr : Q.ce i = r) (v : BxR) : HS z ad (Q.set_ce (va_up Q.ce i (r.set_bx v))) N (gup M (ad 17 i) (BxR.e v)) ∧ (Q.set_ce (va_up Q.ce i (r.set_bx v))).ce i = (r.set_bx v) := by
  subst hr
  exact ⟨h.set_ceb hi v, va_up_s⟩
theorem HS.p_cnt (h : HS z ad Q N M) (hi : i < Q.nS) {r : ShR} (hr : Q.sh i = r) (v : Nat) : HS z ad (Q.set_sh (va_up Q.sh i (r.set_cnt v))) N (gup M (ad 18 i) (shO ad i (r.set_cnt v))) ∧ (Q.set_sh (va_up Q.sh i (r.set_cnt v))).sh i = (r.set_cnt v) := by
  subst hr
  exact ⟨h.set_sh hi _ rfl rfl rfl rfl rfl, va_up_s⟩
theorem HS.p_drop (h : HS z ad Q N M) (hi : i < Q.nS) {r : ShR} (hr : Q.sh i = r) (v : Int32) : HS z ad (Q.set_sh (va_up Q.sh i (r.set_drop v))) N (gup M (ad 18 i) (shO ad i (r.set_drop v))) ∧ (Q.set_sh (va_up Q.sh i (r.set_drop v))).sh i = (r.set_drop v) := by
  subst hr
  exact ⟨h.set_sh hi _ rfl rfl rfl rfl rfl, va_up_s⟩
theorem HS.p_shx (h : HS z ad Q N M) (hi : i < Q.nS) {r : ShR} (hr : Q.sh i = r) (v : Nat → Int64) : HS z ad (Q.set_sh (va_up Q.sh i (r.set_xs v))) N (gup M (ad 19 i) (al 24 v)) ∧ (Q.set_sh (va_up Q.sh i (r.set_xs v))).sh i = (r.set_xs v) := by
  subst hr
  exact ⟨h.set_shx hi v, va_up_s⟩
theorem HS.p_shy (h : HS z ad Q N M) (hi : i < Q.nS) {r : ShR} (hr : Q.sh i = r) (v : Nat → Int64) : HS z ad (Q.set_sh (va_up Q.sh i (r.set_ys v))) N (gup M (ad 20 i) (al 24 v)) ∧ (Q.set_sh (va_up Q.sh i (r.set_ys v))).sh i = (r.set_ys v) := by
  subst hr
  exact ⟨h.set_shy hi v, va_up_s⟩
theorem HS.p_shb (h : HS z ad Q N M) (hi : i < Q.nS) {r : ShR} (hr : Q.sh i = r) (v : BxR) : HS z ad (Q.set_sh (va_up Q.sh i (r.set_bx v))) N (gup M (ad 21 i) (BxR.e v)) ∧ (Q.set_sh (va_up Q.sh i (r.set_bx v))).sh i = (r.set_bx v) := by
  subst hr
  exact ⟨h.set_shb hi v, va_up_s⟩
theorem HS.p_shf (h : HS z ad Q N M) (hi : i < Q.nS) {r : ShR} (hr : Q.sh i = r) (v : Nat → Int32) : HS z ad (Q.set_sh (va_up Q.sh i (r.set_fi v))) N (gup M (ad 22 i) (ai 8 v)) ∧ (Q.set_sh (va_up Q.sh i (r.set_fi v))).sh i = (r.set_fi v) := by
  subst hr
  exact ⟨h.set_shf hi v, va_up_s⟩
theorem HS.p_sht (h : HS z ad Q N M) (hi : i < Q.nS) {r : ShR} (hr : Q.sh i = r) (v : Nat → Int32) : HS z ad (Q.set_sh (va_up Q.sh i (r.set_st v))) N (gup M (ad 23 i) (ai 8 v)) ∧ (Q.set_sh (va_up Q.sh i (r.set_st v))).sh i = (r.set_st v) := by
  subst hr
  exact ⟨h.set_sht hi v, va_up_s⟩
theorem HS.p_cols (h : HS z ad Q N M) (hi : i < Q.nP) {r : PlR} (hr : Q.pl i = r) (v : Nat) : HS z ad (Q.set_pl (va_up Q.pl i (r.set_cols v))) N (gup M (ad 24 i) (plO ad i (r.set_cols v))) ∧ (Q.set_pl (va_up Q.pl i (r.set_cols v))).pl i = (r.set_cols v) := by
  subst hr
  exact ⟨h.set_pl hi _ rfl, va_up_s⟩
theorem HS.p_rows (h : HS z ad Q N M) (hi : i < Q.nP) {r : PlR} (hr : Q.pl i = r) (v : Nat) : HS z ad (Q.set_pl (va_up Q.pl i (r.set_rows v))) N (gup M (ad 24 i) (plO ad i (r.set_rows v))) ∧ (Q.set_pl (va_up Q.pl i (r.set_rows v))).pl i = (r.set_rows v) := by
  subst hr
  exact ⟨h.set_pl hi _ rfl, va_up_s⟩
theorem HS.p_dx (h : HS z ad Q N M) (hi : i < Q.nP) {r : PlR} (hr : Q.pl i = r) (v : Int64) : HS z ad (Q.set_pl (va_up Q.pl i (r.set_dx v))) N (gup M (ad 24 i) (plO ad i (r.set_dx v))) ∧ (Q.set_pl (va_up Q.pl i (r.set_dx v))).pl i = (r.set_dx v) := by
  subst hr
  exact ⟨h.set_pl hi _ rfl, va_up_s⟩
theorem HS.p_dy (h : HS z ad Q N M) (hi : i < Q.nP) {r : PlR} (hr : Q.pl i = r) (v : Int64) : HS z ad (Q.set_pl (va_up Q.pl i (r.set_dy v))) N (gup M (ad 24 i) (plO ad i (r.set_dy v))) ∧ (Q.set_pl (va_up Q.pl i (r.set_dy v))).pl i = (r.set_dy v) := by
  subst hr
  exact ⟨h.set_pl hi _ rfl, va_up_s⟩
theorem HS.p_plb (h : HS z ad Q N M) (hi : i < Q.nP) {r : PlR} (hr : Q.pl i = r) (v : BxR) : HS z ad (Q.set_pl (va_up Q.pl i (r.set_bx v))) N (gup M (ad 25 i) (BxR.e v)) ∧ (Q.set_pl (va_up Q.pl i (r.set_bx v))).pl i = (r.set_bx v) := by
  subst hr
  exact ⟨h.set_plb hi v, va_up_s⟩
theorem HS.p_fcnt (h : HS z ad Q N M) (hi : i < 3) {r : FlR} (hr : Q.fl i = r) (v : Nat) : HS z ad (Q.set_fl (va_up Q.fl i (r.set_cnt v))) N (gup M (ad 3 i) (flO ad i (r.set_cnt v))) ∧ (Q.set_fl (va_up Q.fl i (r.set_cnt v))).fl i = (r.set_cnt v) := by
  subst hr
  exact ⟨h.set_fl hi _ rfl rfl rfl rfl rfl rfl rfl, va_up_s⟩
theorem HS.p_flay (h : HS z ad Q N M) (hi : i < 3) {r : FlR} (hr : Q.fl i = r) (v : Int32) : HS z ad (Q.set_fl (va_up Q.fl i (r.set_layer v))) N (gup M (ad 3 i) (flO ad i (r.set_layer v))) ∧ (Q.set_fl (va_up Q.fl i (r.set_layer v))).fl i = (r.set_layer v) := by
  subst hr
  exact ⟨h.set_fl hi _ rfl rfl rfl rfl rfl rfl rfl, va_up_s⟩
theorem HS.p_mark (h : HS z ad Q N M) (hi : i < 3) {r : FlR} (hr : Q.fl i = r) (v : Int64) : HS z ad (Q.set_fl (va_up Q.fl i (r.set_mark v))) N (gup M (ad 3 i) (flO ad i (r.set_mark v))) ∧ (Q.set_fl (va_up Q.fl i (r.set_mark v))).fl i = (r.set_mark v) := by
  subst hr
  exact ⟨h.set_fl hi _ rfl rfl rfl rfl rfl rfl rfl, va_up_s⟩
theorem HS.p_srt (h : HS z ad Q N M) (hi : i < 3) {r : FlR} (hr : Q.fl i = r) (v : Int32) : HS z ad (Q.set_fl (va_up Q.fl i (r.set_srt v))) N (gup M (ad 3 i) (flO ad i (r.set_srt v))) ∧ (Q.set_fl (va_up Q.fl i (r.set_srt v))).fl i = (r.set_srt v) := by
  subst hr
  exact ⟨h.set_fl hi _ rfl rfl rfl rfl rfl rfl rfl, va_up_s⟩
theorem HS.p_fls (h : HS z ad Q N M) (hi : i < 3) {r : FlR} (hr : Q.fl i = r) (k x : Nat) : HS z ad (Q.set_fl (va_up Q.fl i (r.set_sh (va_up r.sh k (some x))))) N (gup M (ad 4 i) (ash 3000 (va_up (fun j => (r.sh j).map (ad 18)) k (some (ad 18 x))))) ∧ (Q.set_fl (va_up Q.fl i (r.set_sh (va_up r.sh k (some x))))).fl i = (r.set_sh (va_up r.sh k (some x))) := by
  subst hr
  rw [va_up_map]
  exact ⟨h.set_fls hi _, va_up_s⟩
theorem HS.p_flc (h : HS z ad Q N M) (hi : i < 3) {r : FlR} (hr : Q.fl i = r) (k x : Nat) : HS z ad (Q.set_fl (va_up Q.fl i (r.set_cor (va_up r.cor k x)))) N (gup M (ad 5 i) (ai 3000 (va_up (fun j => nI (r.cor j)) k (nI x)))) ∧ (Q.set_fl (va_up Q.fl i (r.set_cor (va_up r.cor k x)))).fl i = (r.set_cor (va_up r.cor k x)) := by
  subst hr
  rw [va_up_nI]
  exact ⟨h.set_flc hi _, va_up_s⟩
theorem HS.p_flt (h : HS z ad Q N M) (hi : i < 3) {r : FlR} (hr : Q.fl i = r) (k x : Nat) : HS z ad (Q.set_fl (va_up Q.fl i (r.set_tu (va_up r.tu k x)))) N (gup M (ad 6 i) (ai 3000 (va_up (fun j => nI (r.tu j)) k (nI x)))) ∧ (Q.set_fl (va_up Q.fl i (r.set_tu (va_up r.tu k x)))).fl i = (r.set_tu (va_up r.tu k x)) := by
  subst hr
  rw [va_up_nI]
  exact ⟨h.set_flt hi _, va_up_s⟩
theorem HS.p_flo (h : HS z ad Q N M) (hi : i < 3) {r : FlR} (hr : Q.fl i = r) (k x : Nat) : HS z ad (Q.set_fl (va_up Q.fl i (r.set_ord (va_up r.ord k x)))) N (gup M (ad 9 i) (ai 3000 (va_up (fun j => nI (r.ord j)) k (nI x)))) ∧ (Q.set_fl (va_up Q.fl i (r.set_ord (va_up r.ord k x)))).fl i = (r.set_ord (va_up r.ord k x)) := by
  subst hr
  rw [va_up_nI]
  exact ⟨h.set_flo hi _, va_up_s⟩
theorem HS.p_flp (h : HS z ad Q N M) (hi : i < 3) {r : FlR} (hr : Q.fl i = r) (k x : Nat) : HS z ad (Q.set_fl (va_up Q.fl i (r.set_spa (va_up r.spa k x)))) N (gup M (ad 10 i) (ai 3000 (va_up (fun j => nI (r.spa j)) k (nI x)))) ∧ (Q.set_fl (va_up Q.fl i (r.set_spa (va_up r.spa k x)))).fl i = (r.set_spa (va_up r.spa k x)) := by
  subst hr
  rw [va_up_nI]
  exact ⟨h.set_flp hi _, va_up_s⟩
theorem HS.p_flx (h : HS z ad Q N M) (hi : i < 3) {r : FlR} (hr : Q.fl i = r) (v : Nat → Int64) : HS z ad (Q.set_fl (va_up Q.fl i (r.set_xs v))) N (gup M (ad 7 i) (al 3000 v)) ∧ (Q.set_fl (va_up Q.fl i (r.set_xs v))).fl i = (r.set_xs v) := by
  subst hr
  exact ⟨h.set_flx hi v, va_up_s⟩
theorem HS.p_fly (h : HS z ad Q N M) (hi : i < 3) {r : FlR} (hr : Q.fl i = r) (v : Nat → Int64) : HS z ad (Q.set_fl (va_up Q.fl i (r.set_ys v))) N (gup M (ad 8 i) (al 3000 v)) ∧ (Q.set_fl (va_up Q.fl i (r.set_ys v))).fl i = (r.set_ys v) := by
  subst hr
  exact ⟨h.set_fly hi v, va_up_s⟩
theorem HS.p_sb (h : HS z ad Q N M) (v : BxR) : HS z ad (Q.set_sb v) N (gup M (ad 11 0) (BxR.e v)) := h.set_sb v
theorem HS.ce2 {g : Nat → CeR} {a b : CeR} (h : HS z ad (Q.set_ce (va_up (va_up g i a) i b)) N M) : HS z ad (Q.set_ce (va_up g i b)) N M := by rw [va_up_u] at h; exact h
theorem HS.sh2 {g : Nat → ShR} {a b : ShR} (h : HS z ad (Q.set_sh (va_up (va_up g i a) i b)) N M) : HS z ad (Q.set_sh (va_up g i b)) N M := by rw [va_up_u] at h; exact h
theorem HS.pl2 {g : Nat → PlR} {a b : PlR} (h : HS z ad (Q.set_pl (va_up (va_up g i a) i b)) N M) : HS z ad (Q.set_pl (va_up g i b)) N M := by rw [va_up_u] at h; exact h
theorem HS.fl2 {g : Nat → FlR} {a b : FlR} (h : HS z ad (Q.set_fl (va_up (va_up g i a) i b)) N M) : HS z ad (Q.set_fl (va_up g i b)) N M := by rw [va_up_u] at h; exact h
theorem k_size_ces_of {l : Launch} {D : gD} {s0 : State} (h0 : g_0 l D s0) (hS : HS z ad Q N M) (hc : i < Q.nC) {r : CeR} (hr : Q.ce i = r) : Ct l D s0 y_AL_size (Cond.code y_AL_size b_AL_size 1 (some .int)) (rk 0 0 0) [.ref (ad 13 i)] M (fR (some (.int (nI r.ss.length))) M) := hr ▸ k_size_ces h0 hS hc
theorem k_size_cep_of {l : Launch} {D : gD} {s0 : State} (h0 : g_0 l D s0) (hS : HS z ad Q N M) (hc : i < Q.nC) {r : CeR} (hr : Q.ce i = r) : Ct l D s0 y_AL_size (Cond.code y_AL_size b_AL_size 1 (some .int)) (rk 0 0 0) [.ref (ad 15 i)] M (fR (some (.int (nI r.ps.length))) M) := hr ▸ k_size_cep h0 hS hc
end PU
section PV
variable {D : gD} {s0 : State} {p : Program} {l : Launch} {e : Env} {R : Room} {s : State} {m : MethodId} {args : Array Value} {below : List Frame} {meth : Method} {c : Code} {mc ms fr lo nL : Nat} {F : gR → gH → Prop}
variable {cc : ByteArray} {own nm : String} {ret : Option FieldType} {tb : List ExceptionTableEntry} {pc cl sl : Nat} {ls : List (Nat × Value)} {st : List Value} {M : gH}
theorem ri_ifM_lt (h : gF ((D, s0), (p, l, e, R, s, m, args, below, meth, c), (mc, ms, fr, lo), F, nL) cc own ret tb nm) {a : Nat} {off : Int} (tgt : Nat) (d : decode cc pc = .ok (.ifCond .lt off, 3)) (ht : (pc : Int) + off = (tgt : Int)) (ha : a < 2 ^ 31) (_ : False → G ((D, s0), (p, l, e, R, s, m, args, below, meth, c), (mc, ms, fr, lo), F, nL) tgt ls st M cl sl) (kf : True → G ((D, s0), (p, l, e, R, s, m, args, below, meth, c), (mc, ms, fr, lo), F, nL) (pc + 3) ls st M cl sl) : G ((D, s0), (p, l, e, R, s, m, args, below, meth, c), (mc, ms, fr, lo), F, nL) pc ls (.int (nI a) :: st) M cl sl := ri_if_lt h tgt d ht (fun q => absurd q (nI_pos ha)) (fun _ => kf trivial)
theorem ri_ifM_ge (h : gF ((D, s0), (p, l, e, R, s, m, args, below, meth, c), (mc, ms, fr, lo), F, nL) cc own ret tb nm) {a : Nat} {off : Int} (tgt : Nat) (d : decode cc pc = .ok (.ifCond .ge off, 3)) (ht : (pc : Int) + off = (tgt : Int)) (ha : a < 2 ^ 31) (kt : True → G ((D, s0), (p, l, e, R, s, m, args, below, meth, c), (mc, ms, fr, lo), F, nL) tgt ls st M cl sl) (_ : False → G ((D, s0), (p, l, e, R, s, m, args, below, meth, c), (mc, ms, fr, lo), F, nL) (pc + 3) ls st M cl sl) : G ((D, s0), (p, l, e, R, s, m, args, below, meth, c), (mc, ms, fr, lo), F, nL) pc ls (.int (nI a) :: st) M cl sl := ri_if_ge h tgt d ht (fun _ => kt trivial) (fun q => absurd (nI_pos' ha) q)
theorem ri_acmp_ne (h : gF ((D, s0), (p, l, e, R, s, m, args, below, meth, c), (mc, ms, fr, lo), F, nL) cc own ret tb nm) {x y : Nat} {off : Int} (tgt : Nat) (d : decode cc pc = .ok (.if_acmp .ne off, 3)) (ht : (pc : Int) + off = (tgt : Int)) (kt : ¬ x = y → G ((D, s0), (p, l, e, R, s, m, args, below, meth, c), (mc, ms, fr, lo), F, nL) tgt ls st M cl sl) (kf : x = y → G ((D, s0), (p, l, e, R, s, m, args, below, meth, c), (mc, ms, fr, lo), F, nL) (pc + 3) ls st M cl sl) : G ((D, s0), (p, l, e, R, s, m, args, below, meth, c), (mc, ms, fr, lo), F, nL) pc ls (.ref y :: .ref x :: st) M cl sl := by
  obtain ⟨hx, hb, -⟩ := h
  intro H locs arr hP hS hN hL hl
  exact lv_acmp_ne (rx := some x) (ry := some y) hx hb d ht (fun q => kt (fun e => q (by rw [e])) H locs arr hP hS hN hL hl) (fun q => kf (Option.some.inj q) H locs arr hP hS hN hL hl)
theorem ri_ialdE (h : gF ((D, s0), (p, l, e, R, s, m, args, below, meth, c), (mc, ms, fr, lo), F, nL) cc own ret tb nm) {a n : Nat} {g : Nat → Int32} {x v : Int32} (j : Nat) (d : decode cc pc = .ok (.iaload, 1)) (hM : M a = some (ai n g)) (hx0 : x = nI j) (hj : j < n) (hn : n < 2147483648) (hv : g j = v) (k : G ((D, s0), (p, l, e, R, s, m, args, below, meth, c), (mc, ms, fr, lo), F, nL) (pc + 1) ls (.int v :: st) M cl sl) : G ((D, s0), (p, l, e, R, s, m, args, below, meth, c), (mc, ms, fr, lo), F, nL) pc ls (.int x :: .ref a :: st) M cl sl := ri_iald h j d hM hx0 hj hn (hv ▸ k)
theorem ri_laldE (h : gF ((D, s0), (p, l, e, R, s, m, args, below, meth, c), (mc, ms, fr, lo), F, nL) cc own ret tb nm) {a n : Nat} {g : Nat → Int64} {x : Int32} {v : Int64} (j : Nat) (d : decode cc pc = .ok (.laload, 1)) (hM : M a = some (al n g)) (hx0 : x = nI j) (hj : j < n) (hn : n < 2147483648) (hv : g j = v) (k : G ((D, s0), (p, l, e, R, s, m, args, below, meth, c), (mc, ms, fr, lo), F, nL) (pc + 1) ls (.long v :: st) M cl sl) : G ((D, s0), (p, l, e, R, s, m, args, below, meth, c), (mc, ms, fr, lo), F, nL) pc ls (.int x :: .ref a :: st) M cl sl := ri_lald h j d hM hx0 hj hn (hv ▸ k)
theorem ri_zaldE (h : gF ((D, s0), (p, l, e, R, s, m, args, below, meth, c), (mc, ms, fr, lo), F, nL) cc own ret tb nm) {a n : Nat} {g : Nat → Int32} {x v : Int32} (j : Nat) (d : decode cc pc = .ok (.baload, 1)) (hM : M a = some (ab n g)) (hx0 : x = nI j) (hj : j < n) (hn : n < 2147483648) (hv : g j = v) (k : G ((D, s0), (p, l, e, R, s, m, args, below, meth, c), (mc, ms, fr, lo), F, nL) (pc + 1) ls (.int v :: st) M cl sl) : G ((D, s0), (p, l, e, R, s, m, args, below, meth, c), (mc, ms, fr, lo), F, nL) pc ls (.int x :: .ref a :: st) M cl sl := ri_zald h j d hM hx0 hj hn (hv ▸ k)
end PV
theorem HS.inj12 {z : Nat} {ad : gA} {Q : CS} {N : MS} {M : gH} (h : HS z ad Q N M) {a b : Nat} (ha : a < Q.nC) (hb : b < Q.nC) (e : ad 12 a = ad 12 b) : a = b := by
  obtain ⟨dd, I, hR, hC, -⟩ := h
  exact (hR.2 12 a 12 b (by rw [hC.ce a ha]; simp) (by rw [hC.ce b hb]; simp) (by simpa [mix] using e)).2
theorem HS.inj18 {z : Nat} {ad : gA} {Q : CS} {N : MS} {M : gH} (h : HS z ad Q N M) {a b : Nat} (ha : a < Q.nS) (hb : b < Q.nS) (e : ad 18 a = ad 18 b) : a = b := by
  obtain ⟨dd, I, hR, hC, -⟩ := h
  exact (hR.2 18 a 18 b (by rw [hC.sh a ha]; simp) (by rw [hC.sh b hb]; simp) (by simpa [mix] using e)).2
