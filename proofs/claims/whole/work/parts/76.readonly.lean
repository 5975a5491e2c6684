/-! what the reading calls answer, in one value -/
abbrev roC (τ : xSg) (S : zS) (v : Value) (r : Option Value) (σ' : xSg) : Prop := r = some v ∧ CH0 σ' S ∧ ∀ c, 57 ≤ c → σ' c = τ c
abbrev roM (τ : xSg) (S : zS) (v : Value) (r : Option Value) (σ' : xSg) : Prop := r = some v ∧ RH0 σ' S ∧ ∀ c, c < 57 → σ' c = τ c
section RO
variable {τ σ' : xSg} {S : zS} {r : Option Value}
theorem k_rgn (ok : sOk S) : S.1.1 ≤ 10 := ok.1.1.1
theorem c_n (h : CH0 τ S) : τ 1 0 = nI S.1.1 := h.1.1
theorem c_w (h : CH0 τ S) : τ 1 1 = cW S.1 := h.1.2.1
theorem c_g (h : CH0 τ S) : τ 1 2 = cG S.1 := h.1.2.2.1
theorem c_l (h : CH0 τ S) : τ 1 13 = nI (cL S.1) := h.1.2.2.2.1
theorem c_7 (hτ : nrm τ = τ) (ok : sOk S) (h : CH0 τ S) : τ 7 = aLa (kA S.1) := by rw [← ch_at hτ ok h]
theorem c_6 (hτ : nrm τ = τ) (ok : sOk S) (h : CH0 τ S) : τ 6 = aCo (kA S.1) := by rw [← ch_at hτ ok h]
theorem c_9 (hτ : nrm τ = τ) (ok : sOk S) (h : CH0 τ S) : τ 9 = aS (kA S.1) := by rw [← ch_at hτ ok h]
theorem c_ok (hτ : nrm τ = τ) (ok : sOk S) (h : CH0 τ S) : aOk (atC τ) S.1.1 := by rw [ch_at hτ ok h]; exact ok.1.1
theorem c_wn (ok : sOk S) (h : CH0 τ S) : ∀ j, j < 32 → bt (τ 1 1) j = true → j < S.1.1 := by rw [c_w h]; exact ok.1.2.2.1.1
theorem c_lA (hτ : nrm τ = τ) (ok : sOk S) (h : CH0 τ S) : laneL S.1.1 (τ 1 1) (τ 7) 0 = lA S.1 := by rw [c_w h, c_7 hτ ok h]
theorem c_lB (hτ : nrm τ = τ) (ok : sOk S) (h : CH0 τ S) : laneL S.1.1 (τ 1 1) (τ 7) 1 = lB S.1 := by rw [c_w h, c_7 hτ ok h]
abbrev zF (S : zS) : sSt := s_fill (kA S.1) (kT S.1) (lA S.1) (lB S.1)
theorem c_flw (hτ : nrm τ = τ) (ok : sOk S) (h : CH0 τ S) : s_flw (atC τ) (tkC τ) S.1.1 (τ 1 1) = zF S := by rw [ch_at hτ ok h, ch_tk ok h, c_w h]; rfl
theorem roS (h : CH0 τ S) (e : σ' = τ) : CH0 σ' S ∧ ∀ c, 57 ≤ c → σ' c = τ c := by subst e; exact ⟨h, fun _ _ => rfl⟩
theorem roR (h : RH0 τ S) (e : σ' = τ) : RH0 σ' S ∧ ∀ c, c < 57 → σ' c = τ c := by subst e; exact ⟨h, fun _ _ => rfl⟩
theorem m_n (h : RH0 τ S) : τ 57 0 = nI S.1.1 := h.1.1
theorem m_62 (hτ : nrm τ = τ) (ok : sOk S) (h : RH0 τ S) : τ 62 = aCo (kA S.1) := by rw [← rh_at hτ ok h]
theorem m_68 (hτ : nrm τ = τ) (ok : sOk S) (h : RH0 τ S) : τ 68 = aS (kA S.1) := by rw [← rh_at hτ ok h]
theorem m_st (h : RH0 τ S) : ∀ j, j < S.1.1 → τ 64 j = s_st (cW S.1) (cG S.1) j := h.1.2.2.2.2.2.1
theorem m_fil (hτ : nrm τ = τ) (ok : sOk S) (h : RH0 τ S) : s_fill (atM τ) (tkM τ) (lA S.1) (lB S.1) = zF S := by rw [rh_at hτ ok h, rh_tk ok h]
/- may -/
theorem kc_may (hτ : nrm τ = τ) (ok : sOk S) (h : CH0 τ S) {d : Int32} (q : r = some (.int (s_may (τ 11) d)) ∧ σ' = τ) : roC τ S (.int (s_may (kC S.1) d)) r σ' := ⟨by rw [q.1, ch_cap hτ ok h], roS h q.2⟩
theorem km_cap (h : RH0 τ S) : ∀ i, i < 100 → τ 70 i = kC S.1 i + 1 := h.1.2.2.2.1
theorem km_may (h : RH0 τ S) {d : Int32} (q : r = some (.int (s_may (kC S.1) d)) ∧ σ' = τ) : roM τ S (.int (s_may (kC S.1) d)) r σ' := ⟨q.1, roR h q.2⟩
/- told -/
theorem tld_c {n : Nat} {a : sAt} {f g b : Nat → Int32} {x wh : Int32} (h : ∀ j, j < n → f j = g j) : s_tld n a f b x wh = s_tld n a g b x wh := by
  unfold s_tld
  split
  next q =>
    obtain ⟨j, hj, hj31, rfl⟩ := iN_of q
    unfold s_told
    rw [nI_clamp hj31, h j hj]
  next => rfl
theorem kc_told (hτ : nrm τ = τ) (ok : sOk S) (h : CH0 τ S) {x wh : Int32} (q : r = some (.int (s_tld S.1.1 (atC τ) (s_st (τ 1 1) (τ 1 2)) (τ 8) x wh)) ∧ σ' = τ) : roC τ S (.int (s_tld S.1.1 (kA S.1) (s_st (cW S.1) (cG S.1)) (cB S.1) x wh)) r σ' := ⟨by rw [q.1, ch_at hτ ok h, ch_by hτ ok h, c_w h, c_g h], roS h q.2⟩
theorem km_told (hτ : nrm τ = τ) (ok : sOk S) (h : RH0 τ S) {x wh : Int32} (q : r = some (.int (s_tld S.1.1 (atM τ) (τ 64) (τ 65) x wh)) ∧ σ' = τ) : roM τ S (.int (s_tld S.1.1 (kA S.1) (s_st (cW S.1) (cG S.1)) (cB S.1) x wh)) r σ' := ⟨by rw [q.1, rh_at hτ ok h, rh_by hτ ok h, tld_c (m_st h)], roR h q.2⟩
/- lane -/
theorem kc_lane (hτ : nrm τ = τ) (ok : sOk S) (h : CH0 τ S) {l i : Int32} (q : r = some (.int (s_lane (laneL S.1.1 (τ 1 1) (τ 7) 0) (laneL S.1.1 (τ 1 1) (τ 7) 1) l i)) ∧ σ' = τ) : roC τ S (.int (s_lane (lA S.1) (lB S.1) l i)) r σ' := ⟨by rw [q.1, c_lA hτ ok h, c_lB hτ ok h], roS h q.2⟩
theorem km_lane (h : RH0 τ S) {l i : Int32} (q : r = some (.int (s_lane (lA S.1) (lB S.1) l i)) ∧ σ' = τ) : roM τ S (.int (s_lane (lA S.1) (lB S.1) l i)) r σ' := ⟨q.1, roR h q.2⟩
/- count -/
theorem free_c {f g : Nat → Nat → Bool} {L : Nat} : ∀ {R : Nat}, (∀ r p, r < R → p < L → f r p = g r p) → s_free f L R = s_free g L R
  | 0, _ => rfl
  | R + 1, h => by
    unfold s_free
    rw [free_c (R := R) (fun r p hr hp => h r p (by omega) hp), n_cntg (fun p hp => h R p (by omega) hp)]
def zCnt (S : zS) (wh : Int32) : Int32 := s_cnt (aS (kA S.1)) (nI S.1.1) (nI ((lA S.1).length + (lB S.1).length)) (nI (cL S.1)) (nI (zDs S).length) (nI (s_free (fun r p => !kT S.1 r p) (s_long (kA S.1)) (s_rows (kA S.1)))) wh
theorem bc_lanes (ok : sOk S) : bcI (cW S.1) = nI ((lA S.1).length + (lB S.1).length) := by
  have hn := ok.1.1.1
  have h1 : ∀ j, j < 32 → bt (cW S.1) j = decide (j ∈ lA S.1 ++ lB S.1) := fun j hj => by
    have := laneL_or (a := kA S.1) ok.1.1 ok.1.2.2.1.1 hj
    cases hb : bt (cW S.1) j with
    | true => exact (decide_eq_true (List.mem_append.mpr (this.mpr hb))).symm
    | false => exact (decide_eq_false (fun q => by have := this.mp (List.mem_append.mp q); rw [hb] at this; cases this)).symm
  have h2 : (lA S.1 ++ lB S.1).Nodup := List.nodup_append.mpr ⟨laneL_nodup _ _ _ _, laneL_nodup _ _ _ _, fun x hx y hy e => laneL_apart x hx (by rw [e]; exact hy)⟩
  rw [bc_in h1 h2 (fun y hy => ?_), List.length_append]
  rcases List.mem_append.mp hy with q | q
  · have := (lnp_lt q).1; omega
  · have := (lnp_lt q).1; omega
theorem kc_count (hτ : nrm τ = τ) (ok : sOk S) (h : CH0 τ S) {wh : Int32} (q : r = some (.int (s_cnt (τ 9) (τ 1 0) (bcI (τ 1 1)) (τ 1 13) (τ 0 4) (nI (s_free (fun r p => !bt (τ 10 r) p) (s_long (kA S.1)) (s_rows (kA S.1)))) wh)) ∧ σ' = τ) : roC τ S (.int (zCnt S wh)) r σ' := by
  refine ⟨?_, roS h q.2⟩
  obtain ⟨-, l1, l2⟩ := s_long_ok ok.1.1
  obtain ⟨-, r1, r2⟩ := s_rows_ok ok.1.1
  rw [q.1, c_9 hτ ok h, c_n h, c_w h, bc_lanes ok, c_l h, h.2.2.2.1, free_c (g := fun r p => !kT S.1 r p) (fun r p hr hp => by rw [h.1.2.2.2.2.2.2.1 r p (by omega) (by omega)])]
  rfl
theorem km_count (hτ : nrm τ = τ) (ok : sOk S) (h : RH0 τ S) {wh : Int32} (q : r = some (.int (s_cnt (τ 68) (τ 57 0) (τ 67 0 + τ 67 1) (τ 57 14) (τ 57 16) (nI (s_free (fun r p => decide (τ 69 (20 * r + p) = 0)) (s_long (kA S.1)) (s_rows (kA S.1)))) wh)) ∧ σ' = τ) : roM τ S (.int (zCnt S wh)) r σ' := by
  refine ⟨?_, roR h q.2⟩
  obtain ⟨-, l1, l2⟩ := s_long_ok ok.1.1
  obtain ⟨-, r1, r2⟩ := s_rows_ok ok.1.1
  have hl := h.1.2.2.2.2.2
  rw [q.1, m_68 hτ ok h, m_n h, hl.2.2.2.2.1, hl.2.2.2.2.2.1, nI_add, hl.2.2.2.2.2.2, h.2.2.2.1, free_c (g := fun r p => !kT S.1 r p) (fun r p hr hp => by
    rw [h.1.2.2.1 r p (by omega) (by omega)]
    cases hb : kT S.1 r p with
    | false => rw [zi_f (by simp)]; rfl
    | true => rw [zi_t rfl]; rfl)]
  rfl
theorem k_0 (ok : sOk S) : s_long (kA S.1) < 21 ∧ s_rows (kA S.1) ≤ 3 := by
  obtain ⟨-, l1, l2⟩ := s_long_ok ok.1.1
  obtain ⟨-, r1, r2⟩ := s_rows_ok ok.1.1
  exact ⟨by omega, r2⟩
theorem c_long (hτ : nrm τ = τ) (ok : sOk S) (h : CH0 τ S) : τ 9 0 = nI (s_long (kA S.1)) ∧ τ 9 1 = nI (s_rows (kA S.1)) := by
  rw [c_9 hτ ok h]
  exact ⟨(s_long_ok ok.1.1).1, (s_rows_ok ok.1.1).1⟩
theorem m_long (hτ : nrm τ = τ) (ok : sOk S) (h : RH0 τ S) : τ 68 0 = nI (s_long (kA S.1)) ∧ τ 68 1 = nI (s_rows (kA S.1)) := by
  rw [m_68 hτ ok h]
  exact ⟨(s_long_ok ok.1.1).1, (s_rows_ok ok.1.1).1⟩
/- taken -/
theorem kc_taken (hτ : nrm τ = τ) (ok : sOk S) (h : CH0 τ S) {x k : Int32} (q : r = some (.int (s_tak S.1.1 (atC τ) x k)) ∧ σ' = τ) : roC τ S (.int (s_tak S.1.1 (kA S.1) x k)) r σ' := ⟨by rw [q.1, ch_at hτ ok h], roS h q.2⟩
theorem km_taken (hτ : nrm τ = τ) (ok : sOk S) (h : RH0 τ S) {x k : Int32} (q : r = some (.int (s_tak S.1.1 (atM τ) x k)) ∧ σ' = τ) : roM τ S (.int (s_tak S.1.1 (kA S.1) x k)) r σ' := ⟨by rw [q.1, rh_at hτ ok h], roR h q.2⟩
/- next, water -/
theorem kc_next (hτ : nrm τ = τ) (ok : sOk S) (h : CH0 τ S) {k wh : Int32} (q : r = some (.int (s_nxt (s_went (s_flw (atC τ) (tkC τ) S.1.1 (τ 1 1))) k wh)) ∧ xFr scC τ σ') : roC τ S (.int (s_nxt (s_went (zF S)) k wh)) r σ' := ⟨by rw [q.1, c_flw hτ ok h], ro_c h q.2⟩
theorem km_next (hτ : nrm τ = τ) (ok : sOk S) (h : RH0 τ S) {k wh : Int32} (q : r = some (.int (s_nxt (s_went (s_fill (atM τ) (tkM τ) (lA S.1) (lB S.1))) k wh)) ∧ xFm scM scP τ σ') : roM τ S (.int (s_nxt (s_went (zF S)) k wh)) r σ' := ⟨by rw [q.1, m_fil hτ ok h], ro_m h q.2⟩
theorem kc_water (hτ : nrm τ = τ) (ok : sOk S) (h : CH0 τ S) (q : r = some (.long (s_wat (atC τ) (s_went (s_flw (atC τ) (tkC τ) S.1.1 (τ 1 1))))) ∧ xFr scC τ σ') : roC τ S (.long (s_wat (kA S.1) (s_went (zF S)))) r σ' := ⟨by rw [q.1, c_flw hτ ok h, ch_at hτ ok h], ro_c h q.2⟩
theorem km_water (hτ : nrm τ = τ) (ok : sOk S) (h : RH0 τ S) (q : r = some (.long (s_wat (atM τ) (s_went (s_fill (atM τ) (tkM τ) (lA S.1) (lB S.1))))) ∧ xFm scM scP τ σ') : roM τ S (.long (s_wat (kA S.1) (s_went (zF S)))) r σ' := ⟨by rw [q.1, m_fil hτ ok h, rh_at hτ ok h], ro_m h q.2⟩
/- spent -/
theorem kc_spent (h : CH0 τ S) {i : Int32} (q : r = some (.long (s_spn (kL S.1) (cL S.1) i)) ∧ σ' = τ) : roC τ S (.long (s_spn (kL S.1) (cL S.1) i)) r σ' := ⟨q.1, roS h q.2⟩
theorem km_spent (h : RH0 τ S) {i : Int32} (q : r = some (.long (s_spn (kL S.1) (cL S.1) i)) ∧ σ' = τ) : roM τ S (.long (s_spn (kL S.1) (cL S.1) i)) r σ' := ⟨q.1, roR h q.2⟩
/- plan -/
abbrev zPl (S : zS) : Nat × Int32 × List Nat × List Nat := s_plan (kA S.1) (kT S.1) 10 (lA S.1) (lB S.1) 0 0
def plV (S : zS) (wh rI : Int32) : Prop := ((wh < 0 ∨ 2 < wh) → rI = -2) ∧ (wh = 0 → rI = nI (zPl S).1) ∧ (wh = 1 → ∀ j, j < 32 → bt rI j = decide (j ∈ (zPl S).2.2.1 ∨ j ∈ (zPl S).2.2.2)) ∧ (wh = 2 → rI = (zPl S).2.1)
theorem plV_eq {wh x y : Int32} (h1 : plV S wh x) (h2 : plV S wh y) : x = y := by
  by_cases h : wh < 0 ∨ 2 < wh
  · rw [h1.1 h, h2.1 h]
  · obtain ⟨j, hj, rfl⟩ := nI_of (x := wh) (fun z => h (Or.inl z))
    have h3 : j ≤ 2 := by have := mt (fun z => nI_lt (a := 2) (b := j) z hj) (fun z => h (Or.inr z)); omega
    rcases (show j = 0 ∨ j = 1 ∨ j = 2 by omega) with rfl | rfl | rfl
    · rw [h1.2.1 rfl, h2.2.1 rfl]
    · exact b_ext (fun i hi => by rw [h1.2.2.1 rfl i hi, h2.2.2.1 rfl i hi])
    · rw [h1.2.2.2 rfl, h2.2.2.2 rfl]
theorem kc_plan (hτ : nrm τ = τ) (ok : sOk S) (h : CH0 τ S) {wh : Int32} (q : (∃ rI : Int32, r = some (.int rI) ∧ ((wh < 0 ∨ 2 < wh) → rI = -2) ∧ (wh = 0 → rI = nI (s_plan (atC τ) (tkC τ) 10 (laneL S.1.1 (τ 1 1) (τ 7) 0) (laneL S.1.1 (τ 1 1) (τ 7) 1) 0 0).1) ∧ (wh = 1 → ∀ j, j < 32 → bt rI j = decide (j ∈ (s_plan (atC τ) (tkC τ) 10 (laneL S.1.1 (τ 1 1) (τ 7) 0) (laneL S.1.1 (τ 1 1) (τ 7) 1) 0 0).2.2.1 ∨ j ∈ (s_plan (atC τ) (tkC τ) 10 (laneL S.1.1 (τ 1 1) (τ 7) 0) (laneL S.1.1 (τ 1 1) (τ 7) 1) 0 0).2.2.2)) ∧ (wh = 2 → rI = (s_plan (atC τ) (tkC τ) 10 (laneL S.1.1 (τ 1 1) (τ 7) 0) (laneL S.1.1 (τ 1 1) (τ 7) 1) 0 0).2.1)) ∧ xFr scC τ σ') : ∃ rI, plV S wh rI ∧ roC τ S (.int rI) r σ' := by
  obtain ⟨⟨rI, q1, q2⟩, q3⟩ := q
  rw [ch_at hτ ok h, ch_tk ok h, c_lA hτ ok h, c_lB hτ ok h] at q2
  exact ⟨rI, q2, q1, ro_c h q3⟩
theorem km_plan (hτ : nrm τ = τ) (ok : sOk S) (h : RH0 τ S) {wh : Int32} (q : (∃ rI : Int32, r = some (.int rI) ∧ ((wh < 0 ∨ 2 < wh) → rI = -2) ∧ (wh = 0 → rI = nI (s_plan (atM τ) (tkM τ) 10 (lA S.1) (lB S.1) 0 0).1) ∧ (wh = 1 → ∀ j, j < 32 → bt rI j = decide (j ∈ (s_plan (atM τ) (tkM τ) 10 (lA S.1) (lB S.1) 0 0).2.2.1 ∨ j ∈ (s_plan (atM τ) (tkM τ) 10 (lA S.1) (lB S.1) 0 0).2.2.2)) ∧ (wh = 2 → rI = (s_plan (atM τ) (tkM τ) 10 (lA S.1) (lB S.1) 0 0).2.1)) ∧ xFm scM scP τ σ') : ∃ rI, plV S wh rI ∧ roM τ S (.int rI) r σ' := by
  obtain ⟨⟨rI, q1, q2⟩, q3⟩ := q
  rw [rh_at hτ ok h, rh_tk ok h] at q2
  exact ⟨rI, q2, q1, ro_m h q3⟩
/- drought -/
abbrev zDr (S : zS) : Int32 := s_dr (kA S.1) (kT S.1) (kC S.1) 10 (lA S.1) (lB S.1) 0 0 (-1)
theorem kc_drought (hτ : nrm τ = τ) (ok : sOk S) (h : CH0 τ S) (q : r = some (.int (s_dr (atC τ) (tkC τ) (τ 11) 10 (laneL S.1.1 (τ 1 1) (τ 7) 0) (laneL S.1.1 (τ 1 1) (τ 7) 1) 0 0 (-1))) ∧ xFr scC τ σ') : roC τ S (.int (zDr S)) r σ' := ⟨by rw [q.1, ch_at hτ ok h, ch_tk ok h, ch_cap hτ ok h, c_lA hτ ok h, c_lB hτ ok h], ro_c h q.2⟩
theorem km_drought (hτ : nrm τ = τ) (ok : sOk S) (h : RH0 τ S) (q : r = some (.int (s_dr (atM τ) (tkM τ) (kC S.1) 10 (lA S.1) (lB S.1) 0 0 (-1))) ∧ xFm scM scP τ σ') : roM τ S (.int (zDr S)) r σ' := ⟨by rw [q.1, rh_at hτ ok h, rh_tk ok h], ro_m h q.2⟩
/- as they come -/
abbrev zAr (S : zS) : aSt := s_ar (kA S.1) (kT S.1) (lA S.1) (lB S.1) 21 0 (fun _ => none, 0, none)
theorem c_ar (hτ : nrm τ = τ) (ok : sOk S) (h : CH0 τ S) : s_ar (atC τ) (tkC τ) (laneL S.1.1 (τ 1 1) (τ 7) 0) (laneL S.1.1 (τ 1 1) (τ 7) 1) 21 0 (fun _ => none, 0, none) = zAr S := by rw [ch_at hτ ok h, ch_tk ok h, c_lA hτ ok h, c_lB hτ ok h]
theorem m_ar (hτ : nrm τ = τ) (ok : sOk S) (h : RH0 τ S) : s_ar (atM τ) (tkM τ) (lA S.1) (lB S.1) 21 0 (fun _ => none, 0, none) = zAr S := by rw [rh_at hτ ok h, rh_tk ok h]
theorem kc_waits (hτ : nrm τ = τ) (ok : sOk S) (h : CH0 τ S) {x : Int32} (q : r = some (.int (s_wts S.1.1 (τ 1 1) (τ 6) (s_ar (atC τ) (tkC τ) (laneL S.1.1 (τ 1 1) (τ 7) 0) (laneL S.1.1 (τ 1 1) (τ 7) 1) 21 0 (fun _ => none, 0, none)) x)) ∧ xFr scC τ σ') : roC τ S (.int (s_wts S.1.1 (cW S.1) (aCo (kA S.1)) (zAr S) x)) r σ' := ⟨by rw [q.1, c_ar hτ ok h, c_w h, c_6 hτ ok h], ro_c h q.2⟩
theorem km_waits (hτ : nrm τ = τ) (ok : sOk S) (h : RH0 τ S) {x : Int32} (q : r = some (.int (s_wts S.1.1 (cW S.1) (τ 62) (s_ar (atM τ) (tkM τ) (lA S.1) (lB S.1) 21 0 (fun _ => none, 0, none)) x)) ∧ xFm scM scP τ σ') : roM τ S (.int (s_wts S.1.1 (cW S.1) (aCo (kA S.1)) (zAr S) x)) r σ' := ⟨by rw [q.1, m_ar hτ ok h, m_62 hτ ok h], ro_m h q.2⟩
theorem kc_line (hτ : nrm τ = τ) (ok : sOk S) (h : CH0 τ S) {i : Int32} (q : r = some (.int (s_lin (τ 6) (s_ar (atC τ) (tkC τ) (laneL S.1.1 (τ 1 1) (τ 7) 0) (laneL S.1.1 (τ 1 1) (τ 7) 1) 21 0 (fun _ => none, 0, none)) i)) ∧ xFr scC τ σ') : roC τ S (.int (s_lin (aCo (kA S.1)) (zAr S) i)) r σ' := ⟨by rw [q.1, c_ar hτ ok h, c_6 hτ ok h], ro_c h q.2⟩
theorem km_line (hτ : nrm τ = τ) (ok : sOk S) (h : RH0 τ S) {i : Int32} (q : r = some (.int (s_lin (τ 62) (s_ar (atM τ) (tkM τ) (lA S.1) (lB S.1) 21 0 (fun _ => none, 0, none)) i)) ∧ xFm scM scP τ σ') : roM τ S (.int (s_lin (aCo (kA S.1)) (zAr S) i)) r σ' := ⟨by rw [q.1, m_ar hτ ok h, m_62 hτ ok h], ro_m h q.2⟩
theorem kc_day (hτ : nrm τ = τ) (ok : sOk S) (h : CH0 τ S) {i : Int32} (q : r = some (.int (s_dy (τ 6) (s_ar (atC τ) (tkC τ) (laneL S.1.1 (τ 1 1) (τ 7) 0) (laneL S.1.1 (τ 1 1) (τ 7) 1) 21 0 (fun _ => none, 0, none)) i)) ∧ xFr scC τ σ') : roC τ S (.int (s_dy (aCo (kA S.1)) (zAr S) i)) r σ' := ⟨by rw [q.1, c_ar hτ ok h, c_6 hτ ok h], ro_c h q.2⟩
theorem km_day (hτ : nrm τ = τ) (ok : sOk S) (h : RH0 τ S) {i : Int32} (q : r = some (.int (s_dy (τ 62) (s_ar (atM τ) (tkM τ) (lA S.1) (lB S.1) 21 0 (fun _ => none, 0, none)) i)) ∧ xFm scM scP τ σ') : roM τ S (.int (s_dy (aCo (kA S.1)) (zAr S) i)) r σ' := ⟨by rw [q.1, m_ar hτ ok h, m_62 hτ ok h], ro_m h q.2⟩
/- freely -/
abbrev zTb (S : zS) : sV := s_T (kA S.1) (kT S.1) (lA S.1) (lB S.1) 0 0
theorem kc_freely (hτ : nrm τ = τ) (ok : sOk S) (h : CH0 τ S) {i : Int32} (q : r = some (.int (s_fre (s_T (atC τ) (tkC τ) (laneL S.1.1 (τ 1 1) (τ 7) 0) (laneL S.1.1 (τ 1 1) (τ 7) 1) 0 0) i)) ∧ xFr scC τ σ') : roC τ S (.int (s_fre (zTb S) i)) r σ' := ⟨by rw [q.1, ch_at hτ ok h, ch_tk ok h, c_lA hτ ok h, c_lB hτ ok h], ro_c h q.2⟩
theorem km_freely (hτ : nrm τ = τ) (ok : sOk S) (h : RH0 τ S) {i : Int32} (q : r = some (.int (s_fre (s_T (atM τ) (tkM τ) (lA S.1) (lB S.1) 0 0) i)) ∧ xFm scM scP τ σ') : roM τ S (.int (s_fre (zTb S) i)) r σ' := ⟨by rw [q.1, rh_at hτ ok h, rh_tk ok h], ro_m h q.2⟩
/- tells -/
abbrev zTl (S : zS) (s x wh : Int32) : Int32 := s_tel S.1.1 (cW S.1) (kA S.1) (kT S.1) (lA S.1) (lB S.1) S.2.2.2 s x wh
theorem kc_tells (hτ : nrm τ = τ) (ok : sOk S) (h : CH0 τ S) {s x wh : Int32} (q : r = some (.int (s_tel S.1.1 (τ 1 1) (atC τ) (tkC τ) (laneL S.1.1 (τ 1 1) (τ 7) 0) (laneL S.1.1 (τ 1 1) (τ 7) 1) S.2.2.2 s x wh)) ∧ xFr scC τ σ') : roC τ S (.int (zTl S s x wh)) r σ' := ⟨by rw [q.1, ch_at hτ ok h, ch_tk ok h, c_lA hτ ok h, c_lB hτ ok h, c_w h], ro_c h q.2⟩
theorem km_tells (hτ : nrm τ = τ) (ok : sOk S) (h : RH0 τ S) {s x wh : Int32} (q : r = some (.int (s_tel S.1.1 (cW S.1) (atM τ) (tkM τ) (lA S.1) (lB S.1) S.2.2.2 s x wh)) ∧ xFm scM scP τ σ') : roM τ S (.int (zTl S s x wh)) r σ' := ⟨by rw [q.1, rh_at hτ ok h, rh_tk ok h], ro_m h q.2⟩
end RO
