/-- who stands there, in thought, as the reference keeps it -/
def SR (σ : xSg) (A B : List Nat) : Prop := A.length ≤ 10 ∧ B.length ≤ 10 ∧ (∀ (i x : Nat), A[i]? = some x → σ 74 i = nI x) ∧ (∀ (i x : Nat), B[i]? = some x → σ 74 (10 + i) = nI x) ∧ σ 75 0 = nI A.length ∧ σ 75 1 = nI B.length
theorem s_sec_defM (σ : xSg) (x y : Nat) (lt : Bool) : s_sec (atM σ) x y lt = (if σ 68 4 = 1 then decide (s_rank (σ 58) (σ 60) x < s_rank (σ 58) (σ 60) y)
  else if σ 68 4 = 2 then decide (s_span (σ 58) (σ 59) y < s_span (σ 58) (σ 59) x)
  else if σ 68 4 = 3 then decide (σ 62 y < σ 62 x)
  else if σ 68 4 = 4 then decide (σ 61 x < σ 61 y)
  else lt) := rfl
theorem rg04 {x : Int32} (h : rg x 0 4) (h0 : ¬ x = 0) (h1 : ¬ x = 1) (h2 : ¬ x = 2) (h3 : ¬ x = 3) : x = 4 := by
  obtain ⟨j, rfl, -, hj⟩ := h
  rcases (by omega : j = 0 ∨ j = 1 ∨ j = 2 ∨ j = 3 ∨ j = 4) with rfl | rfl | rfl | rfl | rfl
  · exact absurd rfl h0
  · exact absurd rfl h1
  · exact absurd rfl h2
  · exact absurd rfl h3
  · rfl
/-- a row whose run from b on, k long, has moved one place down -/
def s_shf (f : Nat → Int32) (b k : Nat) : Nat → Int32 := fun j => if b ≤ j ∧ j + 1 < b + k then f (j + 1) else f j
theorem s_shf_1 {f : Nat → Int32} {b : Nat} : s_shf f b 1 = f := by
  funext j
  unfold s_shf
  rw [if_neg (by omega)]
theorem s_shf_up {f : Nat → Int32} {b k : Nat} (hk : 1 ≤ k) : upd (s_shf f b k) (b + k - 1) (s_shf f b k (b + k)) = s_shf f b (k + 1) := by
  funext j
  unfold upd
  by_cases hj : j = b + k - 1
  · rw [if_pos hj]
    unfold s_shf
    rw [if_neg (by omega), if_pos (by omega), hj]
    congr 1
    omega
  · rw [if_neg hj]
    unfold s_shf
    by_cases h : b ≤ j ∧ j + 1 < b + k
    · rw [if_pos h, if_pos (by omega)]
    · rw [if_neg h, if_neg (by omega)]
set_option maxRecDepth 100000 in
theorem m_isOther (σ : xSg) (x y : Nat) (la : Int32) (hx : x < 10) (hy : y < 10) (h0 : σ 74 0 = nI x) (h10 : σ 74 10 = nI y) (h4 : rg (σ 68 4) 0 4) : xPu M_X6_isOther [.ref 57, .int la] σ (.int (zi (s_sec (atM σ) x y (decide (la = 0)) = true))) := by
  have hxc : (nI x).toNatClampNeg = x := nI_clamp (by omega)
  have hyc : (nI y).toNatClampNeg = y := nI_clamp (by omega)
  refine ctr_ev ok_X6_isOther (by decide +kernel) rfl rfl rfl ?_
  show xEv (.inl 2) M_X6_isOther _ 0 ([some (.ref 57), some (.int (la)), none, none], [], σ)
  refine ev_sw 14 [vp_in ((0 : Int32)) 20, vp_in ((10 : Int32)) 20, vp_in ((4 : Int32)) 5] ((σ 68) 4) [((0 : Int32), 52), ((1 : Int32), 62), ((2 : Int32), 81), ((3 : Int32), 100)] 121 ([some (.ref 57), some (.int (la)), some (.int ((σ 74) 0)), some (.int ((σ 74) 10))], [], σ) rfl ?_ ?_
  · exact ⟨vp_in_nI (n := 0) (by decide) (by decide), vp_in_nI (n := 10) (by decide) (by decide), vp_in_nI (n := 4) (by decide) (by decide)⟩
  refine ⟨fun c21_0 => ?_, fun c21_0 => ?_⟩
  · refine ev_br 1 [] (¬ la = 0) 60 56 ([some (.ref 57), some (.int (la)), some (.int ((σ 74) 0)), some (.int ((σ 74) 10))], [], σ) rfl ?_ (fun c53 => ?_) (fun c53 => ?_)
    · trivial
    · rw [h10]
      rw [h0]
      refine ev_blk 1 [] 61 ([some (.ref 57), some (.int (la)), some (.int (nI x)), some (.int (nI y))], [.int ((0 : Int32))], σ) rfl ?_ ?_
      · trivial
      exact ev_iret rfl rfl nar0 (pu_f (by rw [s_sec_defM]; simp_all))
    · rw [h10]
      rw [h0]
      refine ev_blk 2 [] 61 ([some (.ref 57), some (.int (la)), some (.int (nI x)), some (.int (nI y))], [.int ((1 : Int32))], σ) rfl ?_ ?_
      · trivial
      exact ev_iret rfl rfl nar1 (pu_t (by rw [s_sec_defM]; simp_all))
  refine ⟨fun c21_1 => ?_, fun c21_1 => ?_⟩
  · refine ev_blk 2 [] 64 ([some (.ref 57), some (.int (la)), some (.int ((σ 74) 0)), some (.int ((σ 74) 10))], [.int ((σ 74) 10), .ref 57], σ) rfl ?_ ?_
    · trivial
    rw [h10]
    rw [h0]
    refine ev_callV M_X6_rankOf [.int (nI y)] [] 57 rfl rfl ln_X6_143 k_X6_rankOf rfl rfl rfl rfl rfl rfl (m_rank _ _ (vp_in_nI (by omega) (by decide))) ?_
    refine pu_k ?_
    show xEv _ _ _ 67 ([some (.ref 57), some (.int (la)), some (.int (nI x)), some (.int (nI y))], [.int (s_rank (σ 58) (σ 60) (nI y).toNatClampNeg)], σ)
    rw [hyc]
    refine ev_blk 2 [] 69 ([some (.ref 57), some (.int (la)), some (.int (nI x)), some (.int (nI y))], [.int (nI x), .ref 57, .int (s_rank (σ 58) (σ 60) y)], σ) rfl ?_ ?_
    · trivial
    refine ev_callV M_X6_rankOf [.int (nI x)] [.int (s_rank (σ 58) (σ 60) y)] 57 rfl rfl ln_X6_143 k_X6_rankOf rfl rfl rfl rfl rfl rfl (m_rank _ _ (vp_in_nI (by omega) (by decide))) ?_
    refine pu_k ?_
    show xEv _ _ _ 72 ([some (.ref 57), some (.int (la)), some (.int (nI x)), some (.int (nI y))], [.int (s_rank (σ 58) (σ 60) (nI x).toNatClampNeg), .int (s_rank (σ 58) (σ 60) y)], σ)
    rw [hxc]
    refine ev_br 0 [] ((s_rank (σ 58) (σ 60) y) ≤ (s_rank (σ 58) (σ 60) x)) 79 75 ([some (.ref 57), some (.int (la)), some (.int (nI x)), some (.int (nI y))], [], σ) rfl ?_ (fun c72 => ?_) (fun c72 => ?_)
    · trivial
    · refine ev_blk 1 [] 80 ([some (.ref 57), some (.int (la)), some (.int (nI x)), some (.int (nI y))], [.int ((0 : Int32))], σ) rfl ?_ ?_
      · trivial
      exact ev_iret rfl rfl nar0 (pu_f (by rw [s_sec_defM]; simp_all))
    · refine ev_blk 2 [] 80 ([some (.ref 57), some (.int (la)), some (.int (nI x)), some (.int (nI y))], [.int ((1 : Int32))], σ) rfl ?_ ?_
      · trivial
      exact ev_iret rfl rfl nar1 (pu_t (by rw [s_sec_defM]; simp_all))
  refine ⟨fun c21_2 => ?_, fun c21_2 => ?_⟩
  · refine ev_blk 2 [] 83 ([some (.ref 57), some (.int (la)), some (.int ((σ 74) 0)), some (.int ((σ 74) 10))], [.int ((σ 74) 10), .ref 57], σ) rfl ?_ ?_
    · trivial
    rw [h10]
    rw [h0]
    refine ev_callV M_X6_spanOf [.int (nI y)] [] 57 rfl rfl ln_X6_140 k_X6_spanOf rfl rfl rfl rfl rfl rfl (m_span _ _ (vp_in_nI (by omega) (by decide))) ?_
    refine pu_k ?_
    show xEv _ _ _ 86 ([some (.ref 57), some (.int (la)), some (.int (nI x)), some (.int (nI y))], [.int (s_span (σ 58) (σ 59) (nI y).toNatClampNeg)], σ)
    rw [hyc]
    refine ev_blk 2 [] 88 ([some (.ref 57), some (.int (la)), some (.int (nI x)), some (.int (nI y))], [.int (nI x), .ref 57, .int (s_span (σ 58) (σ 59) y)], σ) rfl ?_ ?_
    · trivial
    refine ev_callV M_X6_spanOf [.int (nI x)] [.int (s_span (σ 58) (σ 59) y)] 57 rfl rfl ln_X6_140 k_X6_spanOf rfl rfl rfl rfl rfl rfl (m_span _ _ (vp_in_nI (by omega) (by decide))) ?_
    refine pu_k ?_
    show xEv _ _ _ 91 ([some (.ref 57), some (.int (la)), some (.int (nI x)), some (.int (nI y))], [.int (s_span (σ 58) (σ 59) (nI x).toNatClampNeg), .int (s_span (σ 58) (σ 59) y)], σ)
    rw [hxc]
    refine ev_br 0 [] ((s_span (σ 58) (σ 59) x) ≤ (s_span (σ 58) (σ 59) y)) 98 94 ([some (.ref 57), some (.int (la)), some (.int (nI x)), some (.int (nI y))], [], σ) rfl ?_ (fun c91 => ?_) (fun c91 => ?_)
    · trivial
    · refine ev_blk 1 [] 99 ([some (.ref 57), some (.int (la)), some (.int (nI x)), some (.int (nI y))], [.int ((0 : Int32))], σ) rfl ?_ ?_
      · trivial
      exact ev_iret rfl rfl nar0 (pu_f (by rw [s_sec_defM]; simp_all))
    · refine ev_blk 2 [] 99 ([some (.ref 57), some (.int (la)), some (.int (nI x)), some (.int (nI y))], [.int ((1 : Int32))], σ) rfl ?_ ?_
      · trivial
      exact ev_iret rfl rfl nar1 (pu_t (by rw [s_sec_defM]; simp_all))
  refine ⟨fun c21_3 => ?_, fun c21_3 => ?_⟩
  · refine ev_br 8 [vp_in ((σ 74) 10) 10, vp_in ((σ 74) 0) 10] (((σ 62) ((σ 74) 0).toNatClampNeg) ≤ ((σ 62) ((σ 74) 10).toNatClampNeg)) 119 115 ([some (.ref 57), some (.int (la)), some (.int ((σ 74) 0)), some (.int ((σ 74) 10))], [], σ) rfl ?_ (fun c112 => ?_) (fun c112 => ?_)
    · exact ⟨(by rw [h10]; exact vp_in_nI (by omega) (by decide)), (by rw [h0]; exact vp_in_nI (by omega) (by decide))⟩
    · rw [h10] at c112
      rw [h0] at c112
      rw [h10]
      rw [h0]
      refine ev_blk 1 [] 120 ([some (.ref 57), some (.int (la)), some (.int (nI x)), some (.int (nI y))], [.int ((0 : Int32))], σ) rfl ?_ ?_
      · trivial
      exact ev_iret rfl rfl nar0 (pu_f (by rw [s_sec_defM]; simp_all))
    · rw [h10] at c112
      rw [h0] at c112
      rw [h10]
      rw [h0]
      refine ev_blk 2 [] 120 ([some (.ref 57), some (.int (la)), some (.int (nI x)), some (.int (nI y))], [.int ((1 : Int32))], σ) rfl ?_ ?_
      · trivial
      exact ev_iret rfl rfl nar1 (pu_t (by rw [s_sec_defM]; simp_all))
  have e4 : σ 68 4 = 4 := rg04 h4 c21_0 c21_1 c21_2 c21_3
  show xEv _ _ _ 121 ([some (.ref 57), some (.int (la)), some (.int ((σ 74) 0)), some (.int ((σ 74) 10))], [], σ)
  refine ev_br 8 [vp_in ((σ 74) 10) 10, vp_in ((σ 74) 0) 10] (((σ 61) ((σ 74) 10).toNatClampNeg) ≤ ((σ 61) ((σ 74) 0).toNatClampNeg)) 140 136 ([some (.ref 57), some (.int (la)), some (.int ((σ 74) 0)), some (.int ((σ 74) 10))], [], σ) rfl ?_ (fun c133 => ?_) (fun c133 => ?_)
  · exact ⟨(by rw [h10]; exact vp_in_nI (by omega) (by decide)), (by rw [h0]; exact vp_in_nI (by omega) (by decide))⟩
  · rw [h10] at c133
    rw [h0] at c133
    rw [h10]
    rw [h0]
    refine ev_blk 1 [] 141 ([some (.ref 57), some (.int (la)), some (.int (nI x)), some (.int (nI y))], [.int ((0 : Int32))], σ) rfl ?_ ?_
    · trivial
    exact ev_iret rfl rfl nar0 (pu_f (by rw [s_sec_defM]; simp_all))
  · rw [h10] at c133
    rw [h0] at c133
    rw [h10]
    rw [h0]
    refine ev_blk 2 [] 141 ([some (.ref 57), some (.int (la)), some (.int (nI x)), some (.int (nI y))], [.int ((1 : Int32))], σ) rfl ?_ ?_
    · trivial
    exact ev_iret rfl rfl nar1 (pu_t (by rw [s_sec_defM]; simp_all))
set_option maxRecDepth 100000 in
theorem m_stepsOn0_lp (σ : xSg) (t : List Nat) (h75 : σ 75 0 = nI (t.length + 1)) (hl : t.length + 1 ≤ 10) : ∀ (m k : Nat), k + m = t.length + 1 → 1 ≤ k → xEv (.inl 0) M_X6_stepsOn (fun r σ1 => r = none ∧ (∀ j, σ1 74 j = s_shf (σ 74) 0 (t.length + 1) j) ∧ σ1 75 = upd (σ 75) 0 (nI t.length) ∧ xFm [74, 75] [] σ σ1) 2 ([some (.ref 57), some (.int ((0 : Int32))), some (.int (nI k))], [], (x_up σ 74 (s_shf (σ 74) 0 k))) := by
  intro m
  induction m with
  | zero =>
    intro k hk h1
    refine ev_br 5 [vp_in ((0 : Int32)) 2] (((σ 75) 0) ≤ (nI k)) 42 12 ([some (.ref 57), some (.int ((0 : Int32))), some (.int (nI k))], [], (x_up σ 74 (s_shf (σ 74) 0 k))) rfl ?_ (fun c9 => ?_) (fun c9 => ?_)
    · exact vp_in_nI (n := 0) (by decide) (by decide)
    · refine ev_blk 8 [vp_in ((0 : Int32)) 2, vp_in ((0 : Int32)) 2] 52 ([some (.ref 57), some (.int ((0 : Int32))), some (.int (nI k))], [], (x_up (x_up σ 74 (s_shf (σ 74) 0 k)) 75 (upd (σ 75) 0 (((σ 75) 0) - (1 : Int32))))) rfl ?_ ?_
      · exact ⟨vp_in_nI (n := 0) (by decide) (by decide), vp_in_nI (n := 0) (by decide) (by decide)⟩
      refine ev_vret rfl rfl ⟨rfl, fun j => ?_, ?_, ⟨fun c hc hn => by simp at hc; simp [x_up, hc], fun i hi => rfl⟩⟩
      · show s_shf (σ 74) 0 k j = _
        rw [show k = t.length + 1 by omega]
      · show upd (σ 75) 0 (σ 75 0 - 1) = _
        rw [h75, nI_pred]
    · exact absurd (show σ 75 0 ≤ nI k by rw [h75]; exact nI_le (by omega) (by omega)) c9
  | succ m ih =>
    intro k hk h1
    have hk0 : ((10 : Int32) * (0 : Int32)) + (nI k) = nI (0 + k) := by rw [show ((10 : Int32) * (0 : Int32)) = nI 0 from rfl, nI_add]
    have hk1 : (((10 : Int32) * (0 : Int32)) + (nI k)) - (1 : Int32) = nI (0 + k - 1) := by rw [hk0, show (1 : Int32) = nI 1 from rfl, pk_sub (by omega)]
    have hc0 : (((10 : Int32) * (0 : Int32)) + (nI k)).toNatClampNeg = 0 + k := by rw [hk0, nI_clamp (by omega)]
    have hc1 : ((((10 : Int32) * (0 : Int32)) + (nI k)) - (1 : Int32)).toNatClampNeg = 0 + k - 1 := by rw [hk1, nI_clamp (by omega)]
    refine ev_br 5 [vp_in ((0 : Int32)) 2] (((σ 75) 0) ≤ (nI k)) 42 12 ([some (.ref 57), some (.int ((0 : Int32))), some (.int (nI k))], [], (x_up σ 74 (s_shf (σ 74) 0 k))) rfl ?_ (fun c9 => ?_) (fun c9 => ?_)
    · exact vp_in_nI (n := 0) (by decide) (by decide)
    · exact absurd c9 (show ¬ σ 75 0 ≤ nI k by rw [h75]; exact nI_ge (by omega) (by omega))
    · refine ev_blk 20 [vp_in (((10 : Int32) * (0 : Int32)) + (nI k)) 20, vp_in ((((10 : Int32) * (0 : Int32)) + (nI k)) - (1 : Int32)) 20] 2 ([some (.ref 57), some (.int ((0 : Int32))), some (.int ((nI k) + (1 : Int32)))], [], (x_up (x_up σ 74 (s_shf (σ 74) 0 k)) 74 (upd (s_shf (σ 74) 0 k) ((((10 : Int32) * (0 : Int32)) + (nI k)) - (1 : Int32)).toNatClampNeg ((s_shf (σ 74) 0 k) (((10 : Int32) * (0 : Int32)) + (nI k)).toNatClampNeg)))) rfl ?_ ?_
      · exact ⟨(by rw [hk0]; exact vp_in_nI (by omega) (by decide)), (by rw [hk1]; exact vp_in_nI (by omega) (by decide))⟩
      rw [hc1]
      rw [hc0]
      rw [nI_1, x_up_up, s_shf_up h1]
      exact ih (k + 1) (by omega) (by omega)
set_option maxRecDepth 100000 in
theorem m_stepsOn0 (σ : xSg) (t : List Nat) (h75 : σ 75 0 = nI (t.length + 1)) (hl : t.length + 1 ≤ 10) : xCtr M_X6_stepsOn [.ref 57, .int (0 : Int32)] σ (fun r σ1 => r = none ∧ (∀ j, σ1 74 j = s_shf (σ 74) 0 (t.length + 1) j) ∧ σ1 75 = upd (σ 75) 0 (nI t.length) ∧ xFm [74, 75] [] σ σ1) := by
  refine ctr_ev ok_X6_stepsOn (by decide +kernel) rfl rfl rfl ?_
  show xEv (.inl 0) M_X6_stepsOn _ 0 ([some (.ref 57), some (.int ((0 : Int32))), none], [], σ)
  refine ev_blk 2 [] 2 ([some (.ref 57), some (.int ((0 : Int32))), some (.int ((1 : Int32)))], [], σ) rfl ?_ ?_
  · trivial
  have h := m_stepsOn0_lp σ t h75 hl t.length 1 (by omega) (Nat.le_refl _)
  rw [s_shf_1, x_up_self] at h
  exact h
set_option maxRecDepth 100000 in
theorem m_stepsOn1_lp (σ : xSg) (t : List Nat) (h75 : σ 75 1 = nI (t.length + 1)) (hl : t.length + 1 ≤ 10) : ∀ (m k : Nat), k + m = t.length + 1 → 1 ≤ k → xEv (.inl 0) M_X6_stepsOn (fun r σ1 => r = none ∧ (∀ j, σ1 74 j = s_shf (σ 74) 10 (t.length + 1) j) ∧ σ1 75 = upd (σ 75) 1 (nI t.length) ∧ xFm [74, 75] [] σ σ1) 2 ([some (.ref 57), some (.int ((1 : Int32))), some (.int (nI k))], [], (x_up σ 74 (s_shf (σ 74) 10 k))) := by
  intro m
  induction m with
  | zero =>
    intro k hk h1
    refine ev_br 5 [vp_in ((1 : Int32)) 2] (((σ 75) 1) ≤ (nI k)) 42 12 ([some (.ref 57), some (.int ((1 : Int32))), some (.int (nI k))], [], (x_up σ 74 (s_shf (σ 74) 10 k))) rfl ?_ (fun c9 => ?_) (fun c9 => ?_)
    · exact vp_in_nI (n := 1) (by decide) (by decide)
    · refine ev_blk 8 [vp_in ((1 : Int32)) 2, vp_in ((1 : Int32)) 2] 52 ([some (.ref 57), some (.int ((1 : Int32))), some (.int (nI k))], [], (x_up (x_up σ 74 (s_shf (σ 74) 10 k)) 75 (upd (σ 75) 1 (((σ 75) 1) - (1 : Int32))))) rfl ?_ ?_
      · exact ⟨vp_in_nI (n := 1) (by decide) (by decide), vp_in_nI (n := 1) (by decide) (by decide)⟩
      refine ev_vret rfl rfl ⟨rfl, fun j => ?_, ?_, ⟨fun c hc hn => by simp at hc; simp [x_up, hc], fun i hi => rfl⟩⟩
      · show s_shf (σ 74) 10 k j = _
        rw [show k = t.length + 1 by omega]
      · show upd (σ 75) 1 (σ 75 1 - 1) = _
        rw [h75, nI_pred]
    · exact absurd (show σ 75 1 ≤ nI k by rw [h75]; exact nI_le (by omega) (by omega)) c9
  | succ m ih =>
    intro k hk h1
    have hk0 : ((10 : Int32) * (1 : Int32)) + (nI k) = nI (10 + k) := by rw [show ((10 : Int32) * (1 : Int32)) = nI 10 from rfl, nI_add]
    have hk1 : (((10 : Int32) * (1 : Int32)) + (nI k)) - (1 : Int32) = nI (10 + k - 1) := by rw [hk0, show (1 : Int32) = nI 1 from rfl, pk_sub (by omega)]
    have hc0 : (((10 : Int32) * (1 : Int32)) + (nI k)).toNatClampNeg = 10 + k := by rw [hk0, nI_clamp (by omega)]
    have hc1 : ((((10 : Int32) * (1 : Int32)) + (nI k)) - (1 : Int32)).toNatClampNeg = 10 + k - 1 := by rw [hk1, nI_clamp (by omega)]
    refine ev_br 5 [vp_in ((1 : Int32)) 2] (((σ 75) 1) ≤ (nI k)) 42 12 ([some (.ref 57), some (.int ((1 : Int32))), some (.int (nI k))], [], (x_up σ 74 (s_shf (σ 74) 10 k))) rfl ?_ (fun c9 => ?_) (fun c9 => ?_)
    · exact vp_in_nI (n := 1) (by decide) (by decide)
    · exact absurd c9 (show ¬ σ 75 1 ≤ nI k by rw [h75]; exact nI_ge (by omega) (by omega))
    · refine ev_blk 20 [vp_in (((10 : Int32) * (1 : Int32)) + (nI k)) 20, vp_in ((((10 : Int32) * (1 : Int32)) + (nI k)) - (1 : Int32)) 20] 2 ([some (.ref 57), some (.int ((1 : Int32))), some (.int ((nI k) + (1 : Int32)))], [], (x_up (x_up σ 74 (s_shf (σ 74) 10 k)) 74 (upd (s_shf (σ 74) 10 k) ((((10 : Int32) * (1 : Int32)) + (nI k)) - (1 : Int32)).toNatClampNeg ((s_shf (σ 74) 10 k) (((10 : Int32) * (1 : Int32)) + (nI k)).toNatClampNeg)))) rfl ?_ ?_
      · exact ⟨(by rw [hk0]; exact vp_in_nI (by omega) (by decide)), (by rw [hk1]; exact vp_in_nI (by omega) (by decide))⟩
      rw [hc1]
      rw [hc0]
      rw [nI_1, x_up_up, s_shf_up h1]
      exact ih (k + 1) (by omega) (by omega)
set_option maxRecDepth 100000 in
theorem m_stepsOn1 (σ : xSg) (t : List Nat) (h75 : σ 75 1 = nI (t.length + 1)) (hl : t.length + 1 ≤ 10) : xCtr M_X6_stepsOn [.ref 57, .int (1 : Int32)] σ (fun r σ1 => r = none ∧ (∀ j, σ1 74 j = s_shf (σ 74) 10 (t.length + 1) j) ∧ σ1 75 = upd (σ 75) 1 (nI t.length) ∧ xFm [74, 75] [] σ σ1) := by
  refine ctr_ev ok_X6_stepsOn (by decide +kernel) rfl rfl rfl ?_
  show xEv (.inl 0) M_X6_stepsOn _ 0 ([some (.ref 57), some (.int ((1 : Int32))), none], [], σ)
  refine ev_blk 2 [] 2 ([some (.ref 57), some (.int ((1 : Int32))), some (.int ((1 : Int32)))], [], σ) rfl ?_ ?_
  · trivial
  have h := m_stepsOn1_lp σ t h75 hl t.length 1 (by omega) (Nat.le_refl _)
  rw [s_shf_1, x_up_self] at h
  exact h
def s_ldk (a : sAt) (w : List (Nat × Nat × Nat)) (k : Nat) : Int32 := s_lds a (w.take k)
theorem s_ldk_s {a : sAt} {w : List (Nat × Nat × Nat)} {k : Nat} {q : Nat × Nat × Nat} (h : w[k]? = some q) : s_ldk a w (k + 1) = s_ldk a w k + aLo a q.1 := by
  unfold s_ldk
  rw [List.take_add_one, h]
  exact s_lds_app a q _
theorem i_sas (a b c : Int32) : a - b - c = a - (b + c) := by
  rw [Int32.sub_eq_add_neg, Int32.sub_eq_add_neg, Int32.sub_eq_add_neg, Int32.neg_add, Int32.add_assoc, Int32.sub_eq_add_neg]
set_option maxRecDepth 100000 in
theorem m_spends_lp (σ : xSg) (F : sFl) (hF : MR σ F) (hFn : ∀ q ∈ F.2, q.1 < 10) : ∀ (m k : Nat), k + m = F.2.length → xEv (.inl 1) M_X6_spends (fun r σ1 => r = some (.int (s_spend (atM σ) F.2)) ∧ σ1 = σ) 23 ([some (.ref 57), some (.int (σ 68 0 * σ 68 1 * σ 68 2 - s_ldk (atM σ) F.2 k)), some (.int (nI k))], [], σ) := by
  have h23 := hF.2.2.1
  have hl := hF.1
  intro m
  induction m with
  | zero =>
    intro k hk
    refine ev_br 3 [] ((σ 57 23) ≤ (nI k)) 51 31 ([some (.ref 57), some (.int (σ 68 0 * σ 68 1 * σ 68 2 - s_ldk (atM σ) F.2 k)), some (.int (nI k))], [], σ) rfl ?_ (fun c28 => ?_) (fun c28 => ?_)
    · trivial
    · refine ev_blk 3 [] 56 ([some (.ref 57), some (.int (σ 68 0 * σ 68 1 * σ 68 2 - s_ldk (atM σ) F.2 k)), some (.int (nI k))], [.int (x_mx (0 : Int32) (σ 68 0 * σ 68 1 * σ 68 2 - s_ldk (atM σ) F.2 k))], σ) rfl ?_ ?_
      · trivial
      exact ev_iret rfl rfl rfl ⟨by rw [show s_ldk (atM σ) F.2 k = s_lds (atM σ) F.2 by unfold s_ldk; rw [List.take_of_length_le (by omega)]]; rfl, rfl⟩
    · exact absurd (show σ 57 23 ≤ nI k by rw [h23]; exact nI_le (by omega) (by omega)) c28
  | succ m ih =>
    intro k hk
    have hkl : k < F.2.length := by omega
    obtain ⟨q, hkq⟩ : ∃ q, F.2[k]? = some q := ⟨_, List.getElem?_eq_getElem hkl⟩
    have hq1 := (hF.2.2.2 k q.1 q.2.1 q.2.2 hkq).1
    have hq2 : q.1 < 10 := hFn q (List.mem_of_getElem? hkq)
    have hkc : (nI k).toNatClampNeg = k := nI_clamp (by omega)
    have hwc : (σ 77 (nI k).toNatClampNeg).toNatClampNeg = q.1 := by rw [hkc, hq1, nI_clamp (by omega)]
    refine ev_br 3 [] ((σ 57 23) ≤ (nI k)) 51 31 ([some (.ref 57), some (.int (σ 68 0 * σ 68 1 * σ 68 2 - s_ldk (atM σ) F.2 k)), some (.int (nI k))], [], σ) rfl ?_ (fun c28 => ?_) (fun c28 => ?_)
    · trivial
    · exact absurd c28 (show ¬ σ 57 23 ≤ nI k by rw [h23]; exact nI_ge (by omega) (by omega))
    · refine ev_blk 12 [vp_in (nI k) 10, vp_in ((σ 77) (nI k).toNatClampNeg) 10] 23 ([some (.ref 57), some (.int ((σ 68 0 * σ 68 1 * σ 68 2 - s_ldk (atM σ) F.2 k) - ((σ 61) ((σ 77) (nI k).toNatClampNeg).toNatClampNeg))), some (.int ((nI k) + (1 : Int32)))], [], σ) rfl ?_ ?_
      · exact ⟨vp_in_nI (by omega) (by decide), by rw [hkc, hq1]; exact vp_in_nI (by omega) (by decide)⟩
      rw [hwc]
      rw [nI_1, i_sas, show s_ldk (atM σ) F.2 k + σ 61 q.1 = s_ldk (atM σ) F.2 (k + 1) from (s_ldk_s hkq).symm]
      exact ih (k + 1) (by omega)
set_option maxRecDepth 100000 in
theorem m_spends (σ : xSg) (F : sFl) (hF : MR σ F) (hFn : ∀ q ∈ F.2, q.1 < 10) : xCtr M_X6_spends [.ref 57] σ (fun r σ1 => r = some (.int (s_spend (atM σ) F.2)) ∧ σ1 = σ) := by
  refine ctr_ev ok_X6_spends (by decide +kernel) rfl rfl rfl ?_
  show xEv (.inl 1) M_X6_spends _ 0 ([some (.ref 57), none, none], [], σ)
  refine ev_blk 17 [vp_in ((0 : Int32)) 5, vp_in ((1 : Int32)) 5, vp_in ((2 : Int32)) 5] 23 ([some (.ref 57), some (.int ((((σ 68) 0) * ((σ 68) 1)) * ((σ 68) 2))), some (.int ((0 : Int32)))], [], σ) rfl ?_ ?_
  · exact ⟨vp_in_nI (n := 0) (by decide) (by decide), vp_in_nI (n := 1) (by decide) (by decide), vp_in_nI (n := 2) (by decide) (by decide)⟩
  have h := m_spends_lp σ F hF hFn F.2.length 0 (by omega)
  rw [show s_ldk (atM σ) F.2 0 = 0 from rfl, Int32.sub_zero] at h
  exact h
set_option maxRecDepth 100000 in
theorem m_all_lp (σ : xSg) : ∀ (m k : Nat) (g : Nat → Int32), k + m = 20 → (∀ j, j < k → g j = σ 66 j) → xEv (.inl 0) M_X6_all (fun r σ1 => r = none ∧ (∀ j, j < 20 → σ1 74 j = σ 66 j) ∧ σ1 75 = upd (upd (σ 75) 0 (σ 67 0)) 1 (σ 67 1) ∧ xFm [74, 75] [] σ σ1) 2 ([some (.ref 57), some (.int (nI k))], [], (x_up σ 74 g)) := by
  intro m
  induction m with
  | zero =>
    intro k g hk hg
    refine ev_br 2 [] ((20 : Int32) ≤ (nI k)) 26 8 ([some (.ref 57), some (.int (nI k))], [], (x_up σ 74 g)) rfl ?_ (fun c5 => ?_) (fun c5 => ?_)
    · trivial
    · refine ev_blk 16 [vp_in ((0 : Int32)) 2, vp_in ((0 : Int32)) 2, vp_in ((1 : Int32)) 2, vp_in ((1 : Int32)) 2] 50 ([some (.ref 57), some (.int (nI k))], [], (x_up (x_up (x_up σ 74 g) 75 (upd (σ 75) 0 ((σ 67) 0))) 75 (upd (upd (σ 75) 0 ((σ 67) 0)) 1 ((σ 67) 1)))) rfl ?_ ?_
      · exact ⟨vp_in_nI (n := 0) (by decide) (by decide), vp_in_nI (n := 0) (by decide) (by decide), vp_in_nI (n := 1) (by decide) (by decide), vp_in_nI (n := 1) (by decide) (by decide)⟩
      exact ev_vret rfl rfl ⟨rfl, fun j hj => hg j (by omega), rfl, ⟨fun c hc hn => by simp at hc; simp [x_up, hc], fun i hi => rfl⟩⟩
    · exact absurd (show (20 : Int32) ≤ nI k by rw [show k = 20 by omega]; decide) c5
  | succ m ih =>
    intro k g hk hg
    have hkc : (nI k).toNatClampNeg = k := nI_clamp (by omega)
    refine ev_br 2 [] ((20 : Int32) ≤ (nI k)) 26 8 ([some (.ref 57), some (.int (nI k))], [], (x_up σ 74 g)) rfl ?_ (fun c5 => ?_) (fun c5 => ?_)
    · trivial
    · exact absurd c5 (nI_ge (b := 20) (by omega) (by decide))
    · refine ev_blk 10 [vp_in (nI k) 20, vp_in (nI k) 20] 2 ([some (.ref 57), some (.int ((nI k) + (1 : Int32)))], [], (x_up (x_up σ 74 g) 74 (upd g (nI k).toNatClampNeg ((σ 66) (nI k).toNatClampNeg)))) rfl ?_ ?_
      · exact ⟨vp_in_nI (by omega) (by decide), vp_in_nI (by omega) (by decide)⟩
      rw [hkc]
      rw [nI_1, x_up_up]
      refine ih (k + 1) _ (by omega) (fun j hj => ?_)
      by_cases hjk : j = k
      · rw [hjk, upd_eq]
      · rw [upd_ne hjk]; exact hg j (by omega)
set_option maxRecDepth 100000 in
theorem m_all (σ : xSg) : xCtr M_X6_all [.ref 57] σ (fun r σ1 => r = none ∧ (∀ j, j < 20 → σ1 74 j = σ 66 j) ∧ σ1 75 = upd (upd (σ 75) 0 (σ 67 0)) 1 (σ 67 1) ∧ xFm [74, 75] [] σ σ1) := by
  refine ctr_ev ok_X6_all (by decide +kernel) rfl rfl rfl ?_
  show xEv (.inl 0) M_X6_all _ 0 ([some (.ref 57), none], [], σ)
  refine ev_blk 2 [] 2 ([some (.ref 57), some (.int ((0 : Int32)))], [], σ) rfl ?_ ?_
  · trivial
  have h := m_all_lp σ 20 0 (σ 74) (by omega) (fun j hj => absurd hj (Nat.not_lt_zero j))
  rw [x_up_self] at h
  exact h
