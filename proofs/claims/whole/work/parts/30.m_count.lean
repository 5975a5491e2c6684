set_option maxRecDepth 100000 in
theorem m_free_in (σ : xSg) (L R : Nat) (hL : L < 21) (hR : R ≤ 3) (h0 : σ 68 0 = nI L) (h1 : σ 68 1 = nI R) (r S : Nat) (hr : r < R) (hx : xEv (.inl 0) M_X6_free (fun r1 σ1 => r1 = some (.int (nI (s_free (fun r p => decide (σ 69 (20 * r + p) = 0)) L R))) ∧ σ1 = σ) 4 ([some (.ref 57), some (.int (nI (S + n_cnt ((fun r p => decide (σ 69 (20 * r + p) = 0)) r) L))), some (.int (nI (r + 1))), none], [], σ)) : ∀ (m p : Nat), p + m = L → xEv (.inl 0) M_X6_free (fun r1 σ1 => r1 = some (.int (nI (s_free (fun r p => decide (σ 69 (20 * r + p) = 0)) L R))) ∧ σ1 = σ) 16 ([some (.ref 57), some (.int (nI (S + n_cnt ((fun r p => decide (σ 69 (20 * r + p) = 0)) r) p))), some (.int (nI r)), some (.int (nI p))], [], σ) := by
  intro m
  induction m with
  | zero =>
    intro p hp
    refine ev_br 5 [vp_in ((0 : Int32)) 5] (((σ 68) 0) ≤ (nI p)) 49 26 ([some (.ref 57), some (.int (nI (S + n_cnt ((fun r p => decide (σ 69 (20 * r + p) = 0)) r) p))), some (.int (nI r)), some (.int (nI p))], [], σ) rfl ?_ (fun c23 => ?_) (fun c23 => ?_)
    · exact (vp_in_nI (n := 0) (by decide) (by decide))
    · refine ev_blk 2 [] 4 ([some (.ref 57), some (.int (nI (S + n_cnt ((fun r p => decide (σ 69 (20 * r + p) = 0)) r) p))), some (.int ((nI r) + (1 : Int32))), some (.int (nI p))], [], σ) rfl ?_ ?_
      · trivial
      have ep : p = L := by omega
      subst ep
      refine ev_drop 3 ?_
      rw [nI_1]
      exact hx
    · exact absurd (show σ 68 0 ≤ nI p by rw [h0]; exact nI_le (by omega) (by omega)) c23
  | succ m ih =>
    intro p hp
    have hid := idx60 (r := r) (q := p) (by omega) (by omega)
    refine ev_br 5 [vp_in ((0 : Int32)) 5] (((σ 68) 0) ≤ (nI p)) 49 26 ([some (.ref 57), some (.int (nI (S + n_cnt ((fun r p => decide (σ 69 (20 * r + p) = 0)) r) p))), some (.int (nI r)), some (.int (nI p))], [], σ) rfl ?_ (fun c23 => ?_) (fun c23 => ?_)
    · exact (vp_in_nI (n := 0) (by decide) (by decide))
    · exact absurd c23 (show ¬ σ 68 0 ≤ nI p by rw [h0]; exact nI_ge (by omega) (by omega))
    · refine ev_br 8 [vp_in (((20 : Int32) * (nI r)) + (nI p)) 60] (¬ ((σ 69) (((20 : Int32) * (nI r)) + (nI p)).toNatClampNeg) = 0) 43 40 ([some (.ref 57), some (.int (nI (S + n_cnt ((fun r p => decide (σ 69 (20 * r + p) = 0)) r) p))), some (.int (nI r)), some (.int (nI p))], [], σ) rfl ?_ (fun c37 => ?_) (fun c37 => ?_)
      · exact vpi60 (by omega) (by omega)
      · rw [hid] at c37
        refine ev_blk 2 [] 16 ([some (.ref 57), some (.int (nI (S + n_cnt ((fun r p => decide (σ 69 (20 * r + p) = 0)) r) p))), some (.int (nI r)), some (.int ((nI p) + (1 : Int32)))], [], σ) rfl ?_ ?_
        · trivial
        rw [nI_1, show S + n_cnt ((fun r p => decide (σ 69 (20 * r + p) = 0)) r) p = S + n_cnt ((fun r p => decide (σ 69 (20 * r + p) = 0)) r) (p + 1) by rw [n_cnt, if_neg (fun q => c37 (of_decide_eq_true q))]; omega]
        exact ih (p + 1) (by omega)
      · rw [hid] at c37
        refine ev_blk 3 [] 16 ([some (.ref 57), some (.int ((nI (S + n_cnt ((fun r p => decide (σ 69 (20 * r + p) = 0)) r) p)) + (1 : Int32))), some (.int (nI r)), some (.int ((nI p) + (1 : Int32)))], [], σ) rfl ?_ ?_
        · trivial
        rw [nI_1, nI_1, show S + n_cnt ((fun r p => decide (σ 69 (20 * r + p) = 0)) r) p + 1 = S + n_cnt ((fun r p => decide (σ 69 (20 * r + p) = 0)) r) (p + 1) by rw [n_cnt, if_pos (decide_eq_true (Classical.byContradiction c37))]; omega]
        exact ih (p + 1) (by omega)
theorem m_free_lp (σ : xSg) (L R : Nat) (hL : L < 21) (hR : R ≤ 3) (h0 : σ 68 0 = nI L) (h1 : σ 68 1 = nI R) : ∀ (m r : Nat), r + m = R → xEv (.inl 0) M_X6_free (fun r1 σ1 => r1 = some (.int (nI (s_free (fun r p => decide (σ 69 (20 * r + p) = 0)) L R))) ∧ σ1 = σ) 4 ([some (.ref 57), some (.int (nI (s_free (fun r p => decide (σ 69 (20 * r + p) = 0)) L r))), some (.int (nI r)), none], [], σ) := by
  intro m
  induction m with
  | zero =>
    intro r hr
    refine ev_br 5 [vp_in ((1 : Int32)) 5] (((σ 68) 1) ≤ (nI r)) 55 14 ([some (.ref 57), some (.int (nI (s_free (fun r p => decide (σ 69 (20 * r + p) = 0)) L r))), some (.int (nI r)), none], [], σ) rfl ?_ (fun c11 => ?_) (fun c11 => ?_)
    · exact (vp_in_nI (n := 1) (by decide) (by decide))
    · refine ev_blk 1 [] 56 ([some (.ref 57), some (.int (nI (s_free (fun r p => decide (σ 69 (20 * r + p) = 0)) L r))), some (.int (nI r)), none], [.int (nI (s_free (fun r p => decide (σ 69 (20 * r + p) = 0)) L r))], σ) rfl ?_ ?_
      · trivial
      exact ev_iret rfl rfl rfl (pu_v (by rw [show r = R by omega]))
    · exact absurd (show σ 68 1 ≤ nI r by rw [h1]; exact nI_le (by omega) (by omega)) c11
  | succ m ih =>
    intro r hr
    refine ev_br 5 [vp_in ((1 : Int32)) 5] (((σ 68) 1) ≤ (nI r)) 55 14 ([some (.ref 57), some (.int (nI (s_free (fun r p => decide (σ 69 (20 * r + p) = 0)) L r))), some (.int (nI r)), none], [], σ) rfl ?_ (fun c11 => ?_) (fun c11 => ?_)
    · exact (vp_in_nI (n := 1) (by decide) (by decide))
    · exact absurd c11 (show ¬ σ 68 1 ≤ nI r by rw [h1]; exact nI_ge (by omega) (by omega))
    · refine ev_blk 2 [] 16 ([some (.ref 57), some (.int (nI (s_free (fun r p => decide (σ 69 (20 * r + p) = 0)) L r))), some (.int (nI r)), some (.int ((0 : Int32)))], [], σ) rfl ?_ ?_
      · trivial
      exact m_free_in σ L R hL hR h0 h1 r (s_free (fun r p => decide (σ 69 (20 * r + p) = 0)) L r) (by omega) (ih (r + 1) (by omega)) L 0 (by omega)
set_option maxRecDepth 100000 in
theorem m_free (σ : xSg) (L R : Nat) (hL : L < 21) (hR : R ≤ 3) (h0 : σ 68 0 = nI L) (h1 : σ 68 1 = nI R) : xCtr M_X6_free [.ref 57] σ (fun r1 σ1 => r1 = some (.int (nI (s_free (fun r p => decide (σ 69 (20 * r + p) = 0)) L R))) ∧ σ1 = σ) := by
  refine ctr_ev ok_X6_free (by decide +kernel) rfl rfl rfl ?_
  show xEv (.inl 0) M_X6_free _ 0 ([some (.ref 57), none, none, none], [], σ)
  refine ev_blk 4 [] 4 ([some (.ref 57), some (.int ((0 : Int32))), some (.int ((0 : Int32))), none], [], σ) rfl ?_ ?_
  · trivial
  exact m_free_lp σ L R hL hR h0 h1 R 0 (by omega)
set_option maxRecDepth 100000 in
theorem m_count (σ : xSg) (L R : Nat) (hL : L < 21) (hR : R ≤ 3) (h0 : σ 68 0 = nI L) (h1 : σ 68 1 = nI R) (wh : Int32) : xCtr M_X6_count [.ref 57, .int (wh)] σ (fun r σ1 => r = some (.int (s_cnt (σ 68) (σ 57 0) (σ 67 0 + σ 67 1) (σ 57 14) (σ 57 16) (nI (s_free (fun r p => decide (σ 69 (20 * r + p) = 0)) L R)) wh)) ∧ σ1 = σ) := by
  refine ctr_ev ok_X6_count (by decide +kernel) rfl rfl rfl ?_
  show xEv (.inl 1) M_X6_count _ 0 ([some (.ref 57), some (.int (wh))], [], σ)
  refine ev_blk 3 [] 3 ([some (.ref 57), some (.int (wh))], [.int ((4 : Int32)), .int ((0 : Int32)), .int (wh)], σ) rfl ?_ ?_
  · trivial
  refine ev_callS M_X6_within [.int (wh), .int ((0 : Int32)), .int ((4 : Int32))] [] rfl rfl ln_X6_110 k_X6_within rfl rfl rfl (m_within _ _ _ _) ?_
  refine pu_k ?_
  show xEv _ _ _ 6 ([some (.ref 57), some (.int (wh))], [.int (zi (¬ wh < (0 : Int32) ∧ ¬ (4 : Int32) < wh))], σ)
  refine ev_br 0 [] ((zi (¬ wh < (0 : Int32) ∧ ¬ (4 : Int32) < wh)) = 0) 16 9 ([some (.ref 57), some (.int (wh))], [], σ) rfl ?_ (fun c6 => ?_) (fun c6 => ?_)
  · trivial
  · replace c6 := zi_0.mp c6
    refine ev_sw 1 [] (wh) [((5 : Int32), 52), ((6 : Int32), 57), ((7 : Int32), 71), ((8 : Int32), 76), ((9 : Int32), 81)] 86 ([some (.ref 57), some (.int (wh))], [], σ) rfl ?_ ?_
    · trivial
    refine ⟨fun c17_5 => ?_, fun c17_5 => ?_⟩
    · refine ev_blk 2 [] 56 ([some (.ref 57), some (.int (wh))], [.int ((σ 57 0))], σ) rfl ?_ ?_
      · trivial
      exact ev_iret rfl rfl rfl (pu_v (by rw [s_cnt, if_neg c6]; simp_all))
    refine ⟨fun c17_6 => ?_, fun c17_6 => ?_⟩
    · refine ev_blk 9 [vp_in ((0 : Int32)) 2, vp_in ((1 : Int32)) 2] 70 ([some (.ref 57), some (.int (wh))], [.int (((σ 67) 0) + ((σ 67) 1))], σ) rfl ?_ ?_
      · exact ⟨(vp_in_nI (n := 0) (by decide) (by decide)), (vp_in_nI (n := 1) (by decide) (by decide))⟩
      exact ev_iret rfl rfl rfl (pu_v (by rw [s_cnt, if_neg c6]; simp_all))
    refine ⟨fun c17_7 => ?_, fun c17_7 => ?_⟩
    · refine ev_blk 2 [] 75 ([some (.ref 57), some (.int (wh))], [.int ((σ 57 14))], σ) rfl ?_ ?_
      · trivial
      exact ev_iret rfl rfl rfl (pu_v (by rw [s_cnt, if_neg c6]; simp_all))
    refine ⟨fun c17_8 => ?_, fun c17_8 => ?_⟩
    · refine ev_blk 2 [] 80 ([some (.ref 57), some (.int (wh))], [.int ((σ 57 16))], σ) rfl ?_ ?_
      · trivial
      exact ev_iret rfl rfl rfl (pu_v (by rw [s_cnt, if_neg c6]; simp_all))
    refine ⟨fun c17_9 => ?_, fun c17_9 => ?_⟩
    · refine ev_blk 1 [] 82 ([some (.ref 57), some (.int (wh))], [.ref 57], σ) rfl ?_ ?_
      · trivial
      refine ev_callV M_X6_free [] [] 57 rfl rfl ln_X6_149 k_X6_free rfl rfl rfl rfl rfl rfl (m_free σ L R hL hR h0 h1) ?_
      refine pu_k ?_
      show xEv _ _ _ 85 ([some (.ref 57), some (.int (wh))], [.int (nI (s_free (fun r p => decide (σ 69 (20 * r + p) = 0)) L R))], σ)
      exact ev_iret rfl rfl rfl (pu_v (by rw [s_cnt, if_neg c6]; simp_all))
    show xEv _ _ _ 86 ([some (.ref 57), some (.int (wh))], [], σ)
    refine ev_blk 1 [] 88 ([some (.ref 57), some (.int (wh))], [.int ((-2 : Int32))], σ) rfl ?_ ?_
    · trivial
    exact ev_iret rfl rfl rfl (pu_v (by rw [s_cnt, if_neg c6]; simp_all))
  · replace c6 := zi_1.mp c6
    refine ev_blk 4 [vp_in (wh) 5] 15 ([some (.ref 57), some (.int (wh))], [.int ((σ 68) wh.toNatClampNeg)], σ) rfl ?_ ?_
    · obtain ⟨j, hj, rfl⟩ := nI_of c6.1
      exact vp_in_nI (Nat.lt_of_not_le (fun z => c6.2 (Int32.lt_of_lt_of_le (show (4 : Int32) < nI 5 by decide) (nI_le (a := 5) z hj)))) (by decide)
    exact ev_iret rfl rfl rfl (pu_v (by rw [s_cnt, if_pos c6]))
