set_option maxRecDepth 100000 in
theorem m_set (σ : xSg) (wh v : Int32) : xCtr M_X6_set [.ref 57, .int (wh), .int (v)] σ (setQ 68 σ wh v) := by
  refine ctr_ev ok_X6_set (by decide +kernel) rfl rfl rfl ?_
  show xEv (.inl 1) M_X6_set _ 0 ([some (.ref 57), some (.int (wh)), some (.int (v)), none, none], [], σ)
  rcases pk_ix wh (n := 5) (by decide) with hb | hb | ⟨W, hW, rfl⟩
  · refine ev_blk 3 [] 3 ([some (.ref 57), some (.int (wh)), some (.int (v)), none, none], [.int ((4 : Int32)), .int ((0 : Int32)), .int (wh)], σ) rfl ?_ ?_
    · trivial
    refine ev_callS M_X6_within [.int (wh), .int ((0 : Int32)), .int ((4 : Int32))] [] rfl rfl ln_X6_110 k_X6_within rfl rfl rfl (m_within _ _ _ _) ?_
    refine pu_k ?_
    show xEv _ _ _ 6 ([some (.ref 57), some (.int (wh)), some (.int (v)), none, none], [.int (zi (¬ wh < (0 : Int32) ∧ ¬ (4 : Int32) < wh))], σ)
    refine ev_br 0 [] (¬ (zi (¬ wh < (0 : Int32) ∧ ¬ (4 : Int32) < wh)) = 0) 12 9 ([some (.ref 57), some (.int (wh)), some (.int (v)), none, none], [], σ) rfl ?_ (fun c6 => ?_) (fun c6 => ?_)
    · trivial
    · exact absurd hb (zi_1.mp c6).1
    · replace c6 := zi_n.mp c6
      refine ev_blk 1 [] 11 ([some (.ref 57), some (.int (wh)), some (.int (v)), none, none], [.int ((-2 : Int32))], σ) rfl ?_ ?_
      · trivial
      exact ev_iret rfl rfl rfl (Or.inr ⟨fun W hW q => by subst q; exact absurd hb (nI_pos (by omega)), rfl, rfl⟩)
  · refine ev_blk 3 [] 3 ([some (.ref 57), some (.int (wh)), some (.int (v)), none, none], [.int ((4 : Int32)), .int ((0 : Int32)), .int (wh)], σ) rfl ?_ ?_
    · trivial
    refine ev_callS M_X6_within [.int (wh), .int ((0 : Int32)), .int ((4 : Int32))] [] rfl rfl ln_X6_110 k_X6_within rfl rfl rfl (m_within _ _ _ _) ?_
    refine pu_k ?_
    show xEv _ _ _ 6 ([some (.ref 57), some (.int (wh)), some (.int (v)), none, none], [.int (zi (¬ wh < (0 : Int32) ∧ ¬ (4 : Int32) < wh))], σ)
    refine ev_br 0 [] (¬ (zi (¬ wh < (0 : Int32) ∧ ¬ (4 : Int32) < wh)) = 0) 12 9 ([some (.ref 57), some (.int (wh)), some (.int (v)), none, none], [], σ) rfl ?_ (fun c6 => ?_) (fun c6 => ?_)
    · trivial
    · exact absurd (Int32.lt_of_lt_of_le (show (4 : Int32) < nI 5 by decide) hb) (zi_1.mp c6).2
    · replace c6 := zi_n.mp c6
      refine ev_blk 1 [] 11 ([some (.ref 57), some (.int (wh)), some (.int (v)), none, none], [.int ((-2 : Int32))], σ) rfl ?_ ?_
      · trivial
      exact ev_iret rfl rfl rfl (Or.inr ⟨fun W hW q => by subst q; exact absurd hb (nI_ge hW (by decide)), rfl, rfl⟩)
  · rcases (show W = 0 ∨ W = 1 ∨ W = 2 ∨ W = 3 ∨ W = 4 by omega) with rfl | rfl | rfl | rfl | rfl
    · show xEv _ _ _ 0 ([some (.ref 57), some (.int ((0 : Int32))), some (.int (v)), none, none], [], σ)
      refine ev_blk 3 [] 3 ([some (.ref 57), some (.int ((0 : Int32))), some (.int (v)), none, none], [.int ((4 : Int32)), .int ((0 : Int32)), .int ((0 : Int32))], σ) rfl ?_ ?_
      · trivial
      refine ev_callS M_X6_within [.int ((0 : Int32)), .int ((0 : Int32)), .int ((4 : Int32))] [] rfl rfl ln_X6_110 k_X6_within rfl rfl rfl (m_within _ _ _ _) ?_
      refine pu_k ?_
      rw [zi_t (show ¬ (0 : Int32) < (0 : Int32) ∧ ¬ (4 : Int32) < (0 : Int32) by decide)]
      show xEv _ _ _ 6 ([some (.ref 57), some (.int ((0 : Int32))), some (.int (v)), none, none], [.int ((1 : Int32))], σ)
      refine ev_br 0 [] (¬ (1 : Int32) = 0) 12 9 ([some (.ref 57), some (.int ((0 : Int32))), some (.int (v)), none, none], [], σ) rfl ?_ (fun c6 => ?_) (fun c6 => ?_)
      · trivial
      · refine ev_br 1 [] (¬ (0 : Int32) = 0) 21 16 ([some (.ref 57), some (.int ((0 : Int32))), some (.int (v)), none, none], [], σ) rfl ?_ (fun c13 => ?_) (fun c13 => ?_)
        · trivial
        · exact absurd c13 (by decide)
        · refine ev_br 6 [] (¬ (0 : Int32) = (4 : Int32)) 62 58 ([some (.ref 57), some (.int ((0 : Int32))), some (.int (v)), some (.int ((20 : Int32))), none], [.int (v)], σ) rfl ?_ (fun c55 => ?_) (fun c55 => ?_)
          · trivial
          · refine ev_blk 2 [] 64 ([some (.ref 57), some (.int ((0 : Int32))), some (.int (v)), some (.int ((20 : Int32))), none], [.int ((20 : Int32)), .int ((1 : Int32)), .int (v)], σ) rfl ?_ ?_
            · trivial
            refine ev_callS M_X6_within [.int (v), .int ((1 : Int32)), .int ((20 : Int32))] [] rfl rfl ln_X6_110 k_X6_within rfl rfl rfl (m_within _ _ _ _) ?_
            refine pu_k ?_
            show xEv _ _ _ 67 ([some (.ref 57), some (.int ((0 : Int32))), some (.int (v)), some (.int ((20 : Int32))), none], [.int (zi (¬ v < (1 : Int32) ∧ ¬ (20 : Int32) < v))], σ)
            refine ev_br 0 [] (¬ (zi (¬ v < (1 : Int32) ∧ ¬ (20 : Int32) < v)) = 0) 73 70 ([some (.ref 57), some (.int ((0 : Int32))), some (.int (v)), some (.int ((20 : Int32))), none], [], σ) rfl ?_ (fun c67 => ?_) (fun c67 => ?_)
            · trivial
            · replace c67 := zi_1.mp c67
              refine ev_blk 11 [vp_in ((0 : Int32)) 5, vp_in ((0 : Int32)) 5] 90 ([some (.ref 57), some (.int ((0 : Int32))), some (.int (v)), some (.int ((20 : Int32))), some (.int ((σ 68) 0))], [.int ((σ 68) 0)], (x_up σ 68 (upd (σ 68) 0 (v)))) rfl ?_ ?_
              · exact ⟨(vp_in_nI (n := 0) (by decide) (by decide)), (vp_in_nI (n := 0) (by decide) (by decide))⟩
              exact ev_iret rfl rfl rfl (Or.inl ⟨0, by decide, rfl, c67.1, c67.2, rfl, rfl⟩)
            · replace c67 := zi_n.mp c67
              refine ev_blk 1 [] 72 ([some (.ref 57), some (.int ((0 : Int32))), some (.int (v)), some (.int ((20 : Int32))), none], [.int ((-2 : Int32))], σ) rfl ?_ ?_
              · trivial
              exact ev_iret rfl rfl rfl (Or.inr ⟨fun W2 h2 q => by obtain rfl : W2 = 0 := ((nI_eq (by decide) (by omega)).mp q).symm; exact (Classical.em (v < setLo 0)).imp id (fun z => Classical.byContradiction fun y => c67 ⟨z, y⟩), rfl, rfl⟩)
          · exact absurd (by decide) c55
      · exact absurd (by decide) c6
    · show xEv _ _ _ 0 ([some (.ref 57), some (.int ((1 : Int32))), some (.int (v)), none, none], [], σ)
      refine ev_blk 3 [] 3 ([some (.ref 57), some (.int ((1 : Int32))), some (.int (v)), none, none], [.int ((4 : Int32)), .int ((0 : Int32)), .int ((1 : Int32))], σ) rfl ?_ ?_
      · trivial
      refine ev_callS M_X6_within [.int ((1 : Int32)), .int ((0 : Int32)), .int ((4 : Int32))] [] rfl rfl ln_X6_110 k_X6_within rfl rfl rfl (m_within _ _ _ _) ?_
      refine pu_k ?_
      rw [zi_t (show ¬ (1 : Int32) < (0 : Int32) ∧ ¬ (4 : Int32) < (1 : Int32) by decide)]
      show xEv _ _ _ 6 ([some (.ref 57), some (.int ((1 : Int32))), some (.int (v)), none, none], [.int ((1 : Int32))], σ)
      refine ev_br 0 [] (¬ (1 : Int32) = 0) 12 9 ([some (.ref 57), some (.int ((1 : Int32))), some (.int (v)), none, none], [], σ) rfl ?_ (fun c6 => ?_) (fun c6 => ?_)
      · trivial
      · refine ev_br 1 [] (¬ (1 : Int32) = 0) 21 16 ([some (.ref 57), some (.int ((1 : Int32))), some (.int (v)), none, none], [], σ) rfl ?_ (fun c13 => ?_) (fun c13 => ?_)
        · trivial
        · refine ev_br 2 [] (¬ (1 : Int32) = (1 : Int32)) 30 26 ([some (.ref 57), some (.int ((1 : Int32))), some (.int (v)), none, none], [], σ) rfl ?_ (fun c23 => ?_) (fun c23 => ?_)
          · trivial
          · exact absurd c23 (by decide)
          · refine ev_br 6 [] (¬ (1 : Int32) = (4 : Int32)) 62 58 ([some (.ref 57), some (.int ((1 : Int32))), some (.int (v)), some (.int ((3 : Int32))), none], [.int (v)], σ) rfl ?_ (fun c55 => ?_) (fun c55 => ?_)
            · trivial
            · refine ev_blk 2 [] 64 ([some (.ref 57), some (.int ((1 : Int32))), some (.int (v)), some (.int ((3 : Int32))), none], [.int ((3 : Int32)), .int ((1 : Int32)), .int (v)], σ) rfl ?_ ?_
              · trivial
              refine ev_callS M_X6_within [.int (v), .int ((1 : Int32)), .int ((3 : Int32))] [] rfl rfl ln_X6_110 k_X6_within rfl rfl rfl (m_within _ _ _ _) ?_
              refine pu_k ?_
              show xEv _ _ _ 67 ([some (.ref 57), some (.int ((1 : Int32))), some (.int (v)), some (.int ((3 : Int32))), none], [.int (zi (¬ v < (1 : Int32) ∧ ¬ (3 : Int32) < v))], σ)
              refine ev_br 0 [] (¬ (zi (¬ v < (1 : Int32) ∧ ¬ (3 : Int32) < v)) = 0) 73 70 ([some (.ref 57), some (.int ((1 : Int32))), some (.int (v)), some (.int ((3 : Int32))), none], [], σ) rfl ?_ (fun c67 => ?_) (fun c67 => ?_)
              · trivial
              · replace c67 := zi_1.mp c67
                refine ev_blk 11 [vp_in ((1 : Int32)) 5, vp_in ((1 : Int32)) 5] 90 ([some (.ref 57), some (.int ((1 : Int32))), some (.int (v)), some (.int ((3 : Int32))), some (.int ((σ 68) 1))], [.int ((σ 68) 1)], (x_up σ 68 (upd (σ 68) 1 (v)))) rfl ?_ ?_
                · exact ⟨(vp_in_nI (n := 1) (by decide) (by decide)), (vp_in_nI (n := 1) (by decide) (by decide))⟩
                exact ev_iret rfl rfl rfl (Or.inl ⟨1, by decide, rfl, c67.1, c67.2, rfl, rfl⟩)
              · replace c67 := zi_n.mp c67
                refine ev_blk 1 [] 72 ([some (.ref 57), some (.int ((1 : Int32))), some (.int (v)), some (.int ((3 : Int32))), none], [.int ((-2 : Int32))], σ) rfl ?_ ?_
                · trivial
                exact ev_iret rfl rfl rfl (Or.inr ⟨fun W2 h2 q => by obtain rfl : W2 = 1 := ((nI_eq (by decide) (by omega)).mp q).symm; exact (Classical.em (v < setLo 1)).imp id (fun z => Classical.byContradiction fun y => c67 ⟨z, y⟩), rfl, rfl⟩)
            · exact absurd (by decide) c55
        · exact absurd (by decide) c13
      · exact absurd (by decide) c6
    · show xEv _ _ _ 0 ([some (.ref 57), some (.int ((2 : Int32))), some (.int (v)), none, none], [], σ)
      refine ev_blk 3 [] 3 ([some (.ref 57), some (.int ((2 : Int32))), some (.int (v)), none, none], [.int ((4 : Int32)), .int ((0 : Int32)), .int ((2 : Int32))], σ) rfl ?_ ?_
      · trivial
      refine ev_callS M_X6_within [.int ((2 : Int32)), .int ((0 : Int32)), .int ((4 : Int32))] [] rfl rfl ln_X6_110 k_X6_within rfl rfl rfl (m_within _ _ _ _) ?_
      refine pu_k ?_
      rw [zi_t (show ¬ (2 : Int32) < (0 : Int32) ∧ ¬ (4 : Int32) < (2 : Int32) by decide)]
      show xEv _ _ _ 6 ([some (.ref 57), some (.int ((2 : Int32))), some (.int (v)), none, none], [.int ((1 : Int32))], σ)
      refine ev_br 0 [] (¬ (1 : Int32) = 0) 12 9 ([some (.ref 57), some (.int ((2 : Int32))), some (.int (v)), none, none], [], σ) rfl ?_ (fun c6 => ?_) (fun c6 => ?_)
      · trivial
      · refine ev_br 1 [] (¬ (2 : Int32) = 0) 21 16 ([some (.ref 57), some (.int ((2 : Int32))), some (.int (v)), none, none], [], σ) rfl ?_ (fun c13 => ?_) (fun c13 => ?_)
        · trivial
        · refine ev_br 2 [] (¬ (2 : Int32) = (1 : Int32)) 30 26 ([some (.ref 57), some (.int ((2 : Int32))), some (.int (v)), none, none], [], σ) rfl ?_ (fun c23 => ?_) (fun c23 => ?_)
          · trivial
          · refine ev_br 2 [] (¬ (2 : Int32) = (2 : Int32)) 40 35 ([some (.ref 57), some (.int ((2 : Int32))), some (.int (v)), none, none], [], σ) rfl ?_ (fun c32 => ?_) (fun c32 => ?_)
            · trivial
            · exact absurd c32 (by decide)
            · refine ev_br 6 [] (¬ (2 : Int32) = (4 : Int32)) 62 58 ([some (.ref 57), some (.int ((2 : Int32))), some (.int (v)), some (.int ((99 : Int32))), none], [.int (v)], σ) rfl ?_ (fun c55 => ?_) (fun c55 => ?_)
              · trivial
              · refine ev_blk 2 [] 64 ([some (.ref 57), some (.int ((2 : Int32))), some (.int (v)), some (.int ((99 : Int32))), none], [.int ((99 : Int32)), .int ((1 : Int32)), .int (v)], σ) rfl ?_ ?_
                · trivial
                refine ev_callS M_X6_within [.int (v), .int ((1 : Int32)), .int ((99 : Int32))] [] rfl rfl ln_X6_110 k_X6_within rfl rfl rfl (m_within _ _ _ _) ?_
                refine pu_k ?_
                show xEv _ _ _ 67 ([some (.ref 57), some (.int ((2 : Int32))), some (.int (v)), some (.int ((99 : Int32))), none], [.int (zi (¬ v < (1 : Int32) ∧ ¬ (99 : Int32) < v))], σ)
                refine ev_br 0 [] (¬ (zi (¬ v < (1 : Int32) ∧ ¬ (99 : Int32) < v)) = 0) 73 70 ([some (.ref 57), some (.int ((2 : Int32))), some (.int (v)), some (.int ((99 : Int32))), none], [], σ) rfl ?_ (fun c67 => ?_) (fun c67 => ?_)
                · trivial
                · replace c67 := zi_1.mp c67
                  refine ev_blk 11 [vp_in ((2 : Int32)) 5, vp_in ((2 : Int32)) 5] 90 ([some (.ref 57), some (.int ((2 : Int32))), some (.int (v)), some (.int ((99 : Int32))), some (.int ((σ 68) 2))], [.int ((σ 68) 2)], (x_up σ 68 (upd (σ 68) 2 (v)))) rfl ?_ ?_
                  · exact ⟨(vp_in_nI (n := 2) (by decide) (by decide)), (vp_in_nI (n := 2) (by decide) (by decide))⟩
                  exact ev_iret rfl rfl rfl (Or.inl ⟨2, by decide, rfl, c67.1, c67.2, rfl, rfl⟩)
                · replace c67 := zi_n.mp c67
                  refine ev_blk 1 [] 72 ([some (.ref 57), some (.int ((2 : Int32))), some (.int (v)), some (.int ((99 : Int32))), none], [.int ((-2 : Int32))], σ) rfl ?_ ?_
                  · trivial
                  exact ev_iret rfl rfl rfl (Or.inr ⟨fun W2 h2 q => by obtain rfl : W2 = 2 := ((nI_eq (by decide) (by omega)).mp q).symm; exact (Classical.em (v < setLo 2)).imp id (fun z => Classical.byContradiction fun y => c67 ⟨z, y⟩), rfl, rfl⟩)
              · exact absurd (by decide) c55
          · exact absurd (by decide) c23
        · exact absurd (by decide) c13
      · exact absurd (by decide) c6
    · show xEv _ _ _ 0 ([some (.ref 57), some (.int ((3 : Int32))), some (.int (v)), none, none], [], σ)
      refine ev_blk 3 [] 3 ([some (.ref 57), some (.int ((3 : Int32))), some (.int (v)), none, none], [.int ((4 : Int32)), .int ((0 : Int32)), .int ((3 : Int32))], σ) rfl ?_ ?_
      · trivial
      refine ev_callS M_X6_within [.int ((3 : Int32)), .int ((0 : Int32)), .int ((4 : Int32))] [] rfl rfl ln_X6_110 k_X6_within rfl rfl rfl (m_within _ _ _ _) ?_
      refine pu_k ?_
      rw [zi_t (show ¬ (3 : Int32) < (0 : Int32) ∧ ¬ (4 : Int32) < (3 : Int32) by decide)]
      show xEv _ _ _ 6 ([some (.ref 57), some (.int ((3 : Int32))), some (.int (v)), none, none], [.int ((1 : Int32))], σ)
      refine ev_br 0 [] (¬ (1 : Int32) = 0) 12 9 ([some (.ref 57), some (.int ((3 : Int32))), some (.int (v)), none, none], [], σ) rfl ?_ (fun c6 => ?_) (fun c6 => ?_)
      · trivial
      · refine ev_br 1 [] (¬ (3 : Int32) = 0) 21 16 ([some (.ref 57), some (.int ((3 : Int32))), some (.int (v)), none, none], [], σ) rfl ?_ (fun c13 => ?_) (fun c13 => ?_)
        · trivial
        · refine ev_br 2 [] (¬ (3 : Int32) = (1 : Int32)) 30 26 ([some (.ref 57), some (.int ((3 : Int32))), some (.int (v)), none, none], [], σ) rfl ?_ (fun c23 => ?_) (fun c23 => ?_)
          · trivial
          · refine ev_br 2 [] (¬ (3 : Int32) = (2 : Int32)) 40 35 ([some (.ref 57), some (.int ((3 : Int32))), some (.int (v)), none, none], [], σ) rfl ?_ (fun c32 => ?_) (fun c32 => ?_)
            · trivial
            · refine ev_br 2 [] (¬ (3 : Int32) = (3 : Int32)) 50 45 ([some (.ref 57), some (.int ((3 : Int32))), some (.int (v)), none, none], [], σ) rfl ?_ (fun c42 => ?_) (fun c42 => ?_)
              · trivial
              · exact absurd c42 (by decide)
              · refine ev_br 6 [] (¬ (3 : Int32) = (4 : Int32)) 62 58 ([some (.ref 57), some (.int ((3 : Int32))), some (.int (v)), some (.int ((60 : Int32))), none], [.int (v)], σ) rfl ?_ (fun c55 => ?_) (fun c55 => ?_)
                · trivial
                · refine ev_blk 2 [] 64 ([some (.ref 57), some (.int ((3 : Int32))), some (.int (v)), some (.int ((60 : Int32))), none], [.int ((60 : Int32)), .int ((1 : Int32)), .int (v)], σ) rfl ?_ ?_
                  · trivial
                  refine ev_callS M_X6_within [.int (v), .int ((1 : Int32)), .int ((60 : Int32))] [] rfl rfl ln_X6_110 k_X6_within rfl rfl rfl (m_within _ _ _ _) ?_
                  refine pu_k ?_
                  show xEv _ _ _ 67 ([some (.ref 57), some (.int ((3 : Int32))), some (.int (v)), some (.int ((60 : Int32))), none], [.int (zi (¬ v < (1 : Int32) ∧ ¬ (60 : Int32) < v))], σ)
                  refine ev_br 0 [] (¬ (zi (¬ v < (1 : Int32) ∧ ¬ (60 : Int32) < v)) = 0) 73 70 ([some (.ref 57), some (.int ((3 : Int32))), some (.int (v)), some (.int ((60 : Int32))), none], [], σ) rfl ?_ (fun c67 => ?_) (fun c67 => ?_)
                  · trivial
                  · replace c67 := zi_1.mp c67
                    refine ev_blk 11 [vp_in ((3 : Int32)) 5, vp_in ((3 : Int32)) 5] 90 ([some (.ref 57), some (.int ((3 : Int32))), some (.int (v)), some (.int ((60 : Int32))), some (.int ((σ 68) 3))], [.int ((σ 68) 3)], (x_up σ 68 (upd (σ 68) 3 (v)))) rfl ?_ ?_
                    · exact ⟨(vp_in_nI (n := 3) (by decide) (by decide)), (vp_in_nI (n := 3) (by decide) (by decide))⟩
                    exact ev_iret rfl rfl rfl (Or.inl ⟨3, by decide, rfl, c67.1, c67.2, rfl, rfl⟩)
                  · replace c67 := zi_n.mp c67
                    refine ev_blk 1 [] 72 ([some (.ref 57), some (.int ((3 : Int32))), some (.int (v)), some (.int ((60 : Int32))), none], [.int ((-2 : Int32))], σ) rfl ?_ ?_
                    · trivial
                    exact ev_iret rfl rfl rfl (Or.inr ⟨fun W2 h2 q => by obtain rfl : W2 = 3 := ((nI_eq (by decide) (by omega)).mp q).symm; exact (Classical.em (v < setLo 3)).imp id (fun z => Classical.byContradiction fun y => c67 ⟨z, y⟩), rfl, rfl⟩)
                · exact absurd (by decide) c55
            · exact absurd (by decide) c32
          · exact absurd (by decide) c23
        · exact absurd (by decide) c13
      · exact absurd (by decide) c6
    · show xEv _ _ _ 0 ([some (.ref 57), some (.int ((4 : Int32))), some (.int (v)), none, none], [], σ)
      refine ev_blk 3 [] 3 ([some (.ref 57), some (.int ((4 : Int32))), some (.int (v)), none, none], [.int ((4 : Int32)), .int ((0 : Int32)), .int ((4 : Int32))], σ) rfl ?_ ?_
      · trivial
      refine ev_callS M_X6_within [.int ((4 : Int32)), .int ((0 : Int32)), .int ((4 : Int32))] [] rfl rfl ln_X6_110 k_X6_within rfl rfl rfl (m_within _ _ _ _) ?_
      refine pu_k ?_
      rw [zi_t (show ¬ (4 : Int32) < (0 : Int32) ∧ ¬ (4 : Int32) < (4 : Int32) by decide)]
      show xEv _ _ _ 6 ([some (.ref 57), some (.int ((4 : Int32))), some (.int (v)), none, none], [.int ((1 : Int32))], σ)
      refine ev_br 0 [] (¬ (1 : Int32) = 0) 12 9 ([some (.ref 57), some (.int ((4 : Int32))), some (.int (v)), none, none], [], σ) rfl ?_ (fun c6 => ?_) (fun c6 => ?_)
      · trivial
      · refine ev_br 1 [] (¬ (4 : Int32) = 0) 21 16 ([some (.ref 57), some (.int ((4 : Int32))), some (.int (v)), none, none], [], σ) rfl ?_ (fun c13 => ?_) (fun c13 => ?_)
        · trivial
        · refine ev_br 2 [] (¬ (4 : Int32) = (1 : Int32)) 30 26 ([some (.ref 57), some (.int ((4 : Int32))), some (.int (v)), none, none], [], σ) rfl ?_ (fun c23 => ?_) (fun c23 => ?_)
          · trivial
          · refine ev_br 2 [] (¬ (4 : Int32) = (2 : Int32)) 40 35 ([some (.ref 57), some (.int ((4 : Int32))), some (.int (v)), none, none], [], σ) rfl ?_ (fun c32 => ?_) (fun c32 => ?_)
            · trivial
            · refine ev_br 2 [] (¬ (4 : Int32) = (3 : Int32)) 50 45 ([some (.ref 57), some (.int ((4 : Int32))), some (.int (v)), none, none], [], σ) rfl ?_ (fun c42 => ?_) (fun c42 => ?_)
              · trivial
              · refine ev_br 5 [] (¬ (4 : Int32) = (4 : Int32)) 62 58 ([some (.ref 57), some (.int ((4 : Int32))), some (.int (v)), some (.int ((4 : Int32))), none], [.int (v)], σ) rfl ?_ (fun c55 => ?_) (fun c55 => ?_)
                · trivial
                · exact absurd c55 (by decide)
                · refine ev_blk 3 [] 64 ([some (.ref 57), some (.int ((4 : Int32))), some (.int (v)), some (.int ((4 : Int32))), none], [.int ((4 : Int32)), .int ((0 : Int32)), .int (v)], σ) rfl ?_ ?_
                  · trivial
                  refine ev_callS M_X6_within [.int (v), .int ((0 : Int32)), .int ((4 : Int32))] [] rfl rfl ln_X6_110 k_X6_within rfl rfl rfl (m_within _ _ _ _) ?_
                  refine pu_k ?_
                  show xEv _ _ _ 67 ([some (.ref 57), some (.int ((4 : Int32))), some (.int (v)), some (.int ((4 : Int32))), none], [.int (zi (¬ v < (0 : Int32) ∧ ¬ (4 : Int32) < v))], σ)
                  refine ev_br 0 [] (¬ (zi (¬ v < (0 : Int32) ∧ ¬ (4 : Int32) < v)) = 0) 73 70 ([some (.ref 57), some (.int ((4 : Int32))), some (.int (v)), some (.int ((4 : Int32))), none], [], σ) rfl ?_ (fun c67 => ?_) (fun c67 => ?_)
                  · trivial
                  · replace c67 := zi_1.mp c67
                    refine ev_blk 11 [vp_in ((4 : Int32)) 5, vp_in ((4 : Int32)) 5] 90 ([some (.ref 57), some (.int ((4 : Int32))), some (.int (v)), some (.int ((4 : Int32))), some (.int ((σ 68) 4))], [.int ((σ 68) 4)], (x_up σ 68 (upd (σ 68) 4 (v)))) rfl ?_ ?_
                    · exact ⟨(vp_in_nI (n := 4) (by decide) (by decide)), (vp_in_nI (n := 4) (by decide) (by decide))⟩
                    exact ev_iret rfl rfl rfl (Or.inl ⟨4, by decide, rfl, c67.1, c67.2, rfl, rfl⟩)
                  · replace c67 := zi_n.mp c67
                    refine ev_blk 1 [] 72 ([some (.ref 57), some (.int ((4 : Int32))), some (.int (v)), some (.int ((4 : Int32))), none], [.int ((-2 : Int32))], σ) rfl ?_ ?_
                    · trivial
                    exact ev_iret rfl rfl rfl (Or.inr ⟨fun W2 h2 q => by obtain rfl : W2 = 4 := ((nI_eq (by decide) (by omega)).mp q).symm; exact (Classical.em (v < setLo 4)).imp id (fun z => Classical.byContradiction fun y => c67 ⟨z, y⟩), rfl, rfl⟩)
              · exact absurd (by decide) c42
            · exact absurd (by decide) c32
          · exact absurd (by decide) c23
        · exact absurd (by decide) c13
      · exact absurd (by decide) c6
def barM (σ : xSg) (rw pl is : Int32) : Option Value → xSg → Prop := fun r σ' =>
  (∃ R q, R < 3 ∧ q < 20 ∧ rw = nI R ∧ pl = nI q ∧ r = some (.int (zi (¬ σ 69 (20 * R + q) = 0))) ∧ σ' = x_up σ 69 (upd (σ 69) (20 * R + q) is)) ∨ ((∀ R q, R < 3 → q < 20 → rw = nI R → pl = nI q → False) ∧ r = some (.int (-2)) ∧ σ' = σ)
set_option maxRecDepth 100000 in
theorem m_bar (σ : xSg) (rw pl is : Int32) (his : is = 0 ∨ is = 1) : xCtr M_X6_bar [.ref 57, .int (rw), .int (pl), .int (is)] σ (barM σ rw pl is) := by
  refine ctr_ev ok_X6_bar (by decide +kernel) rfl rfl rfl ?_
  show xEv (.inl 1) M_X6_bar _ 0 ([some (.ref 57), some (.int (rw)), some (.int (pl)), some (.int (is)), none], [], σ)
  refine ev_blk 3 [] 3 ([some (.ref 57), some (.int (rw)), some (.int (pl)), some (.int (is)), none], [.int ((2 : Int32)), .int ((0 : Int32)), .int (rw)], σ) rfl ?_ ?_
  · trivial
  refine ev_callS M_X6_within [.int (rw), .int ((0 : Int32)), .int ((2 : Int32))] [] rfl rfl ln_X6_110 k_X6_within rfl rfl rfl (m_within _ _ _ _) ?_
  refine pu_k ?_
  show xEv _ _ _ 6 ([some (.ref 57), some (.int (rw)), some (.int (pl)), some (.int (is)), none], [.int (zi (¬ rw < (0 : Int32) ∧ ¬ (2 : Int32) < rw))], σ)
  refine ev_br 0 [] ((zi (¬ rw < (0 : Int32) ∧ ¬ (2 : Int32) < rw)) = 0) 19 9 ([some (.ref 57), some (.int (rw)), some (.int (pl)), some (.int (is)), none], [], σ) rfl ?_ (fun c6 => ?_) (fun c6 => ?_)
  · trivial
  · replace c6 := zi_0.mp c6
    refine ev_blk 1 [] 21 ([some (.ref 57), some (.int (rw)), some (.int (pl)), some (.int (is)), none], [.int ((-2 : Int32))], σ) rfl ?_ ?_
    · trivial
    exact ev_iret rfl rfl rfl (Or.inr ⟨fun R q hR hq e1 e2 => by subst e1; subst e2; exact c6 ⟨nI_pos (by omega), nI_nlt (a := 2) (by omega) (by decide)⟩, rfl, rfl⟩)
  · replace c6 := zi_1.mp c6
    refine ev_blk 3 [] 13 ([some (.ref 57), some (.int (rw)), some (.int (pl)), some (.int (is)), none], [.int ((19 : Int32)), .int ((0 : Int32)), .int (pl)], σ) rfl ?_ ?_
    · trivial
    refine ev_callS M_X6_within [.int (pl), .int ((0 : Int32)), .int ((19 : Int32))] [] rfl rfl ln_X6_110 k_X6_within rfl rfl rfl (m_within _ _ _ _) ?_
    refine pu_k ?_
    show xEv _ _ _ 16 ([some (.ref 57), some (.int (rw)), some (.int (pl)), some (.int (is)), none], [.int (zi (¬ pl < (0 : Int32) ∧ ¬ (19 : Int32) < pl))], σ)
    refine ev_br 0 [] (¬ (zi (¬ pl < (0 : Int32) ∧ ¬ (19 : Int32) < pl)) = 0) 22 19 ([some (.ref 57), some (.int (rw)), some (.int (pl)), some (.int (is)), none], [], σ) rfl ?_ (fun c16 => ?_) (fun c16 => ?_)
    · trivial
    · replace c16 := zi_1.mp c16
      obtain ⟨R, hR0, rfl⟩ := nI_of c6.1
      obtain ⟨q, hq0, rfl⟩ := nI_of c16.1
      have hR : R < 3 := Nat.lt_of_not_le (fun z => c6.2 (Int32.lt_of_lt_of_le (show (2 : Int32) < nI 3 by decide) (nI_le (a := 3) z hR0)))
      have hq : q < 20 := Nat.lt_of_not_le (fun z => c16.2 (Int32.lt_of_lt_of_le (show (19 : Int32) < nI 20 by decide) (nI_le (a := 20) z hq0)))
      have hRc := idx60 hR hq
      have hin := vpi60 hR hq
      refine ev_br 8 [vp_in (((20 : Int32) * (nI R)) + (nI q)) 60] (((σ 69) (((20 : Int32) * (nI R)) + (nI q)).toNatClampNeg) = 0) 40 36 ([some (.ref 57), some (.int (nI R)), some (.int (nI q)), some (.int (is)), none], [], σ) rfl ?_ (fun c33 => ?_) (fun c33 => ?_)
      · exact hin
      · rw [hRc] at c33
        refine ev_blk 12 [vp_in (((20 : Int32) * (nI R)) + (nI q)) 60, is = 0 ∨ is = 1] 57 ([some (.ref 57), some (.int (nI R)), some (.int (nI q)), some (.int (is)), some (.int ((0 : Int32)))], [.int ((0 : Int32))], (x_up σ 69 (upd (σ 69) (((20 : Int32) * (nI R)) + (nI q)).toNatClampNeg (is)))) rfl ?_ ?_
        · exact ⟨hin, his⟩
        rw [hRc]
        exact ev_iret rfl rfl rfl (Or.inl ⟨R, q, hR, hq, rfl, rfl, by rw [zi_f (fun z => z c33)], rfl⟩)
      · rw [hRc] at c33
        refine ev_blk 13 [vp_in (((20 : Int32) * (nI R)) + (nI q)) 60, is = 0 ∨ is = 1] 57 ([some (.ref 57), some (.int (nI R)), some (.int (nI q)), some (.int (is)), some (.int ((1 : Int32)))], [.int ((1 : Int32))], (x_up σ 69 (upd (σ 69) (((20 : Int32) * (nI R)) + (nI q)).toNatClampNeg (is)))) rfl ?_ ?_
        · exact ⟨hin, his⟩
        rw [hRc]
        exact ev_iret rfl rfl rfl (Or.inl ⟨R, q, hR, hq, rfl, rfl, by rw [zi_t c33], rfl⟩)
    · replace c16 := zi_n.mp c16
      refine ev_blk 1 [] 21 ([some (.ref 57), some (.int (rw)), some (.int (pl)), some (.int (is)), none], [.int ((-2 : Int32))], σ) rfl ?_ ?_
      · trivial
      exact ev_iret rfl rfl rfl (Or.inr ⟨fun R q hR hq e1 e2 => by subst e1; subst e2; exact c16 ⟨nI_pos (by omega), nI_nlt (a := 19) (by omega) (by decide)⟩, rfl, rfl⟩)
set_option maxRecDepth 100000 in
theorem m_cap (σ : xSg) (day v : Int32) : xCtr M_X6_cap [.ref 57, .int (day), .int (v)] σ (capQ 70 1 σ day v) := by
  refine ctr_ev ok_X6_cap (by decide +kernel) rfl rfl rfl ?_
  show xEv (.inl 1) M_X6_cap _ 0 ([some (.ref 57), some (.int (day)), some (.int (v)), none], [], σ)
  refine ev_blk 3 [] 4 ([some (.ref 57), some (.int (day)), some (.int (v)), none], [.int ((99 : Int32)), .int ((0 : Int32)), .int (day)], σ) rfl ?_ ?_
  · trivial
  refine ev_callS M_X6_within [.int (day), .int ((0 : Int32)), .int ((99 : Int32))] [] rfl rfl ln_X6_110 k_X6_within rfl rfl rfl (m_within _ _ _ _) ?_
  refine pu_k ?_
  show xEv _ _ _ 7 ([some (.ref 57), some (.int (day)), some (.int (v)), none], [.int (zi (¬ day < (0 : Int32) ∧ ¬ (99 : Int32) < day))], σ)
  refine ev_br 0 [] ((zi (¬ day < (0 : Int32) ∧ ¬ (99 : Int32) < day)) = 0) 20 10 ([some (.ref 57), some (.int (day)), some (.int (v)), none], [], σ) rfl ?_ (fun c7 => ?_) (fun c7 => ?_)
  · trivial
  · replace c7 := zi_0.mp c7
    refine ev_blk 1 [] 22 ([some (.ref 57), some (.int (day)), some (.int (v)), none], [.int ((-2 : Int32))], σ) rfl ?_ ?_
    · trivial
    exact ev_iret rfl rfl rfl (Or.inr ⟨fun W hW q => by subst q; exact absurd ⟨nI_pos (by omega), nI_nlt (a := 99) (by omega) (by decide)⟩ c7, rfl, rfl⟩)
  · replace c7 := zi_1.mp c7
    refine ev_blk 3 [] 14 ([some (.ref 57), some (.int (day)), some (.int (v)), none], [.int ((99999 : Int32)), .int ((-1 : Int32)), .int (v)], σ) rfl ?_ ?_
    · trivial
    refine ev_callS M_X6_within [.int (v), .int ((-1 : Int32)), .int ((99999 : Int32))] [] rfl rfl ln_X6_110 k_X6_within rfl rfl rfl (m_within _ _ _ _) ?_
    refine pu_k ?_
    show xEv _ _ _ 17 ([some (.ref 57), some (.int (day)), some (.int (v)), none], [.int (zi (¬ v < (-1 : Int32) ∧ ¬ (99999 : Int32) < v))], σ)
    refine ev_br 0 [] (¬ (zi (¬ v < (-1 : Int32) ∧ ¬ (99999 : Int32) < v)) = 0) 23 20 ([some (.ref 57), some (.int (day)), some (.int (v)), none], [], σ) rfl ?_ (fun c17 => ?_) (fun c17 => ?_)
    · trivial
    · replace c17 := zi_1.mp c17
      obtain ⟨W, hW0, rfl⟩ := nI_of c7.1
      have hW : W < 100 := Nat.lt_of_not_le (fun z => c7.2 (Int32.lt_of_lt_of_le (show (99 : Int32) < nI 100 by decide) (nI_le (a := 100) z hW0)))
      have hWc : (nI W).toNatClampNeg = W := nI_clamp (by omega)
      have hin : vp_in (nI W) 100 := vp_in_nI hW (by decide)
      refine ev_blk 15 [vp_in (nI W) 100, vp_in (nI W) 100] 42 ([some (.ref 57), some (.int (nI W)), some (.int (v)), some (.int (((σ 70) (nI W).toNatClampNeg) - (1 : Int32)))], [.int (((σ 70) (nI W).toNatClampNeg) - (1 : Int32))], (x_up σ 70 (upd (σ 70) (nI W).toNatClampNeg (v + (1 : Int32))))) rfl ?_ ?_
      · exact ⟨hin, hin⟩
      rw [hWc]
      exact ev_iret rfl rfl rfl (Or.inl ⟨W, hW, rfl, c17.1, c17.2, rfl, rfl⟩)
    · replace c17 := zi_n.mp c17
      refine ev_blk 1 [] 22 ([some (.ref 57), some (.int (day)), some (.int (v)), none], [.int ((-2 : Int32))], σ) rfl ?_ ?_
      · trivial
      exact ev_iret rfl rfl rfl (Or.inr ⟨fun W hW q => (Classical.em (v < -1)).imp id (fun z => Classical.byContradiction fun y => c17 ⟨z, y⟩), rfl, rfl⟩)
