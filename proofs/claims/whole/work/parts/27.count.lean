def s_cnt (st : Nat → Int32) (sh wt fi de fr wh : Int32) : Int32 :=
  if ¬ wh < 0 ∧ ¬ (4 : Int32) < wh then st wh.toNatClampNeg else if wh = 5 then sh else if wh = 6 then wt else if wh = 7 then fi else if wh = 8 then de else if wh = 9 then fr else -2
set_option maxRecDepth 100000 in
theorem c_count (σ : xSg) (L R : Nat) (hL : L < 21) (hR : R ≤ 3) (h0 : σ 9 0 = nI L) (h1 : σ 9 1 = nI R) (wh : Int32) : xCtr M_X5_count [.ref 0, .int (wh)] σ (fun r σ1 => r = some (.int (s_cnt (σ 9) (σ 1 0) (bcI (σ 1 1)) (σ 1 13) (σ 0 4) (nI (s_free (fun r p => !bt (σ 10 r) p) L R)) wh)) ∧ σ1 = σ) := by
  refine ctr_ev ok_X5_count (by decide +kernel) rfl rfl rfl ?_
  show xEv (.inl 2) M_X5_count _ 0 ([some (.ref 0), some (.int (wh))], [], σ)
  refine ev_blk 1 [] 1 ([some (.ref 0), some (.int (wh))], [.int (wh)], σ) rfl ?_ ?_
  · trivial
  refine ev_callS M_X5_isSetting [.int (wh)] [] rfl rfl ln_X5_96 k_X5_isSetting rfl rfl rfl (c_isSetting _ _) ?_
  refine pu_k ?_
  show xEv _ _ _ 4 ([some (.ref 0), some (.int (wh))], [.int (zi (¬ wh < 0 ∧ ¬ (4 : Int32) < wh))], σ)
  refine ev_br 0 [] ((zi (¬ wh < 0 ∧ ¬ (4 : Int32) < wh)) = 0) 17 7 ([some (.ref 0), some (.int (wh))], [], σ) rfl ?_ (fun c4 => ?_) (fun c4 => ?_)
  · trivial
  · replace c4 := zi_0.mp c4
    refine ev_sw 1 [] (wh) [((5 : Int32), 52), ((6 : Int32), 60), ((7 : Int32), 71), ((8 : Int32), 79), ((9 : Int32), 84)] 92 ([some (.ref 0), some (.int (wh))], [], σ) rfl ?_ ?_
    · trivial
    refine ⟨fun c18_5 => ?_, fun c18_5 => ?_⟩
    · refine ev_blk 3 [] 59 ([some (.ref 0), some (.int (wh))], [.int ((σ 1 0))], σ) rfl ?_ ?_
      · trivial
      exact ev_iret rfl rfl rfl (pu_v (by rw [s_cnt, if_neg c4]; simp_all))
    refine ⟨fun c18_6 => ?_, fun c18_6 => ?_⟩
    · refine ev_blk 3 [] 67 ([some (.ref 0), some (.int (wh))], [.int ((σ 1 1))], σ) rfl ?_ ?_
      · trivial
      refine ev_callS M_J6_bitCount_0f7a4 [.int ((σ 1 1))] [] rfl rfl ln_X5_138 k_J6_bitCount_0f7a4 rfl rfl rfl (c_bitCount _ _) ?_
      refine pu_k ?_
      show xEv _ _ _ 70 ([some (.ref 0), some (.int (wh))], [.int (bcI (σ 1 1))], σ)
      exact ev_iret rfl rfl rfl (pu_v (by rw [s_cnt, if_neg c4]; simp_all))
    refine ⟨fun c18_7 => ?_, fun c18_7 => ?_⟩
    · refine ev_blk 3 [] 78 ([some (.ref 0), some (.int (wh))], [.int ((σ 1 13))], σ) rfl ?_ ?_
      · trivial
      exact ev_iret rfl rfl rfl (pu_v (by rw [s_cnt, if_neg c4]; simp_all))
    refine ⟨fun c18_8 => ?_, fun c18_8 => ?_⟩
    · refine ev_blk 2 [] 83 ([some (.ref 0), some (.int (wh))], [.int ((σ 0 4))], σ) rfl ?_ ?_
      · trivial
      exact ev_iret rfl rfl rfl (pu_v (by rw [s_cnt, if_neg c4]; simp_all))
    refine ⟨fun c18_9 => ?_, fun c18_9 => ?_⟩
    · refine ev_blk 2 [] 88 ([some (.ref 0), some (.int (wh))], [.ref 1], σ) rfl ?_ ?_
      · trivial
      refine ev_callV M_X3_freePlaces [] [] 1 rfl rfl ln_X5_146 k_X3_freePlaces rfl rfl rfl rfl rfl rfl (c_freePlaces σ L R hL hR h0 h1) ?_
      refine pu_k ?_
      show xEv _ _ _ 91 ([some (.ref 0), some (.int (wh))], [.int (nI (s_free (fun r p => !bt (σ 10 r) p) L R))], σ)
      exact ev_iret rfl rfl rfl (pu_v (by rw [s_cnt, if_neg c4]; simp_all))
    show xEv _ _ _ 92 ([some (.ref 0), some (.int (wh))], [], σ)
    refine ev_blk 1 [] 94 ([some (.ref 0), some (.int (wh))], [.int ((-2 : Int32))], σ) rfl ?_ ?_
    · trivial
    exact ev_iret rfl rfl rfl (pu_v (by rw [s_cnt, if_neg c4]; simp_all))
  · replace c4 := zi_1.mp c4
    refine ev_blk 5 [vp_in (wh) 5] 16 ([some (.ref 0), some (.int (wh))], [.int ((σ 9) wh.toNatClampNeg)], σ) rfl ?_ ?_
    · obtain ⟨j, hj, rfl⟩ := nI_of c4.1
      exact vp_in_nI (Nat.lt_of_not_le (fun z => c4.2 (Int32.lt_of_lt_of_le (show (4 : Int32) < nI 5 by decide) (nI_le (a := 5) z hj)))) (by decide)
    exact ev_iret rfl rfl rfl (pu_v (by rw [s_cnt, if_pos c4]))
