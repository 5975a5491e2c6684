def imQ (σ : xSg) : Option Value → xSg → Prop := fun r σ' => ∃ σ1, kpQ 1 13 σ none σ1 ∧ r = some (.int (σ1 13 0)) ∧ σ' = x_up σ1 0 (upd (σ1 0) 2 1)
def bkQ (σ : xSg) : Option Value → xSg → Prop := fun r σ' => (σ 0 2 = 0 ∧ r = some (.int (-3)) ∧ σ' = σ) ∨ (¬ σ 0 2 = 0 ∧ ∃ σ1, kpQ 13 1 σ none σ1 ∧ r = some (.int (σ1 1 0)) ∧ σ' = x_up σ1 0 (upd (σ1 0) 4 0))
set_option maxRecDepth 100000 in
theorem c_image (σ : xSg) : xCtr M_X5_image [.ref 0] σ (imQ σ) := by
  refine ctr_ev ok_X5_image (by decide +kernel) rfl rfl rfl ?_
  show xEv (.inl 2) M_X5_image _ 0 ([some (.ref 0)], [], σ)
  refine ev_blk 4 [] 8 ([some (.ref 0)], [.ref 1, .ref 13], σ) rfl ?_ ?_
  · trivial
  refine ev_callV M_X3_become [.ref 1] [] 13 rfl rfl ln_X5_251 k_X3_become rfl rfl rfl rfl rfl rfl (c_become13 _) ?_
  rintro r σ1 hq
  obtain rfl := hq.1
  show xEv _ _ _ 11 ([some (.ref 0)], [], σ1)
  refine ev_blk 6 [(1 : Int32) = 0 ∨ (1 : Int32) = 1] 23 ([some (.ref 0)], [.int ((σ1 13 0))], (x_up σ1 0 (upd (σ1 0) 2 ((1 : Int32))))) rfl ?_ ?_
  · exact Or.inr rfl
  exact ev_iret rfl rfl rfl ⟨σ1, hq, rfl, rfl⟩
set_option maxRecDepth 100000 in
theorem c_back (σ : xSg) : xCtr M_X5_back [.ref 0] σ (bkQ σ) := by
  refine ctr_ev ok_X5_back (by decide +kernel) rfl rfl rfl ?_
  show xEv (.inl 2) M_X5_back _ 0 ([some (.ref 0)], [], σ)
  refine ev_br 2 [] (¬ (σ 0 2) = 0) 10 7 ([some (.ref 0)], [], σ) rfl ?_ (fun c4 => ?_) (fun c4 => ?_)
  · trivial
  · refine ev_blk 4 [] 18 ([some (.ref 0)], [.ref 13, .ref 1], σ) rfl ?_ ?_
    · trivial
    refine ev_callV M_X3_become [.ref 13] [] 1 rfl rfl ln_X5_251 k_X3_become rfl rfl rfl rfl rfl rfl (c_become1 _) ?_
    rintro r σ1 hq
    obtain rfl := hq.1
    show xEv _ _ _ 21 ([some (.ref 0)], [], σ1)
    refine ev_blk 6 [] 33 ([some (.ref 0)], [.int ((σ1 1 0))], (x_up σ1 0 (upd (σ1 0) 4 ((0 : Int32))))) rfl ?_ ?_
    · trivial
    exact ev_iret rfl rfl rfl (Or.inr ⟨c4, σ1, hq, rfl, rfl⟩)
  · refine ev_blk 1 [] 9 ([some (.ref 0)], [.int ((-3 : Int32))], σ) rfl ?_ ?_
    · trivial
    exact ev_iret rfl rfl rfl (Or.inl ⟨Classical.byContradiction c4, rfl, rfl⟩)
