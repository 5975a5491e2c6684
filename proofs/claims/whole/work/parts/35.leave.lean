def lvQ (σ : xSg) (n D : Nat) (x : Int32) : Option Value → xSg → Prop := fun r σ' => (¬ iN n x ∧ r = some (.int (-2)) ∧ σ' = σ) ∨ (∃ j, j < n ∧ x = nI j ∧ ((bt (σ 1 1) j = false ∧ r = some (.int (-3)) ∧ σ' = σ) ∨
  (bt (σ 1 1) j = true ∧ r = some (.int (bcI (σ 1 1 &&& ((1 : Int32) <<< (nI j &&& 31) ^^^ -1)))) ∧ remQ (x_up σ 1 (upd (σ 1) 1 (σ 1 1 &&& ((1 : Int32) <<< (nI j &&& 31) ^^^ -1)))) D ((1 : Int32) <<< (nI j &&& 31)) none σ')))
set_option maxRecDepth 100000 in
theorem c_leave (σ : xSg) (n : Nat) (hn : σ 1 0 = nI n) (hn10 : n ≤ 10) (D : Nat) (hD : σ 0 4 = nI D) (hD6 : D ≤ 6) (x : Int32) : xCtr M_X5_leave [.ref 0, .int (x)] σ (lvQ σ n D x) := by
  refine ctr_ev ok_X5_leave (by decide +kernel) rfl rfl rfl ?_
  show xEv (.inl 2) M_X5_leave _ 0 ([some (.ref 0), some (.int (x))], [], σ)
  refine ev_blk 3 [] 5 ([some (.ref 0), some (.int (x))], [.int (x), .ref 1], σ) rfl ?_ ?_
  · trivial
  refine ev_callV M_X3_isShip [.int (x)] [] 1 rfl rfl ln_X5_119 k_X3_isShip rfl rfl rfl rfl rfl rfl (c_isShip _ _) ?_
  refine pu_k ?_
  show xEv _ _ _ 8 ([some (.ref 0), some (.int (x))], [.int (zi (iSh σ x))], σ)
  refine ev_br 0 [] (¬ (zi (iSh σ x)) = 0) 14 11 ([some (.ref 0), some (.int (x))], [], σ) rfl ?_ (fun c8 => ?_) (fun c8 => ?_)
  · trivial
  · replace c8 := zi_1.mp c8
    have hx := (iSh_iN hn hn10).mp c8
    obtain ⟨j, hj, rfl⟩ := nI_of hx.1
    have hjn : j < n := Nat.lt_of_not_le (fun z => hx.2 (nI_le z hj))
    have hw0 := iWt (w := σ 1 1) hn hn10 (show j < 32 by omega)
    refine ev_blk 3 [] 19 ([some (.ref 0), some (.int (nI j))], [.int (nI j), .ref 1], σ) rfl ?_ ?_
    · trivial
    refine ev_callV M_X3_isWaiting [.int (nI j)] [] 1 rfl rfl ln_X5_122 k_X3_isWaiting rfl rfl rfl rfl rfl rfl (c_isWaiting _ _) ?_
    refine pu_k ?_
    show xEv _ _ _ 22 ([some (.ref 0), some (.int (nI j))], [.int (zi (iSh σ (nI j) ∧ ¬ (σ 1 1 >>> ((nI j) &&& 31)) &&& 1 = 0))], σ)
    refine ev_br 0 [] (¬ (zi (iSh σ (nI j) ∧ ¬ (σ 1 1 >>> ((nI j) &&& 31)) &&& 1 = 0)) = 0) 28 25 ([some (.ref 0), some (.int (nI j))], [], σ) rfl ?_ (fun c22 => ?_) (fun c22 => ?_)
    · trivial
    · replace c22 := zi_1.mp c22
      refine ev_blk 15 [] 49 ([some (.ref 0), some (.int (nI j))], [.int ((1 : Int32) <<< ((nI j) &&& 31)), .ref 0], (x_up σ 1 (upd (σ 1) 1 ((σ 1 1) &&& (((1 : Int32) <<< ((nI j) &&& 31)) ^^^ (-1 : Int32)))))) rfl ?_ ?_
      · trivial
      refine ev_callV M_X5_remember [.int ((1 : Int32) <<< ((nI j) &&& 31))] [] 0 rfl rfl ln_X5_168 k_X5_remember rfl rfl rfl rfl rfl rfl (c_remember _ D (by simp [x_up, hD]) hD6 _) ?_
      rintro r σ' hq
      obtain rfl := hq.1
      have hw : σ' 1 1 = σ 1 1 &&& ((1 : Int32) <<< (nI j &&& 31) ^^^ -1) := by rw [hq.2.1.2.2 1 (by simp)]; simp [x_up, upd]
      show xEv _ _ _ 52 ([some (.ref 0), some (.int (nI j))], [], σ')
      refine ev_blk 3 [] 59 ([some (.ref 0), some (.int (nI j))], [.int ((σ' 1 1))], σ') rfl ?_ ?_
      · trivial
      refine ev_callS M_J6_bitCount_0f7a4 [.int ((σ' 1 1))] [] rfl rfl ln_X5_138 k_J6_bitCount_0f7a4 rfl rfl rfl (c_bitCount _ _) ?_
      refine pu_k ?_
      rw [hw]
      show xEv _ _ _ 62 ([some (.ref 0), some (.int (nI j))], [.int (bcI (σ 1 1 &&& ((1 : Int32) <<< (nI j &&& 31) ^^^ -1)))], σ')
      exact ev_iret rfl rfl rfl (Or.inr ⟨j, hjn, rfl, Or.inr ⟨(hw0.mp c22).2, rfl, hq⟩⟩)
    · replace c22 := zi_n.mp c22
      refine ev_blk 1 [] 27 ([some (.ref 0), some (.int (nI j))], [.int ((-3 : Int32))], σ) rfl ?_ ?_
      · trivial
      exact ev_iret rfl rfl rfl (Or.inr ⟨j, hjn, rfl, Or.inl ⟨by
        cases hz : bt (σ 1 1) j with
        | false => rfl
        | true => exact absurd (hw0.mpr ⟨hjn, hz⟩) c22, rfl, rfl⟩⟩)
  · replace c8 := zi_n.mp c8
    refine ev_blk 1 [] 13 ([some (.ref 0), some (.int (x))], [.int ((-2 : Int32))], σ) rfl ?_ ?_
    · trivial
    exact ev_iret rfl rfl rfl (Or.inl ⟨fun q => c8 ((iSh_iN hn hn10).mpr q), rfl, rfl⟩)
