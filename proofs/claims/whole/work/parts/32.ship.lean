abbrev shV (la k ln fi lc : Int32) : Prop := (¬ la < 0 ∧ ¬ (2 : Int32) ≤ la) ∧ (¬ k < 0 ∧ ¬ (5 : Int32) < k) ∧ ¬ ln < 1 ∧ ln ≤ 9 ∧ ¬ fi < 0 ∧ fi ≤ 9 ∧ ¬ lc < 0 ∧ lc < 1000000
theorem i_21 {x : Int32} : (2 : Int32) ≤ x ↔ (1 : Int32) < x := by
  rw [Int32.le_iff_toInt_le, Int32.lt_iff_toInt_lt, show (2 : Int32).toInt = 2 by decide, show (1 : Int32).toInt = 1 by decide]
  omega
theorem i_6 {x : Int32} : x < 1000000 ↔ ¬ (999999 : Int32) < x := by
  rw [Int32.lt_iff_toInt_lt, Int32.lt_iff_toInt_lt, show (999999 : Int32).toInt = 999999 by decide, show (1000000 : Int32).toInt = 1000000 by decide]
  omega
def shQ (n : Nat) (σ σn : xSg) (la k ln fi lc : Int32) : Option Value → xSg → Prop := fun r σ' =>
  (¬ shV la k ln fi lc ∧ r = some (.int (-2)) ∧ σ' = σ) ∨ (shV la k ln fi lc ∧ n = 10 ∧ r = some (.int (-4)) ∧ σ' = σ) ∨ (shV la k ln fi lc ∧ n < 10 ∧ r = some (.int (nI n)) ∧ σ' = σn)
def cShip (σ : xSg) (n : Nat) (la k ln fi lc : Int32) : xSg := (x_up (x_up (x_up (x_up (x_up (x_up (x_up (x_up (x_up (x_up σ 2 (upd (σ 2) n (k))) 3 (upd (σ 3) n (ln))) 4 (upd (σ 4) n (fi))) 5 (upd (σ 5) n (lc / (1000 : Int32)))) 6 (upd (σ 6) n (lc - lc / (1000 : Int32) * (1000 : Int32)))) 7 (upd (σ 7) n (la))) 8 (upd (σ 8) n ((-1 : Int32)))) 1 (upd (σ 1) 1 ((σ 1 1) ||| ((1 : Int32) <<< ((nI n) &&& 31))))) 1 (upd (upd (σ 1) 1 ((σ 1 1) ||| ((1 : Int32) <<< ((nI n) &&& 31)))) 0 ((nI n) + (1 : Int32)))) 0 (upd (σ 0) 4 ((0 : Int32))))
set_option maxRecDepth 100000 in
theorem c_ship (σ : xSg) (n : Nat) (hn : σ 1 0 = nI n) (hn10 : n ≤ 10) (la k ln fi lc : Int32) : xCtr M_X5_ship [.ref 0, .int (la), .int (k), .int (ln), .int (fi), .int (lc)] σ (shQ n σ (cShip σ n la k ln fi lc) la k ln fi lc) := by
  refine ctr_ev ok_X5_ship (by decide +kernel) rfl rfl rfl ?_
  show xEv (.inl 1) M_X5_ship _ 0 ([some (.ref 0), some (.int (la)), some (.int (k)), some (.int (ln)), some (.int (fi)), some (.int (lc)), none], [], σ)
  refine ev_blk 1 [] 1 ([some (.ref 0), some (.int (la)), some (.int (k)), some (.int (ln)), some (.int (fi)), some (.int (lc)), none], [.int (la)], σ) rfl ?_ ?_
  · trivial
  refine ev_callS M_X5_isLane [.int (la)] [] rfl rfl ln_X5_57 k_X5_isLane rfl rfl rfl (c_isLane _ _) ?_
  refine pu_k ?_
  show xEv _ _ _ 4 ([some (.ref 0), some (.int (la)), some (.int (k)), some (.int (ln)), some (.int (fi)), some (.int (lc)), none], [.int (zi (¬ la < 0 ∧ ¬ (2 : Int32) ≤ la))], σ)
  refine ev_br 0 [] ((zi (¬ la < 0 ∧ ¬ (2 : Int32) ≤ la)) = 0) 25 7 ([some (.ref 0), some (.int (la)), some (.int (k)), some (.int (ln)), some (.int (fi)), some (.int (lc)), none], [], σ) rfl ?_ (fun c4 => ?_) (fun c4 => ?_)
  · trivial
  · replace c4 := zi_0.mp c4
    refine ev_blk 1 [] 27 ([some (.ref 0), some (.int (la)), some (.int (k)), some (.int (ln)), some (.int (fi)), some (.int (lc)), none], [.int ((-2 : Int32))], σ) rfl ?_ ?_
    · trivial
    exact ev_iret rfl rfl rfl (Or.inl ⟨fun q => c4 q.1, rfl, rfl⟩)
  · replace c4 := zi_1.mp c4
    refine ev_blk 1 [] 8 ([some (.ref 0), some (.int (la)), some (.int (k)), some (.int (ln)), some (.int (fi)), some (.int (lc)), none], [.int (k)], σ) rfl ?_ ?_
    · trivial
    refine ev_callS M_X5_isKind [.int (k)] [] rfl rfl ln_X5_61 k_X5_isKind rfl rfl rfl (c_isKind _ _) ?_
    refine pu_k ?_
    show xEv _ _ _ 11 ([some (.ref 0), some (.int (la)), some (.int (k)), some (.int (ln)), some (.int (fi)), some (.int (lc)), none], [.int (zi (¬ k < 0 ∧ ¬ (5 : Int32) < k))], σ)
    refine ev_br 0 [] ((zi (¬ k < 0 ∧ ¬ (5 : Int32) < k)) = 0) 25 14 ([some (.ref 0), some (.int (la)), some (.int (k)), some (.int (ln)), some (.int (fi)), some (.int (lc)), none], [], σ) rfl ?_ (fun c11 => ?_) (fun c11 => ?_)
    · trivial
    · replace c11 := zi_0.mp c11
      refine ev_blk 1 [] 27 ([some (.ref 0), some (.int (la)), some (.int (k)), some (.int (ln)), some (.int (fi)), some (.int (lc)), none], [.int ((-2 : Int32))], σ) rfl ?_ ?_
      · trivial
      exact ev_iret rfl rfl rfl (Or.inl ⟨fun q => c11 q.2.1, rfl, rfl⟩)
    · replace c11 := zi_1.mp c11
      refine ev_br 2 [] (ln < (1 : Int32)) 25 19 ([some (.ref 0), some (.int (la)), some (.int (k)), some (.int (ln)), some (.int (fi)), some (.int (lc)), none], [], σ) rfl ?_ (fun c16 => ?_) (fun c16 => ?_)
      · trivial
      · refine ev_blk 1 [] 27 ([some (.ref 0), some (.int (la)), some (.int (k)), some (.int (ln)), some (.int (fi)), some (.int (lc)), none], [.int ((-2 : Int32))], σ) rfl ?_ ?_
        · trivial
        exact ev_iret rfl rfl rfl (Or.inl ⟨fun q => q.2.2.1 c16, rfl, rfl⟩)
      · refine ev_br 2 [] (ln ≤ (9 : Int32)) 28 25 ([some (.ref 0), some (.int (la)), some (.int (k)), some (.int (ln)), some (.int (fi)), some (.int (lc)), none], [], σ) rfl ?_ (fun c22 => ?_) (fun c22 => ?_)
        · trivial
        · refine ev_br 1 [] (fi < 0) 40 33 ([some (.ref 0), some (.int (la)), some (.int (k)), some (.int (ln)), some (.int (fi)), some (.int (lc)), none], [], σ) rfl ?_ (fun c30 => ?_) (fun c30 => ?_)
          · trivial
          · refine ev_blk 1 [] 42 ([some (.ref 0), some (.int (la)), some (.int (k)), some (.int (ln)), some (.int (fi)), some (.int (lc)), none], [.int ((-2 : Int32))], σ) rfl ?_ ?_
            · trivial
            exact ev_iret rfl rfl rfl (Or.inl ⟨fun q => q.2.2.2.2.1 c30, rfl, rfl⟩)
          · refine ev_br 2 [] (fi ≤ (9 : Int32)) 43 40 ([some (.ref 0), some (.int (la)), some (.int (k)), some (.int (ln)), some (.int (fi)), some (.int (lc)), none], [], σ) rfl ?_ (fun c37 => ?_) (fun c37 => ?_)
            · trivial
            · refine ev_br 1 [] (lc < 0) 55 48 ([some (.ref 0), some (.int (la)), some (.int (k)), some (.int (ln)), some (.int (fi)), some (.int (lc)), none], [], σ) rfl ?_ (fun c45 => ?_) (fun c45 => ?_)
              · trivial
              · refine ev_blk 1 [] 57 ([some (.ref 0), some (.int (la)), some (.int (k)), some (.int (ln)), some (.int (fi)), some (.int (lc)), none], [.int ((-2 : Int32))], σ) rfl ?_ ?_
                · trivial
                exact ev_iret rfl rfl rfl (Or.inl ⟨fun q => q.2.2.2.2.2.2.1 c45, rfl, rfl⟩)
              · refine ev_br 2 [] (lc < (1000000 : Int32)) 58 55 ([some (.ref 0), some (.int (la)), some (.int (k)), some (.int (ln)), some (.int (fi)), some (.int (lc)), none], [], σ) rfl ?_ (fun c52 => ?_) (fun c52 => ?_)
                · trivial
                · refine ev_br 4 [] ((σ 1 0) < (10 : Int32)) 73 70 ([some (.ref 0), some (.int (la)), some (.int (k)), some (.int (ln)), some (.int (fi)), some (.int (lc)), none], [], σ) rfl ?_ (fun c67 => ?_) (fun c67 => ?_)
                  · trivial
                  · rw [hn] at c67
                    have hlt : n < 10 := by have := mt (fun z => nI_le (a := 10) (b := n) z (by omega)) (Int32.not_le.mpr c67); omega
                    have hin : vp_in (σ 1 0) 10 := by rw [hn]; exact vp_in_nI hlt (by decide)
                    have hnc : (nI n).toNatClampNeg = n := nI_clamp (by omega)
                    have h1000 : ¬ (1000 : Int32) = 0 := by decide
                    refine ev_blk 70 [vp_in ((σ 1 0)) 10, vp_in ((σ 1 0)) 10, vp_in ((σ 1 0)) 10, ¬ (1000 : Int32) = 0, vp_in ((σ 1 0)) 10, ¬ (1000 : Int32) = 0, vp_in ((σ 1 0)) 10, vp_in ((σ 1 0)) 10, vp_in ((σ 1 0)) 10] 206 ([some (.ref 0), some (.int (la)), some (.int (k)), some (.int (ln)), some (.int (fi)), some (.int (lc)), some (.int ((σ 1 0)))], [.int ((σ 1 0))], (x_up (x_up (x_up (x_up (x_up (x_up (x_up (x_up (x_up (x_up σ 2 (upd (σ 2) (σ 1 0).toNatClampNeg (k))) 3 (upd (σ 3) (σ 1 0).toNatClampNeg (ln))) 4 (upd (σ 4) (σ 1 0).toNatClampNeg (fi))) 5 (upd (σ 5) (σ 1 0).toNatClampNeg (lc / (1000 : Int32)))) 6 (upd (σ 6) (σ 1 0).toNatClampNeg (lc - lc / (1000 : Int32) * (1000 : Int32)))) 7 (upd (σ 7) (σ 1 0).toNatClampNeg (la))) 8 (upd (σ 8) (σ 1 0).toNatClampNeg ((-1 : Int32)))) 1 (upd (σ 1) 1 ((σ 1 1) ||| ((1 : Int32) <<< ((σ 1 0) &&& 31))))) 1 (upd (upd (σ 1) 1 ((σ 1 1) ||| ((1 : Int32) <<< ((σ 1 0) &&& 31)))) 0 ((σ 1 0) + (1 : Int32)))) 0 (upd (σ 0) 4 ((0 : Int32))))) rfl ?_ ?_
                    · exact ⟨hin, hin, hin, h1000, hin, h1000, hin, hin, hin⟩
                    rw [hn]
                    rw [hnc]
                    exact ev_iret rfl rfl rfl (Or.inr (Or.inr ⟨⟨c4, c11, c16, c22, c30, c37, c45, c52⟩, hlt, rfl, rfl⟩))
                  · refine ev_blk 1 [] 72 ([some (.ref 0), some (.int (la)), some (.int (k)), some (.int (ln)), some (.int (fi)), some (.int (lc)), none], [.int ((-4 : Int32))], σ) rfl ?_ ?_
                    · trivial
                    rw [hn] at c67
                    exact ev_iret rfl rfl rfl (Or.inr (Or.inl ⟨⟨c4, c11, c16, c22, c30, c37, c45, c52⟩, by have := mt (fun z => nI_lt (a := n) (b := 10) z (by decide)) c67; omega, rfl, rfl⟩))
                · refine ev_blk 1 [] 57 ([some (.ref 0), some (.int (la)), some (.int (k)), some (.int (ln)), some (.int (fi)), some (.int (lc)), none], [.int ((-2 : Int32))], σ) rfl ?_ ?_
                  · trivial
                  exact ev_iret rfl rfl rfl (Or.inl ⟨fun q => c52 q.2.2.2.2.2.2.2, rfl, rfl⟩)
            · refine ev_blk 1 [] 42 ([some (.ref 0), some (.int (la)), some (.int (k)), some (.int (ln)), some (.int (fi)), some (.int (lc)), none], [.int ((-2 : Int32))], σ) rfl ?_ ?_
              · trivial
              exact ev_iret rfl rfl rfl (Or.inl ⟨fun q => c37 q.2.2.2.2.2.1, rfl, rfl⟩)
        · refine ev_blk 1 [] 27 ([some (.ref 0), some (.int (la)), some (.int (k)), some (.int (ln)), some (.int (fi)), some (.int (lc)), none], [.int ((-2 : Int32))], σ) rfl ?_ ?_
          · trivial
          exact ev_iret rfl rfl rfl (Or.inl ⟨fun q => c22 q.2.2.2.1, rfl, rfl⟩)
def mShip0 (σ : xSg) (n len : Nat) (k ln fi lc : Int32) : xSg := (x_up (x_up (x_up (x_up (x_up (x_up (x_up (x_up (x_up (x_up (x_up (x_up σ 58 (upd (σ 58) n (k))) 59 (upd (σ 59) n (ln))) 60 (upd (σ 60) n (fi))) 61 (upd (σ 61) n (lc / (1000 : Int32)))) 62 (upd (σ 62) n (lc - lc / (1000 : Int32) * (1000 : Int32)))) 63 (upd (σ 63) n ((0 : Int32)))) 64 (upd (σ 64) n ((0 : Int32)))) 65 (upd (σ 65) n ((-1 : Int32)))) 66 (upd (σ 66) (0 + len) ((nI n)))) 67 (upd (σ 67) 0 ((nI len) + (1 : Int32)))) 57 (upd (σ 57) 16 ((0 : Int32)))) 57 (upd (upd (σ 57) 16 ((0 : Int32))) 0 ((nI n) + (1 : Int32))))
def mShip1 (σ : xSg) (n len : Nat) (k ln fi lc : Int32) : xSg := (x_up (x_up (x_up (x_up (x_up (x_up (x_up (x_up (x_up (x_up (x_up (x_up σ 58 (upd (σ 58) n (k))) 59 (upd (σ 59) n (ln))) 60 (upd (σ 60) n (fi))) 61 (upd (σ 61) n (lc / (1000 : Int32)))) 62 (upd (σ 62) n (lc - lc / (1000 : Int32) * (1000 : Int32)))) 63 (upd (σ 63) n ((1 : Int32)))) 64 (upd (σ 64) n ((0 : Int32)))) 65 (upd (σ 65) n ((-1 : Int32)))) 66 (upd (σ 66) (10 + len) ((nI n)))) 67 (upd (σ 67) 1 ((nI len) + (1 : Int32)))) 57 (upd (σ 57) 16 ((0 : Int32)))) 57 (upd (upd (σ 57) 16 ((0 : Int32))) 0 ((nI n) + (1 : Int32))))
def mShip (σ : xSg) (n a b : Nat) (la k ln fi lc : Int32) : xSg := if la = 0 then mShip0 σ n a k ln fi lc else mShip1 σ n b k ln fi lc
set_option maxRecDepth 100000 in
theorem m_comesTo (σ : xSg) (n : Nat) (hn : σ 57 0 = nI n) (hn10 : n ≤ 10) (A B : List Nat) (hL : LR σ A B) (hAB : A.length + B.length ≤ n) (la k ln fi lc : Int32) : xCtr M_X6_comesTo [.ref 57, .int (la), .int (k), .int (ln), .int (fi), .int (lc)] σ (shQ n σ (mShip σ n A.length B.length la k ln fi lc) la k ln fi lc) := by
  refine ctr_ev ok_X6_comesTo (by decide +kernel) rfl rfl rfl ?_
  show xEv (.inl 1) M_X6_comesTo _ 0 ([some (.ref 57), some (.int (la)), some (.int (k)), some (.int (ln)), some (.int (fi)), some (.int (lc))], [], σ)
  refine ev_blk 3 [] 3 ([some (.ref 57), some (.int (la)), some (.int (k)), some (.int (ln)), some (.int (fi)), some (.int (lc))], [.int ((1 : Int32)), .int ((0 : Int32)), .int (la)], σ) rfl ?_ ?_
  · trivial
  refine ev_callS M_X6_within [.int (la), .int ((0 : Int32)), .int ((1 : Int32))] [] rfl rfl ln_X6_110 k_X6_within rfl rfl rfl (m_within _ _ _ _) ?_
  refine pu_k ?_
  show xEv _ _ _ 6 ([some (.ref 57), some (.int (la)), some (.int (k)), some (.int (ln)), some (.int (fi)), some (.int (lc))], [.int (zi (¬ la < (0 : Int32) ∧ ¬ (1 : Int32) < la))], σ)
  refine ev_br 0 [] ((zi (¬ la < (0 : Int32) ∧ ¬ (1 : Int32) < la)) = 0) 50 9 ([some (.ref 57), some (.int (la)), some (.int (k)), some (.int (ln)), some (.int (fi)), some (.int (lc))], [], σ) rfl ?_ (fun c6 => ?_) (fun c6 => ?_)
  · trivial
  · replace c6 := zi_0.mp c6
    refine ev_blk 1 [] 52 ([some (.ref 57), some (.int (la)), some (.int (k)), some (.int (ln)), some (.int (fi)), some (.int (lc))], [.int ((-2 : Int32))], σ) rfl ?_ ?_
    · trivial
    exact ev_iret rfl rfl rfl (Or.inl ⟨fun q => c6 ⟨q.1.1, fun z => q.1.2 (i_21.mpr z)⟩, rfl, rfl⟩)
  · replace c6 := zi_1.mp c6
    refine ev_blk 3 [] 12 ([some (.ref 57), some (.int (la)), some (.int (k)), some (.int (ln)), some (.int (fi)), some (.int (lc))], [.int ((5 : Int32)), .int ((0 : Int32)), .int (k)], σ) rfl ?_ ?_
    · trivial
    refine ev_callS M_X6_within [.int (k), .int ((0 : Int32)), .int ((5 : Int32))] [] rfl rfl ln_X6_110 k_X6_within rfl rfl rfl (m_within _ _ _ _) ?_
    refine pu_k ?_
    show xEv _ _ _ 15 ([some (.ref 57), some (.int (la)), some (.int (k)), some (.int (ln)), some (.int (fi)), some (.int (lc))], [.int (zi (¬ k < (0 : Int32) ∧ ¬ (5 : Int32) < k))], σ)
    refine ev_br 0 [] ((zi (¬ k < (0 : Int32) ∧ ¬ (5 : Int32) < k)) = 0) 50 18 ([some (.ref 57), some (.int (la)), some (.int (k)), some (.int (ln)), some (.int (fi)), some (.int (lc))], [], σ) rfl ?_ (fun c15 => ?_) (fun c15 => ?_)
    · trivial
    · replace c15 := zi_0.mp c15
      refine ev_blk 1 [] 52 ([some (.ref 57), some (.int (la)), some (.int (k)), some (.int (ln)), some (.int (fi)), some (.int (lc))], [.int ((-2 : Int32))], σ) rfl ?_ ?_
      · trivial
      exact ev_iret rfl rfl rfl (Or.inl ⟨fun q => c15 q.2.1, rfl, rfl⟩)
    · replace c15 := zi_1.mp c15
      refine ev_blk 3 [] 22 ([some (.ref 57), some (.int (la)), some (.int (k)), some (.int (ln)), some (.int (fi)), some (.int (lc))], [.int ((9 : Int32)), .int ((1 : Int32)), .int (ln)], σ) rfl ?_ ?_
      · trivial
      refine ev_callS M_X6_within [.int (ln), .int ((1 : Int32)), .int ((9 : Int32))] [] rfl rfl ln_X6_110 k_X6_within rfl rfl rfl (m_within _ _ _ _) ?_
      refine pu_k ?_
      show xEv _ _ _ 25 ([some (.ref 57), some (.int (la)), some (.int (k)), some (.int (ln)), some (.int (fi)), some (.int (lc))], [.int (zi (¬ ln < (1 : Int32) ∧ ¬ (9 : Int32) < ln))], σ)
      refine ev_br 0 [] ((zi (¬ ln < (1 : Int32) ∧ ¬ (9 : Int32) < ln)) = 0) 50 28 ([some (.ref 57), some (.int (la)), some (.int (k)), some (.int (ln)), some (.int (fi)), some (.int (lc))], [], σ) rfl ?_ (fun c25 => ?_) (fun c25 => ?_)
      · trivial
      · replace c25 := zi_0.mp c25
        refine ev_blk 1 [] 52 ([some (.ref 57), some (.int (la)), some (.int (k)), some (.int (ln)), some (.int (fi)), some (.int (lc))], [.int ((-2 : Int32))], σ) rfl ?_ ?_
        · trivial
        exact ev_iret rfl rfl rfl (Or.inl ⟨fun q => c25 ⟨q.2.2.1, Int32.not_lt.mpr q.2.2.2.1⟩, rfl, rfl⟩)
      · replace c25 := zi_1.mp c25
        refine ev_blk 3 [] 33 ([some (.ref 57), some (.int (la)), some (.int (k)), some (.int (ln)), some (.int (fi)), some (.int (lc))], [.int ((9 : Int32)), .int ((0 : Int32)), .int (fi)], σ) rfl ?_ ?_
        · trivial
        refine ev_callS M_X6_within [.int (fi), .int ((0 : Int32)), .int ((9 : Int32))] [] rfl rfl ln_X6_110 k_X6_within rfl rfl rfl (m_within _ _ _ _) ?_
        refine pu_k ?_
        show xEv _ _ _ 36 ([some (.ref 57), some (.int (la)), some (.int (k)), some (.int (ln)), some (.int (fi)), some (.int (lc))], [.int (zi (¬ fi < (0 : Int32) ∧ ¬ (9 : Int32) < fi))], σ)
        refine ev_br 0 [] ((zi (¬ fi < (0 : Int32) ∧ ¬ (9 : Int32) < fi)) = 0) 50 39 ([some (.ref 57), some (.int (la)), some (.int (k)), some (.int (ln)), some (.int (fi)), some (.int (lc))], [], σ) rfl ?_ (fun c36 => ?_) (fun c36 => ?_)
        · trivial
        · replace c36 := zi_0.mp c36
          refine ev_blk 1 [] 52 ([some (.ref 57), some (.int (la)), some (.int (k)), some (.int (ln)), some (.int (fi)), some (.int (lc))], [.int ((-2 : Int32))], σ) rfl ?_ ?_
          · trivial
          exact ev_iret rfl rfl rfl (Or.inl ⟨fun q => c36 ⟨q.2.2.2.2.1, Int32.not_lt.mpr q.2.2.2.2.2.1⟩, rfl, rfl⟩)
        · replace c36 := zi_1.mp c36
          refine ev_blk 3 [] 44 ([some (.ref 57), some (.int (la)), some (.int (k)), some (.int (ln)), some (.int (fi)), some (.int (lc))], [.int ((999999 : Int32)), .int ((0 : Int32)), .int (lc)], σ) rfl ?_ ?_
          · trivial
          refine ev_callS M_X6_within [.int (lc), .int ((0 : Int32)), .int ((999999 : Int32))] [] rfl rfl ln_X6_110 k_X6_within rfl rfl rfl (m_within _ _ _ _) ?_
          refine pu_k ?_
          show xEv _ _ _ 47 ([some (.ref 57), some (.int (la)), some (.int (k)), some (.int (ln)), some (.int (fi)), some (.int (lc))], [.int (zi (¬ lc < (0 : Int32) ∧ ¬ (999999 : Int32) < lc))], σ)
          refine ev_br 0 [] (¬ (zi (¬ lc < (0 : Int32) ∧ ¬ (999999 : Int32) < lc)) = 0) 53 50 ([some (.ref 57), some (.int (la)), some (.int (k)), some (.int (ln)), some (.int (fi)), some (.int (lc))], [], σ) rfl ?_ (fun c47 => ?_) (fun c47 => ?_)
          · trivial
          · replace c47 := zi_1.mp c47
            refine ev_br 3 [] (¬ (σ 57 0) = (10 : Int32)) 65 62 ([some (.ref 57), some (.int (la)), some (.int (k)), some (.int (ln)), some (.int (fi)), some (.int (lc))], [], σ) rfl ?_ (fun c59 => ?_) (fun c59 => ?_)
            · trivial
            · have hlt : n < 10 := by
                have : n ≠ 10 := fun q => c59 (by rw [hn, q]; rfl)
                omega
              have hin : vp_in (σ 57 0) 10 := by rw [hn]; exact vp_in_nI hlt (by decide)
              have hnc : (nI n).toNatClampNeg = n := nI_clamp (by omega)
              have h1000 : ¬ (1000 : Int32) = 0 := by decide
              obtain ⟨l, hl, rfl⟩ := nI_of c6.1
              rcases (show l = 0 ∨ l = 1 by have := mt (fun z => nI_lt (a := 1) (b := l) z hl) c6.2; omega) with rfl | rfl
              · have hm := hL.2.2.2.2.1
                have hl2 : vp_in (0 : Int32) 2 := vp_in_nI (n := 0) (by decide) (by decide)
                have hix : ((0 : Int32) + (σ 67 0)) = nI (0 + A.length) := by rw [hm, show (0 : Int32) = nI 0 from rfl, nI_add]
                have hl20 : vp_in ((0 : Int32) + (σ 67 0)) 20 := by rw [hix]; exact vp_in_nI (by omega) (by decide)
                have hixc : (nI (0 + A.length)).toNatClampNeg = 0 + A.length := nI_clamp (by omega)
                show xEv _ _ _ 65 ([some (.ref 57), some (.int ((0 : Int32))), some (.int (k)), some (.int (ln)), some (.int (fi)), some (.int (lc))], [], σ)
                refine ev_blk 83 [vp_in ((σ 57 0)) 10, vp_in ((σ 57 0)) 10, vp_in ((σ 57 0)) 10, ¬ (1000 : Int32) = 0, vp_in ((σ 57 0)) 10, ¬ (1000 : Int32) = 0, vp_in ((σ 57 0)) 10, vp_in ((σ 57 0)) 10, vp_in ((σ 57 0)) 10, vp_in ((σ 57 0)) 10, vp_in ((0 : Int32)) 2, vp_in ((0 : Int32) + ((σ 67) 0)) 20, vp_in ((0 : Int32)) 2, vp_in ((0 : Int32)) 2] 202 ([some (.ref 57), some (.int ((0 : Int32))), some (.int (k)), some (.int (ln)), some (.int (fi)), some (.int (lc))], [.int ((σ 57 0))], (x_up (x_up (x_up (x_up (x_up (x_up (x_up (x_up (x_up (x_up (x_up (x_up σ 58 (upd (σ 58) (σ 57 0).toNatClampNeg (k))) 59 (upd (σ 59) (σ 57 0).toNatClampNeg (ln))) 60 (upd (σ 60) (σ 57 0).toNatClampNeg (fi))) 61 (upd (σ 61) (σ 57 0).toNatClampNeg (lc / (1000 : Int32)))) 62 (upd (σ 62) (σ 57 0).toNatClampNeg (lc - lc / (1000 : Int32) * (1000 : Int32)))) 63 (upd (σ 63) (σ 57 0).toNatClampNeg ((0 : Int32)))) 64 (upd (σ 64) (σ 57 0).toNatClampNeg ((0 : Int32)))) 65 (upd (σ 65) (σ 57 0).toNatClampNeg ((-1 : Int32)))) 66 (upd (σ 66) ((0 : Int32) + ((σ 67) 0)).toNatClampNeg ((σ 57 0)))) 67 (upd (σ 67) 0 (((σ 67) 0) + (1 : Int32)))) 57 (upd (σ 57) 16 ((0 : Int32)))) 57 (upd (upd (σ 57) 16 ((0 : Int32))) 0 ((σ 57 0) + (1 : Int32))))) rfl ?_ ?_
                · exact ⟨hin, hin, hin, h1000, hin, h1000, hin, hin, hin, hin, hl2, hl20, hl2, hl2⟩
                rw [hn]
                rw [hnc]
                rw [hix, hixc]
                rw [hm]
                exact ev_iret rfl rfl rfl (Or.inr (Or.inr ⟨⟨⟨c6.1, fun q => c6.2 (i_21.mp q)⟩, c15, c25.1, Int32.not_lt.mp c25.2, c36.1, Int32.not_lt.mp c36.2, c47.1, i_6.mpr c47.2⟩, hlt, rfl, rfl⟩))
              · have hm := hL.2.2.2.2.2
                have hl2 : vp_in (1 : Int32) 2 := vp_in_nI (n := 1) (by decide) (by decide)
                have hix : ((10 : Int32) + (σ 67 1)) = nI (10 + B.length) := by rw [hm, show (10 : Int32) = nI 10 from rfl, nI_add]
                have hl20 : vp_in ((10 : Int32) + (σ 67 1)) 20 := by rw [hix]; exact vp_in_nI (by omega) (by decide)
                have hixc : (nI (10 + B.length)).toNatClampNeg = 10 + B.length := nI_clamp (by omega)
                show xEv _ _ _ 65 ([some (.ref 57), some (.int ((1 : Int32))), some (.int (k)), some (.int (ln)), some (.int (fi)), some (.int (lc))], [], σ)
                refine ev_blk 83 [vp_in ((σ 57 0)) 10, vp_in ((σ 57 0)) 10, vp_in ((σ 57 0)) 10, ¬ (1000 : Int32) = 0, vp_in ((σ 57 0)) 10, ¬ (1000 : Int32) = 0, vp_in ((σ 57 0)) 10, vp_in ((σ 57 0)) 10, vp_in ((σ 57 0)) 10, vp_in ((σ 57 0)) 10, vp_in ((1 : Int32)) 2, vp_in ((10 : Int32) + ((σ 67) 1)) 20, vp_in ((1 : Int32)) 2, vp_in ((1 : Int32)) 2] 202 ([some (.ref 57), some (.int ((1 : Int32))), some (.int (k)), some (.int (ln)), some (.int (fi)), some (.int (lc))], [.int ((σ 57 0))], (x_up (x_up (x_up (x_up (x_up (x_up (x_up (x_up (x_up (x_up (x_up (x_up σ 58 (upd (σ 58) (σ 57 0).toNatClampNeg (k))) 59 (upd (σ 59) (σ 57 0).toNatClampNeg (ln))) 60 (upd (σ 60) (σ 57 0).toNatClampNeg (fi))) 61 (upd (σ 61) (σ 57 0).toNatClampNeg (lc / (1000 : Int32)))) 62 (upd (σ 62) (σ 57 0).toNatClampNeg (lc - lc / (1000 : Int32) * (1000 : Int32)))) 63 (upd (σ 63) (σ 57 0).toNatClampNeg ((1 : Int32)))) 64 (upd (σ 64) (σ 57 0).toNatClampNeg ((0 : Int32)))) 65 (upd (σ 65) (σ 57 0).toNatClampNeg ((-1 : Int32)))) 66 (upd (σ 66) ((10 : Int32) + ((σ 67) 1)).toNatClampNeg ((σ 57 0)))) 67 (upd (σ 67) 1 (((σ 67) 1) + (1 : Int32)))) 57 (upd (σ 57) 16 ((0 : Int32)))) 57 (upd (upd (σ 57) 16 ((0 : Int32))) 0 ((σ 57 0) + (1 : Int32))))) rfl ?_ ?_
                · exact ⟨hin, hin, hin, h1000, hin, h1000, hin, hin, hin, hin, hl2, hl20, hl2, hl2⟩
                rw [hn]
                rw [hnc]
                rw [hix, hixc]
                rw [hm]
                exact ev_iret rfl rfl rfl (Or.inr (Or.inr ⟨⟨⟨c6.1, fun q => c6.2 (i_21.mp q)⟩, c15, c25.1, Int32.not_lt.mp c25.2, c36.1, Int32.not_lt.mp c36.2, c47.1, i_6.mpr c47.2⟩, hlt, rfl, rfl⟩))
            · refine ev_blk 1 [] 64 ([some (.ref 57), some (.int (la)), some (.int (k)), some (.int (ln)), some (.int (fi)), some (.int (lc))], [.int ((-4 : Int32))], σ) rfl ?_ ?_
              · trivial
              rw [hn] at c59
              exact ev_iret rfl rfl rfl (Or.inr (Or.inl ⟨⟨⟨c6.1, fun q => c6.2 (i_21.mp q)⟩, c15, c25.1, Int32.not_lt.mp c25.2, c36.1, Int32.not_lt.mp c36.2, c47.1, i_6.mpr c47.2⟩, (nI_eq (by omega) (by decide)).mp (Classical.byContradiction c59), rfl, rfl⟩))
          · replace c47 := zi_n.mp c47
            refine ev_blk 1 [] 52 ([some (.ref 57), some (.int (la)), some (.int (k)), some (.int (ln)), some (.int (fi)), some (.int (lc))], [.int ((-2 : Int32))], σ) rfl ?_ ?_
            · trivial
            exact ev_iret rfl rfl rfl (Or.inl ⟨fun q => c47 ⟨q.2.2.2.2.2.2.1, i_6.mp q.2.2.2.2.2.2.2⟩, rfl, rfl⟩)
set_option maxRecDepth 100000 in
theorem m_ship (σ : xSg) (n : Nat) (hn : σ 57 0 = nI n) (hn10 : n ≤ 10) (A B : List Nat) (hL : LR σ A B) (hAB : A.length + B.length ≤ n) (la k ln fi lc : Int32) : xCtr M_X6_ship [.ref 57, .int (la), .int (k), .int (ln), .int (fi), .int (lc)] σ (shQ n σ (mShip σ n A.length B.length la k ln fi lc) la k ln fi lc) := by
  refine ctr_ev ok_X6_ship (by decide +kernel) rfl rfl rfl ?_
  show xEv (.inl 2) M_X6_ship _ 0 ([some (.ref 57), some (.int (la)), some (.int (k)), some (.int (ln)), some (.int (fi)), some (.int (lc))], [], σ)
  refine ev_blk 6 [] 8 ([some (.ref 57), some (.int (la)), some (.int (k)), some (.int (ln)), some (.int (fi)), some (.int (lc))], [.int (lc), .int (fi), .int (ln), .int (k), .int (la), .ref 57], σ) rfl ?_ ?_
  · trivial
  refine ev_callV M_X6_comesTo [.int (la), .int (k), .int (ln), .int (fi), .int (lc)] [] 57 rfl rfl ln_X6_118 k_X6_comesTo rfl rfl rfl rfl rfl rfl (m_comesTo σ n hn hn10 A B hL hAB la k ln fi lc) ?_
  rintro r σ1 hq
  obtain ⟨v, rfl⟩ : ∃ v, r = some (.int v) := hq.elim (fun z => ⟨_, z.2.1⟩) (fun z => z.elim (fun z => ⟨_, z.2.2.1⟩) (fun z => ⟨_, z.2.2.1⟩))
  show xEv _ _ _ 11 ([some (.ref 57), some (.int (la)), some (.int (k)), some (.int (ln)), some (.int (fi)), some (.int (lc))], [.int v], σ1)
  exact ev_iret rfl rfl rfl hq
