set_option maxRecDepth 100000 in
theorem m_taken (σ : xSg) (n : Nat) (hn : σ 57 0 = nI n) (hn10 : n ≤ 10) (x k : Int32) : xCtr M_X6_taken [.ref 57, .int (x), .int (k)] σ (fun r σ1 => r = some (.int (s_tak n (atM σ) x k)) ∧ σ1 = σ) := by
  refine ctr_ev ok_X6_taken (by decide +kernel) rfl rfl rfl ?_
  show xEv (.inl 2) M_X6_taken _ 0 ([some (.ref 57), some (.int (x)), some (.int (k)), none, none], [], σ)
  refine ev_blk 2 [] 2 ([some (.ref 57), some (.int (x)), some (.int (k)), none, none], [.int (x), .ref 57], σ) rfl ?_ ?_
  · trivial
  refine ev_callV M_X6_isShip [.int (x)] [] 57 rfl rfl ln_X6_136 k_X6_isShip rfl rfl rfl rfl rfl rfl (m_isShip _ _) ?_
  refine pu_k ?_
  show xEv _ _ _ 5 ([some (.ref 57), some (.int (x)), some (.int (k)), none, none], [.int (zi (¬ (x) < 0 ∧ ¬ σ 57 0 - 1 < (x)))], σ)
  refine ev_br 0 [] ((zi (¬ (x) < 0 ∧ ¬ σ 57 0 - 1 < (x))) = 0) 17 8 ([some (.ref 57), some (.int (x)), some (.int (k)), none, none], [], σ) rfl ?_ (fun c5 => ?_) (fun c5 => ?_)
  · trivial
  · replace c5 := zi_0.mp c5
    refine ev_blk 1 [] 19 ([some (.ref 57), some (.int (x)), some (.int (k)), none, none], [.int ((-2 : Int32))], σ) rfl ?_ ?_
    · trivial
    rw [hn] at c5
    exact ev_iret rfl rfl rfl (pu_v (by rw [s_tak, if_neg (fun q => c5 ((mSh hn10).mpr q.1))]))
  · replace c5 := zi_1.mp c5
    refine ev_blk 3 [] 11 ([some (.ref 57), some (.int (x)), some (.int (k)), none, none], [.int ((5 : Int32)), .int ((0 : Int32)), .int (k)], σ) rfl ?_ ?_
    · trivial
    refine ev_callS M_X6_within [.int (k), .int ((0 : Int32)), .int ((5 : Int32))] [] rfl rfl ln_X6_110 k_X6_within rfl rfl rfl (m_within _ _ _ _) ?_
    refine pu_k ?_
    show xEv _ _ _ 14 ([some (.ref 57), some (.int (x)), some (.int (k)), none, none], [.int (zi (¬ k < (0 : Int32) ∧ ¬ (5 : Int32) < k))], σ)
    refine ev_br 0 [] (¬ (zi (¬ k < (0 : Int32) ∧ ¬ (5 : Int32) < k)) = 0) 20 17 ([some (.ref 57), some (.int (x)), some (.int (k)), none, none], [], σ) rfl ?_ (fun c14 => ?_) (fun c14 => ?_)
    · trivial
    · replace c14 := zi_1.mp c14
      rw [hn] at c5
      have hx := (mSh hn10).mp c5
      obtain ⟨j, hj, rfl⟩ := nI_of hx.1
      have hjn : j < n := Nat.lt_of_not_le (fun z => hx.2 (nI_le z hj))
      have hjc : (nI j).toNatClampNeg = j := nI_clamp hj
      have hin : vp_in (nI j) 10 := vp_in_nI (by omega) (by decide)
      have hval : s_tak n (atM σ) (nI j) k = if s_und (σ 58 j) k then σ 59 j else -13 := by rw [s_tak, if_pos ⟨hx, c14⟩, hjc]
      rw [hval]
      refine ev_br 6 [vp_in (nI j) 10] (k = 0) 61 31 ([some (.ref 57), some (.int (nI j)), some (.int (k)), some (.int ((σ 58) (nI j).toNatClampNeg)), none], [], σ) rfl ?_ (fun c28 => ?_) (fun c28 => ?_)
      · exact hin
      · rw [hjc]
        refine ev_blk 2 [] 66 ([some (.ref 57), some (.int (nI j)), some (.int (k)), some (.int ((σ 58) j)), none], [.int ((1 : Int32))], σ) rfl ?_ ?_
        · trivial
        have hu : s_und (σ 58 j) k := by
          exact Or.inl c28
        refine ev_br 2 [] ((1 : Int32) = 0) 82 73 ([some (.ref 57), some (.int (nI j)), some (.int (k)), some (.int ((σ 58) j)), some (.int ((1 : Int32)))], [], σ) rfl ?_ (fun c70 => ?_) (fun c70 => ?_)
        · trivial
        · exact absurd c70 (by decide)
        · refine ev_blk 5 [vp_in (nI j) 10] 84 ([some (.ref 57), some (.int (nI j)), some (.int (k)), some (.int ((σ 58) j)), some (.int ((1 : Int32)))], [.int ((σ 59) (nI j).toNatClampNeg)], σ) rfl ?_ ?_
          · exact hin
          rw [hjc]
          exact ev_iret rfl rfl rfl (pu_v (by rw [if_pos hu]))
      · rw [hjc]
        refine ev_br 2 [] (((σ 58) j) = k) 61 36 ([some (.ref 57), some (.int (nI j)), some (.int (k)), some (.int ((σ 58) j)), none], [], σ) rfl ?_ (fun c33 => ?_) (fun c33 => ?_)
        · trivial
        · refine ev_blk 2 [] 66 ([some (.ref 57), some (.int (nI j)), some (.int (k)), some (.int ((σ 58) j)), none], [.int ((1 : Int32))], σ) rfl ?_ ?_
          · trivial
          have hu : s_und (σ 58 j) k := by
            exact Or.inr (Or.inl c33)
          refine ev_br 2 [] ((1 : Int32) = 0) 82 73 ([some (.ref 57), some (.int (nI j)), some (.int (k)), some (.int ((σ 58) j)), some (.int ((1 : Int32)))], [], σ) rfl ?_ (fun c70 => ?_) (fun c70 => ?_)
          · trivial
          · exact absurd c70 (by decide)
          · refine ev_blk 5 [vp_in (nI j) 10] 84 ([some (.ref 57), some (.int (nI j)), some (.int (k)), some (.int ((σ 58) j)), some (.int ((1 : Int32)))], [.int ((σ 59) (nI j).toNatClampNeg)], σ) rfl ?_ ?_
            · exact hin
            rw [hjc]
            exact ev_iret rfl rfl rfl (pu_v (by rw [if_pos hu]))
        · refine ev_br 2 [] (¬ k = (1 : Int32)) 51 41 ([some (.ref 57), some (.int (nI j)), some (.int (k)), some (.int ((σ 58) j)), none], [], σ) rfl ?_ (fun c38 => ?_) (fun c38 => ?_)
          · trivial
          · refine ev_br 2 [] (¬ k = (3 : Int32)) 65 56 ([some (.ref 57), some (.int (nI j)), some (.int (k)), some (.int ((σ 58) j)), none], [], σ) rfl ?_ (fun c53 => ?_) (fun c53 => ?_)
            · trivial
            · refine ev_blk 1 [] 66 ([some (.ref 57), some (.int (nI j)), some (.int (k)), some (.int ((σ 58) j)), none], [.int ((0 : Int32))], σ) rfl ?_ ?_
              · trivial
              have hu : ¬ s_und (σ 58 j) k := by
                rintro (q | q | ⟨q, q2⟩ | ⟨q, q2⟩) <;> simp_all
              refine ev_br 2 [] ((0 : Int32) = 0) 82 73 ([some (.ref 57), some (.int (nI j)), some (.int (k)), some (.int ((σ 58) j)), some (.int ((0 : Int32)))], [], σ) rfl ?_ (fun c70 => ?_) (fun c70 => ?_)
              · trivial
              · refine ev_blk 1 [] 84 ([some (.ref 57), some (.int (nI j)), some (.int (k)), some (.int ((σ 58) j)), some (.int ((0 : Int32)))], [.int ((-13 : Int32))], σ) rfl ?_ ?_
                · trivial
                exact ev_iret rfl rfl rfl (pu_v (by rw [if_neg hu]))
              · exact absurd (by decide) c70
            · refine ev_br 2 [] (¬ ((σ 58) j) = (4 : Int32)) 65 61 ([some (.ref 57), some (.int (nI j)), some (.int (k)), some (.int ((σ 58) j)), none], [], σ) rfl ?_ (fun c58 => ?_) (fun c58 => ?_)
              · trivial
              · refine ev_blk 1 [] 66 ([some (.ref 57), some (.int (nI j)), some (.int (k)), some (.int ((σ 58) j)), none], [.int ((0 : Int32))], σ) rfl ?_ ?_
                · trivial
                have hu : ¬ s_und (σ 58 j) k := by
                  rintro (q | q | ⟨q, q2⟩ | ⟨q, q2⟩) <;> simp_all
                refine ev_br 2 [] ((0 : Int32) = 0) 82 73 ([some (.ref 57), some (.int (nI j)), some (.int (k)), some (.int ((σ 58) j)), some (.int ((0 : Int32)))], [], σ) rfl ?_ (fun c70 => ?_) (fun c70 => ?_)
                · trivial
                · refine ev_blk 1 [] 84 ([some (.ref 57), some (.int (nI j)), some (.int (k)), some (.int ((σ 58) j)), some (.int ((0 : Int32)))], [.int ((-13 : Int32))], σ) rfl ?_ ?_
                  · trivial
                  exact ev_iret rfl rfl rfl (pu_v (by rw [if_neg hu]))
                · exact absurd (by decide) c70
              · refine ev_blk 2 [] 66 ([some (.ref 57), some (.int (nI j)), some (.int (k)), some (.int ((σ 58) j)), none], [.int ((1 : Int32))], σ) rfl ?_ ?_
                · trivial
                have hu : s_und (σ 58 j) k := by
                  exact Or.inr (Or.inr (Or.inr ⟨Classical.byContradiction c53, Classical.byContradiction c58⟩))
                refine ev_br 2 [] ((1 : Int32) = 0) 82 73 ([some (.ref 57), some (.int (nI j)), some (.int (k)), some (.int ((σ 58) j)), some (.int ((1 : Int32)))], [], σ) rfl ?_ (fun c70 => ?_) (fun c70 => ?_)
                · trivial
                · exact absurd c70 (by decide)
                · refine ev_blk 5 [vp_in (nI j) 10] 84 ([some (.ref 57), some (.int (nI j)), some (.int (k)), some (.int ((σ 58) j)), some (.int ((1 : Int32)))], [.int ((σ 59) (nI j).toNatClampNeg)], σ) rfl ?_ ?_
                  · exact hin
                  rw [hjc]
                  exact ev_iret rfl rfl rfl (pu_v (by rw [if_pos hu]))
          · refine ev_br 2 [] (((σ 58) j) = (2 : Int32)) 61 46 ([some (.ref 57), some (.int (nI j)), some (.int (k)), some (.int ((σ 58) j)), none], [], σ) rfl ?_ (fun c43 => ?_) (fun c43 => ?_)
            · trivial
            · refine ev_blk 2 [] 66 ([some (.ref 57), some (.int (nI j)), some (.int (k)), some (.int ((σ 58) j)), none], [.int ((1 : Int32))], σ) rfl ?_ ?_
              · trivial
              have hu : s_und (σ 58 j) k := by
                exact Or.inr (Or.inr (Or.inl ⟨Classical.byContradiction c38, Or.inl c43⟩))
              refine ev_br 2 [] ((1 : Int32) = 0) 82 73 ([some (.ref 57), some (.int (nI j)), some (.int (k)), some (.int ((σ 58) j)), some (.int ((1 : Int32)))], [], σ) rfl ?_ (fun c70 => ?_) (fun c70 => ?_)
              · trivial
              · exact absurd c70 (by decide)
              · refine ev_blk 5 [vp_in (nI j) 10] 84 ([some (.ref 57), some (.int (nI j)), some (.int (k)), some (.int ((σ 58) j)), some (.int ((1 : Int32)))], [.int ((σ 59) (nI j).toNatClampNeg)], σ) rfl ?_ ?_
                · exact hin
                rw [hjc]
                exact ev_iret rfl rfl rfl (pu_v (by rw [if_pos hu]))
            · refine ev_br 2 [] (((σ 58) j) = (5 : Int32)) 61 51 ([some (.ref 57), some (.int (nI j)), some (.int (k)), some (.int ((σ 58) j)), none], [], σ) rfl ?_ (fun c48 => ?_) (fun c48 => ?_)
              · trivial
              · refine ev_blk 2 [] 66 ([some (.ref 57), some (.int (nI j)), some (.int (k)), some (.int ((σ 58) j)), none], [.int ((1 : Int32))], σ) rfl ?_ ?_
                · trivial
                have hu : s_und (σ 58 j) k := by
                  exact Or.inr (Or.inr (Or.inl ⟨Classical.byContradiction c38, Or.inr c48⟩))
                refine ev_br 2 [] ((1 : Int32) = 0) 82 73 ([some (.ref 57), some (.int (nI j)), some (.int (k)), some (.int ((σ 58) j)), some (.int ((1 : Int32)))], [], σ) rfl ?_ (fun c70 => ?_) (fun c70 => ?_)
                · trivial
                · exact absurd c70 (by decide)
                · refine ev_blk 5 [vp_in (nI j) 10] 84 ([some (.ref 57), some (.int (nI j)), some (.int (k)), some (.int ((σ 58) j)), some (.int ((1 : Int32)))], [.int ((σ 59) (nI j).toNatClampNeg)], σ) rfl ?_ ?_
                  · exact hin
                  rw [hjc]
                  exact ev_iret rfl rfl rfl (pu_v (by rw [if_pos hu]))
              · refine ev_br 2 [] (¬ k = (3 : Int32)) 65 56 ([some (.ref 57), some (.int (nI j)), some (.int (k)), some (.int ((σ 58) j)), none], [], σ) rfl ?_ (fun c53 => ?_) (fun c53 => ?_)
                · trivial
                · refine ev_blk 1 [] 66 ([some (.ref 57), some (.int (nI j)), some (.int (k)), some (.int ((σ 58) j)), none], [.int ((0 : Int32))], σ) rfl ?_ ?_
                  · trivial
                  have hu : ¬ s_und (σ 58 j) k := by
                    rintro (q | q | ⟨q, q2⟩ | ⟨q, q2⟩) <;> simp_all
                  refine ev_br 2 [] ((0 : Int32) = 0) 82 73 ([some (.ref 57), some (.int (nI j)), some (.int (k)), some (.int ((σ 58) j)), some (.int ((0 : Int32)))], [], σ) rfl ?_ (fun c70 => ?_) (fun c70 => ?_)
                  · trivial
                  · refine ev_blk 1 [] 84 ([some (.ref 57), some (.int (nI j)), some (.int (k)), some (.int ((σ 58) j)), some (.int ((0 : Int32)))], [.int ((-13 : Int32))], σ) rfl ?_ ?_
                    · trivial
                    exact ev_iret rfl rfl rfl (pu_v (by rw [if_neg hu]))
                  · exact absurd (by decide) c70
                · refine ev_br 2 [] (¬ ((σ 58) j) = (4 : Int32)) 65 61 ([some (.ref 57), some (.int (nI j)), some (.int (k)), some (.int ((σ 58) j)), none], [], σ) rfl ?_ (fun c58 => ?_) (fun c58 => ?_)
                  · trivial
                  · refine ev_blk 1 [] 66 ([some (.ref 57), some (.int (nI j)), some (.int (k)), some (.int ((σ 58) j)), none], [.int ((0 : Int32))], σ) rfl ?_ ?_
                    · trivial
                    have hu : ¬ s_und (σ 58 j) k := by
                      rintro (q | q | ⟨q, q2⟩ | ⟨q, q2⟩) <;> simp_all
                    refine ev_br 2 [] ((0 : Int32) = 0) 82 73 ([some (.ref 57), some (.int (nI j)), some (.int (k)), some (.int ((σ 58) j)), some (.int ((0 : Int32)))], [], σ) rfl ?_ (fun c70 => ?_) (fun c70 => ?_)
                    · trivial
                    · refine ev_blk 1 [] 84 ([some (.ref 57), some (.int (nI j)), some (.int (k)), some (.int ((σ 58) j)), some (.int ((0 : Int32)))], [.int ((-13 : Int32))], σ) rfl ?_ ?_
                      · trivial
                      exact ev_iret rfl rfl rfl (pu_v (by rw [if_neg hu]))
                    · exact absurd (by decide) c70
                  · refine ev_blk 2 [] 66 ([some (.ref 57), some (.int (nI j)), some (.int (k)), some (.int ((σ 58) j)), none], [.int ((1 : Int32))], σ) rfl ?_ ?_
                    · trivial
                    have hu : s_und (σ 58 j) k := by
                      exact Or.inr (Or.inr (Or.inr ⟨Classical.byContradiction c53, Classical.byContradiction c58⟩))
                    refine ev_br 2 [] ((1 : Int32) = 0) 82 73 ([some (.ref 57), some (.int (nI j)), some (.int (k)), some (.int ((σ 58) j)), some (.int ((1 : Int32)))], [], σ) rfl ?_ (fun c70 => ?_) (fun c70 => ?_)
                    · trivial
                    · exact absurd c70 (by decide)
                    · refine ev_blk 5 [vp_in (nI j) 10] 84 ([some (.ref 57), some (.int (nI j)), some (.int (k)), some (.int ((σ 58) j)), some (.int ((1 : Int32)))], [.int ((σ 59) (nI j).toNatClampNeg)], σ) rfl ?_ ?_
                      · exact hin
                      rw [hjc]
                      exact ev_iret rfl rfl rfl (pu_v (by rw [if_pos hu]))
    · replace c14 := zi_n.mp c14
      refine ev_blk 1 [] 19 ([some (.ref 57), some (.int (x)), some (.int (k)), none, none], [.int ((-2 : Int32))], σ) rfl ?_ ?_
      · trivial
      exact ev_iret rfl rfl rfl (pu_v (by rw [s_tak, if_neg (fun q => c14 q.2)]))
set_option maxRecDepth 100000 in
theorem m_spent_lp (σ : xSg) (g : Nat → Nat) (l : Nat) (hl : ledOk (σ 71) g l) (h14 : σ 57 14 = nI l) (i : Int32) : ∀ (m k : Nat), k + m = l → xEv (.inl 1) M_X6_spent (fun r1 σ1 => r1 = some (.long (lN (s_sum g l))) ∧ σ1 = σ) 34 ([some (.ref 57), some (.int (i)), some (.int (nI (s_sum g k))), some (.int (nI k))], [], σ) := by
  have hl40 := hl.1
  have hle : ∀ k, k ≤ l → s_sum g k ≤ k * 5940 := s_sum_le (fun k hk => (hl.2 k hk).2)
  intro m
  induction m with
  | zero =>
    intro k hk
    have := hle k (by omega)
    refine ev_br 3 [] ((σ 57 14) ≤ (nI k)) 57 42 ([some (.ref 57), some (.int (i)), some (.int (nI (s_sum g k))), some (.int (nI k))], [], σ) rfl ?_ (fun c39 => ?_) (fun c39 => ?_)
    · trivial
    · refine ev_blk 2 [] 59 ([some (.ref 57), some (.int (i)), some (.int (nI (s_sum g k))), some (.int (nI k))], [.long ((nI (s_sum g k)).toInt64)], σ) rfl ?_ ?_
      · trivial
      exact ev_lret rfl rfl ⟨by rw [nI_l (by omega), show k = l by omega], rfl⟩
    · exact absurd (show σ 57 14 ≤ nI k by rw [h14]; exact nI_le (by omega) (by omega)) c39
  | succ m ih =>
    intro k hk
    have hkc : (nI k).toNatClampNeg = k := nI_clamp (by omega)
    obtain ⟨hv, hb⟩ := hl.2 k (by omega)
    refine ev_br 3 [] ((σ 57 14) ≤ (nI k)) 57 42 ([some (.ref 57), some (.int (i)), some (.int (nI (s_sum g k))), some (.int (nI k))], [], σ) rfl ?_ (fun c39 => ?_) (fun c39 => ?_)
    · trivial
    · exact absurd c39 (show ¬ σ 57 14 ≤ nI k by rw [h14]; exact nI_ge (by omega) (by omega))
    · refine ev_blk 9 [vp_in (nI k) 40] 34 ([some (.ref 57), some (.int (i)), some (.int ((nI (s_sum g k)) + ((σ 71) (nI k).toNatClampNeg))), some (.int ((nI k) + (1 : Int32)))], [], σ) rfl ?_ ?_
      · exact vp_in_nI (by omega) (by decide)
      rw [hkc]
      rw [nI_1, hv, nI_add]
      exact ih (k + 1) (by omega)
set_option maxRecDepth 100000 in
theorem m_spent (σ : xSg) (g : Nat → Nat) (l : Nat) (hl : ledOk (σ 71) g l) (h14 : σ 57 14 = nI l) (i : Int32) : xCtr M_X6_spent [.ref 57, .int (i)] σ (fun r1 σ1 => r1 = some (.long (s_spn g l i)) ∧ σ1 = σ) := by
  refine ctr_ev ok_X6_spent (by decide +kernel) rfl rfl rfl ?_
  show xEv (.inl 1) M_X6_spent _ 0 ([some (.ref 57), some (.int (i)), none, none], [], σ)
  have hl40 := hl.1
  have hm : ¬ σ 57 14 - 1 < i ↔ ¬ nI l ≤ i := by
    rw [h14]
    by_cases hi : i < 0
    · refine ⟨fun _ q => ?_, fun _ q => ?_⟩
      · exact absurd (Int32.lt_of_le_of_lt q hi) (nI_pos (by omega))
      · rw [Int32.lt_iff_toInt_lt] at q hi
        have e0 : ((0 : Int32)).toInt = 0 := by decide
        have e1 : (nI l - 1).toInt = (l : Int) - 1 := by
          rcases (show l = 0 ∨ 0 < l by omega) with rfl | h0
          · decide
          · rw [show nI l - 1 = nI (l - 1) from i_sub (b := 1) (by omega), nI_toInt (by omega)]; omega
        omega
    · obtain ⟨j, hj, rfl⟩ := nI_of hi
      constructor
      · intro q z
        cases l with
        | zero => exact q (Int32.lt_of_lt_of_le (show nI 0 - 1 < 0 by decide) (Int32.not_lt.mp hi))
        | succ l =>
          rw [show nI (l + 1) - 1 = nI l from i_sub (b := 1) (by omega)] at q
          exact absurd z (nI_ge (by have := mt (fun z => nI_lt (a := l) (b := j) z hj) q; omega) (by omega))
      · intro q
        have hjl : j < l := Nat.lt_of_not_le (fun z => q (nI_le z hj))
        rw [show nI l - 1 = nI (l - 1) from i_sub (b := 1) (by omega)]
        exact nI_nlt (by omega) (by omega)
  refine ev_blk 6 [] 8 ([some (.ref 57), some (.int (i)), none, none], [.int ((σ 57 14) - (1 : Int32)), .int ((-1 : Int32)), .int (i)], σ) rfl ?_ ?_
  · trivial
  refine ev_callS M_X6_within [.int (i), .int ((-1 : Int32)), .int ((σ 57 14) - (1 : Int32))] [] rfl rfl ln_X6_110 k_X6_within rfl rfl rfl (m_within _ _ _ _) ?_
  refine pu_k ?_
  show xEv _ _ _ 11 ([some (.ref 57), some (.int (i)), none, none], [.int (zi (¬ i < (-1 : Int32) ∧ ¬ ((σ 57 14) - (1 : Int32)) < i))], σ)
  refine ev_br 0 [] (¬ (zi (¬ i < (-1 : Int32) ∧ ¬ ((σ 57 14) - (1 : Int32)) < i)) = 0) 18 14 ([some (.ref 57), some (.int (i)), none, none], [], σ) rfl ?_ (fun c11 => ?_) (fun c11 => ?_)
  · trivial
  · replace c11 := zi_1.mp c11
    refine ev_br 1 [] (i < 0) 30 22 ([some (.ref 57), some (.int (i)), none, none], [], σ) rfl ?_ (fun c19 => ?_) (fun c19 => ?_)
    · trivial
    · refine ev_blk 4 [] 34 ([some (.ref 57), some (.int (i)), some (.int ((0 : Int32))), some (.int ((0 : Int32)))], [], σ) rfl ?_ ?_
      · trivial
      have hg : ¬ (i < -1 ∨ nI l ≤ i) := fun q => q.elim c11.1 (hm.mp c11.2)
      have hi1 : i = -1 := by
        have c1 := c11.1
        rw [Int32.lt_iff_toInt_lt] at c19 c1
        have e0 : ((0 : Int32)).toInt = 0 := by decide
        have e1 : ((-1 : Int32)).toInt = -1 := by decide
        exact Int32.toInt_inj.mp (by omega)
      rw [show s_spn g l i = lN (s_sum g l) by rw [s_spn, if_neg hg, if_pos hi1]]
      exact m_spent_lp σ g l hl h14 i l 0 (by omega)
    · refine ev_blk 5 [vp_in (i) 40] 29 ([some (.ref 57), some (.int (i)), none, none], [.long (((σ 71) i.toNatClampNeg).toInt64)], σ) rfl ?_ ?_
      · obtain ⟨j, hj, rfl⟩ := nI_of c19
        have hjc : (nI j).toNatClampNeg = j := nI_clamp hj
        have hjl : j < l := Nat.lt_of_not_le (fun z => hm.mp c11.2 (nI_le z hj))
        exact vp_in_nI (by omega) (by decide)
      have hg : ¬ (i < -1 ∨ nI l ≤ i) := fun q => q.elim c11.1 (hm.mp c11.2)
      obtain ⟨j, hj, rfl⟩ := nI_of c19
      have hjc : (nI j).toNatClampNeg = j := nI_clamp hj
      have hjl : j < l := Nat.lt_of_not_le (fun z => hm.mp c11.2 (nI_le z hj))
      exact ev_lret rfl rfl ⟨by rw [s_spn, if_neg hg, if_neg (nI_m1 hj), hjc, (hl.2 j hjl).1, nI_l (by have := (hl.2 j hjl).2; omega)], rfl⟩
  · replace c11 := zi_n.mp c11
    refine ev_blk 1 [] 17 ([some (.ref 57), some (.int (i)), none, none], [.long ((-9223372036854775808 : Int64))], σ) rfl ?_ ?_
    · trivial
    exact ev_lret rfl rfl ⟨by rw [s_spn, if_pos (Classical.byContradiction (fun q => c11 ⟨fun z => q (Or.inl z), hm.mpr (fun z => q (Or.inr z))⟩))], rfl⟩
