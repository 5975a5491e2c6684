def s_wts (n : Nat) (w : Int32) (Co : Nat → Int32) (s : aSt) (x : Int32) : Int32 := if ¬ iN n x then -2 else if bt w x.toNatClampNeg = false then -3 else a_wt (s.1 x.toNatClampNeg) (Co x.toNatClampNeg)
def s_lin (Co : Nat → Int32) (s : aSt) (i : Int32) : Int32 := if i < 0 then -2 else s_inl (fun j => a_wt (s.1 j) (Co j)) i 10 0
def s_dy (Co : Nat → Int32) (s : aSt) (wh : Int32) : Int32 := if wh < 0 ∨ 2 < wh then -2 else if wh = 0 then s_aws (fun j => a_wt (s.1 j) (Co j)) 10 else if wh = 1 then nI s.2.1 else s_oi s.2.2
theorem s_aws_c {f g : Nat → Int32} : ∀ {k : Nat}, (∀ j, j < k → f j = g j) → s_aws f k = s_aws g k
  | 0, _ => rfl
  | k + 1, h => by
    unfold s_aws
    rw [s_aws_c (k := k) (fun j hj => h j (by omega)), h k (by omega)]
theorem s_inl_c {f g : Nat → Int32} {i : Int32} (h : ∀ j, j < 10 → f j = g j) : ∀ {m k : Nat}, k + m ≤ 10 → s_inl f i m k = s_inl g i m k
  | 0, _, _ => rfl
  | m + 1, k, hk => by
    unfold s_inl
    have e : n_cnt (s_ahd f k) 10 = n_cnt (s_ahd g k) 10 := n_cntg (fun j hj => by unfold s_ahd; rw [h j hj, h k (by omega)])
    rw [h k (by omega), e, s_inl_c h (m := m) (k := k + 1) (by omega)]
set_option maxRecDepth 100000 in
theorem c_waits (σ : xSg) (n : Nat) (hok : aOk (atC σ) n) (hn : σ 1 0 = nI n) (hw : ∀ j, j < 32 → bt (σ 1 1) j = true → j < n) (x : Int32) : xCtr M_X5_waits [.ref 0, .int (x)] σ (fun r σ2 => r = some (.int (s_wts n (σ 1 1) (σ 6) (s_ar (atC σ) (tkC σ) (laneL n (σ 1 1) (σ 7) 0) (laneL n (σ 1 1) (σ 7) 1) 21 0 (fun _ => none, 0, none)) x)) ∧ xFr scC σ σ2) := by
  refine ctr_ev ok_X5_waits (by decide +kernel) rfl rfl rfl ?_
  show xEv (.inl 6) M_X5_waits _ 0 ([some (.ref 0), some (.int (x))], [], σ)
  have hn10 := hok.1
  have hsi := iSh_iN (x := x) hn hn10
  refine ev_blk 3 [] 5 ([some (.ref 0), some (.int (x))], [.int (x), .ref 1], σ) rfl ?_ ?_
  · trivial
  refine ev_callV M_X3_isShip [.int (x)] [] 1 rfl rfl ln_X5_119 k_X3_isShip rfl rfl rfl rfl rfl rfl (c_isShip _ _) ?_
  refine pu_k ?_
  show xEv _ _ _ 8 ([some (.ref 0), some (.int (x))], [.int (zi (iSh σ x))], σ)
  refine ev_br 0 [] (¬ (zi (iSh σ x)) = 0) 14 11 ([some (.ref 0), some (.int (x))], [], σ) rfl ?_ (fun c8 => ?_) (fun c8 => ?_)
  · trivial
  · replace c8 := zi_1.mp c8
    refine ev_blk 3 [] 19 ([some (.ref 0), some (.int (x))], [.int (x), .ref 1], σ) rfl ?_ ?_
    · trivial
    refine ev_callV M_X3_isWaiting [.int (x)] [] 1 rfl rfl ln_X5_122 k_X3_isWaiting rfl rfl rfl rfl rfl rfl (c_isWaiting _ _) ?_
    refine pu_k ?_
    show xEv _ _ _ 22 ([some (.ref 0), some (.int (x))], [.int (zi (iSh σ x ∧ ¬ (σ 1 1 >>> (x &&& 31)) &&& 1 = 0))], σ)
    refine ev_br 0 [] (¬ (zi (iSh σ x ∧ ¬ (σ 1 1 >>> (x &&& 31)) &&& 1 = 0)) = 0) 28 25 ([some (.ref 0), some (.int (x))], [], σ) rfl ?_ (fun c22 => ?_) (fun c22 => ?_)
    · trivial
    · replace c22 := zi_1.mp c22
      refine ev_blk 2 [] 32 ([some (.ref 0), some (.int (x))], [.ref 31], σ) rfl ?_ ?_
      · trivial
      refine ev_callV M_X0_run [] [] 31 rfl rfl ln_X5_200 k_X0_run rfl rfl rfl rfl rfl rfl (c_arun σ n hok hn hw) ?_
      rintro r σ1 ⟨rfl, hR, hfr⟩
      show xEv _ _ _ 35 ([some (.ref 0), some (.int (x))], [], σ1)
      refine ev_blk 3 [] 40 ([some (.ref 0), some (.int (x))], [.int (x), .ref 31], σ1) rfl ?_ ?_
      · trivial
      have hx := hsi.mp c8
      obtain ⟨j, hj, rfl⟩ := nI_of hx.1
      have hjn : j < n := Nat.lt_of_not_le (fun z => hx.2 (nI_le z hj))
      have hjc : (nI j).toNatClampNeg = j := nI_clamp hj
      have hwt : bt (σ 1 1) j = true := ((iWt hn hn10 (show j < 32 by omega)).mp c22).2
      refine ev_callV M_X0_waitOf [.int (nI j)] [] 31 rfl rfl ln_X5_203 k_X0_waitOf rfl rfl rfl rfl rfl rfl (c_waitOf σ1 (nI j) ⟨nI_pos hj, nI_lt (b := 10) (by omega) (by omega)⟩) ?_
      refine pu_k ?_
      refine ev_iret rfl rfl rfl ⟨?_, hfr⟩
      rw [s_wts, if_neg (fun q => q hx), hjc, if_neg (by rw [hwt]; decide), hR.1 j (by omega)]
    · replace c22 := zi_n.mp c22
      refine ev_blk 1 [] 27 ([some (.ref 0), some (.int (x))], [.int ((-3 : Int32))], σ) rfl ?_ ?_
      · trivial
      have hx := hsi.mp c8
      obtain ⟨j, hj, rfl⟩ := nI_of hx.1
      have hjn : j < n := Nat.lt_of_not_le (fun z => hx.2 (nI_le z hj))
      have hjc : (nI j).toNatClampNeg = j := nI_clamp hj
      have hwf : bt (σ 1 1) (nI j).toNatClampNeg = false := by
        rw [hjc]
        cases hz : bt (σ 1 1) j with
        | false => rfl
        | true => exact absurd ((iWt hn hn10 (show j < 32 by omega)).mpr ⟨hjn, hz⟩) c22
      exact ev_iret rfl rfl rfl ⟨by rw [s_wts, if_neg (fun q => q hx), if_pos hwf], xFr.rf⟩
  · replace c8 := zi_n.mp c8
    refine ev_blk 1 [] 13 ([some (.ref 0), some (.int (x))], [.int ((-2 : Int32))], σ) rfl ?_ ?_
    · trivial
    exact ev_iret rfl rfl rfl ⟨by rw [s_wts, if_pos (fun q => c8 (hsi.mpr q))], xFr.rf⟩
set_option maxRecDepth 100000 in
theorem c_line (σ : xSg) (n : Nat) (hok : aOk (atC σ) n) (hn : σ 1 0 = nI n) (hw : ∀ j, j < 32 → bt (σ 1 1) j = true → j < n) (i : Int32) : xCtr M_X5_line [.ref 0, .int (i)] σ (fun r σ2 => r = some (.int (s_lin (σ 6) (s_ar (atC σ) (tkC σ) (laneL n (σ 1 1) (σ 7) 0) (laneL n (σ 1 1) (σ 7) 1) 21 0 (fun _ => none, 0, none)) i)) ∧ xFr scC σ σ2) := by
  refine ctr_ev ok_X5_line (by decide +kernel) rfl rfl rfl ?_
  show xEv (.inl 6) M_X5_line _ 0 ([some (.ref 0), some (.int (i))], [], σ)
  refine ev_br 1 [] (0 ≤ i) 7 4 ([some (.ref 0), some (.int (i))], [], σ) rfl ?_ (fun c1 => ?_) (fun c1 => ?_)
  · trivial
  · refine ev_blk 2 [] 11 ([some (.ref 0), some (.int (i))], [.ref 31], σ) rfl ?_ ?_
    · trivial
    refine ev_callV M_X0_run [] [] 31 rfl rfl ln_X5_200 k_X0_run rfl rfl rfl rfl rfl rfl (c_arun σ n hok hn hw) ?_
    rintro r σ1 ⟨rfl, hR, hfr⟩
    show xEv _ _ _ 14 ([some (.ref 0), some (.int (i))], [], σ1)
    refine ev_blk 3 [] 19 ([some (.ref 0), some (.int (i))], [.int (i), .ref 31], σ1) rfl ?_ ?_
    · trivial
    refine ev_callV M_X0_inLine [.int (i)] [] 31 rfl rfl ln_X5_206 k_X0_inLine rfl rfl rfl rfl rfl rfl (c_inLine σ1 i) ?_
    refine pu_k ?_
    show xEv _ _ _ 22 ([some (.ref 0), some (.int (i))], [.int (s_inl (σ1 33) i 10 0)], σ1)
    exact ev_iret rfl rfl rfl ⟨by rw [s_lin, if_neg (Int32.not_lt.mpr c1)]; exact congrArg (fun z => some (Value.int z)) (s_inl_c hR.1 (by omega)), hfr⟩
  · refine ev_blk 1 [] 6 ([some (.ref 0), some (.int (i))], [.int ((-2 : Int32))], σ) rfl ?_ ?_
    · trivial
    exact ev_iret rfl rfl rfl ⟨by rw [s_lin, if_pos (Int32.not_le.mp c1)], xFr.rf⟩
set_option maxRecDepth 100000 in
theorem c_day (σ : xSg) (n : Nat) (hok : aOk (atC σ) n) (hn : σ 1 0 = nI n) (hw : ∀ j, j < 32 → bt (σ 1 1) j = true → j < n) (wh : Int32) : xCtr M_X5_day [.ref 0, .int (wh)] σ (fun r σ2 => r = some (.int (s_dy (σ 6) (s_ar (atC σ) (tkC σ) (laneL n (σ 1 1) (σ 7) 0) (laneL n (σ 1 1) (σ 7) 1) 21 0 (fun _ => none, 0, none)) wh)) ∧ xFr scC σ σ2) := by
  refine ctr_ev ok_X5_day (by decide +kernel) rfl rfl rfl ?_
  show xEv (.inl 6) M_X5_day _ 0 ([some (.ref 0), some (.int (wh))], [], σ)
  refine ev_br 1 [] (wh < 0) 9 4 ([some (.ref 0), some (.int (wh))], [], σ) rfl ?_ (fun c1 => ?_) (fun c1 => ?_)
  · trivial
  · refine ev_blk 1 [] 11 ([some (.ref 0), some (.int (wh))], [.int ((-2 : Int32))], σ) rfl ?_ ?_
    · trivial
    exact ev_iret rfl rfl rfl ⟨by rw [s_dy, if_pos (Or.inl c1)], xFr.rf⟩
  · refine ev_br 2 [] (wh ≤ (2 : Int32)) 12 9 ([some (.ref 0), some (.int (wh))], [], σ) rfl ?_ (fun c6 => ?_) (fun c6 => ?_)
    · trivial
    · refine ev_blk 2 [] 16 ([some (.ref 0), some (.int (wh))], [.ref 31], σ) rfl ?_ ?_
      · trivial
      refine ev_callV M_X0_run [] [] 31 rfl rfl ln_X5_200 k_X0_run rfl rfl rfl rfl rfl rfl (c_arun σ n hok hn hw) ?_
      rintro r σ1 ⟨rfl, hR, hfr⟩
      show xEv _ _ _ 19 ([some (.ref 0), some (.int (wh))], [], σ1)
      refine ev_br 1 [] (¬ wh = 0) 33 23 ([some (.ref 0), some (.int (wh))], [], σ1) rfl ?_ (fun c20 => ?_) (fun c20 => ?_)
      · trivial
      · refine ev_br 2 [] (¬ wh = (1 : Int32)) 48 38 ([some (.ref 0), some (.int (wh))], [], σ1) rfl ?_ (fun c35 => ?_) (fun c35 => ?_)
        · trivial
        · refine ev_blk 3 [] 55 ([some (.ref 0), some (.int (wh))], [.int ((σ1 31 5))], σ1) rfl ?_ ?_
          · trivial
          exact ev_iret rfl rfl rfl ⟨by rw [s_dy, if_neg (by rintro (q | q); exact c1 q; exact absurd q (Int32.not_lt.mpr c6)), if_neg c20, if_neg c35, hR.2.2], hfr⟩
        · refine ev_blk 4 [] 55 ([some (.ref 0), some (.int (wh))], [.int ((σ1 31 4))], σ1) rfl ?_ ?_
          · trivial
          exact ev_iret rfl rfl rfl ⟨by rw [s_dy, if_neg (by rintro (q | q); exact c1 q; exact absurd q (Int32.not_lt.mpr c6)), if_neg c20, if_pos (Classical.byContradiction c35), hR.2.1], hfr⟩
      · refine ev_blk 2 [] 27 ([some (.ref 0), some (.int (wh))], [.ref 31], σ1) rfl ?_ ?_
        · trivial
        refine ev_callV M_X0_allWaits [] [] 31 rfl rfl ln_X5_209 k_X0_allWaits rfl rfl rfl rfl rfl rfl (c_allWaits σ1) ?_
        refine pu_k ?_
        show xEv _ _ _ 30 ([some (.ref 0), some (.int (wh))], [.int (s_aws (σ1 33) 10)], σ1)
        refine ev_blk 1 [] 55 ([some (.ref 0), some (.int (wh))], [.int (s_aws (σ1 33) 10)], σ1) rfl ?_ ?_
        · trivial
        exact ev_iret rfl rfl rfl ⟨by rw [s_dy, if_neg (by rintro (q | q); exact c1 q; exact absurd q (Int32.not_lt.mpr c6)), if_pos (Classical.byContradiction c20)]; exact congrArg (fun z => some (Value.int z)) (s_aws_c hR.1), hfr⟩
    · refine ev_blk 1 [] 11 ([some (.ref 0), some (.int (wh))], [.int ((-2 : Int32))], σ) rfl ?_ ?_
      · trivial
      exact ev_iret rfl rfl rfl ⟨by rw [s_dy, if_pos (Or.inr (Int32.not_le.mp c6))], xFr.rf⟩
