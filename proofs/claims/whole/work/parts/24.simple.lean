abbrev iN (n : Nat) (x : Int32) : Prop := ¬ x < 0 ∧ ¬ nI n ≤ x
theorem iN_nI {n j : Nat} (hj : j < n) (hn : n < 2 ^ 31) : iN n (nI j) := ⟨nI_pos (by omega), nI_ge hj hn⟩
theorem iSh_iN {σ : xSg} {n : Nat} {x : Int32} (hn : σ 1 0 = nI n) (hn10 : n ≤ 10) : iSh σ x ↔ iN n x := by
  constructor
  · intro q
    exact ⟨q.1, by rw [← hn]; exact q.2.1⟩
  · rintro ⟨q1, q2⟩
    obtain ⟨j, hj, rfl⟩ := nI_of q1
    have hjn : j < n := Nat.lt_of_not_le (fun z => q2 (nI_le z hj))
    exact (iSh_lt hn hn10 hj).mpr hjn
/-- what is told of ship j -/
def s_told (a : sAt) (St By : Nat → Int32) (j : Nat) (wh : Int32) : Int32 :=
  if wh = 0 then aK a j else if wh = 1 then aLn a j else if wh = 2 then aFi a j else if wh = 3 then aLo a j else if wh = 4 then aCo a j else if wh = 5 then aLa a j
  else if wh = 6 then St j else if wh = 7 then s_span (aK a) (aLn a) j else if wh = 8 then s_rank (aK a) (aFi a) j else if wh = 9 then By j else -2
def s_st (w g : Int32) (j : Nat) : Int32 := if bt w j = true then 0 else if bt g j = true then 1 else 2
def setLo (W : Nat) : Int32 := ([1, 1, 1, 1, 0] : List Int32).getD W 0
def setHi (W : Nat) : Int32 := ([20, 3, 99, 60, 4] : List Int32).getD W 0
def setQ (c : Nat) (σ : xSg) (wh v : Int32) : Option Value → xSg → Prop := fun r σ' =>
  (∃ W, W < 5 ∧ wh = nI W ∧ ¬ v < setLo W ∧ ¬ setHi W < v ∧ r = some (.int (σ c W)) ∧ σ' = x_up σ c (upd (σ c) W v)) ∨ ((∀ W, W < 5 → wh = nI W → v < setLo W ∨ setHi W < v) ∧ r = some (.int (-2)) ∧ σ' = σ)
theorem pu_v {σ : xSg} {v w : Int32} (h : v = w) : some (Value.int v) = some (Value.int w) ∧ σ = σ := ⟨by rw [h], rfl⟩
set_option maxRecDepth 100000 in
theorem c_set (σ : xSg) (wh v : Int32) : xCtr M_X5_set [.ref 0, .int (wh), .int (v)] σ (setQ 9 σ wh v) := by
  refine ctr_ev ok_X5_set (by decide +kernel) rfl rfl rfl ?_
  show xEv (.inl 1) M_X5_set _ 0 ([some (.ref 0), some (.int (wh)), some (.int (v)), none], [], σ)
  rcases pk_ix wh (n := 5) (by decide) with hb | hb | ⟨W, hW, rfl⟩
  · refine ev_blk 1 [] 1 ([some (.ref 0), some (.int (wh)), some (.int (v)), none], [.int (wh)], σ) rfl ?_ ?_
    · trivial
    refine ev_callS M_X5_isSetting [.int (wh)] [] rfl rfl ln_X5_96 k_X5_isSetting rfl rfl rfl (c_isSetting _ _) ?_
    refine pu_k ?_
    show xEv _ _ _ 4 ([some (.ref 0), some (.int (wh)), some (.int (v)), none], [.int (zi (¬ wh < 0 ∧ ¬ (4 : Int32) < wh))], σ)
    refine ev_br 0 [] ((zi (¬ wh < 0 ∧ ¬ (4 : Int32) < wh)) = 0) 25 7 ([some (.ref 0), some (.int (wh)), some (.int (v)), none], [], σ) rfl ?_ (fun c4 => ?_) (fun c4 => ?_)
    · trivial
    · replace c4 := zi_0.mp c4
      refine ev_blk 1 [] 27 ([some (.ref 0), some (.int (wh)), some (.int (v)), none], [.int ((-2 : Int32))], σ) rfl ?_ ?_
      · trivial
      exact ev_iret rfl rfl rfl (Or.inr ⟨fun W hW q => by subst q; exact absurd hb (nI_pos (by omega)), rfl, rfl⟩)
    · exact absurd hb (zi_1.mp c4).1
  · refine ev_blk 1 [] 1 ([some (.ref 0), some (.int (wh)), some (.int (v)), none], [.int (wh)], σ) rfl ?_ ?_
    · trivial
    refine ev_callS M_X5_isSetting [.int (wh)] [] rfl rfl ln_X5_96 k_X5_isSetting rfl rfl rfl (c_isSetting _ _) ?_
    refine pu_k ?_
    show xEv _ _ _ 4 ([some (.ref 0), some (.int (wh)), some (.int (v)), none], [.int (zi (¬ wh < 0 ∧ ¬ (4 : Int32) < wh))], σ)
    refine ev_br 0 [] ((zi (¬ wh < 0 ∧ ¬ (4 : Int32) < wh)) = 0) 25 7 ([some (.ref 0), some (.int (wh)), some (.int (v)), none], [], σ) rfl ?_ (fun c4 => ?_) (fun c4 => ?_)
    · trivial
    · replace c4 := zi_0.mp c4
      refine ev_blk 1 [] 27 ([some (.ref 0), some (.int (wh)), some (.int (v)), none], [.int ((-2 : Int32))], σ) rfl ?_ ?_
      · trivial
      exact ev_iret rfl rfl rfl (Or.inr ⟨fun W hW q => by subst q; exact absurd hb (nI_ge hW (by decide)), rfl, rfl⟩)
    · exact absurd (Int32.lt_of_lt_of_le (show (4 : Int32) < nI 5 by decide) hb) (zi_1.mp c4).2
  · have hWc : (nI W).toNatClampNeg = W := nI_clamp (by omega)
    have hin : vp_in (nI W) 5 := vp_in_nI hW (by decide)
    have hs : ¬ nI W < 0 ∧ ¬ (4 : Int32) < nI W := ⟨nI_pos (by omega), nI_nlt (a := 4) (by omega) (by decide)⟩
    have only : ∀ W2, W2 < 5 → nI W = nI W2 → W2 = W := fun W2 h2 q => ((nI_eq (by omega) (by omega)).mp q).symm
    refine ev_blk 1 [] 1 ([some (.ref 0), some (.int (nI W)), some (.int (v)), none], [.int (nI W)], σ) rfl ?_ ?_
    · trivial
    refine ev_callS M_X5_isSetting [.int (nI W)] [] rfl rfl ln_X5_96 k_X5_isSetting rfl rfl rfl (c_isSetting _ _) ?_
    refine pu_k ?_
    show xEv _ _ _ 4 ([some (.ref 0), some (.int (nI W)), some (.int (v)), none], [.int (zi (¬ (nI W) < 0 ∧ ¬ (4 : Int32) < (nI W)))], σ)
    refine ev_br 0 [] ((zi (¬ (nI W) < 0 ∧ ¬ (4 : Int32) < (nI W))) = 0) 25 7 ([some (.ref 0), some (.int (nI W)), some (.int (v)), none], [], σ) rfl ?_ (fun c4 => ?_) (fun c4 => ?_)
    · trivial
    · exact absurd hs (zi_0.mp c4)
    · replace c4 := zi_1.mp c4
      refine ev_br 4 [vp_in (nI W) 5] (v < (([1, 1, 1, 1, 0] : List Int32).getD (nI W).toNatClampNeg 0)) 25 16 ([some (.ref 0), some (.int (nI W)), some (.int (v)), none], [], σ) rfl ?_ (fun c13 => ?_) (fun c13 => ?_)
      · exact hin
      · rw [(show ([1, 1, 1, 1, 0] : List Int32).getD (nI W).toNatClampNeg 0 = setLo W by rw [hWc]; rfl)] at c13
        refine ev_blk 1 [] 27 ([some (.ref 0), some (.int (nI W)), some (.int (v)), none], [.int ((-2 : Int32))], σ) rfl ?_ ?_
        · trivial
        exact ev_iret rfl rfl rfl (Or.inr ⟨fun W2 h2 q => by rw [only W2 h2 q]; exact Or.inl c13, rfl, rfl⟩)
      · rw [(show ([1, 1, 1, 1, 0] : List Int32).getD (nI W).toNatClampNeg 0 = setLo W by rw [hWc]; rfl)] at c13
        refine ev_br 4 [vp_in (nI W) 5] (v ≤ (([20, 3, 99, 60, 4] : List Int32).getD (nI W).toNatClampNeg 0)) 28 25 ([some (.ref 0), some (.int (nI W)), some (.int (v)), none], [], σ) rfl ?_ (fun c22 => ?_) (fun c22 => ?_)
        · exact hin
        · rw [(show ([20, 3, 99, 60, 4] : List Int32).getD (nI W).toNatClampNeg 0 = setHi W by rw [hWc]; rfl)] at c22
          refine ev_blk 13 [vp_in (nI W) 5, vp_in (nI W) 5] 49 ([some (.ref 0), some (.int (nI W)), some (.int (v)), some (.int ((σ 9) (nI W).toNatClampNeg))], [.int ((σ 9) (nI W).toNatClampNeg)], (x_up σ 9 (upd (σ 9) (nI W).toNatClampNeg (v)))) rfl ?_ ?_
          · exact ⟨hin, hin⟩
          rw [hWc]
          exact ev_iret rfl rfl rfl (Or.inl ⟨W, hW, rfl, c13, Int32.not_lt.mpr c22, rfl, rfl⟩)
        · rw [(show ([20, 3, 99, 60, 4] : List Int32).getD (nI W).toNatClampNeg 0 = setHi W by rw [hWc]; rfl)] at c22
          refine ev_blk 1 [] 27 ([some (.ref 0), some (.int (nI W)), some (.int (v)), none], [.int ((-2 : Int32))], σ) rfl ?_ ?_
          · trivial
          exact ev_iret rfl rfl rfl (Or.inr ⟨fun W2 h2 q => by rw [only W2 h2 q]; exact Or.inr (Int32.not_le.mp c22), rfl, rfl⟩)
def capQ (c : Nat) (d : Int32) (σ : xSg) (day v : Int32) : Option Value → xSg → Prop := fun r σ' =>
  (∃ W, W < 100 ∧ day = nI W ∧ ¬ v < -1 ∧ ¬ 99999 < v ∧ r = some (.int (σ c W - d)) ∧ σ' = x_up σ c (upd (σ c) W (v + d))) ∨ ((∀ W, W < 100 → day = nI W → v < -1 ∨ 99999 < v) ∧ r = some (.int (-2)) ∧ σ' = σ)
set_option maxRecDepth 100000 in
theorem c_cap (σ : xSg) (day v : Int32) : xCtr M_X5_cap [.ref 0, .int (day), .int (v)] σ (capQ 11 0 σ day v) := by
  refine ctr_ev ok_X5_cap (by decide +kernel) rfl rfl rfl ?_
  show xEv (.inl 0) M_X5_cap _ 0 ([some (.ref 0), some (.int (day)), some (.int (v)), none], [], σ)
  rcases pk_ix day (n := 100) (by decide) with hb | hb | ⟨W, hW, rfl⟩
  · refine ev_br 1 [] (day < 0) 21 4 ([some (.ref 0), some (.int (day)), some (.int (v)), none], [], σ) rfl ?_ (fun c1 => ?_) (fun c1 => ?_)
    · trivial
    · refine ev_blk 1 [] 23 ([some (.ref 0), some (.int (day)), some (.int (v)), none], [.int ((-2 : Int32))], σ) rfl ?_ ?_
      · trivial
      exact ev_iret rfl rfl rfl (Or.inr ⟨fun W hW q => by subst q; exact absurd hb (nI_pos (by omega)), rfl, rfl⟩)
    · exact absurd hb c1
  · refine ev_br 1 [] (day < 0) 21 4 ([some (.ref 0), some (.int (day)), some (.int (v)), none], [], σ) rfl ?_ (fun c1 => ?_) (fun c1 => ?_)
    · trivial
    · refine ev_blk 1 [] 23 ([some (.ref 0), some (.int (day)), some (.int (v)), none], [.int ((-2 : Int32))], σ) rfl ?_ ?_
      · trivial
      exact ev_iret rfl rfl rfl (Or.inr ⟨fun W hW q => by subst q; exact absurd hb (nI_ge hW (by decide)), rfl, rfl⟩)
    · refine ev_br 2 [] ((100 : Int32) ≤ day) 21 10 ([some (.ref 0), some (.int (day)), some (.int (v)), none], [], σ) rfl ?_ (fun c7 => ?_) (fun c7 => ?_)
      · trivial
      · refine ev_blk 1 [] 23 ([some (.ref 0), some (.int (day)), some (.int (v)), none], [.int ((-2 : Int32))], σ) rfl ?_ ?_
        · trivial
        exact ev_iret rfl rfl rfl (Or.inr ⟨fun W hW q => by subst q; exact absurd hb (nI_ge hW (by decide)), rfl, rfl⟩)
      · exact absurd hb c7
  · have hWc : (nI W).toNatClampNeg = W := nI_clamp (by omega)
    have hin : vp_in (nI W) 100 := vp_in_nI hW (by decide)
    have only : ∀ W2, W2 < 100 → nI W = nI W2 → W2 = W := fun W2 h2 q => ((nI_eq (by omega) (by omega)).mp q).symm
    refine ev_br 1 [] ((nI W) < 0) 21 4 ([some (.ref 0), some (.int (nI W)), some (.int (v)), none], [], σ) rfl ?_ (fun c1 => ?_) (fun c1 => ?_)
    · trivial
    · exact absurd c1 (nI_pos (by omega))
    · refine ev_br 2 [] ((100 : Int32) ≤ (nI W)) 21 10 ([some (.ref 0), some (.int (nI W)), some (.int (v)), none], [], σ) rfl ?_ (fun c7 => ?_) (fun c7 => ?_)
      · trivial
      · exact absurd c7 (nI_ge (b := 100) hW (by decide))
      · refine ev_br 2 [] (v < (-1 : Int32)) 21 15 ([some (.ref 0), some (.int (nI W)), some (.int (v)), none], [], σ) rfl ?_ (fun c12 => ?_) (fun c12 => ?_)
        · trivial
        · refine ev_blk 1 [] 23 ([some (.ref 0), some (.int (nI W)), some (.int (v)), none], [.int ((-2 : Int32))], σ) rfl ?_ ?_
          · trivial
          exact ev_iret rfl rfl rfl (Or.inr ⟨fun W2 h2 q => Or.inl c12, rfl, rfl⟩)
        · refine ev_br 2 [] (v ≤ (99999 : Int32)) 24 21 ([some (.ref 0), some (.int (nI W)), some (.int (v)), none], [], σ) rfl ?_ (fun c18 => ?_) (fun c18 => ?_)
          · trivial
          · refine ev_blk 13 [vp_in (nI W) 100, vp_in (nI W) 100] 45 ([some (.ref 0), some (.int (nI W)), some (.int (v)), some (.int ((σ 11) (nI W).toNatClampNeg))], [.int ((σ 11) (nI W).toNatClampNeg)], (x_up σ 11 (upd (σ 11) (nI W).toNatClampNeg (v)))) rfl ?_ ?_
            · exact ⟨hin, hin⟩
            rw [hWc]
            exact ev_iret rfl rfl rfl (Or.inl ⟨W, hW, rfl, c12, Int32.not_lt.mpr c18, by rw [Int32.sub_zero], by rw [Int32.add_zero]⟩)
          · refine ev_blk 1 [] 23 ([some (.ref 0), some (.int (nI W)), some (.int (v)), none], [.int ((-2 : Int32))], σ) rfl ?_ ?_
            · trivial
            exact ev_iret rfl rfl rfl (Or.inr ⟨fun W2 h2 q => Or.inr (Int32.not_le.mp c18), rfl, rfl⟩)
def s_may (f : Nat → Int32) (day : Int32) : Int32 := if iN 200 day then s_bnd f day.toNatClampNeg else -2
set_option maxRecDepth 100000 in
theorem c_may (σ : xSg) (day : Int32) : xCtr M_X5_may [.ref 0, .int (day)] σ (fun r σ1 => r = some (.int (s_may (σ 11) day)) ∧ σ1 = σ) := by
  refine ctr_ev ok_X5_may (by decide +kernel) rfl rfl rfl ?_
  show xEv (.inl 2) M_X5_may _ 0 ([some (.ref 0), some (.int (day))], [], σ)
  refine ev_br 1 [] (day < 0) 11 4 ([some (.ref 0), some (.int (day))], [], σ) rfl ?_ (fun c1 => ?_) (fun c1 => ?_)
  · trivial
  · refine ev_blk 2 [] 24 ([some (.ref 0), some (.int (day))], [.int ((-2 : Int32))], σ) rfl ?_ ?_
    · trivial
    exact ev_iret rfl rfl rfl (pu_v (by rw [s_may, if_neg (by simp_all)]))
  · refine ev_br 2 [] (day < (200 : Int32)) 16 11 ([some (.ref 0), some (.int (day))], [], σ) rfl ?_ (fun c8 => ?_) (fun c8 => ?_)
    · trivial
    · refine ev_blk 3 [] 21 ([some (.ref 0), some (.int (day))], [.int (day), .ref 1], σ) rfl ?_ ?_
      · trivial
      obtain ⟨d, hd, rfl⟩ := nI_of c1
      have hdc : (nI d).toNatClampNeg = d := nI_clamp hd
      refine ev_callV M_X3_bound [.int (nI d)] [] 1 rfl rfl ln_X5_115 k_X3_bound rfl rfl rfl rfl rfl rfl (c_bound σ d hd) ?_
      refine pu_k ?_
      show xEv _ _ _ 24 ([some (.ref 0), some (.int (nI d))], [.int (s_bnd (σ 11) d)], σ)
      exact ev_iret rfl rfl rfl (pu_v (by rw [s_may, if_pos ⟨c1, Int32.not_le.mpr c8⟩, hdc]))
    · refine ev_blk 2 [] 24 ([some (.ref 0), some (.int (day))], [.int ((-2 : Int32))], σ) rfl ?_ ?_
      · trivial
      exact ev_iret rfl rfl rfl (pu_v (by rw [s_may, if_neg (fun q => q.2 (Int32.not_lt.mp c8))]))
def s_tld (n : Nat) (a : sAt) (St By : Nat → Int32) (x wh : Int32) : Int32 := if iN n x then s_told a St By x.toNatClampNeg wh else -2
set_option maxRecDepth 100000 in
theorem c_told (σ : xSg) (n : Nat) (hn : σ 1 0 = nI n) (hn10 : n ≤ 10) (x wh : Int32) : xCtr M_X5_told [.ref 0, .int (x), .int (wh)] σ (fun r σ1 => r = some (.int (s_tld n (atC σ) (s_st (σ 1 1) (σ 1 2)) (σ 8) x wh)) ∧ σ1 = σ) := by
  refine ctr_ev ok_X5_told (by decide +kernel) rfl rfl rfl ?_
  show xEv (.inl 2) M_X5_told _ 0 ([some (.ref 0), some (.int (x)), some (.int (wh))], [], σ)
  by_cases hx : iN n x
  · obtain ⟨j, hj, rfl⟩ := nI_of hx.1
    have hjn : j < n := Nat.lt_of_not_le (fun z => hx.2 (nI_le z hj))
    have hjc : (nI j).toNatClampNeg = j := nI_clamp hj
    have hsh := (iSh_lt hn hn10 hj).mpr hjn
    have hw := iWt (w := σ 1 1) hn hn10 (show j < 32 by omega)
    have hg := iWt (w := σ 1 2) hn hn10 (show j < 32 by omega)
    have ev : ∀ v : Int32, v = s_told (atC σ) (s_st (σ 1 1) (σ 1 2)) (σ 8) j wh → (some (Value.int v) = some (Value.int (s_tld n (atC σ) (s_st (σ 1 1) (σ 1 2)) (σ 8) (nI j) wh)) ∧ σ = σ) := fun v hv => ⟨by rw [hv, s_tld, if_pos hx, hjc], rfl⟩
    refine ev_blk 3 [] 5 ([some (.ref 0), some (.int (nI j)), some (.int (wh))], [.int (nI j), .ref 1], σ) rfl ?_ ?_
    · trivial
    refine ev_callV M_X3_isShip [.int (nI j)] [] 1 rfl rfl ln_X5_119 k_X3_isShip rfl rfl rfl rfl rfl rfl (c_isShip _ _) ?_
    refine pu_k ?_
    show xEv _ _ _ 8 ([some (.ref 0), some (.int (nI j)), some (.int (wh))], [.int (zi (iSh σ (nI j)))], σ)
    refine ev_br 0 [] (¬ (zi (iSh σ (nI j))) = 0) 14 11 ([some (.ref 0), some (.int (nI j)), some (.int (wh))], [], σ) rfl ?_ (fun c8 => ?_) (fun c8 => ?_)
    · trivial
    · replace c8 := zi_1.mp c8
      refine ev_sw 1 [] (wh) [((0 : Int32), 68), ((1 : Int32), 78), ((2 : Int32), 88), ((3 : Int32), 98), ((4 : Int32), 108), ((5 : Int32), 118), ((6 : Int32), 128), ((7 : Int32), 160), ((8 : Int32), 169), ((9 : Int32), 178)] 188 ([some (.ref 0), some (.int (nI j)), some (.int (wh))], [], σ) rfl ?_ ?_
      · trivial
      refine ⟨fun c15_0 => ?_, fun c15_0 => ?_⟩
      · refine ev_blk 5 [vp_in (nI j) 10] 77 ([some (.ref 0), some (.int (nI j)), some (.int (wh))], [.int ((σ 2) (nI j).toNatClampNeg)], σ) rfl ?_ ?_
        · exact vp_in_nI (by omega) (by decide)
        rw [hjc]
        exact ev_iret rfl rfl rfl (ev _ (by unfold s_told; simp_all))
      refine ⟨fun c15_1 => ?_, fun c15_1 => ?_⟩
      · refine ev_blk 5 [vp_in (nI j) 10] 87 ([some (.ref 0), some (.int (nI j)), some (.int (wh))], [.int ((σ 3) (nI j).toNatClampNeg)], σ) rfl ?_ ?_
        · exact vp_in_nI (by omega) (by decide)
        rw [hjc]
        exact ev_iret rfl rfl rfl (ev _ (by unfold s_told; simp_all))
      refine ⟨fun c15_2 => ?_, fun c15_2 => ?_⟩
      · refine ev_blk 5 [vp_in (nI j) 10] 97 ([some (.ref 0), some (.int (nI j)), some (.int (wh))], [.int ((σ 4) (nI j).toNatClampNeg)], σ) rfl ?_ ?_
        · exact vp_in_nI (by omega) (by decide)
        rw [hjc]
        exact ev_iret rfl rfl rfl (ev _ (by unfold s_told; simp_all))
      refine ⟨fun c15_3 => ?_, fun c15_3 => ?_⟩
      · refine ev_blk 5 [vp_in (nI j) 10] 107 ([some (.ref 0), some (.int (nI j)), some (.int (wh))], [.int ((σ 5) (nI j).toNatClampNeg)], σ) rfl ?_ ?_
        · exact vp_in_nI (by omega) (by decide)
        rw [hjc]
        exact ev_iret rfl rfl rfl (ev _ (by unfold s_told; simp_all))
      refine ⟨fun c15_4 => ?_, fun c15_4 => ?_⟩
      · refine ev_blk 5 [vp_in (nI j) 10] 117 ([some (.ref 0), some (.int (nI j)), some (.int (wh))], [.int ((σ 6) (nI j).toNatClampNeg)], σ) rfl ?_ ?_
        · exact vp_in_nI (by omega) (by decide)
        rw [hjc]
        exact ev_iret rfl rfl rfl (ev _ (by unfold s_told; simp_all))
      refine ⟨fun c15_5 => ?_, fun c15_5 => ?_⟩
      · refine ev_blk 5 [vp_in (nI j) 10] 127 ([some (.ref 0), some (.int (nI j)), some (.int (wh))], [.int ((σ 7) (nI j).toNatClampNeg)], σ) rfl ?_ ?_
        · exact vp_in_nI (by omega) (by decide)
        rw [hjc]
        exact ev_iret rfl rfl rfl (ev _ (by unfold s_told; simp_all))
      refine ⟨fun c15_6 => ?_, fun c15_6 => ?_⟩
      · refine ev_blk 3 [] 133 ([some (.ref 0), some (.int (nI j)), some (.int (wh))], [.int (nI j), .ref 1], σ) rfl ?_ ?_
        · trivial
        refine ev_callV M_X3_isWaiting [.int (nI j)] [] 1 rfl rfl ln_X5_122 k_X3_isWaiting rfl rfl rfl rfl rfl rfl (c_isWaiting _ _) ?_
        refine pu_k ?_
        show xEv _ _ _ 136 ([some (.ref 0), some (.int (nI j)), some (.int (wh))], [.int (zi (iSh σ (nI j) ∧ ¬ (σ 1 1 >>> ((nI j) &&& 31)) &&& 1 = 0))], σ)
        refine ev_br 0 [] ((zi (iSh σ (nI j) ∧ ¬ (σ 1 1 >>> ((nI j) &&& 31)) &&& 1 = 0)) = 0) 143 139 ([some (.ref 0), some (.int (nI j)), some (.int (wh))], [], σ) rfl ?_ (fun c136 => ?_) (fun c136 => ?_)
        · trivial
        · replace c136 := zi_0.mp c136
          refine ev_blk 3 [] 148 ([some (.ref 0), some (.int (nI j)), some (.int (wh))], [.int (nI j), .ref 1], σ) rfl ?_ ?_
          · trivial
          refine ev_callV M_X3_isGone [.int (nI j)] [] 1 rfl rfl ln_X5_125 k_X3_isGone rfl rfl rfl rfl rfl rfl (c_isGone _ _) ?_
          refine pu_k ?_
          show xEv _ _ _ 151 ([some (.ref 0), some (.int (nI j)), some (.int (wh))], [.int (zi (iSh σ (nI j) ∧ ¬ (σ 1 2 >>> ((nI j) &&& 31)) &&& 1 = 0))], σ)
          refine ev_br 0 [] ((zi (iSh σ (nI j) ∧ ¬ (σ 1 2 >>> ((nI j) &&& 31)) &&& 1 = 0)) = 0) 158 154 ([some (.ref 0), some (.int (nI j)), some (.int (wh))], [], σ) rfl ?_ (fun c151 => ?_) (fun c151 => ?_)
          · trivial
          · replace c151 := zi_0.mp c151
            refine ev_blk 1 [] 159 ([some (.ref 0), some (.int (nI j)), some (.int (wh))], [.int ((2 : Int32))], σ) rfl ?_ ?_
            · trivial
            exact ev_iret rfl rfl rfl (ev _ (by rw [c15_6]; unfold s_told s_st; rw [if_neg (fun q => c136 (hw.mpr ⟨hjn, q⟩)), if_neg (fun q => c151 (hg.mpr ⟨hjn, q⟩))]; rfl))
          · replace c151 := zi_1.mp c151
            refine ev_blk 2 [] 159 ([some (.ref 0), some (.int (nI j)), some (.int (wh))], [.int ((1 : Int32))], σ) rfl ?_ ?_
            · trivial
            exact ev_iret rfl rfl rfl (ev _ (by rw [c15_6]; unfold s_told s_st; rw [if_neg (fun q => c136 (hw.mpr ⟨hjn, q⟩)), if_pos (hg.mp c151).2]; rfl))
        · replace c136 := zi_1.mp c136
          refine ev_blk 2 [] 159 ([some (.ref 0), some (.int (nI j)), some (.int (wh))], [.int ((0 : Int32))], σ) rfl ?_ ?_
          · trivial
          exact ev_iret rfl rfl rfl (ev _ (by rw [c15_6]; unfold s_told s_st; rw [if_pos (hw.mp c136).2]; rfl))
      refine ⟨fun c15_7 => ?_, fun c15_7 => ?_⟩
      · refine ev_blk 3 [] 165 ([some (.ref 0), some (.int (nI j)), some (.int (wh))], [.int (nI j), .ref 1], σ) rfl ?_ ?_
        · trivial
        refine ev_callV M_X3_span [.int (nI j)] [] 1 rfl rfl ln_X5_128 k_X3_span rfl rfl rfl rfl rfl rfl (c_span _ _ ⟨nI_pos (by omega), nI_lt (b := 10) (by omega) (by omega)⟩) ?_
        refine pu_k ?_
        show xEv _ _ _ 168 ([some (.ref 0), some (.int (nI j)), some (.int (wh))], [.int (s_span (σ 2) (σ 3) (nI j).toNatClampNeg)], σ)
        rw [hjc]
        exact ev_iret rfl rfl rfl (ev _ (by unfold s_told; simp_all))
      refine ⟨fun c15_8 => ?_, fun c15_8 => ?_⟩
      · refine ev_blk 3 [] 174 ([some (.ref 0), some (.int (nI j)), some (.int (wh))], [.int (nI j), .ref 1], σ) rfl ?_ ?_
        · trivial
        refine ev_callV M_X3_rank [.int (nI j)] [] 1 rfl rfl ln_X5_131 k_X3_rank rfl rfl rfl rfl rfl rfl (c_rank _ _ ⟨nI_pos (by omega), nI_lt (b := 10) (by omega) (by omega)⟩) ?_
        refine pu_k ?_
        show xEv _ _ _ 177 ([some (.ref 0), some (.int (nI j)), some (.int (wh))], [.int (s_rank (σ 2) (σ 4) (nI j).toNatClampNeg)], σ)
        rw [hjc]
        exact ev_iret rfl rfl rfl (ev _ (by unfold s_told; simp_all))
      refine ⟨fun c15_9 => ?_, fun c15_9 => ?_⟩
      · refine ev_blk 5 [vp_in (nI j) 10] 187 ([some (.ref 0), some (.int (nI j)), some (.int (wh))], [.int ((σ 8) (nI j).toNatClampNeg)], σ) rfl ?_ ?_
        · exact vp_in_nI (by omega) (by decide)
        rw [hjc]
        exact ev_iret rfl rfl rfl (ev _ (by unfold s_told; simp_all))
      show xEv _ _ _ 188 ([some (.ref 0), some (.int (nI j)), some (.int (wh))], [], σ)
      refine ev_blk 1 [] 190 ([some (.ref 0), some (.int (nI j)), some (.int (wh))], [.int ((-2 : Int32))], σ) rfl ?_ ?_
      · trivial
      exact ev_iret rfl rfl rfl (ev _ (by unfold s_told; simp_all))
    · exact absurd hsh (zi_n.mp c8)
  · refine ev_blk 3 [] 5 ([some (.ref 0), some (.int (x)), some (.int (wh))], [.int (x), .ref 1], σ) rfl ?_ ?_
    · trivial
    refine ev_callV M_X3_isShip [.int (x)] [] 1 rfl rfl ln_X5_119 k_X3_isShip rfl rfl rfl rfl rfl rfl (c_isShip _ _) ?_
    refine pu_k ?_
    show xEv _ _ _ 8 ([some (.ref 0), some (.int (x)), some (.int (wh))], [.int (zi (iSh σ x))], σ)
    refine ev_br 0 [] (¬ (zi (iSh σ x)) = 0) 14 11 ([some (.ref 0), some (.int (x)), some (.int (wh))], [], σ) rfl ?_ (fun c8 => ?_) (fun c8 => ?_)
    · trivial
    · exact absurd ((iSh_iN hn hn10).mp (zi_1.mp c8)) hx
    · replace c8 := zi_n.mp c8
      refine ev_blk 1 [] 13 ([some (.ref 0), some (.int (x)), some (.int (wh))], [.int ((-2 : Int32))], σ) rfl ?_ ?_
      · trivial
      exact ev_iret rfl rfl rfl (pu_v (by rw [s_tld, if_neg hx]))
def s_lane (A B : List Nat) (l i : Int32) : Int32 := if l = 0 then s_nth A i else if l = 1 then s_nth B i else -2
set_option maxRecDepth 100000 in
theorem c_lane (σ : xSg) (n : Nat) (hn : σ 1 0 = nI n) (hn10 : n ≤ 10) (l i : Int32) : xCtr M_X5_lane [.ref 0, .int (l), .int (i)] σ (fun r σ1 => r = some (.int (s_lane (laneL n (σ 1 1) (σ 7) 0) (laneL n (σ 1 1) (σ 7) 1) l i)) ∧ σ1 = σ) := by
  refine ctr_ev ok_X5_lane (by decide +kernel) rfl rfl rfl ?_
  show xEv (.inl 3) M_X5_lane _ 0 ([some (.ref 0), some (.int (l)), some (.int (i))], [], σ)
  refine ev_blk 1 [] 1 ([some (.ref 0), some (.int (l)), some (.int (i))], [.int (l)], σ) rfl ?_ ?_
  · trivial
  refine ev_callS M_X5_isLane [.int (l)] [] rfl rfl ln_X5_57 k_X5_isLane rfl rfl rfl (c_isLane _ _) ?_
  refine pu_k ?_
  show xEv _ _ _ 4 ([some (.ref 0), some (.int (l)), some (.int (i))], [.int (zi (¬ l < 0 ∧ ¬ (2 : Int32) ≤ l))], σ)
  refine ev_br 0 [] (¬ (zi (¬ l < 0 ∧ ¬ (2 : Int32) ≤ l)) = 0) 12 7 ([some (.ref 0), some (.int (l)), some (.int (i))], [], σ) rfl ?_ (fun c4 => ?_) (fun c4 => ?_)
  · trivial
  · replace c4 := zi_1.mp c4
    refine ev_blk 4 [] 18 ([some (.ref 0), some (.int (l)), some (.int (i))], [.int (i), .int (l), .ref 1], σ) rfl ?_ ?_
    · trivial
    refine ev_callV M_X3_waiter [.int (l), .int (i)] [] 1 rfl rfl ln_X5_134 k_X3_waiter rfl rfl rfl rfl rfl rfl (c_waiter σ n _ hn10 hn _) ?_
    refine pu_k ?_
    show xEv _ _ _ 21 ([some (.ref 0), some (.int (l)), some (.int (i))], [.int (s_nth ((List.range 10).filter (s_lnp n (σ 1 1) (σ 7) l)) i)], σ)
    obtain ⟨j, hj, rfl⟩ := nI_of c4.1
    rcases (show j = 0 ∨ j = 1 by have := mt (fun z => nI_le (a := 2) (b := j) z hj) c4.2; omega) with rfl | rfl
    · exact ev_iret rfl rfl rfl (pu_v rfl)
    · exact ev_iret rfl rfl rfl (pu_v rfl)
  · replace c4 := zi_n.mp c4
    refine ev_blk 2 [] 21 ([some (.ref 0), some (.int (l)), some (.int (i))], [.int ((-2 : Int32))], σ) rfl ?_ ?_
    · trivial
    exact ev_iret rfl rfl rfl (pu_v (by rw [s_lane, if_neg (fun q => c4 (by rw [q]; decide)), if_neg (fun q => c4 (by rw [q]; decide))]))
