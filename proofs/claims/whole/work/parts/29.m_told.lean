theorem x_p1 {x : Int32} : x + 1 = 0 ↔ x = -1 := ⟨fun h => by have := congrArg (· - 1) h; simpa [Int32.add_sub_cancel] using this, fun h => by rw [h]; decide⟩
theorem m_mayOf_lp (σ : xSg) (f : Nat → Int32) (hf : ∀ i, i < 100 → σ 70 i = f i + 1) (d : Nat) (V : Int32) : ∀ k, k < 100 → s_cap f k = V → xEv (.inl 1) M_X6_mayOf (fun r1 σ1 => r1 = some (.int V) ∧ σ1 = σ) 7 ([some (.ref 57), some (.int (nI d)), some (.int (nI k))], [], σ) := by
  intro k
  induction k with
  | zero =>
    intro hk hV
    have hkc : (nI 0).toNatClampNeg = 0 := rfl
    refine ev_br 1 [] ((nI 0) ≤ 0) 26 11 ([some (.ref 57), some (.int (nI d)), some (.int (nI 0))], [], σ) rfl ?_ (fun c8 => ?_) (fun c8 => ?_)
    · trivial
    · refine ev_blk 6 [vp_in (nI 0) 100] 34 ([some (.ref 57), some (.int (nI d)), some (.int (nI 0))], [.int (((σ 70) (nI 0).toNatClampNeg) - (1 : Int32))], σ) rfl ?_ ?_
      · exact vp_in_nI (by omega) (by decide)
      rw [hkc]
      exact ev_iret rfl rfl rfl (pu_v (by rw [hf 0 (by decide), Int32.add_sub_cancel, ← hV, s_cap]))
    · exact absurd (by decide) c8
  | succ k ih =>
    intro hk hV
    have hkc : (nI (k + 1)).toNatClampNeg = k + 1 := nI_clamp (by omega)
    have hfk := hf (k + 1) hk
    rw [s_cap] at hV
    refine ev_br 1 [] ((nI (k + 1)) ≤ 0) 26 11 ([some (.ref 57), some (.int (nI d)), some (.int (nI (k + 1)))], [], σ) rfl ?_ (fun c8 => ?_) (fun c8 => ?_)
    · trivial
    · exact absurd c8 (show ¬ nI (k + 1) ≤ nI 0 from nI_nle (by omega) (by omega))
    · refine ev_br 4 [vp_in (nI (k + 1)) 100] (¬ ((σ 70) (nI (k + 1)).toNatClampNeg) = 0) 26 20 ([some (.ref 57), some (.int (nI d)), some (.int (nI (k + 1)))], [], σ) rfl ?_ (fun c17 => ?_) (fun c17 => ?_)
      · exact vp_in_nI (by omega) (by decide)
      · rw [hkc] at c17
        refine ev_blk 6 [vp_in (nI (k + 1)) 100] 34 ([some (.ref 57), some (.int (nI d)), some (.int (nI (k + 1)))], [.int (((σ 70) (nI (k + 1)).toNatClampNeg) - (1 : Int32))], σ) rfl ?_ ?_
        · exact vp_in_nI (by omega) (by decide)
        rw [hkc]
        rw [hfk] at c17
        rw [if_neg (fun q => c17 (x_p1.mpr q))] at hV
        exact ev_iret rfl rfl rfl (pu_v (by rw [hfk, Int32.add_sub_cancel, hV]))
      · rw [hkc] at c17
        refine ev_blk 2 [] 7 ([some (.ref 57), some (.int (nI d)), some (.int ((nI (k + 1)) + (-1 : Int32)))], [], σ) rfl ?_ ?_
        · trivial
        rw [hfk] at c17
        rw [if_pos (x_p1.mp (Classical.byContradiction c17))] at hV
        rw [pk_m1]
        exact ih (by omega) hV
set_option maxRecDepth 100000 in
theorem m_mayOf (σ : xSg) (f : Nat → Int32) (hf : ∀ i, i < 100 → σ 70 i = f i + 1) (d : Nat) (hd : d < 2 ^ 31) : xCtr M_X6_mayOf [.ref 57, .int (nI d)] σ (fun r1 σ1 => r1 = some (.int (s_bnd f d)) ∧ σ1 = σ) := by
  refine ctr_ev ok_X6_mayOf (by decide +kernel) rfl rfl rfl ?_
  show xEv (.inl 1) M_X6_mayOf _ 0 ([some (.ref 57), some (.int (nI d)), none], [], σ)
  have hmn : x_mn (nI d) (99 : Int32) = nI (if d < 99 then d else 99) := by
    unfold x_mn
    by_cases h : d < 99
    · rw [if_neg (show ¬ (99 : Int32) < nI d from nI_nlt (a := 99) (b := d) (by omega) (by decide)), if_pos h]
    · rw [if_neg h]
      by_cases h2 : d = 99
      · subst h2; decide
      · rw [if_pos (show (99 : Int32) < nI d from nI_lt (a := 99) (by omega) hd)]; rfl
  refine ev_blk 4 [] 7 ([some (.ref 57), some (.int (nI d)), some (.int (x_mn (nI d) (99 : Int32)))], [], σ) rfl ?_ ?_
  · trivial
  rw [hmn]
  exact m_mayOf_lp σ f hf d _ (if d < 99 then d else 99) (by split <;> omega) rfl
set_option maxRecDepth 100000 in
theorem m_may (σ : xSg) (f : Nat → Int32) (hf : ∀ i, i < 100 → σ 70 i = f i + 1) (day : Int32) : xCtr M_X6_may [.ref 57, .int (day)] σ (fun r1 σ1 => r1 = some (.int (s_may f day)) ∧ σ1 = σ) := by
  refine ctr_ev ok_X6_may (by decide +kernel) rfl rfl rfl ?_
  show xEv (.inl 2) M_X6_may _ 0 ([some (.ref 57), some (.int (day))], [], σ)
  have h2 : iN 200 day ↔ (¬ day < 0 ∧ ¬ (199 : Int32) < day) := by
    constructor
    · rintro ⟨a, b⟩
      obtain ⟨d, hd, rfl⟩ := nI_of a
      exact ⟨a, nI_nlt (a := 199) (by have := mt (fun z => nI_le (a := 200) (b := d) z hd) b; omega) (by decide)⟩
    · rintro ⟨a, b⟩
      exact ⟨a, fun q => b (Int32.lt_of_lt_of_le (by decide) q)⟩
  refine ev_blk 3 [] 5 ([some (.ref 57), some (.int (day))], [.int ((199 : Int32)), .int ((0 : Int32)), .int (day)], σ) rfl ?_ ?_
  · trivial
  refine ev_callS M_X6_within [.int (day), .int ((0 : Int32)), .int ((199 : Int32))] [] rfl rfl ln_X6_110 k_X6_within rfl rfl rfl (m_within _ _ _ _) ?_
  refine pu_k ?_
  show xEv _ _ _ 8 ([some (.ref 57), some (.int (day))], [.int (zi (¬ day < (0 : Int32) ∧ ¬ (199 : Int32) < day))], σ)
  refine ev_br 0 [] ((zi (¬ day < (0 : Int32) ∧ ¬ (199 : Int32) < day)) = 0) 19 11 ([some (.ref 57), some (.int (day))], [], σ) rfl ?_ (fun c8 => ?_) (fun c8 => ?_)
  · trivial
  · replace c8 := zi_0.mp c8
    refine ev_blk 1 [] 21 ([some (.ref 57), some (.int (day))], [.int ((-2 : Int32))], σ) rfl ?_ ?_
    · trivial
    exact ev_iret rfl rfl rfl (pu_v (by rw [s_may, if_neg (fun q => c8 (h2.mp q))]))
  · replace c8 := zi_1.mp c8
    refine ev_blk 2 [] 13 ([some (.ref 57), some (.int (day))], [.int (day), .ref 57], σ) rfl ?_ ?_
    · trivial
    obtain ⟨d, hd, rfl⟩ := nI_of c8.1
    have hdc : (nI d).toNatClampNeg = d := nI_clamp hd
    refine ev_callV M_X6_mayOf [.int (nI d)] [] 57 rfl rfl ln_X6_129 k_X6_mayOf rfl rfl rfl rfl rfl rfl (m_mayOf σ f hf d hd) ?_
    refine pu_k ?_
    show xEv _ _ _ 16 ([some (.ref 57), some (.int (nI d))], [.int (s_bnd f d)], σ)
    refine ev_blk 1 [] 21 ([some (.ref 57), some (.int (nI d))], [.int (s_bnd f d)], σ) rfl ?_ ?_
    · trivial
    exact ev_iret rfl rfl rfl (pu_v (by rw [s_may, if_pos (h2.mpr c8), hdc]))
theorem mSh {n : Nat} {x : Int32} (hn : n ≤ 10) : (¬ x < 0 ∧ ¬ nI n - 1 < x) ↔ iN n x := by
  constructor
  · rintro ⟨a, b⟩
    obtain ⟨j, hj, rfl⟩ := nI_of a
    cases n with
    | zero => exact absurd (show nI 0 - 1 < nI j from Int32.lt_of_lt_of_le (show nI 0 - 1 < 0 by decide) (Int32.not_lt.mp a)) b
    | succ n =>
      rw [show nI (n + 1) - 1 = nI n from i_sub (b := 1) (by omega)] at b
      exact ⟨a, nI_ge (by have := mt (fun z => nI_lt (a := n) (b := j) z hj) b; omega) (by omega)⟩
  · rintro ⟨a, b⟩
    obtain ⟨j, hj, rfl⟩ := nI_of a
    have hjn : j < n := Nat.lt_of_not_le (fun z => b (nI_le z hj))
    refine ⟨a, ?_⟩
    rw [show nI n - 1 = nI (n - 1) from i_sub (b := 1) (by omega)]
    exact nI_nlt (by omega) (by omega)
set_option maxRecDepth 100000 in
theorem m_told (σ : xSg) (n : Nat) (hn : σ 57 0 = nI n) (hn10 : n ≤ 10) (x wh : Int32) : xCtr M_X6_told [.ref 57, .int (x), .int (wh)] σ (fun r σ1 => r = some (.int (s_tld n (atM σ) (σ 64) (σ 65) x wh)) ∧ σ1 = σ) := by
  refine ctr_ev ok_X6_told (by decide +kernel) rfl rfl rfl ?_
  show xEv (.inl 2) M_X6_told _ 0 ([some (.ref 57), some (.int (x)), some (.int (wh))], [], σ)
  refine ev_blk 2 [] 2 ([some (.ref 57), some (.int (x)), some (.int (wh))], [.int (x), .ref 57], σ) rfl ?_ ?_
  · trivial
  refine ev_callV M_X6_isShip [.int (x)] [] 57 rfl rfl ln_X6_136 k_X6_isShip rfl rfl rfl rfl rfl rfl (m_isShip _ _) ?_
  refine pu_k ?_
  show xEv _ _ _ 5 ([some (.ref 57), some (.int (x)), some (.int (wh))], [.int (zi (¬ (x) < 0 ∧ ¬ σ 57 0 - 1 < (x)))], σ)
  refine ev_br 0 [] (¬ (zi (¬ (x) < 0 ∧ ¬ σ 57 0 - 1 < (x))) = 0) 11 8 ([some (.ref 57), some (.int (x)), some (.int (wh))], [], σ) rfl ?_ (fun c5 => ?_) (fun c5 => ?_)
  · trivial
  · replace c5 := zi_1.mp c5
    rw [hn] at c5
    have hx := (mSh hn10).mp c5
    obtain ⟨j, hj, rfl⟩ := nI_of hx.1
    have hjn : j < n := Nat.lt_of_not_le (fun z => hx.2 (nI_le z hj))
    have hjc : (nI j).toNatClampNeg = j := nI_clamp hj
    have hin : vp_in (nI j) 10 := vp_in_nI (by omega) (by decide)
    have ev : ∀ v : Int32, v = s_told (atM σ) (σ 64) (σ 65) j wh → (some (Value.int v) = some (Value.int (s_tld n (atM σ) (σ 64) (σ 65) (nI j) wh)) ∧ σ = σ) := fun v hv => ⟨by rw [hv, s_tld, if_pos hx, hjc], rfl⟩
    refine ev_sw 1 [] (wh) [((0 : Int32), 68), ((1 : Int32), 75), ((2 : Int32), 82), ((3 : Int32), 89), ((4 : Int32), 96), ((5 : Int32), 103), ((6 : Int32), 110), ((7 : Int32), 117), ((8 : Int32), 123), ((9 : Int32), 129)] 136 ([some (.ref 57), some (.int (nI j)), some (.int (wh))], [], σ) rfl ?_ ?_
    · trivial
    refine ⟨fun c12_0 => ?_, fun c12_0 => ?_⟩
    · refine ev_blk 4 [vp_in (nI j) 10] 74 ([some (.ref 57), some (.int (nI j)), some (.int (wh))], [.int ((σ 58) (nI j).toNatClampNeg)], σ) rfl ?_ ?_
      · exact hin
      rw [hjc]
      exact ev_iret rfl rfl rfl (ev _ (by unfold s_told; simp_all))
    refine ⟨fun c12_1 => ?_, fun c12_1 => ?_⟩
    · refine ev_blk 4 [vp_in (nI j) 10] 81 ([some (.ref 57), some (.int (nI j)), some (.int (wh))], [.int ((σ 59) (nI j).toNatClampNeg)], σ) rfl ?_ ?_
      · exact hin
      rw [hjc]
      exact ev_iret rfl rfl rfl (ev _ (by unfold s_told; simp_all))
    refine ⟨fun c12_2 => ?_, fun c12_2 => ?_⟩
    · refine ev_blk 4 [vp_in (nI j) 10] 88 ([some (.ref 57), some (.int (nI j)), some (.int (wh))], [.int ((σ 60) (nI j).toNatClampNeg)], σ) rfl ?_ ?_
      · exact hin
      rw [hjc]
      exact ev_iret rfl rfl rfl (ev _ (by unfold s_told; simp_all))
    refine ⟨fun c12_3 => ?_, fun c12_3 => ?_⟩
    · refine ev_blk 4 [vp_in (nI j) 10] 95 ([some (.ref 57), some (.int (nI j)), some (.int (wh))], [.int ((σ 61) (nI j).toNatClampNeg)], σ) rfl ?_ ?_
      · exact hin
      rw [hjc]
      exact ev_iret rfl rfl rfl (ev _ (by unfold s_told; simp_all))
    refine ⟨fun c12_4 => ?_, fun c12_4 => ?_⟩
    · refine ev_blk 4 [vp_in (nI j) 10] 102 ([some (.ref 57), some (.int (nI j)), some (.int (wh))], [.int ((σ 62) (nI j).toNatClampNeg)], σ) rfl ?_ ?_
      · exact hin
      rw [hjc]
      exact ev_iret rfl rfl rfl (ev _ (by unfold s_told; simp_all))
    refine ⟨fun c12_5 => ?_, fun c12_5 => ?_⟩
    · refine ev_blk 4 [vp_in (nI j) 10] 109 ([some (.ref 57), some (.int (nI j)), some (.int (wh))], [.int ((σ 63) (nI j).toNatClampNeg)], σ) rfl ?_ ?_
      · exact hin
      rw [hjc]
      exact ev_iret rfl rfl rfl (ev _ (by unfold s_told; simp_all))
    refine ⟨fun c12_6 => ?_, fun c12_6 => ?_⟩
    · refine ev_blk 4 [vp_in (nI j) 10] 116 ([some (.ref 57), some (.int (nI j)), some (.int (wh))], [.int ((σ 64) (nI j).toNatClampNeg)], σ) rfl ?_ ?_
      · exact hin
      rw [hjc]
      exact ev_iret rfl rfl rfl (ev _ (by unfold s_told; simp_all))
    refine ⟨fun c12_7 => ?_, fun c12_7 => ?_⟩
    · refine ev_blk 2 [] 119 ([some (.ref 57), some (.int (nI j)), some (.int (wh))], [.int (nI j), .ref 57], σ) rfl ?_ ?_
      · trivial
      refine ev_callV M_X6_spanOf [.int (nI j)] [] 57 rfl rfl ln_X6_140 k_X6_spanOf rfl rfl rfl rfl rfl rfl (m_span _ _ hin) ?_
      refine pu_k ?_
      show xEv _ _ _ 122 ([some (.ref 57), some (.int (nI j)), some (.int (wh))], [.int (s_span (σ 58) (σ 59) (nI j).toNatClampNeg)], σ)
      rw [hjc]
      exact ev_iret rfl rfl rfl (ev _ (by unfold s_told; simp_all))
    refine ⟨fun c12_8 => ?_, fun c12_8 => ?_⟩
    · refine ev_blk 2 [] 125 ([some (.ref 57), some (.int (nI j)), some (.int (wh))], [.int (nI j), .ref 57], σ) rfl ?_ ?_
      · trivial
      refine ev_callV M_X6_rankOf [.int (nI j)] [] 57 rfl rfl ln_X6_143 k_X6_rankOf rfl rfl rfl rfl rfl rfl (m_rank _ _ hin) ?_
      refine pu_k ?_
      show xEv _ _ _ 128 ([some (.ref 57), some (.int (nI j)), some (.int (wh))], [.int (s_rank (σ 58) (σ 60) (nI j).toNatClampNeg)], σ)
      rw [hjc]
      exact ev_iret rfl rfl rfl (ev _ (by unfold s_told; simp_all))
    refine ⟨fun c12_9 => ?_, fun c12_9 => ?_⟩
    · refine ev_blk 4 [vp_in (nI j) 10] 135 ([some (.ref 57), some (.int (nI j)), some (.int (wh))], [.int ((σ 65) (nI j).toNatClampNeg)], σ) rfl ?_ ?_
      · exact hin
      rw [hjc]
      exact ev_iret rfl rfl rfl (ev _ (by unfold s_told; simp_all))
    show xEv _ _ _ 136 ([some (.ref 57), some (.int (nI j)), some (.int (wh))], [], σ)
    refine ev_blk 1 [] 138 ([some (.ref 57), some (.int (nI j)), some (.int (wh))], [.int ((-2 : Int32))], σ) rfl ?_ ?_
    · trivial
    exact ev_iret rfl rfl rfl (ev _ (by unfold s_told; simp_all))
  · replace c5 := zi_n.mp c5
    refine ev_blk 1 [] 10 ([some (.ref 57), some (.int (x)), some (.int (wh))], [.int ((-2 : Int32))], σ) rfl ?_ ?_
    · trivial
    rw [hn] at c5
    exact ev_iret rfl rfl rfl (pu_v (by rw [s_tld, if_neg (fun q => c5 ((mSh hn10).mpr q))]))
set_option maxRecDepth 100000 in
theorem m_lane (σ : xSg) (A B : List Nat) (hL : LR σ A B) (l i : Int32) : xCtr M_X6_lane [.ref 57, .int (l), .int (i)] σ (fun r σ1 => r = some (.int (s_lane A B l i)) ∧ σ1 = σ) := by
  refine ctr_ev ok_X6_lane (by decide +kernel) rfl rfl rfl ?_
  show xEv (.inl 1) M_X6_lane _ 0 ([some (.ref 57), some (.int (l)), some (.int (i))], [], σ)
  refine ev_blk 3 [] 3 ([some (.ref 57), some (.int (l)), some (.int (i))], [.int ((1 : Int32)), .int ((0 : Int32)), .int (l)], σ) rfl ?_ ?_
  · trivial
  refine ev_callS M_X6_within [.int (l), .int ((0 : Int32)), .int ((1 : Int32))] [] rfl rfl ln_X6_110 k_X6_within rfl rfl rfl (m_within _ _ _ _) ?_
  refine pu_k ?_
  show xEv _ _ _ 6 ([some (.ref 57), some (.int (l)), some (.int (i))], [.int (zi (¬ l < (0 : Int32) ∧ ¬ (1 : Int32) < l))], σ)
  refine ev_br 0 [] (¬ (zi (¬ l < (0 : Int32) ∧ ¬ (1 : Int32) < l)) = 0) 12 9 ([some (.ref 57), some (.int (l)), some (.int (i))], [], σ) rfl ?_ (fun c6 => ?_) (fun c6 => ?_)
  · trivial
  · replace c6 := zi_1.mp c6
    obtain ⟨j, hj, rfl⟩ := nI_of c6.1
    rcases (show j = 0 ∨ j = 1 by have := mt (fun z => nI_lt (a := 1) (b := j) z hj) c6.2; omega) with rfl | rfl
    · show xEv _ _ _ 12 ([some (.ref 57), some (.int ((0 : Int32))), some (.int (i))], [], σ)
      refine ev_blk 8 [vp_in ((0 : Int32)) 2] 22 ([some (.ref 57), some (.int ((0 : Int32))), some (.int (i))], [.int (((σ 67) 0) - (1 : Int32)), .int ((0 : Int32)), .int (i)], σ) rfl ?_ ?_
      · exact (vp_in_nI (n := 0) (by decide) (by decide))
      refine ev_callS M_X6_within [.int (i), .int ((0 : Int32)), .int (((σ 67) 0) - (1 : Int32))] [] rfl rfl ln_X6_110 k_X6_within rfl rfl rfl (m_within _ _ _ _) ?_
      refine pu_k ?_
      show xEv _ _ _ 25 ([some (.ref 57), some (.int ((0 : Int32))), some (.int (i))], [.int (zi (¬ i < (0 : Int32) ∧ ¬ (((σ 67) 0) - (1 : Int32)) < i))], σ)
      refine ev_br 0 [] ((zi (¬ i < (0 : Int32) ∧ ¬ (((σ 67) 0) - (1 : Int32)) < i)) = 0) 42 28 ([some (.ref 57), some (.int ((0 : Int32))), some (.int (i))], [], σ) rfl ?_ (fun c25 => ?_) (fun c25 => ?_)
      · trivial
      · replace c25 := zi_0.mp c25
        refine ev_blk 1 [] 43 ([some (.ref 57), some (.int ((0 : Int32))), some (.int (i))], [.int ((-1 : Int32))], σ) rfl ?_ ?_
        · trivial
        exact ev_iret rfl rfl rfl (pu_v (by rw [s_lane, if_pos (show nI 0 = 0 from rfl)]; exact (s_nth_no _ _ (fun k hk q => c25 (by subst q; rw [hL.2.2.2.2.1]; exact ⟨nI_pos (by have := hL.1; have := hL.2.1; omega), by rw [show nI A.length - 1 = nI (A.length - 1) from i_sub (b := 1) (by omega)]; exact nI_nlt (by omega) (by have := hL.1; have := hL.2.1; omega)⟩))).symm))
      · replace c25 := zi_1.mp c25
        rw [hL.2.2.2.2.1] at c25
        obtain ⟨b, hb, rfl⟩ := nI_of c25.1
        have hbl : b < A.length := by
          by_cases h0 : A.length = 0
          · rw [h0] at c25
            exact absurd (show nI 0 - 1 < nI b from Int32.lt_of_lt_of_le (show nI 0 - 1 < 0 by decide) (Int32.not_lt.mp c25.1)) c25.2
          · rw [show nI A.length - 1 = nI (A.length - 1) from i_sub (b := 1) (by omega)] at c25
            have := mt (fun z => nI_lt (a := A.length - 1) (b := b) z hb) c25.2
            omega
        have hb20 : A.length ≤ 10 := hL.1
        have hx : A[b]? = some A[b] := List.getElem?_eq_getElem hbl
        have hv := hL.2.2.1 b _ hx
        have hi : (10 : Int32) * (0 : Int32) + nI b = nI (b) := by rw [show (10 : Int32) * (0 : Int32) = nI 0 by decide, nI_add, Nat.zero_add]
        refine ev_blk 9 [vp_in (((10 : Int32) * (0 : Int32)) + (nI b)) 20] 43 ([some (.ref 57), some (.int ((0 : Int32))), some (.int (nI b))], [.int ((σ 66) (((10 : Int32) * (0 : Int32)) + (nI b)).toNatClampNeg)], σ) rfl ?_ ?_
        · show vp_in ((10 : Int32) * (0 : Int32) + nI b) 20; rw [hi]; exact vp_in_nI (by omega) (by decide)
        exact ev_iret rfl rfl rfl (pu_v (by rw [hi, nI_clamp (by omega), s_lane, if_pos (show nI 0 = 0 from rfl), s_nth_at _ b _ hx hb, hv]))
    · show xEv _ _ _ 12 ([some (.ref 57), some (.int ((1 : Int32))), some (.int (i))], [], σ)
      refine ev_blk 8 [vp_in ((1 : Int32)) 2] 22 ([some (.ref 57), some (.int ((1 : Int32))), some (.int (i))], [.int (((σ 67) 1) - (1 : Int32)), .int ((0 : Int32)), .int (i)], σ) rfl ?_ ?_
      · exact (vp_in_nI (n := 1) (by decide) (by decide))
      refine ev_callS M_X6_within [.int (i), .int ((0 : Int32)), .int (((σ 67) 1) - (1 : Int32))] [] rfl rfl ln_X6_110 k_X6_within rfl rfl rfl (m_within _ _ _ _) ?_
      refine pu_k ?_
      show xEv _ _ _ 25 ([some (.ref 57), some (.int ((1 : Int32))), some (.int (i))], [.int (zi (¬ i < (0 : Int32) ∧ ¬ (((σ 67) 1) - (1 : Int32)) < i))], σ)
      refine ev_br 0 [] ((zi (¬ i < (0 : Int32) ∧ ¬ (((σ 67) 1) - (1 : Int32)) < i)) = 0) 42 28 ([some (.ref 57), some (.int ((1 : Int32))), some (.int (i))], [], σ) rfl ?_ (fun c25 => ?_) (fun c25 => ?_)
      · trivial
      · replace c25 := zi_0.mp c25
        refine ev_blk 1 [] 43 ([some (.ref 57), some (.int ((1 : Int32))), some (.int (i))], [.int ((-1 : Int32))], σ) rfl ?_ ?_
        · trivial
        exact ev_iret rfl rfl rfl (pu_v (by rw [s_lane, if_neg (show ¬ nI 1 = 0 by decide), if_pos (show nI 1 = 1 from rfl)]; exact (s_nth_no _ _ (fun k hk q => c25 (by subst q; rw [hL.2.2.2.2.2]; exact ⟨nI_pos (by have := hL.1; have := hL.2.1; omega), by rw [show nI B.length - 1 = nI (B.length - 1) from i_sub (b := 1) (by omega)]; exact nI_nlt (by omega) (by have := hL.1; have := hL.2.1; omega)⟩))).symm))
      · replace c25 := zi_1.mp c25
        rw [hL.2.2.2.2.2] at c25
        obtain ⟨b, hb, rfl⟩ := nI_of c25.1
        have hbl : b < B.length := by
          by_cases h0 : B.length = 0
          · rw [h0] at c25
            exact absurd (show nI 0 - 1 < nI b from Int32.lt_of_lt_of_le (show nI 0 - 1 < 0 by decide) (Int32.not_lt.mp c25.1)) c25.2
          · rw [show nI B.length - 1 = nI (B.length - 1) from i_sub (b := 1) (by omega)] at c25
            have := mt (fun z => nI_lt (a := B.length - 1) (b := b) z hb) c25.2
            omega
        have hb20 : B.length ≤ 10 := hL.2.1
        have hx : B[b]? = some B[b] := List.getElem?_eq_getElem hbl
        have hv := hL.2.2.2.1 b _ hx
        have hi : (10 : Int32) * (1 : Int32) + nI b = nI (10 + b) := by rw [show (10 : Int32) * (1 : Int32) = nI 10 by decide, nI_add]
        refine ev_blk 9 [vp_in (((10 : Int32) * (1 : Int32)) + (nI b)) 20] 43 ([some (.ref 57), some (.int ((1 : Int32))), some (.int (nI b))], [.int ((σ 66) (((10 : Int32) * (1 : Int32)) + (nI b)).toNatClampNeg)], σ) rfl ?_ ?_
        · show vp_in ((10 : Int32) * (1 : Int32) + nI b) 20; rw [hi]; exact vp_in_nI (by omega) (by decide)
        exact ev_iret rfl rfl rfl (pu_v (by rw [hi, nI_clamp (by omega), s_lane, if_neg (show ¬ nI 1 = 0 by decide), if_pos (show nI 1 = 1 from rfl), s_nth_at _ b _ hx hb, hv]))
  · replace c6 := zi_n.mp c6
    refine ev_blk 1 [] 11 ([some (.ref 57), some (.int (l)), some (.int (i))], [.int ((-2 : Int32))], σ) rfl ?_ ?_
    · trivial
    exact ev_iret rfl rfl rfl (pu_v (by rw [s_lane, if_neg (fun q => c6 (by rw [q]; decide)), if_neg (fun q => c6 (by rw [q]; decide))]))
