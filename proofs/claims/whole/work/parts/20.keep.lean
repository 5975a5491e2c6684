theorem iSh_lt {σ : xSg} {n k : Nat} (hn : σ 1 0 = nI n) (hn10 : n ≤ 10) (hk : k < 2 ^ 31) : iSh σ (nI k) ↔ k < n := by
  constructor
  · intro q
    exact Nat.lt_of_not_le (fun z => q.2.1 (by rw [hn]; exact nI_le z (by omega)))
  · intro q
    exact ⟨nI_pos (by omega), by rw [hn]; exact nI_ge q (by omega), nI_ge (b := 10) (by omega) (by omega)⟩
theorem iWt {σ : xSg} {n k : Nat} {w : Int32} (hn : σ 1 0 = nI n) (hn10 : n ≤ 10) (hk : k < 32) : (iSh σ (nI k) ∧ ¬ (w >>> (nI k &&& 31)) &&& 1 = 0) ↔ (k < n ∧ bt w k = true) := by
  rw [iSh_lt hn hn10 (by omega), b_tst hk]
  cases bt w k <;> simp
/-- the b-th of a list, as the code counts down -/
def s_nth : List Nat → Int32 → Int32
  | [], _ => -1
  | x :: t, b => if b = 0 then nI x else s_nth t (b + (-1))
theorem s_nth_no : ∀ (A : List Nat) (b : Int32), (∀ k, k < A.length → b ≠ nI k) → s_nth A b = -1
  | [], _, _ => rfl
  | x :: t, b, h => by
    unfold s_nth
    rw [if_neg (show ¬ b = 0 from h 0 (by simp))]
    refine s_nth_no t _ (fun k hk q => h (k + 1) (by simp; omega) ?_)
    have e : b + (-1) + 1 = nI k + 1 := by rw [q]
    rw [Int32.add_assoc, show (-1 : Int32) + 1 = 0 by decide, Int32.add_zero, nI_1] at e
    exact e
theorem s_nth_at : ∀ (A : List Nat) (j x : Nat), A[j]? = some x → j < 2 ^ 31 → s_nth A (nI j) = nI x
  | [], j, x, h, _ => by simp at h
  | y :: t, 0, x, h, _ => by
    simp only [List.getElem?_cons_zero, Option.some.injEq] at h
    subst h
    rfl
  | y :: t, j + 1, x, h, hj => by
    unfold s_nth
    rw [if_neg (fun q => by have := (nI_eq (a := j + 1) (b := 0) hj (by decide)).mp q; omega), pk_m1]
    exact s_nth_at t j x (by simpa using h) (by omega)
set_option maxRecDepth 100000 in
theorem c_waiter_lp (σ : xSg) (n : Nat) (ln : Int32) (hn10 : n ≤ 10) (hn : σ 1 0 = nI n) (i : Int32) (V : Int32) : ∀ (m k : Nat) (bh : Int32), k + m = 10 → s_nth ((List.range' k m).filter (s_lnp n (σ 1 1) (σ 7) ln)) bh = V → xEv (.inl 2) M_X3_waiter (fun r1 σ1 => r1 = some (.int V) ∧ σ1 = σ) 5 ([some (.ref 1), some (.int (ln)), some (.int (i)), some (.int (bh)), some (.int (nI k))], [], σ) := by
  intro m
  induction m with
  | zero =>
    intro k bh hk hV
    refine ev_br 2 [] ((10 : Int32) ≤ (nI k)) 48 12 ([some (.ref 1), some (.int (ln)), some (.int (i)), some (.int (bh)), some (.int (nI k))], [], σ) rfl ?_ (fun c9 => ?_) (fun c9 => ?_)
    · trivial
    · refine ev_blk 1 [] 49 ([some (.ref 1), some (.int (ln)), some (.int (i)), some (.int (bh)), some (.int (nI k))], [.int ((-1 : Int32))], σ) rfl ?_ ?_
      · trivial
      exact ev_iret rfl rfl rfl ⟨by rw [← hV]; rfl, rfl⟩
    · exact absurd (show (10 : Int32) ≤ nI k by rw [show k = 10 by omega]; decide) c9
  | succ m ih =>
    intro k bh hk hV
    have hkc : (nI k).toNatClampNeg = k := nI_clamp (by omega)
    have hiw := iWt (w := σ 1 1) hn hn10 (show k < 32 by omega)
    rw [List.range'_succ] at hV
    refine ev_br 2 [] ((10 : Int32) ≤ (nI k)) 48 12 ([some (.ref 1), some (.int (ln)), some (.int (i)), some (.int (bh)), some (.int (nI k))], [], σ) rfl ?_ (fun c9 => ?_) (fun c9 => ?_)
    · trivial
    · exact absurd c9 (nI_ge (b := 10) (by omega) (by decide))
    · refine ev_blk 2 [] 15 ([some (.ref 1), some (.int (ln)), some (.int (i)), some (.int (bh)), some (.int (nI k))], [.int (nI k), .ref 1], σ) rfl ?_ ?_
      · trivial
      refine ev_callV M_X3_isWaiting [.int (nI k)] [] 1 rfl rfl ln_X3_82 k_X3_isWaiting rfl rfl rfl rfl rfl rfl (c_isWaiting _ _) ?_
      refine pu_k ?_
      show xEv _ _ _ 18 ([some (.ref 1), some (.int (ln)), some (.int (i)), some (.int (bh)), some (.int (nI k))], [.int (zi (iSh σ (nI k) ∧ ¬ (σ 1 1 >>> ((nI k) &&& 31)) &&& 1 = 0))], σ)
      refine ev_br 0 [] ((zi (iSh σ (nI k) ∧ ¬ (σ 1 1 >>> ((nI k) &&& 31)) &&& 1 = 0)) = 0) 42 21 ([some (.ref 1), some (.int (ln)), some (.int (i)), some (.int (bh)), some (.int (nI k))], [], σ) rfl ?_ (fun c18 => ?_) (fun c18 => ?_)
      · trivial
      · replace c18 := zi_0.mp c18
        refine ev_blk 2 [] 5 ([some (.ref 1), some (.int (ln)), some (.int (i)), some (.int (bh)), some (.int ((nI k) + (1 : Int32)))], [], σ) rfl ?_ ?_
        · trivial
        rw [List.filter_cons_of_neg (by simp only [s_lnp, Bool.and_eq_true, decide_eq_true_eq]; exact fun q => c18 (hiw.mpr q.1))] at hV
        rw [nI_1]
        exact ih (k + 1) bh (by omega) hV
      · replace c18 := zi_1.mp c18
        refine ev_br 5 [vp_in (nI k) 10] (¬ ((σ 7) (nI k).toNatClampNeg) = ln) 42 32 ([some (.ref 1), some (.int (ln)), some (.int (i)), some (.int (bh)), some (.int (nI k))], [], σ) rfl ?_ (fun c29 => ?_) (fun c29 => ?_)
        · exact vp_in_nI (by omega) (by decide)
        · rw [hkc] at c29
          refine ev_blk 2 [] 5 ([some (.ref 1), some (.int (ln)), some (.int (i)), some (.int (bh)), some (.int ((nI k) + (1 : Int32)))], [], σ) rfl ?_ ?_
          · trivial
          rw [List.filter_cons_of_neg (by simp only [s_lnp, Bool.and_eq_true, decide_eq_true_eq]; exact fun q => c29 q.2)] at hV
          rw [nI_1]
          exact ih (k + 1) bh (by omega) hV
        · rw [hkc] at c29
          refine ev_br 1 [] (¬ bh = 0) 39 36 ([some (.ref 1), some (.int (ln)), some (.int (i)), some (.int (bh)), some (.int (nI k))], [], σ) rfl ?_ (fun c33 => ?_) (fun c33 => ?_)
          · trivial
          · refine ev_blk 3 [] 5 ([some (.ref 1), some (.int (ln)), some (.int (i)), some (.int (bh + (-1 : Int32))), some (.int ((nI k) + (1 : Int32)))], [], σ) rfl ?_ ?_
            · trivial
            rw [List.filter_cons_of_pos (by simp only [s_lnp, Bool.and_eq_true, decide_eq_true_eq]; exact ⟨hiw.mp c18, Classical.byContradiction c29⟩), s_nth, if_neg c33] at hV
            rw [nI_1]
            exact ih (k + 1) _ (by omega) hV
          · refine ev_blk 1 [] 38 ([some (.ref 1), some (.int (ln)), some (.int (i)), some (.int (bh)), some (.int (nI k))], [.int (nI k)], σ) rfl ?_ ?_
            · trivial
            rw [List.filter_cons_of_pos (by simp only [s_lnp, Bool.and_eq_true, decide_eq_true_eq]; exact ⟨hiw.mp c18, Classical.byContradiction c29⟩), s_nth, if_pos (Classical.byContradiction c33)] at hV
            exact ev_iret rfl rfl rfl ⟨by rw [hV], rfl⟩
set_option maxRecDepth 100000 in
theorem c_waiter (σ : xSg) (n : Nat) (ln : Int32) (hn10 : n ≤ 10) (hn : σ 1 0 = nI n) (i : Int32) : xPu M_X3_waiter [.ref 1, .int ln, .int i] σ (.int (s_nth ((List.range 10).filter (s_lnp n (σ 1 1) (σ 7) ln)) i)) := by
  refine ctr_ev ok_X3_waiter (by decide +kernel) rfl rfl rfl ?_
  show xEv (.inl 2) M_X3_waiter _ 0 ([some (.ref 1), some (.int (ln)), some (.int (i)), none, none], [], σ)
  refine ev_blk 4 [] 5 ([some (.ref 1), some (.int (ln)), some (.int (i)), some (.int (i)), some (.int ((0 : Int32)))], [], σ) rfl ?_ ?_
  · trivial
  exact c_waiter_lp σ n ln hn10 hn i _ 10 0 i rfl (by rw [List.range_eq_range'])
set_option maxRecDepth 100000 in
theorem c_waitersOf_lp (σ : xSg) (n : Nat) (ln : Int32) (hn10 : n ≤ 10) (hn : σ 1 0 = nI n) (V : Nat) : ∀ (m k al : Nat), k + m = 10 → al + ((List.range' k m).filter (s_lnp n (σ 1 1) (σ 7) ln)).length = V → xEv (.inl 2) M_X3_waitersOf (fun r1 σ1 => r1 = some (.int (nI V)) ∧ σ1 = σ) 4 ([some (.ref 1), some (.int (ln)), some (.int (nI al)), some (.int (nI k))], [], σ) := by
  intro m
  induction m with
  | zero =>
    intro k al hk hV
    refine ev_br 2 [] ((10 : Int32) ≤ (nI k)) 42 10 ([some (.ref 1), some (.int (ln)), some (.int (nI al)), some (.int (nI k))], [], σ) rfl ?_ (fun c7 => ?_) (fun c7 => ?_)
    · trivial
    · refine ev_blk 1 [] 43 ([some (.ref 1), some (.int (ln)), some (.int (nI al)), some (.int (nI k))], [.int (nI al)], σ) rfl ?_ ?_
      · trivial
      exact ev_iret rfl rfl rfl ⟨by rw [← hV]; rfl, rfl⟩
    · exact absurd (show (10 : Int32) ≤ nI k by rw [show k = 10 by omega]; decide) c7
  | succ m ih =>
    intro k al hk hV
    have hkc : (nI k).toNatClampNeg = k := nI_clamp (by omega)
    have hiw := iWt (w := σ 1 1) hn hn10 (show k < 32 by omega)
    rw [List.range'_succ] at hV
    refine ev_br 2 [] ((10 : Int32) ≤ (nI k)) 42 10 ([some (.ref 1), some (.int (ln)), some (.int (nI al)), some (.int (nI k))], [], σ) rfl ?_ (fun c7 => ?_) (fun c7 => ?_)
    · trivial
    · exact absurd c7 (nI_ge (b := 10) (by omega) (by decide))
    · refine ev_blk 3 [] 13 ([some (.ref 1), some (.int (ln)), some (.int (nI al)), some (.int (nI k))], [.int (nI k), .ref 1, .int (nI al)], σ) rfl ?_ ?_
      · trivial
      refine ev_callV M_X3_isWaiting [.int (nI k)] [.int (nI al)] 1 rfl rfl ln_X3_82 k_X3_isWaiting rfl rfl rfl rfl rfl rfl (c_isWaiting _ _) ?_
      refine pu_k ?_
      show xEv _ _ _ 16 ([some (.ref 1), some (.int (ln)), some (.int (nI al)), some (.int (nI k))], [.int (zi (iSh σ (nI k) ∧ ¬ (σ 1 1 >>> ((nI k) &&& 31)) &&& 1 = 0)), .int (nI al)], σ)
      refine ev_br 0 [] ((zi (iSh σ (nI k) ∧ ¬ (σ 1 1 >>> ((nI k) &&& 31)) &&& 1 = 0)) = 0) 33 19 ([some (.ref 1), some (.int (ln)), some (.int (nI al)), some (.int (nI k))], [.int (nI al)], σ) rfl ?_ (fun c16 => ?_) (fun c16 => ?_)
      · trivial
      · replace c16 := zi_0.mp c16
        refine ev_blk 5 [] 4 ([some (.ref 1), some (.int (ln)), some (.int ((nI al) + (0 : Int32))), some (.int ((nI k) + (1 : Int32)))], [], σ) rfl ?_ ?_
        · trivial
        rw [List.filter_cons_of_neg (by simp only [s_lnp, Bool.and_eq_true, decide_eq_true_eq]; exact fun q => c16 (hiw.mpr q.1))] at hV
        rw [nI_1, Int32.add_zero]
        exact ih (k + 1) al (by omega) hV
      · replace c16 := zi_1.mp c16
        refine ev_br 5 [vp_in (nI k) 10] (¬ ((σ 7) (nI k).toNatClampNeg) = ln) 33 29 ([some (.ref 1), some (.int (ln)), some (.int (nI al)), some (.int (nI k))], [.int (nI al)], σ) rfl ?_ (fun c26 => ?_) (fun c26 => ?_)
        · exact vp_in_nI (by omega) (by decide)
        · rw [hkc] at c26
          refine ev_blk 5 [] 4 ([some (.ref 1), some (.int (ln)), some (.int ((nI al) + (0 : Int32))), some (.int ((nI k) + (1 : Int32)))], [], σ) rfl ?_ ?_
          · trivial
          rw [List.filter_cons_of_neg (by simp only [s_lnp, Bool.and_eq_true, decide_eq_true_eq]; exact fun q => c26 q.2)] at hV
          rw [nI_1, Int32.add_zero]
          exact ih (k + 1) al (by omega) hV
        · rw [hkc] at c26
          refine ev_blk 6 [] 4 ([some (.ref 1), some (.int (ln)), some (.int ((nI al) + (1 : Int32))), some (.int ((nI k) + (1 : Int32)))], [], σ) rfl ?_ ?_
          · trivial
          rw [List.filter_cons_of_pos (by simp only [s_lnp, Bool.and_eq_true, decide_eq_true_eq]; exact ⟨hiw.mp c16, Classical.byContradiction c26⟩), List.length_cons] at hV
          rw [nI_1, nI_1]
          exact ih (k + 1) (al + 1) (by omega) (by omega)
set_option maxRecDepth 100000 in
theorem c_waitersOf (σ : xSg) (n : Nat) (ln : Int32) (hn10 : n ≤ 10) (hn : σ 1 0 = nI n) : xPu M_X3_waitersOf [.ref 1, .int ln] σ (.int (nI ((List.range 10).filter (s_lnp n (σ 1 1) (σ 7) ln)).length)) := by
  refine ctr_ev ok_X3_waitersOf (by decide +kernel) rfl rfl rfl ?_
  show xEv (.inl 2) M_X3_waitersOf _ 0 ([some (.ref 1), some (.int (ln)), none, none], [], σ)
  refine ev_blk 4 [] 4 ([some (.ref 1), some (.int (ln)), some (.int ((0 : Int32))), some (.int ((0 : Int32)))], [], σ) rfl ?_ ?_
  · trivial
  exact c_waitersOf_lp σ n ln hn10 hn _ 10 0 0 rfl (by rw [List.range_eq_range', Nat.zero_add])
/-- the cap that holds on a day: rows of caps, -1 where nothing is told -/
def s_cap (f : Nat → Int32) : Nat → Int32
  | 0 => f 0
  | d + 1 => if f (d + 1) = -1 then s_cap f d else f (d + 1)
def s_bnd (f : Nat → Int32) (d : Nat) : Int32 := s_cap f (if d < 99 then d else 99)
set_option maxRecDepth 100000 in
theorem c_bound_lp (σ : xSg) (dd : Int32) : ∀ (k : Nat), k < 100 → xEv (.inl 1) M_X3_bound (fun r1 σ1 => r1 = some (.int (s_cap (σ 11) k)) ∧ σ1 = σ) 7 ([some (.ref 1), some (.int (dd)), some (.int (nI k))], [], σ) := by
  intro k
  induction k with
  | zero =>
    intro hk
    have hkc : (nI 0).toNatClampNeg = 0 := rfl
    refine ev_br 1 [] ((nI 0) < 0) 34 11 ([some (.ref 1), some (.int (dd)), some (.int (nI 0))], [], σ) rfl ?_ (fun c8 => ?_) (fun c8 => ?_)
    · trivial
    · exact absurd c8 (by decide)
    · refine ev_br 5 [vp_in (nI 0) 100] (((σ 11) (nI 0).toNatClampNeg) = (-1 : Int32)) 28 21 ([some (.ref 1), some (.int (dd)), some (.int (nI 0))], [], σ) rfl ?_ (fun c18 => ?_) (fun c18 => ?_)
      · exact vp_in_nI (by omega) (by decide)
      · rw [hkc] at c18
        refine ev_blk 2 [] 7 ([some (.ref 1), some (.int (dd)), some (.int ((nI 0) + (-1 : Int32)))], [], σ) rfl ?_ ?_
        · trivial
        show xEv _ _ _ 7 ([some (.ref 1), some (.int (dd)), some (.int ((-1 : Int32)))], [], σ)
        refine ev_br 1 [] ((-1 : Int32) < 0) 34 11 ([some (.ref 1), some (.int (dd)), some (.int ((-1 : Int32)))], [], σ) rfl ?_ (fun c7b => ?_) (fun c7b => ?_)
        · trivial
        · refine ev_blk 1 [] 35 ([some (.ref 1), some (.int (dd)), some (.int ((-1 : Int32)))], [.int ((-1 : Int32))], σ) rfl ?_ ?_
          · trivial
          exact ev_iret rfl rfl rfl ⟨by rw [s_cap, c18], rfl⟩
        · exact absurd (by decide) c7b
      · rw [hkc] at c18
        refine ev_blk 4 [vp_in (nI 0) 100] 27 ([some (.ref 1), some (.int (dd)), some (.int (nI 0))], [.int ((σ 11) (nI 0).toNatClampNeg)], σ) rfl ?_ ?_
        · exact vp_in_nI (by omega) (by decide)
        rw [hkc]
        exact ev_iret rfl rfl rfl ⟨rfl, rfl⟩
  | succ k ih =>
    intro hk
    have hkc : (nI (k + 1)).toNatClampNeg = k + 1 := nI_clamp (by omega)
    refine ev_br 1 [] ((nI (k + 1)) < 0) 34 11 ([some (.ref 1), some (.int (dd)), some (.int (nI (k + 1)))], [], σ) rfl ?_ (fun c8 => ?_) (fun c8 => ?_)
    · trivial
    · exact absurd c8 (nI_pos (by omega))
    · refine ev_br 5 [vp_in (nI (k + 1)) 100] (((σ 11) (nI (k + 1)).toNatClampNeg) = (-1 : Int32)) 28 21 ([some (.ref 1), some (.int (dd)), some (.int (nI (k + 1)))], [], σ) rfl ?_ (fun c18 => ?_) (fun c18 => ?_)
      · exact vp_in_nI (by omega) (by decide)
      · rw [hkc] at c18
        refine ev_blk 2 [] 7 ([some (.ref 1), some (.int (dd)), some (.int ((nI (k + 1)) + (-1 : Int32)))], [], σ) rfl ?_ ?_
        · trivial
        rw [pk_m1, s_cap, if_pos c18]
        exact ih (by omega)
      · rw [hkc] at c18
        refine ev_blk 4 [vp_in (nI (k + 1)) 100] 27 ([some (.ref 1), some (.int (dd)), some (.int (nI (k + 1)))], [.int ((σ 11) (nI (k + 1)).toNatClampNeg)], σ) rfl ?_ ?_
        · exact vp_in_nI (by omega) (by decide)
        rw [hkc]
        exact ev_iret rfl rfl rfl ⟨by rw [s_cap, if_neg c18], rfl⟩
set_option maxRecDepth 100000 in
theorem c_bound (σ : xSg) (d : Nat) (hd : d < 2 ^ 31) : xPu M_X3_bound [.ref 1, .int (nI d)] σ (.int (s_bnd (σ 11) d)) := by
  have hmn : x_mn (nI d) (99 : Int32) = nI (if d < 99 then d else 99) := by
    unfold x_mn
    by_cases h : d < 99
    · rw [if_neg (show ¬ (99 : Int32) < nI d from nI_nlt (a := 99) (b := d) (by omega) (by decide)), if_pos h]
    · rw [if_neg h]
      by_cases h2 : d = 99
      · subst h2; decide
      · rw [if_pos (show (99 : Int32) < nI d from nI_lt (a := 99) (by omega) hd)]; rfl
  refine ctr_ev ok_X3_bound (by decide +kernel) rfl rfl rfl ?_
  show xEv (.inl 1) M_X3_bound _ 0 ([some (.ref 1), some (.int (nI d)), none], [], σ)
  refine ev_blk 4 [] 7 ([some (.ref 1), some (.int (nI d)), some (.int (x_mn (nI d) (99 : Int32)))], [], σ) rfl ?_ ?_
  · trivial
  rw [hmn]
  exact c_bound_lp σ (nI d) _ (by split <;> omega)
set_option maxRecDepth 100000 in
theorem c_allows (σ : xSg) (d : Nat) (w : Int32) (hd : d < 2 ^ 31) : xPu M_X3_allows [.ref 1, .int (nI d), .int (w)] σ (.int (zi (s_bnd (σ 11) d = -1 ∨ ¬ s_bnd (σ 11) d < w))) := by
  refine ctr_ev ok_X3_allows (by decide +kernel) rfl rfl rfl ?_
  show xEv (.inl 2) M_X3_allows _ 0 ([some (.ref 1), some (.int (nI d)), some (.int (w)), none], [], σ)
  refine ev_blk 2 [] 2 ([some (.ref 1), some (.int (nI d)), some (.int (w)), none], [.int (nI d), .ref 1], σ) rfl ?_ ?_
  · trivial
  refine ev_callV M_X3_bound [.int (nI d)] [] 1 rfl rfl ln_X3_100 k_X3_bound rfl rfl rfl rfl rfl rfl (c_bound σ d hd) ?_
  refine pu_k ?_
  show xEv _ _ _ 5 ([some (.ref 1), some (.int (nI d)), some (.int (w)), none], [.int (s_bnd (σ 11) d)], σ)
  refine ev_br 3 [] ((s_bnd (σ 11) d) = (-1 : Int32)) 16 11 ([some (.ref 1), some (.int (nI d)), some (.int (w)), some (.int (s_bnd (σ 11) d))], [], σ) rfl ?_ (fun c8 => ?_) (fun c8 => ?_)
  · trivial
  · refine ev_blk 2 [] 21 ([some (.ref 1), some (.int (nI d)), some (.int (w)), some (.int (s_bnd (σ 11) d))], [.int ((1 : Int32))], σ) rfl ?_ ?_
    · trivial
    exact ev_iret rfl rfl nar1 (pu_t (by simp_all))
  · refine ev_br 2 [] ((s_bnd (σ 11) d) < w) 20 16 ([some (.ref 1), some (.int (nI d)), some (.int (w)), some (.int (s_bnd (σ 11) d))], [], σ) rfl ?_ (fun c13 => ?_) (fun c13 => ?_)
    · trivial
    · refine ev_blk 1 [] 21 ([some (.ref 1), some (.int (nI d)), some (.int (w)), some (.int (s_bnd (σ 11) d))], [.int ((0 : Int32))], σ) rfl ?_ ?_
      · trivial
      exact ev_iret rfl rfl nar0 (pu_f (by simp_all))
    · refine ev_blk 2 [] 21 ([some (.ref 1), some (.int (nI d)), some (.int (w)), some (.int (s_bnd (σ 11) d))], [.int ((1 : Int32))], σ) rfl ?_ ?_
      · trivial
      exact ev_iret rfl rfl nar1 (pu_t (by simp_all))
def s_alw (f : Nat → Int32) (d : Nat) (w : Int32) : Bool := decide (s_bnd f d = -1 ∨ ¬ s_bnd f d < w)
/-- the first of the days from d on, m of them, that allows w -/
def s_day (f : Nat → Int32) (w : Int32) : Nat → Nat → Int32
  | 0, _ => -1
  | m + 1, d => if s_alw f d w = true then nI d else s_day f w m (d + 1)
set_option maxRecDepth 100000 in
theorem c_dayFor_lp (σ : xSg) (d : Nat) (us wa : Int32) (V : Int32) : ∀ (m k : Nat), k + m = 200 → s_day (σ 11) wa m k = V → xEv (.inl 3) M_X3_dayFor (fun r1 σ1 => r1 = some (.int V) ∧ σ1 = σ) 18 ([some (.ref 1), some (.int (nI d)), some (.int (us)), some (.int (wa)), some (.int (nI k))], [], σ) := by
  intro m
  induction m with
  | zero =>
    intro k hk hV
    refine ev_br 2 [] ((200 : Int32) ≤ (nI k)) 45 26 ([some (.ref 1), some (.int (nI d)), some (.int (us)), some (.int (wa)), some (.int (nI k))], [], σ) rfl ?_ (fun c23 => ?_) (fun c23 => ?_)
    · trivial
    · refine ev_blk 1 [] 46 ([some (.ref 1), some (.int (nI d)), some (.int (us)), some (.int (wa)), some (.int (nI k))], [.int ((-1 : Int32))], σ) rfl ?_ ?_
      · trivial
      exact ev_iret rfl rfl rfl ⟨by rw [← hV]; rfl, rfl⟩
    · exact absurd (show (200 : Int32) ≤ nI k by rw [show k = 200 by omega]; decide) c23
  | succ m ih =>
    intro k hk hV
    rw [s_day] at hV
    refine ev_br 2 [] ((200 : Int32) ≤ (nI k)) 45 26 ([some (.ref 1), some (.int (nI d)), some (.int (us)), some (.int (wa)), some (.int (nI k))], [], σ) rfl ?_ (fun c23 => ?_) (fun c23 => ?_)
    · trivial
    · exact absurd c23 (nI_ge (b := 200) (by omega) (by decide))
    · refine ev_blk 3 [] 30 ([some (.ref 1), some (.int (nI d)), some (.int (us)), some (.int (wa)), some (.int (nI k))], [.int (wa), .int (nI k), .ref 1], σ) rfl ?_ ?_
      · trivial
      refine ev_callV M_X3_allows [.int (nI k), .int (wa)] [] 1 rfl rfl ln_X3_103 k_X3_allows rfl rfl rfl rfl rfl rfl (c_allows σ k _ (by omega)) ?_
      refine pu_k ?_
      show xEv _ _ _ 33 ([some (.ref 1), some (.int (nI d)), some (.int (us)), some (.int (wa)), some (.int (nI k))], [.int (zi (s_bnd (σ 11) k = -1 ∨ ¬ s_bnd (σ 11) k < wa))], σ)
      refine ev_br 0 [] ((zi (s_bnd (σ 11) k = -1 ∨ ¬ s_bnd (σ 11) k < wa)) = 0) 39 36 ([some (.ref 1), some (.int (nI d)), some (.int (us)), some (.int (wa)), some (.int (nI k))], [], σ) rfl ?_ (fun c33 => ?_) (fun c33 => ?_)
      · trivial
      · replace c33 := zi_0.mp c33
        refine ev_blk 2 [] 18 ([some (.ref 1), some (.int (nI d)), some (.int (us)), some (.int (wa)), some (.int ((nI k) + (1 : Int32)))], [], σ) rfl ?_ ?_
        · trivial
        rw [if_neg (by simpa [s_alw] using c33)] at hV
        rw [nI_1]
        exact ih (k + 1) (by omega) hV
      · replace c33 := zi_1.mp c33
        refine ev_blk 1 [] 38 ([some (.ref 1), some (.int (nI d)), some (.int (us)), some (.int (wa)), some (.int (nI k))], [.int (nI k)], σ) rfl ?_ ?_
        · trivial
        rw [if_pos (by simpa [s_alw] using c33)] at hV
        exact ev_iret rfl rfl rfl ⟨by rw [hV], rfl⟩
set_option maxRecDepth 100000 in
theorem c_dayFor (σ : xSg) (d : Nat) (us wa : Int32) (hd : d < 200) : xPu M_X3_dayFor [.ref 1, .int (nI d), .int us, .int wa] σ (.int (if s_alw (σ 11) d (us + wa) = true then nI d else s_day (σ 11) wa (199 - d) (d + 1))) := by
  refine ctr_ev ok_X3_dayFor (by decide +kernel) rfl rfl rfl ?_
  show xEv (.inl 3) M_X3_dayFor _ 0 ([some (.ref 1), some (.int (nI d)), some (.int (us)), some (.int (wa)), none], [], σ)
  refine ev_blk 5 [] 5 ([some (.ref 1), some (.int (nI d)), some (.int (us)), some (.int (wa)), none], [.int (us + wa), .int (nI d), .ref 1], σ) rfl ?_ ?_
  · trivial
  refine ev_callV M_X3_allows [.int (nI d), .int (us + wa)] [] 1 rfl rfl ln_X3_103 k_X3_allows rfl rfl rfl rfl rfl rfl (c_allows σ d _ (by omega)) ?_
  refine pu_k ?_
  show xEv _ _ _ 8 ([some (.ref 1), some (.int (nI d)), some (.int (us)), some (.int (wa)), none], [.int (zi (s_bnd (σ 11) d = -1 ∨ ¬ s_bnd (σ 11) d < (us + wa)))], σ)
  refine ev_br 0 [] ((zi (s_bnd (σ 11) d = -1 ∨ ¬ s_bnd (σ 11) d < (us + wa))) = 0) 13 11 ([some (.ref 1), some (.int (nI d)), some (.int (us)), some (.int (wa)), none], [], σ) rfl ?_ (fun c8 => ?_) (fun c8 => ?_)
  · trivial
  · replace c8 := zi_0.mp c8
    refine ev_blk 4 [] 18 ([some (.ref 1), some (.int (nI d)), some (.int (us)), some (.int (wa)), some (.int ((nI d) + (1 : Int32)))], [], σ) rfl ?_ ?_
    · trivial
    rw [if_neg (by simpa [s_alw] using c8), nI_1]
    exact c_dayFor_lp σ d us wa _ (199 - d) (d + 1) (by omega) rfl
  · replace c8 := zi_1.mp c8
    refine ev_blk 1 [] 12 ([some (.ref 1), some (.int (nI d)), some (.int (us)), some (.int (wa)), none], [.int (nI d)], σ) rfl ?_ ?_
    · trivial
    exact ev_iret rfl rfl rfl ⟨by rw [if_pos (by simpa [s_alw] using c8)], rfl⟩
