set_option maxRecDepth 100000 in
theorem c_comeBy_lp (σ : xSg) (mi w : Int32) : ∀ (m i : Nat) (b : Int32), i + m = 10 → (∀ j, j < 32 → bt b j = (decide (j < i) && decide (σ 6 j ≤ mi))) → xEv (.inl 0) M_X0_comeBy (fun r σ1 => (∃ rI : Int32, r = some (.int rI) ∧ ∀ j, j < 32 → bt rI j = (decide (j < 10) && decide (σ 6 j ≤ mi) && bt w j)) ∧ σ1 = σ) 5 ([some (.ref 31), some (.int (mi)), some (.int (w)), some (.int (b)), some (.int (nI i))], [], σ) := by
  intro m
  induction m with
  | zero =>
    intro i b hi hb
    refine ev_br 2 [] ((10 : Int32) ≤ (nI i)) 43 12 ([some (.ref 31), some (.int (mi)), some (.int (w)), some (.int (b)), some (.int (nI i))], [], σ) rfl ?_ (fun c9 => ?_) (fun c9 => ?_)
    · trivial
    · refine ev_blk 3 [] 46 ([some (.ref 31), some (.int (mi)), some (.int (w)), some (.int (b)), some (.int (nI i))], [.int (b &&& w)], σ) rfl ?_ ?_
      · trivial
      exact ev_iret rfl rfl rfl ⟨⟨_, rfl, fun j hj => by rw [b_and, hb j hj, show i = 10 by omega]⟩, rfl⟩
    · exact absurd (show (10 : Int32) ≤ nI i from nI_le (a := 10) (by omega) (by omega)) c9
  | succ m ih =>
    intro i b hi hb
    have hic : (nI i).toNatClampNeg = i := nI_clamp (by omega)
    refine ev_br 2 [] ((10 : Int32) ≤ (nI i)) 43 12 ([some (.ref 31), some (.int (mi)), some (.int (w)), some (.int (b)), some (.int (nI i))], [], σ) rfl ?_ (fun c9 => ?_) (fun c9 => ?_)
    · trivial
    · exact absurd c9 (nI_ge (b := 10) (by omega) (by decide))
    · refine ev_br 7 [vp_in (nI i) 10] (mi < ((σ 6) (nI i).toNatClampNeg)) 34 27 ([some (.ref 31), some (.int (mi)), some (.int (w)), some (.int (b)), some (.int (nI i))], [.int (b)], σ) rfl ?_ (fun c24 => ?_) (fun c24 => ?_)
      · exact (vp_in_nI (by omega) (by decide))
      · rw [hic] at c24
        refine ev_blk 5 [] 5 ([some (.ref 31), some (.int (mi)), some (.int (w)), some (.int (b ||| (0 : Int32))), some (.int ((nI i) + (1 : Int32)))], [], σ) rfl ?_ ?_
        · trivial
        rw [nI_1]
        refine ih (i + 1) _ (by omega) (fun j hj => ?_)
        rw [b_or, b_0, Bool.or_false, hb j hj]
        by_cases hji : j = i
        · subst hji; simp [Int32.not_le.mpr c24]
        · rw [show decide (j < i + 1) = decide (j < i) from decide_eq_decide.mpr ⟨fun z => by omega, fun z => by omega⟩]
      · rw [hic] at c24
        refine ev_blk 8 [] 5 ([some (.ref 31), some (.int (mi)), some (.int (w)), some (.int (b ||| ((1 : Int32) <<< ((nI i) &&& 31)))), some (.int ((nI i) + (1 : Int32)))], [], σ) rfl ?_ ?_
        · trivial
        rw [nI_1]
        refine ih (i + 1) _ (by omega) (fun j hj => ?_)
        rw [b_setb (by omega) hj, hb j hj]
        by_cases hji : j = i
        · subst hji; simp [Int32.not_lt.mp c24]
        · rw [show decide (j < i + 1) = decide (j < i) from decide_eq_decide.mpr ⟨fun z => by omega, fun z => by omega⟩]; simp [hji]
set_option maxRecDepth 100000 in
theorem c_comeBy (σ : xSg) (mi w : Int32) : xCtr M_X0_comeBy [.ref 31, .int (mi), .int (w)] σ (fun r σ1 => (∃ rI : Int32, r = some (.int rI) ∧ ∀ j, j < 32 → bt rI j = (decide (j < 10) && decide (σ 6 j ≤ mi) && bt w j)) ∧ σ1 = σ) := by
  refine ctr_ev ok_X0_comeBy (by decide +kernel) rfl rfl rfl ?_
  show xEv (.inl 0) M_X0_comeBy _ 0 ([some (.ref 31), some (.int (mi)), some (.int (w)), none, none], [], σ)
  refine ev_blk 4 [] 5 ([some (.ref 31), some (.int (mi)), some (.int (w)), some (.int ((0 : Int32))), some (.int ((0 : Int32)))], [], σ) rfl ?_ ?_
  · trivial
  exact c_comeBy_lp σ mi w 10 0 0 (by omega) (fun j hj => by rw [b_0]; simp)
def ncI (f : Nat → Int32) (mi w : Int32) (i : Nat) (r : Int32) : Prop := (r = -1 ∧ ∀ j, j < i → bt w j = true → ¬ mi < f j) ∨ (∃ j, j < i ∧ bt w j = true ∧ r = f j ∧ mi < f j ∧ ∀ j', j' < i → bt w j' = true → mi < f j' → ¬ f j' < f j)
theorem ncI_no {f : Nat → Int32} {mi w r : Int32} {i : Nat} (h : ncI f mi w i r) (hn : bt w i = true → ¬ mi < f i) : ncI f mi w (i + 1) r := by
  rcases h with ⟨h1, h2⟩ | ⟨j, h1, h2, h3, h4, h5⟩
  · refine Or.inl ⟨h1, fun j hj hb => ?_⟩
    rcases Nat.lt_or_ge j i with q | q
    · exact h2 j q hb
    · have e : j = i := by omega
      subst e
      exact hn hb
  · refine Or.inr ⟨j, by omega, h2, h3, h4, fun j' hj' hb hm => ?_⟩
    rcases Nat.lt_or_ge j' i with q | q
    · exact h5 j' q hb hm
    · have e : j' = i := by omega
      subst e
      exact absurd hm (hn hb)
theorem ncI_ge {f : Nat → Int32} {mi w r : Int32} {i : Nat} (h : ncI f mi w i r) (hr : ¬ r = -1) (hn : ¬ f i < r) : ncI f mi w (i + 1) r := by
  rcases h with ⟨h1, h2⟩ | ⟨j, h1, h2, h3, h4, h5⟩
  · exact absurd h1 hr
  · subst h3
    refine Or.inr ⟨j, by omega, h2, rfl, h4, fun j' hj' hb hm => ?_⟩
    rcases Nat.lt_or_ge j' i with q | q
    · exact h5 j' q hb hm
    · have e : j' = i := by omega
      subst e
      exact hn
theorem ncI_new {f : Nat → Int32} {mi w r : Int32} {i : Nat} (h0 : ¬ mi < 0) (h : ncI f mi w i r) (hb : bt w i = true) (hm : mi < f i) (hn : r = -1 ∨ f i < r) : ncI f mi w (i + 1) (f i) := by
  refine Or.inr ⟨i, by omega, hb, rfl, hm, fun j' hj' hb' hm' => ?_⟩
  rcases Nat.lt_or_ge j' i with q | q
  · rcases h with ⟨h1, h2⟩ | ⟨j, h1, h2, h3, h4, h5⟩
    · exact absurd hm' (h2 j' q hb')
    · have h6 := h5 j' q hb' hm'
      rw [h3] at hn
      rw [Int32.lt_iff_toInt_lt] at h0 h4 h6 ⊢
      have e0 : ((0 : Int32)).toInt = 0 := by decide
      rcases hn with hn | hn
      · have e := congrArg Int32.toInt hn
        have e1 : ((-1 : Int32)).toInt = -1 := by decide
        omega
      · rw [Int32.lt_iff_toInt_lt] at hn
        omega
  · have e : j' = i := by omega
    subst e
    exact Int32.lt_irrefl
set_option maxRecDepth 100000 in
theorem c_nextComes_lp (σ : xSg) (mi w : Int32) (h0 : ¬ mi < 0) : ∀ (m i : Nat) (le : Int32), i + m = 10 → ncI (σ 6) mi w i le → xEv (.inl 0) M_X0_nextComes (fun r σ1 => (∃ rI : Int32, r = some (.int rI) ∧ ncI (σ 6) mi w 10 rI) ∧ σ1 = σ) 5 ([some (.ref 31), some (.int (mi)), some (.int (w)), some (.int (le)), some (.int (nI i)), none, none], [], σ) := by
  intro m
  induction m with
  | zero =>
    intro i le hi hI
    refine ev_br 2 [] ((10 : Int32) ≤ (nI i)) 71 12 ([some (.ref 31), some (.int (mi)), some (.int (w)), some (.int (le)), some (.int (nI i)), none, none], [], σ) rfl ?_ (fun c9 => ?_) (fun c9 => ?_)
    · trivial
    · refine ev_blk 1 [] 72 ([some (.ref 31), some (.int (mi)), some (.int (w)), some (.int (le)), some (.int (nI i)), none, none], [.int (le)], σ) rfl ?_ ?_
      · trivial
      exact ev_iret rfl rfl rfl ⟨⟨_, rfl, by rw [show (10 : Nat) = i by omega]; exact hI⟩, rfl⟩
    · exact absurd (show (10 : Int32) ≤ nI i from nI_le (a := 10) (by omega) (by omega)) c9
  | succ m ih =>
    intro i le hi hI
    have hic : (nI i).toNatClampNeg = i := nI_clamp (by omega)
    have hb := b_tst (x := w) (j := i) (by omega)
    have hbt : ¬ (w >>> (nI i &&& 31)) &&& 1 = 0 → bt w i = true := fun q => by
      cases hz : bt w i with
      | true => rfl
      | false => exact absurd (hb.mpr hz) q
    refine ev_br 2 [] ((10 : Int32) ≤ (nI i)) 71 12 ([some (.ref 31), some (.int (mi)), some (.int (w)), some (.int (le)), some (.int (nI i)), none, none], [], σ) rfl ?_ (fun c9 => ?_) (fun c9 => ?_)
    · trivial
    · exact absurd c9 (nI_ge (b := 10) (by omega) (by decide))
    · refine ev_br 11 [vp_in (nI i) 10] (((w >>> ((nI i) &&& 31)) &&& (1 : Int32)) = 0) 43 33 ([some (.ref 31), some (.int (mi)), some (.int (w)), some (.int (le)), some (.int (nI i)), some (.int ((σ 6) (nI i).toNatClampNeg)), none], [], σ) rfl ?_ (fun c30 => ?_) (fun c30 => ?_)
      · exact (vp_in_nI (by omega) (by decide))
      · rw [hic]
        refine ev_br 3 [] ((0 : Int32) = 0) 65 51 ([some (.ref 31), some (.int (mi)), some (.int (w)), some (.int (le)), some (.int (nI i)), some (.int ((σ 6) i)), some (.int ((0 : Int32)))], [], σ) rfl ?_ (fun c48 => ?_) (fun c48 => ?_)
        · trivial
        · refine ev_blk 2 [] 5 ([some (.ref 31), some (.int (mi)), some (.int (w)), some (.int (le)), some (.int ((nI i) + (1 : Int32))), some (.int ((σ 6) i)), some (.int ((0 : Int32)))], [], σ) rfl ?_ ?_
          · trivial
          rw [nI_1]
          refine ev_drop 5 ?_
          refine ev_drop 6 ?_
          exact ih (i + 1) _ (by omega) (ncI_no hI (fun q => by rw [hb.mp c30] at q; cases q))
        · exact absurd (by decide) c48
      · rw [hic]
        refine ev_br 2 [] (((σ 6) i) ≤ mi) 43 39 ([some (.ref 31), some (.int (mi)), some (.int (w)), some (.int (le)), some (.int (nI i)), some (.int ((σ 6) i)), none], [], σ) rfl ?_ (fun c36 => ?_) (fun c36 => ?_)
        · trivial
        · refine ev_br 3 [] ((0 : Int32) = 0) 65 51 ([some (.ref 31), some (.int (mi)), some (.int (w)), some (.int (le)), some (.int (nI i)), some (.int ((σ 6) i)), some (.int ((0 : Int32)))], [], σ) rfl ?_ (fun c48 => ?_) (fun c48 => ?_)
          · trivial
          · refine ev_blk 2 [] 5 ([some (.ref 31), some (.int (mi)), some (.int (w)), some (.int (le)), some (.int ((nI i) + (1 : Int32))), some (.int ((σ 6) i)), some (.int ((0 : Int32)))], [], σ) rfl ?_ ?_
            · trivial
            rw [nI_1]
            refine ev_drop 5 ?_
            refine ev_drop 6 ?_
            exact ih (i + 1) _ (by omega) (ncI_no hI (fun _ => Int32.not_lt.mpr c36))
          · exact absurd (by decide) c48
        · refine ev_br 4 [] ((1 : Int32) = 0) 65 51 ([some (.ref 31), some (.int (mi)), some (.int (w)), some (.int (le)), some (.int (nI i)), some (.int ((σ 6) i)), some (.int ((1 : Int32)))], [], σ) rfl ?_ (fun c48 => ?_) (fun c48 => ?_)
          · trivial
          · exact absurd c48 (by decide)
          · refine ev_br 2 [] (le = (-1 : Int32)) 62 56 ([some (.ref 31), some (.int (mi)), some (.int (w)), some (.int (le)), some (.int (nI i)), some (.int ((σ 6) i)), some (.int ((1 : Int32)))], [], σ) rfl ?_ (fun c53 => ?_) (fun c53 => ?_)
            · trivial
            · refine ev_blk 4 [] 5 ([some (.ref 31), some (.int (mi)), some (.int (w)), some (.int ((σ 6) i)), some (.int ((nI i) + (1 : Int32))), some (.int ((σ 6) i)), some (.int ((1 : Int32)))], [], σ) rfl ?_ ?_
              · trivial
              rw [nI_1]
              refine ev_drop 5 ?_
              refine ev_drop 6 ?_
              exact ih (i + 1) _ (by omega) (ncI_new h0 hI (hbt c30) (Int32.not_le.mp c36) (Or.inl c53))
            · refine ev_br 2 [] (le ≤ ((σ 6) i)) 65 62 ([some (.ref 31), some (.int (mi)), some (.int (w)), some (.int (le)), some (.int (nI i)), some (.int ((σ 6) i)), some (.int ((1 : Int32)))], [], σ) rfl ?_ (fun c59 => ?_) (fun c59 => ?_)
              · trivial
              · refine ev_blk 2 [] 5 ([some (.ref 31), some (.int (mi)), some (.int (w)), some (.int (le)), some (.int ((nI i) + (1 : Int32))), some (.int ((σ 6) i)), some (.int ((1 : Int32)))], [], σ) rfl ?_ ?_
                · trivial
                rw [nI_1]
                refine ev_drop 5 ?_
                refine ev_drop 6 ?_
                exact ih (i + 1) _ (by omega) (ncI_ge hI c53 (Int32.not_lt.mpr c59))
              · refine ev_blk 4 [] 5 ([some (.ref 31), some (.int (mi)), some (.int (w)), some (.int ((σ 6) i)), some (.int ((nI i) + (1 : Int32))), some (.int ((σ 6) i)), some (.int ((1 : Int32)))], [], σ) rfl ?_ ?_
                · trivial
                rw [nI_1]
                refine ev_drop 5 ?_
                refine ev_drop 6 ?_
                exact ih (i + 1) _ (by omega) (ncI_new h0 hI (hbt c30) (Int32.not_le.mp c36) (Or.inr (Int32.not_le.mp c59)))
set_option maxRecDepth 100000 in
theorem c_nextComes (σ : xSg) (mi w : Int32) (h0 : ¬ mi < 0) : xCtr M_X0_nextComes [.ref 31, .int (mi), .int (w)] σ (fun r σ1 => (∃ rI : Int32, r = some (.int rI) ∧ ncI (σ 6) mi w 10 rI) ∧ σ1 = σ) := by
  refine ctr_ev ok_X0_nextComes (by decide +kernel) rfl rfl rfl ?_
  show xEv (.inl 0) M_X0_nextComes _ 0 ([some (.ref 31), some (.int (mi)), some (.int (w)), none, none, none, none], [], σ)
  refine ev_blk 4 [] 5 ([some (.ref 31), some (.int (mi)), some (.int (w)), some (.int ((-1 : Int32))), some (.int ((0 : Int32))), none, none], [], σ) rfl ?_ ?_
  · trivial
  exact c_nextComes_lp σ mi w h0 10 0 _ (by omega) (Or.inl ⟨rfl, fun j hj => absurd hj (Nat.not_lt_zero j)⟩)
def bgQ (σ : xSg) (inm mi : Int32) : Option Value → xSg → Prop := fun r σ' => r = none ∧ σ' 31 4 = σ 31 4 + 1 ∧ σ' 31 5 = mi ∧ (∀ j, j < 10 → σ' 33 j = if bt inm j = true then mi - σ 6 j else σ 33 j) ∧ xFr [31, 33] σ σ'
set_option maxRecDepth 100000 in
theorem c_abegin_lp (σ : xSg) (inm mi : Int32) : ∀ (m i : Nat) (σ1 : xSg), i + m = 10 → σ1 31 4 = σ 31 4 + 1 → σ1 31 5 = mi → (∀ j, j < 10 → σ1 33 j = if j < i ∧ bt inm j = true then mi - σ 6 j else σ 33 j) → xFr [31, 33] σ σ1 → xEv (.inl 0) M_X0_begin (bgQ σ inm mi) 17 ([some (.ref 31), some (.int (inm)), some (.int (mi)), some (.int (nI i))], [], σ1) := by
  intro m
  induction m with
  | zero =>
    intro i σ1 hi h4 h5 hw hfr
    refine ev_br 2 [] ((10 : Int32) ≤ (nI i)) 54 23 ([some (.ref 31), some (.int (inm)), some (.int (mi)), some (.int (nI i))], [], σ1) rfl ?_ (fun c20 => ?_) (fun c20 => ?_)
    · trivial
    · exact ev_vret rfl rfl ⟨rfl, h4, h5, fun j hj => by rw [hw j hj]; simp [show j < i by omega], hfr⟩
    · exact absurd (show (10 : Int32) ≤ nI i from nI_le (a := 10) (by omega) (by omega)) c20
  | succ m ih =>
    intro i σ1 hi h4 h5 hw hfr
    have hic : (nI i).toNatClampNeg = i := nI_clamp (by omega)
    have hb := b_tst (x := inm) (j := i) (by omega)
    have h6 : σ1 6 = σ 6 := hfr 6 (by decide)
    refine ev_br 2 [] ((10 : Int32) ≤ (nI i)) 54 23 ([some (.ref 31), some (.int (inm)), some (.int (mi)), some (.int (nI i))], [], σ1) rfl ?_ (fun c20 => ?_) (fun c20 => ?_)
    · trivial
    · exact absurd c20 (nI_ge (b := 10) (by omega) (by decide))
    · refine ev_br 5 [] (((inm >>> ((nI i) &&& 31)) &&& (1 : Int32)) = 0) 48 31 ([some (.ref 31), some (.int (inm)), some (.int (mi)), some (.int (nI i))], [], σ1) rfl ?_ (fun c28 => ?_) (fun c28 => ?_)
      · trivial
      · refine ev_blk 2 [] 17 ([some (.ref 31), some (.int (inm)), some (.int (mi)), some (.int ((nI i) + (1 : Int32)))], [], σ1) rfl ?_ ?_
        · trivial
        rw [nI_1]
        refine ih (i + 1) σ1 (by omega) h4 h5 (fun j hj => ?_) hfr
        rw [hw j hj]
        have hbf := hb.mp c28
        by_cases hji : j = i
        · subst hji; simp [hbf]
        · simp [show (j < i + 1) = (j < i) from propext ⟨fun z => by omega, fun z => by omega⟩]
      · refine ev_blk 13 [vp_in (nI i) 10, vp_in (nI i) 10] 17 ([some (.ref 31), some (.int (inm)), some (.int (mi)), some (.int ((nI i) + (1 : Int32)))], [], (x_up σ1 33 (upd (σ1 33) (nI i).toNatClampNeg (mi - ((σ1 6) (nI i).toNatClampNeg))))) rfl ?_ ?_
        · exact ⟨(vp_in_nI (by omega) (by decide)), (vp_in_nI (by omega) (by decide))⟩
        rw [hic]
        rw [nI_1]
        refine ih (i + 1) _ (by omega) (by rw [x_up_ne (by decide)]; exact h4) (by rw [x_up_ne (by decide)]; exact h5) (fun j hj => ?_) (fun c hc => by rw [x_up_ne (fun q => hc (by rw [q]; decide))]; exact hfr c hc)
        have hbt : bt inm i = true := by
          cases hz : bt inm i with
          | true => rfl
          | false => exact absurd (hb.mpr hz) c28
        rw [x_up_eq, h6]
        by_cases hji : j = i
        · subst hji; rw [upd_eq]; simp [hbt]
        · rw [upd_ne hji, hw j hj]; simp [show (j < i + 1) = (j < i) from propext ⟨fun z => by omega, fun z => by omega⟩]
set_option maxRecDepth 100000 in
theorem c_abegin (σ : xSg) (inm mi : Int32) : xCtr M_X0_begin [.ref 31, .int (inm), .int (mi)] σ (bgQ σ inm mi) := by
  refine ctr_ev ok_X0_begin (by decide +kernel) rfl rfl rfl ?_
  show xEv (.inl 0) M_X0_begin _ 0 ([some (.ref 31), some (.int (inm)), some (.int (mi)), none], [], σ)
  refine ev_blk 11 [] 17 ([some (.ref 31), some (.int (inm)), some (.int (mi)), some (.int ((0 : Int32)))], [], (x_up (x_up σ 31 (upd (σ 31) 4 ((σ 31 4) + (1 : Int32)))) 31 (upd (upd (σ 31) 4 ((σ 31 4) + (1 : Int32))) 5 (mi)))) rfl ?_ ?_
  · trivial
  refine c_abegin_lp σ inm mi 10 0 _ (by omega) (by simp [x_up, upd]) (by simp [x_up, upd]) (fun j hj => by simp [x_up]) (fun c hc => ?_)
  simp only [List.mem_cons, List.not_mem_nil, or_false, not_or] at hc
  simp [x_up, hc.1]
def s_aws (f : Nat → Int32) : Nat → Int32
  | 0 => 0
  | k + 1 => s_aws f k + x_mx 0 (f k)
def s_ahd (f : Nat → Int32) (x j : Nat) : Bool := decide ((f j = f x ∧ j < x) ∨ f x < f j)
def s_inl (f : Nat → Int32) (i : Int32) : Nat → Nat → Int32
  | 0, _ => -1
  | m + 1, x => if ¬ f x = -1 ∧ nI (n_cnt (s_ahd f x) 10) = i then nI x else s_inl f i m (x + 1)
set_option maxRecDepth 100000 in
theorem c_allWaits_lp (σ : xSg) : ∀ (m i : Nat), i + m = 10 → xEv (.inl 1) M_X0_allWaits (fun r σ1 => r = some (.int (s_aws (σ 33) 10)) ∧ σ1 = σ) 4 ([some (.ref 31), some (.int (s_aws (σ 33) i)), some (.int (nI i))], [], σ) := by
  intro m
  induction m with
  | zero =>
    intro i hi
    refine ev_br 2 [] ((10 : Int32) ≤ (nI i)) 29 10 ([some (.ref 31), some (.int (s_aws (σ 33) i)), some (.int (nI i))], [], σ) rfl ?_ (fun c7 => ?_) (fun c7 => ?_)
    · trivial
    · refine ev_blk 1 [] 30 ([some (.ref 31), some (.int (s_aws (σ 33) i)), some (.int (nI i))], [.int (s_aws (σ 33) i)], σ) rfl ?_ ?_
      · trivial
      exact ev_iret rfl rfl rfl (pu_v (by rw [show i = 10 by omega]))
    · exact absurd (show (10 : Int32) ≤ nI i from nI_le (a := 10) (by omega) (by omega)) c7
  | succ m ih =>
    intro i hi
    have hic : (nI i).toNatClampNeg = i := nI_clamp (by omega)
    refine ev_br 2 [] ((10 : Int32) ≤ (nI i)) 29 10 ([some (.ref 31), some (.int (s_aws (σ 33) i)), some (.int (nI i))], [], σ) rfl ?_ (fun c7 => ?_) (fun c7 => ?_)
    · trivial
    · exact absurd c7 (nI_ge (b := 10) (by omega) (by decide))
    · refine ev_blk 11 [vp_in (nI i) 10] 4 ([some (.ref 31), some (.int ((s_aws (σ 33) i) + (x_mx (0 : Int32) ((σ 33) (nI i).toNatClampNeg)))), some (.int ((nI i) + (1 : Int32)))], [], σ) rfl ?_ ?_
      · exact (vp_in_nI (by omega) (by decide))
      rw [hic]
      rw [nI_1]
      exact ih (i + 1) (by omega)
set_option maxRecDepth 100000 in
theorem c_allWaits (σ : xSg) : xCtr M_X0_allWaits [.ref 31] σ (fun r σ1 => r = some (.int (s_aws (σ 33) 10)) ∧ σ1 = σ) := by
  refine ctr_ev ok_X0_allWaits (by decide +kernel) rfl rfl rfl ?_
  show xEv (.inl 1) M_X0_allWaits _ 0 ([some (.ref 31), none, none], [], σ)
  refine ev_blk 4 [] 4 ([some (.ref 31), some (.int ((0 : Int32))), some (.int ((0 : Int32)))], [], σ) rfl ?_ ?_
  · trivial
  exact c_allWaits_lp σ 10 0 (by omega)
set_option maxRecDepth 100000 in
theorem c_ahead_lp (σ : xSg) (x : Nat) (hx : x < 10) : ∀ (m i : Nat), i + m = 10 → xEv (.inl 0) M_X0_ahead (fun r σ1 => r = some (.int (nI (n_cnt (s_ahd (σ 33) x) 10))) ∧ σ1 = σ) 4 ([some (.ref 31), some (.int (nI x)), some (.int (nI (n_cnt (s_ahd (σ 33) x) i))), some (.int (nI i)), none], [], σ) := by
  intro m
  induction m with
  | zero =>
    intro i hi
    refine ev_br 2 [] ((10 : Int32) ≤ (nI i)) 71 10 ([some (.ref 31), some (.int (nI x)), some (.int (nI (n_cnt (s_ahd (σ 33) x) i))), some (.int (nI i)), none], [], σ) rfl ?_ (fun c7 => ?_) (fun c7 => ?_)
    · trivial
    · refine ev_blk 1 [] 72 ([some (.ref 31), some (.int (nI x)), some (.int (nI (n_cnt (s_ahd (σ 33) x) i))), some (.int (nI i)), none], [.int (nI (n_cnt (s_ahd (σ 33) x) i))], σ) rfl ?_ ?_
      · trivial
      exact ev_iret rfl rfl rfl (pu_v (by rw [show i = 10 by omega]))
    · exact absurd (show (10 : Int32) ≤ nI i from nI_le (a := 10) (by omega) (by omega)) c7
  | succ m ih =>
    intro i hi
    have hic : (nI i).toNatClampNeg = i := nI_clamp (by omega)
    have hxc : (nI x).toNatClampNeg = x := nI_clamp (by omega)
    refine ev_br 2 [] ((10 : Int32) ≤ (nI i)) 71 10 ([some (.ref 31), some (.int (nI x)), some (.int (nI (n_cnt (s_ahd (σ 33) x) i))), some (.int (nI i)), none], [], σ) rfl ?_ (fun c7 => ?_) (fun c7 => ?_)
    · trivial
    · exact absurd c7 (nI_ge (b := 10) (by omega) (by decide))
    · refine ev_br 8 [vp_in (nI i) 10, vp_in (nI x) 10] (¬ ((σ 33) (nI i).toNatClampNeg) = ((σ 33) (nI x).toNatClampNeg)) 34 25 ([some (.ref 31), some (.int (nI x)), some (.int (nI (n_cnt (s_ahd (σ 33) x) i))), some (.int (nI i)), none], [], σ) rfl ?_ (fun c22 => ?_) (fun c22 => ?_)
      · exact ⟨(vp_in_nI (by omega) (by decide)), (vp_in_nI (by omega) (by decide))⟩
      · rw [hic] at c22
        rw [hxc] at c22
        refine ev_br 4 [] (¬ (0 : Int32) = 0) 58 43 ([some (.ref 31), some (.int (nI x)), some (.int (nI (n_cnt (s_ahd (σ 33) x) i))), some (.int (nI i)), some (.int ((0 : Int32)))], [.int (nI (n_cnt (s_ahd (σ 33) x) i))], σ) rfl ?_ (fun c40 => ?_) (fun c40 => ?_)
        · trivial
        · exact absurd c40 (by decide)
        · refine ev_br 8 [vp_in (nI i) 10, vp_in (nI x) 10] (((σ 33) (nI i).toNatClampNeg) ≤ ((σ 33) (nI x).toNatClampNeg)) 62 58 ([some (.ref 31), some (.int (nI x)), some (.int (nI (n_cnt (s_ahd (σ 33) x) i))), some (.int (nI i)), some (.int ((0 : Int32)))], [.int (nI (n_cnt (s_ahd (σ 33) x) i))], σ) rfl ?_ (fun c55 => ?_) (fun c55 => ?_)
          · exact ⟨(vp_in_nI (by omega) (by decide)), (vp_in_nI (by omega) (by decide))⟩
          · rw [hic] at c55
            rw [hxc] at c55
            refine ev_blk 5 [] 4 ([some (.ref 31), some (.int (nI x)), some (.int ((nI (n_cnt (s_ahd (σ 33) x) i)) + (0 : Int32))), some (.int ((nI i) + (1 : Int32))), some (.int ((0 : Int32)))], [], σ) rfl ?_ ?_
            · trivial
            refine ev_drop 4 ?_
            rw [nI_1, Int32.add_zero, show n_cnt (s_ahd (σ 33) x) i = n_cnt (s_ahd (σ 33) x) (i + 1) by rw [n_cnt, if_neg (show ¬ s_ahd (σ 33) x i = true from fun q => by rcases of_decide_eq_true q with q | q; exact (fun q => c22 q.1) q; exact absurd q (Int32.not_lt.mpr c55)), Nat.add_zero]]
            exact ih (i + 1) (by omega)
          · rw [hic] at c55
            rw [hxc] at c55
            refine ev_blk 6 [] 4 ([some (.ref 31), some (.int (nI x)), some (.int ((nI (n_cnt (s_ahd (σ 33) x) i)) + (1 : Int32))), some (.int ((nI i) + (1 : Int32))), some (.int ((0 : Int32)))], [], σ) rfl ?_ ?_
            · trivial
            refine ev_drop 4 ?_
            rw [nI_1, nI_1, show n_cnt (s_ahd (σ 33) x) i + 1 = n_cnt (s_ahd (σ 33) x) (i + 1) by rw [n_cnt, if_pos (show s_ahd (σ 33) x i = true from decide_eq_true (Or.inr (Int32.not_le.mp c55)))]]
            exact ih (i + 1) (by omega)
      · rw [hic] at c22
        rw [hxc] at c22
        refine ev_br 2 [] ((nI x) ≤ (nI i)) 34 30 ([some (.ref 31), some (.int (nI x)), some (.int (nI (n_cnt (s_ahd (σ 33) x) i))), some (.int (nI i)), none], [], σ) rfl ?_ (fun c27 => ?_) (fun c27 => ?_)
        · trivial
        · refine ev_br 4 [] (¬ (0 : Int32) = 0) 58 43 ([some (.ref 31), some (.int (nI x)), some (.int (nI (n_cnt (s_ahd (σ 33) x) i))), some (.int (nI i)), some (.int ((0 : Int32)))], [.int (nI (n_cnt (s_ahd (σ 33) x) i))], σ) rfl ?_ (fun c40 => ?_) (fun c40 => ?_)
          · trivial
          · exact absurd c40 (by decide)
          · refine ev_br 8 [vp_in (nI i) 10, vp_in (nI x) 10] (((σ 33) (nI i).toNatClampNeg) ≤ ((σ 33) (nI x).toNatClampNeg)) 62 58 ([some (.ref 31), some (.int (nI x)), some (.int (nI (n_cnt (s_ahd (σ 33) x) i))), some (.int (nI i)), some (.int ((0 : Int32)))], [.int (nI (n_cnt (s_ahd (σ 33) x) i))], σ) rfl ?_ (fun c55 => ?_) (fun c55 => ?_)
            · exact ⟨(vp_in_nI (by omega) (by decide)), (vp_in_nI (by omega) (by decide))⟩
            · rw [hic] at c55
              rw [hxc] at c55
              refine ev_blk 5 [] 4 ([some (.ref 31), some (.int (nI x)), some (.int ((nI (n_cnt (s_ahd (σ 33) x) i)) + (0 : Int32))), some (.int ((nI i) + (1 : Int32))), some (.int ((0 : Int32)))], [], σ) rfl ?_ ?_
              · trivial
              refine ev_drop 4 ?_
              rw [nI_1, Int32.add_zero, show n_cnt (s_ahd (σ 33) x) i = n_cnt (s_ahd (σ 33) x) (i + 1) by rw [n_cnt, if_neg (show ¬ s_ahd (σ 33) x i = true from fun q => by rcases of_decide_eq_true q with q | q; exact (fun q => absurd (nI_lt q.2 (by omega)) (Int32.not_lt.mpr c27)) q; exact absurd q (Int32.not_lt.mpr c55)), Nat.add_zero]]
              exact ih (i + 1) (by omega)
            · rw [hic] at c55
              rw [hxc] at c55
              refine ev_blk 6 [] 4 ([some (.ref 31), some (.int (nI x)), some (.int ((nI (n_cnt (s_ahd (σ 33) x) i)) + (1 : Int32))), some (.int ((nI i) + (1 : Int32))), some (.int ((0 : Int32)))], [], σ) rfl ?_ ?_
              · trivial
              refine ev_drop 4 ?_
              rw [nI_1, nI_1, show n_cnt (s_ahd (σ 33) x) i + 1 = n_cnt (s_ahd (σ 33) x) (i + 1) by rw [n_cnt, if_pos (show s_ahd (σ 33) x i = true from decide_eq_true (Or.inr (Int32.not_le.mp c55)))]]
              exact ih (i + 1) (by omega)
        · refine ev_br 5 [] (¬ (1 : Int32) = 0) 58 43 ([some (.ref 31), some (.int (nI x)), some (.int (nI (n_cnt (s_ahd (σ 33) x) i))), some (.int (nI i)), some (.int ((1 : Int32)))], [.int (nI (n_cnt (s_ahd (σ 33) x) i))], σ) rfl ?_ (fun c40 => ?_) (fun c40 => ?_)
          · trivial
          · refine ev_blk 6 [] 4 ([some (.ref 31), some (.int (nI x)), some (.int ((nI (n_cnt (s_ahd (σ 33) x) i)) + (1 : Int32))), some (.int ((nI i) + (1 : Int32))), some (.int ((1 : Int32)))], [], σ) rfl ?_ ?_
            · trivial
            refine ev_drop 4 ?_
            rw [nI_1, nI_1, show n_cnt (s_ahd (σ 33) x) i + 1 = n_cnt (s_ahd (σ 33) x) (i + 1) by rw [n_cnt, if_pos (show s_ahd (σ 33) x i = true from decide_eq_true (Or.inl ⟨Classical.byContradiction c22, (nI_ltI (by omega) (by omega)).mp (Int32.not_le.mp c27)⟩))]]
            exact ih (i + 1) (by omega)
          · exact absurd (by decide) c40
set_option maxRecDepth 100000 in
theorem c_ahead (σ : xSg) (x : Nat) (hx : x < 10) : xCtr M_X0_ahead [.ref 31, .int (nI x)] σ (fun r σ1 => r = some (.int (nI (n_cnt (s_ahd (σ 33) x) 10))) ∧ σ1 = σ) := by
  refine ctr_ev ok_X0_ahead (by decide +kernel) rfl rfl rfl ?_
  show xEv (.inl 0) M_X0_ahead _ 0 ([some (.ref 31), some (.int (nI x)), none, none, none], [], σ)
  refine ev_blk 4 [] 4 ([some (.ref 31), some (.int (nI x)), some (.int ((0 : Int32))), some (.int ((0 : Int32))), none], [], σ) rfl ?_ ?_
  · trivial
  exact c_ahead_lp σ x hx 10 0 (by omega)
set_option maxRecDepth 100000 in
theorem c_inLine_lp (σ : xSg) (ix V : Int32) : ∀ (m i : Nat), i + m = 10 → s_inl (σ 33) ix m i = V → xEv (.inl 1) M_X0_inLine (fun r σ1 => r = some (.int V) ∧ σ1 = σ) 2 ([some (.ref 31), some (.int (ix)), some (.int (nI i))], [], σ) := by
  intro m
  induction m with
  | zero =>
    intro i hi hV
    refine ev_br 2 [] ((10 : Int32) ≤ (nI i)) 35 8 ([some (.ref 31), some (.int (ix)), some (.int (nI i))], [], σ) rfl ?_ (fun c5 => ?_) (fun c5 => ?_)
    · trivial
    · refine ev_blk 1 [] 36 ([some (.ref 31), some (.int (ix)), some (.int (nI i))], [.int ((-1 : Int32))], σ) rfl ?_ ?_
      · trivial
      exact ev_iret rfl rfl rfl (pu_v (by rw [← hV]; rfl))
    · exact absurd (show (10 : Int32) ≤ nI i from nI_le (a := 10) (by omega) (by omega)) c5
  | succ m ih =>
    intro i hi hV
    have hic : (nI i).toNatClampNeg = i := nI_clamp (by omega)
    refine ev_br 2 [] ((10 : Int32) ≤ (nI i)) 35 8 ([some (.ref 31), some (.int (ix)), some (.int (nI i))], [], σ) rfl ?_ (fun c5 => ?_) (fun c5 => ?_)
    · trivial
    · exact absurd c5 (nI_ge (b := 10) (by omega) (by decide))
    · refine ev_br 5 [vp_in (nI i) 10] (((σ 33) (nI i).toNatClampNeg) = (-1 : Int32)) 29 18 ([some (.ref 31), some (.int (ix)), some (.int (nI i))], [], σ) rfl ?_ (fun c15 => ?_) (fun c15 => ?_)
      · exact (vp_in_nI (by omega) (by decide))
      · rw [hic] at c15
        refine ev_blk 2 [] 2 ([some (.ref 31), some (.int (ix)), some (.int ((nI i) + (1 : Int32)))], [], σ) rfl ?_ ?_
        · trivial
        rw [nI_1]
        refine ih (i + 1) (by omega) ?_
        rw [← hV]
        conv => rhs; rw [s_inl]
        rw [if_neg (fun q => q.1 c15)]
      · rw [hic] at c15
        refine ev_blk 2 [] 20 ([some (.ref 31), some (.int (ix)), some (.int (nI i))], [.int (nI i), .ref 31], σ) rfl ?_ ?_
        · trivial
        refine ev_callV M_X0_ahead [.int (nI i)] [] 31 rfl rfl ln_X0_75 k_X0_ahead rfl rfl rfl rfl rfl rfl (c_ahead σ i (by omega)) ?_
        refine pu_k ?_
        show xEv _ _ _ 23 ([some (.ref 31), some (.int (ix)), some (.int (nI i))], [.int (nI (n_cnt (s_ahd (σ 33) i) 10))], σ)
        refine ev_br 1 [] (¬ (nI (n_cnt (s_ahd (σ 33) i) 10)) = ix) 29 27 ([some (.ref 31), some (.int (ix)), some (.int (nI i))], [], σ) rfl ?_ (fun c24 => ?_) (fun c24 => ?_)
        · trivial
        · refine ev_blk 2 [] 2 ([some (.ref 31), some (.int (ix)), some (.int ((nI i) + (1 : Int32)))], [], σ) rfl ?_ ?_
          · trivial
          rw [nI_1]
          refine ih (i + 1) (by omega) ?_
          rw [← hV]
          conv => rhs; rw [s_inl]
          rw [if_neg (fun q => c24 q.2)]
        · refine ev_blk 1 [] 28 ([some (.ref 31), some (.int (ix)), some (.int (nI i))], [.int (nI i)], σ) rfl ?_ ?_
          · trivial
          exact ev_iret rfl rfl rfl (pu_v (by rw [← hV, s_inl, if_pos ⟨c15, Classical.byContradiction c24⟩]))
set_option maxRecDepth 100000 in
theorem c_inLine (σ : xSg) (ix : Int32) : xCtr M_X0_inLine [.ref 31, .int (ix)] σ (fun r σ1 => r = some (.int (s_inl (σ 33) ix 10 0)) ∧ σ1 = σ) := by
  refine ctr_ev ok_X0_inLine (by decide +kernel) rfl rfl rfl ?_
  show xEv (.inl 1) M_X0_inLine _ 0 ([some (.ref 31), some (.int (ix)), none], [], σ)
  refine ev_blk 2 [] 2 ([some (.ref 31), some (.int (ix)), some (.int ((0 : Int32)))], [], σ) rfl ?_ ?_
  · trivial
  exact c_inLine_lp σ ix _ 10 0 (by omega) rfl
