theorem s_unl_c {a : sAt} {tk : sTk} {it it' : Nat → Int32} : ∀ {m i : Nat} {A B : List Nat}, (∀ j, i ≤ j → j < i + m → it j = it' j) → s_unl a tk it m i A B = s_unl a tk it' m i A B
  | 0, _, _, _, _ => rfl
  | m + 1, i, A, B, h => by
    unfold s_unl
    rw [h i (Nat.le_refl _) (by omega), s_unl_c (m := m) (i := i + 1) (fun j h1 h2 => h j (by omega) (by omega))]
theorem s_tri_c {f f' : Nat → Int32} : ∀ {m v : Nat} {b : Int32}, (∀ j, v ≤ j → j < v + m → f j = f' j) → s_tri f m v b = s_tri f' m v b
  | 0, _, _, _ => rfl
  | m + 1, v, b, h => by
    unfold s_tri
    rw [h v (Nat.le_refl _) (by omega), s_tri_c (m := m) (v := v + 1) (fun j h1 h2 => h j (by omega) (by omega))]
theorem upd_ig {f g : Nat → Int32} {p : Nat} {v : Int32} (h : ∀ i, i ≠ p → f i = g i) : upd f p v = upd g p v := by
  funext i
  unfold upd
  split
  · rfl
  next q => exact h i q
theorem upd_bk {f g : Nat → Int32} {p : Nat} {v : Int32} (h : ∀ i, i ≠ p → f i = g i) (hv : v = g p) : upd f p v = g := by
  funext i
  unfold upd
  split
  next q => rw [q, hv]
  next q => exact h i q
set_option maxRecDepth 100000 in
theorem c_tried0_9_lp (σ : xSg) (n : Nat) (hok : aOk (atC σ) n) (hn : σ 1 0 = nI n) (z : Nat) (hz : σ 49 1 = nI z) (hz8 : z ≤ 8) (V was : Int32) (hwas : was = σ 9 4) : ∀ (m v : Nat) (b : Int32) (σ1 : xSg), v + m = 5 → 0 ≤ v → xFr (9 :: scC) σ σ1 → (∀ i, i ≠ 4 → σ1 9 i = σ 9 i) → s_tri (fun v => s_unl (a_st (atC σ) (nI v)) (tkC σ) (σ 50) z 0 (laneL n (σ 1 1) (σ 7) 0) (laneL n (σ 1 1) (σ 7) 1)) m v b = V → xEv (.inl 6) M_X5_tried (fun r σ2 => r = some (.int V) ∧ xFr scC σ σ2) 24 ([some (.ref 0), some (.ref 49), some (.ref 9), some (.int ((4 : Int32))), some (.int ((0 : Int32))), some (.int ((4 : Int32))), some (.int (was)), some (.int (b)), some (.int (nI v))], [], σ1) := by
  have hn10 := hok.1
  intro m
  induction m with
  | zero =>
    intro v b σ1 hv hlv hfr hrow hV
    refine ev_br 2 [] ((4 : Int32) < (nI v)) 60 31 ([some (.ref 0), some (.ref 49), some (.ref 9), some (.int ((4 : Int32))), some (.int ((0 : Int32))), some (.int ((4 : Int32))), some (.int (was)), some (.int (b)), some (.int (nI v))], [], σ1) rfl ?_ (fun c28 => ?_) (fun c28 => ?_)
    · trivial
    · refine ev_blk 5 [vp_in ((4 : Int32)) 5] 67 ([some (.ref 0), some (.ref 49), some (.ref 9), some (.int ((4 : Int32))), some (.int ((0 : Int32))), some (.int ((4 : Int32))), some (.int (was)), some (.int (b)), some (.int (nI v))], [.int (b)], (x_up σ1 9 (upd (σ1 9) 4 (was)))) rfl ?_ ?_
      · exact vp_in_nI (n := 4) (by decide) (by decide)
      refine ev_iret rfl rfl rfl ⟨by rw [← hV]; rfl, fun c hc => ?_⟩
      by_cases hcr : c = 9
      · subst hcr; rw [x_up_eq]; exact upd_bk hrow hwas
      · rw [x_up_ne hcr]; exact hfr c (fun q => by rcases List.mem_cons.mp q with q | q; exact hcr q; exact hc q)
    · exact absurd (show (4 : Int32) < nI v from nI_lt (a := 4) (by omega) (by omega)) c28
  | succ m ih =>
    intro v b σ1 hv hlv hfr hrow hV
    refine ev_br 2 [] ((4 : Int32) < (nI v)) 60 31 ([some (.ref 0), some (.ref 49), some (.ref 9), some (.int ((4 : Int32))), some (.int ((0 : Int32))), some (.int ((4 : Int32))), some (.int (was)), some (.int (b)), some (.int (nI v))], [], σ1) rfl ?_ (fun c28 => ?_) (fun c28 => ?_)
    · trivial
    · exact absurd c28 (nI_nlt (a := 4) (by omega) (by omega))
    · refine ev_blk 6 [vp_in ((4 : Int32)) 5] 38 ([some (.ref 0), some (.ref 49), some (.ref 9), some (.int ((4 : Int32))), some (.int ((0 : Int32))), some (.int ((4 : Int32))), some (.int (was)), some (.int (b)), some (.int (nI v))], [.ref 49, .ref 0], (x_up σ1 9 (upd (σ1 9) 4 (nI v)))) rfl ?_ ?_
      · exact vp_in_nI (n := 4) (by decide) (by decide)
      have hc : ∀ c, c ∉ (9 :: scC) → (x_up σ1 9 (upd (σ1 9) 4 (nI v))) c = σ c := fun c hc => by rw [x_up_ne (fun q => hc (by rw [q]; exact List.mem_cons_self))]; exact hfr c hc
      have hat : atC (x_up σ1 9 (upd (σ1 9) 4 (nI v))) = a_st (atC σ) (nI v) := by unfold atC; rw [hc 2 (by decide), hc 3 (by decide), hc 4 (by decide), hc 5 (by decide), hc 6 (by decide), hc 7 (by decide), show (x_up σ1 9 (upd (σ1 9) 4 (nI v))) 9 = upd (σ 9) 4 (nI v) from (x_up_eq).trans (upd_ig hrow)]; rfl
      have htk : tkC (x_up σ1 9 (upd (σ1 9) 4 (nI v))) = tkC σ := by unfold tkC; rw [hc 10 (by decide)]
      refine ev_callV M_X5_firstOtherwise [.ref 49] [] 0 rfl rfl ln_X5_237 k_X5_firstOtherwise rfl rfl rfl rfl rfl rfl (c_first0 (x_up σ1 9 (upd (σ1 9) 4 (nI v))) n (by rw [hat]; exact aOk_st hok (by omega)) ((congrFun (hc 1 (by decide)) 0).trans hn) z ((congrFun (hc 49 (by decide)) 1).trans hz) hz8) ?_
      rintro r σ2 ⟨rfl, hf2⟩
      rw [hat, htk, hc 50 (by decide), hc 1 (by decide), hc 7 (by decide)]
      show xEv _ _ _ 41 ([some (.ref 0), some (.ref 49), some (.ref 9), some (.int ((4 : Int32))), some (.int ((0 : Int32))), some (.int ((4 : Int32))), some (.int (was)), some (.int (b)), some (.int (nI v))], [.int (s_unl (a_st (atC σ) (nI v)) (tkC σ) (σ 50) z 0 (laneL n (σ 1 1) (σ 7) 0) (laneL n (σ 1 1) (σ 7) 1))], σ2)
      refine ev_br 1 [] (¬ (s_unl (a_st (atC σ) (nI v)) (tkC σ) (σ 50) z 0 (laneL n (σ 1 1) (σ 7) 0) (laneL n (σ 1 1) (σ 7) 1)) = (-1 : Int32)) 54 45 ([some (.ref 0), some (.ref 49), some (.ref 9), some (.int ((4 : Int32))), some (.int ((0 : Int32))), some (.int ((4 : Int32))), some (.int (was)), some (.int (b)), some (.int (nI v))], [], σ2) rfl ?_ (fun c42 => ?_) (fun c42 => ?_)
      · trivial
      · refine ev_blk 2 [] 24 ([some (.ref 0), some (.ref 49), some (.ref 9), some (.int ((4 : Int32))), some (.int ((0 : Int32))), some (.int ((4 : Int32))), some (.int (was)), some (.int (b)), some (.int ((nI v) + (1 : Int32)))], [], σ2) rfl ?_ ?_
        · trivial
        rw [nI_1]
        refine ih (v + 1) _ σ2 (by omega) (by omega) (fun c hc2 => (hf2 c (fun q => hc2 (List.mem_cons_of_mem _ q))).trans (hc c hc2)) (fun i hi => ?_) ?_
        · rw [hf2 9 (by decide), x_up_eq, upd_ne hi]; exact hrow i hi
        · rw [← hV]; conv => rhs; rw [s_tri]
          rw [if_neg c42]
      · refine ev_blk 8 [] 24 ([some (.ref 0), some (.ref 49), some (.ref 9), some (.int ((4 : Int32))), some (.int ((0 : Int32))), some (.int ((4 : Int32))), some (.int (was)), some (.int (b ||| ((1 : Int32) <<< ((nI v) &&& 31)))), some (.int ((nI v) + (1 : Int32)))], [], σ2) rfl ?_ ?_
        · trivial
        rw [nI_1]
        refine ih (v + 1) _ σ2 (by omega) (by omega) (fun c hc2 => (hf2 c (fun q => hc2 (List.mem_cons_of_mem _ q))).trans (hc c hc2)) (fun i hi => ?_) ?_
        · rw [hf2 9 (by decide), x_up_eq, upd_ne hi]; exact hrow i hi
        · rw [← hV]; conv => rhs; rw [s_tri]
          rw [if_pos (Classical.byContradiction c42)]
set_option maxRecDepth 100000 in
theorem c_tried0_9 (σ : xSg) (n : Nat) (hok : aOk (atC σ) n) (hn : σ 1 0 = nI n) (z : Nat) (hz : σ 49 1 = nI z) (hz8 : z ≤ 8) : xCtr M_X5_tried [.ref 0, .ref 49, .ref 9, .int ((4 : Int32)), .int ((0 : Int32)), .int ((4 : Int32))] σ (fun r σ2 => r = some (.int (s_tri (fun v => s_unl (a_st (atC σ) (nI v)) (tkC σ) (σ 50) z 0 (laneL n (σ 1 1) (σ 7) 0) (laneL n (σ 1 1) (σ 7) 1)) 5 0 0)) ∧ xFr scC σ σ2) := by
  refine ctr_ev ok_X5_tried (by decide +kernel) rfl rfl rfl ?_
  show xEv (.inl 6) M_X5_tried _ 0 ([some (.ref 0), some (.ref 49), some (.ref 9), some (.int ((4 : Int32))), some (.int ((0 : Int32))), some (.int ((4 : Int32))), none, none, none], [], σ)
  have hn10 := hok.1
  refine ev_br 1 [] ((4 : Int32) < 0) 10 4 ([some (.ref 0), some (.ref 49), some (.ref 9), some (.int ((4 : Int32))), some (.int ((0 : Int32))), some (.int ((4 : Int32))), none, none, none], [], σ) rfl ?_ (fun c1 => ?_) (fun c1 => ?_)
  · trivial
  · exact absurd c1 (by decide)
  · refine ev_br 3 [] ((4 : Int32) < (5 : Int32)) 12 10 ([some (.ref 0), some (.ref 49), some (.ref 9), some (.int ((4 : Int32))), some (.int ((0 : Int32))), some (.int ((4 : Int32))), none, none, none], [], σ) rfl ?_ (fun c7 => ?_) (fun c7 => ?_)
    · trivial
    · refine ev_blk 8 [vp_in ((4 : Int32)) 5] 24 ([some (.ref 0), some (.ref 49), some (.ref 9), some (.int ((4 : Int32))), some (.int ((0 : Int32))), some (.int ((4 : Int32))), some (.int ((σ 9) 4)), some (.int ((0 : Int32))), some (.int ((0 : Int32)))], [], σ) rfl ?_ ?_
      · exact vp_in_nI (n := 4) (by decide) (by decide)
      exact c_tried0_9_lp σ n hok hn z hz hz8 _ _ rfl 5 0 0 σ (by omega) (by omega) xFr.rf (fun _ _ => rfl) rfl
    · exact absurd (by decide) c7
set_option maxRecDepth 100000 in
theorem c_tried0_2_lp (σ : xSg) (n : Nat) (hok : aOk (atC σ) n) (hn : σ 1 0 = nI n) (x : Nat) (hx : x < n) (z : Nat) (hz : σ 49 1 = nI z) (hz8 : z ≤ 8) (V was : Int32) (hwas : was = σ 2 x) : ∀ (m v : Nat) (b : Int32) (σ1 : xSg), v + m = 6 → 0 ≤ v → xFr (2 :: scC) σ σ1 → (∀ i, i ≠ x → σ1 2 i = σ 2 i) → s_tri (fun v => s_unl (a_kd (atC σ) x (nI v)) (tkC σ) (σ 50) z 0 (laneL n (σ 1 1) (σ 7) 0) (laneL n (σ 1 1) (σ 7) 1)) m v b = V → xEv (.inl 6) M_X5_tried (fun r σ2 => r = some (.int V) ∧ xFr scC σ σ2) 24 ([some (.ref 0), some (.ref 49), some (.ref 2), some (.int (nI x)), some (.int ((0 : Int32))), some (.int ((5 : Int32))), some (.int (was)), some (.int (b)), some (.int (nI v))], [], σ1) := by
  have hn10 := hok.1
  have hpc : (nI x).toNatClampNeg = x := nI_clamp (by omega)
  intro m
  induction m with
  | zero =>
    intro v b σ1 hv hlv hfr hrow hV
    refine ev_br 2 [] ((5 : Int32) < (nI v)) 60 31 ([some (.ref 0), some (.ref 49), some (.ref 2), some (.int (nI x)), some (.int ((0 : Int32))), some (.int ((5 : Int32))), some (.int (was)), some (.int (b)), some (.int (nI v))], [], σ1) rfl ?_ (fun c28 => ?_) (fun c28 => ?_)
    · trivial
    · refine ev_blk 5 [vp_in (nI x) 10] 67 ([some (.ref 0), some (.ref 49), some (.ref 2), some (.int (nI x)), some (.int ((0 : Int32))), some (.int ((5 : Int32))), some (.int (was)), some (.int (b)), some (.int (nI v))], [.int (b)], (x_up σ1 2 (upd (σ1 2) (nI x).toNatClampNeg (was)))) rfl ?_ ?_
      · exact vp_in_nI (by omega) (by decide)
      rw [hpc]
      refine ev_iret rfl rfl rfl ⟨by rw [← hV]; rfl, fun c hc => ?_⟩
      by_cases hcr : c = 2
      · subst hcr; rw [x_up_eq]; exact upd_bk hrow hwas
      · rw [x_up_ne hcr]; exact hfr c (fun q => by rcases List.mem_cons.mp q with q | q; exact hcr q; exact hc q)
    · exact absurd (show (5 : Int32) < nI v from nI_lt (a := 5) (by omega) (by omega)) c28
  | succ m ih =>
    intro v b σ1 hv hlv hfr hrow hV
    refine ev_br 2 [] ((5 : Int32) < (nI v)) 60 31 ([some (.ref 0), some (.ref 49), some (.ref 2), some (.int (nI x)), some (.int ((0 : Int32))), some (.int ((5 : Int32))), some (.int (was)), some (.int (b)), some (.int (nI v))], [], σ1) rfl ?_ (fun c28 => ?_) (fun c28 => ?_)
    · trivial
    · exact absurd c28 (nI_nlt (a := 5) (by omega) (by omega))
    · refine ev_blk 6 [vp_in (nI x) 10] 38 ([some (.ref 0), some (.ref 49), some (.ref 2), some (.int (nI x)), some (.int ((0 : Int32))), some (.int ((5 : Int32))), some (.int (was)), some (.int (b)), some (.int (nI v))], [.ref 49, .ref 0], (x_up σ1 2 (upd (σ1 2) (nI x).toNatClampNeg (nI v)))) rfl ?_ ?_
      · exact vp_in_nI (by omega) (by decide)
      rw [hpc]
      have hc : ∀ c, c ∉ (2 :: scC) → (x_up σ1 2 (upd (σ1 2) x (nI v))) c = σ c := fun c hc => by rw [x_up_ne (fun q => hc (by rw [q]; exact List.mem_cons_self))]; exact hfr c hc
      have hat : atC (x_up σ1 2 (upd (σ1 2) x (nI v))) = a_kd (atC σ) x (nI v) := by unfold atC; rw [show (x_up σ1 2 (upd (σ1 2) x (nI v))) 2 = upd (σ 2) x (nI v) from (x_up_eq).trans (upd_ig hrow), hc 3 (by decide), hc 4 (by decide), hc 5 (by decide), hc 6 (by decide), hc 7 (by decide), hc 9 (by decide)]; rfl
      have htk : tkC (x_up σ1 2 (upd (σ1 2) x (nI v))) = tkC σ := by unfold tkC; rw [hc 10 (by decide)]
      refine ev_callV M_X5_firstOtherwise [.ref 49] [] 0 rfl rfl ln_X5_237 k_X5_firstOtherwise rfl rfl rfl rfl rfl rfl (c_first0 (x_up σ1 2 (upd (σ1 2) x (nI v))) n (by rw [hat]; exact aOk_kd hok (by omega)) ((congrFun (hc 1 (by decide)) 0).trans hn) z ((congrFun (hc 49 (by decide)) 1).trans hz) hz8) ?_
      rintro r σ2 ⟨rfl, hf2⟩
      rw [hat, htk, hc 50 (by decide), hc 1 (by decide), hc 7 (by decide)]
      show xEv _ _ _ 41 ([some (.ref 0), some (.ref 49), some (.ref 2), some (.int (nI x)), some (.int ((0 : Int32))), some (.int ((5 : Int32))), some (.int (was)), some (.int (b)), some (.int (nI v))], [.int (s_unl (a_kd (atC σ) x (nI v)) (tkC σ) (σ 50) z 0 (laneL n (σ 1 1) (σ 7) 0) (laneL n (σ 1 1) (σ 7) 1))], σ2)
      refine ev_br 1 [] (¬ (s_unl (a_kd (atC σ) x (nI v)) (tkC σ) (σ 50) z 0 (laneL n (σ 1 1) (σ 7) 0) (laneL n (σ 1 1) (σ 7) 1)) = (-1 : Int32)) 54 45 ([some (.ref 0), some (.ref 49), some (.ref 2), some (.int (nI x)), some (.int ((0 : Int32))), some (.int ((5 : Int32))), some (.int (was)), some (.int (b)), some (.int (nI v))], [], σ2) rfl ?_ (fun c42 => ?_) (fun c42 => ?_)
      · trivial
      · refine ev_blk 2 [] 24 ([some (.ref 0), some (.ref 49), some (.ref 2), some (.int (nI x)), some (.int ((0 : Int32))), some (.int ((5 : Int32))), some (.int (was)), some (.int (b)), some (.int ((nI v) + (1 : Int32)))], [], σ2) rfl ?_ ?_
        · trivial
        rw [nI_1]
        refine ih (v + 1) _ σ2 (by omega) (by omega) (fun c hc2 => (hf2 c (fun q => hc2 (List.mem_cons_of_mem _ q))).trans (hc c hc2)) (fun i hi => ?_) ?_
        · rw [hf2 2 (by decide), x_up_eq, upd_ne hi]; exact hrow i hi
        · rw [← hV]; conv => rhs; rw [s_tri]
          rw [if_neg c42]
      · refine ev_blk 8 [] 24 ([some (.ref 0), some (.ref 49), some (.ref 2), some (.int (nI x)), some (.int ((0 : Int32))), some (.int ((5 : Int32))), some (.int (was)), some (.int (b ||| ((1 : Int32) <<< ((nI v) &&& 31)))), some (.int ((nI v) + (1 : Int32)))], [], σ2) rfl ?_ ?_
        · trivial
        rw [nI_1]
        refine ih (v + 1) _ σ2 (by omega) (by omega) (fun c hc2 => (hf2 c (fun q => hc2 (List.mem_cons_of_mem _ q))).trans (hc c hc2)) (fun i hi => ?_) ?_
        · rw [hf2 2 (by decide), x_up_eq, upd_ne hi]; exact hrow i hi
        · rw [← hV]; conv => rhs; rw [s_tri]
          rw [if_pos (Classical.byContradiction c42)]
set_option maxRecDepth 100000 in
theorem c_tried0_2 (σ : xSg) (n : Nat) (hok : aOk (atC σ) n) (hn : σ 1 0 = nI n) (x : Nat) (hx : x < n) (z : Nat) (hz : σ 49 1 = nI z) (hz8 : z ≤ 8) : xCtr M_X5_tried [.ref 0, .ref 49, .ref 2, .int (nI x), .int ((0 : Int32)), .int ((5 : Int32))] σ (fun r σ2 => r = some (.int (s_tri (fun v => s_unl (a_kd (atC σ) x (nI v)) (tkC σ) (σ 50) z 0 (laneL n (σ 1 1) (σ 7) 0) (laneL n (σ 1 1) (σ 7) 1)) 6 0 0)) ∧ xFr scC σ σ2) := by
  refine ctr_ev ok_X5_tried (by decide +kernel) rfl rfl rfl ?_
  show xEv (.inl 6) M_X5_tried _ 0 ([some (.ref 0), some (.ref 49), some (.ref 2), some (.int (nI x)), some (.int ((0 : Int32))), some (.int ((5 : Int32))), none, none, none], [], σ)
  have hn10 := hok.1
  have hpc : (nI x).toNatClampNeg = x := nI_clamp (by omega)
  refine ev_br 1 [] ((nI x) < 0) 10 4 ([some (.ref 0), some (.ref 49), some (.ref 2), some (.int (nI x)), some (.int ((0 : Int32))), some (.int ((5 : Int32))), none, none, none], [], σ) rfl ?_ (fun c1 => ?_) (fun c1 => ?_)
  · trivial
  · exact absurd c1 (nI_pos (by omega))
  · refine ev_br 3 [] ((nI x) < (10 : Int32)) 12 10 ([some (.ref 0), some (.ref 49), some (.ref 2), some (.int (nI x)), some (.int ((0 : Int32))), some (.int ((5 : Int32))), none, none, none], [], σ) rfl ?_ (fun c7 => ?_) (fun c7 => ?_)
    · trivial
    · refine ev_blk 8 [vp_in (nI x) 10] 24 ([some (.ref 0), some (.ref 49), some (.ref 2), some (.int (nI x)), some (.int ((0 : Int32))), some (.int ((5 : Int32))), some (.int ((σ 2) (nI x).toNatClampNeg)), some (.int ((0 : Int32))), some (.int ((0 : Int32)))], [], σ) rfl ?_ ?_
      · exact vp_in_nI (by omega) (by decide)
      rw [hpc]
      exact c_tried0_2_lp σ n hok hn x hx z hz hz8 _ _ rfl 6 0 0 σ (by omega) (by omega) xFr.rf (fun _ _ => rfl) rfl
    · exact absurd (nI_lt (b := 10) (by omega) (by decide)) c7
set_option maxRecDepth 100000 in
theorem c_tried0_3_lp (σ : xSg) (n : Nat) (hok : aOk (atC σ) n) (hn : σ 1 0 = nI n) (x : Nat) (hx : x < n) (z : Nat) (hz : σ 49 1 = nI z) (hz8 : z ≤ 8) (V was : Int32) (hwas : was = σ 3 x) : ∀ (m v : Nat) (b : Int32) (σ1 : xSg), v + m = 10 → 1 ≤ v → xFr (3 :: scC) σ σ1 → (∀ i, i ≠ x → σ1 3 i = σ 3 i) → s_tri (fun v => s_unl (a_ln (atC σ) x (nI v)) (tkC σ) (σ 50) z 0 (laneL n (σ 1 1) (σ 7) 0) (laneL n (σ 1 1) (σ 7) 1)) m v b = V → xEv (.inl 6) M_X5_tried (fun r σ2 => r = some (.int V) ∧ xFr scC σ σ2) 24 ([some (.ref 0), some (.ref 49), some (.ref 3), some (.int (nI x)), some (.int ((1 : Int32))), some (.int ((9 : Int32))), some (.int (was)), some (.int (b)), some (.int (nI v))], [], σ1) := by
  have hn10 := hok.1
  have hpc : (nI x).toNatClampNeg = x := nI_clamp (by omega)
  intro m
  induction m with
  | zero =>
    intro v b σ1 hv hlv hfr hrow hV
    refine ev_br 2 [] ((9 : Int32) < (nI v)) 60 31 ([some (.ref 0), some (.ref 49), some (.ref 3), some (.int (nI x)), some (.int ((1 : Int32))), some (.int ((9 : Int32))), some (.int (was)), some (.int (b)), some (.int (nI v))], [], σ1) rfl ?_ (fun c28 => ?_) (fun c28 => ?_)
    · trivial
    · refine ev_blk 5 [vp_in (nI x) 10] 67 ([some (.ref 0), some (.ref 49), some (.ref 3), some (.int (nI x)), some (.int ((1 : Int32))), some (.int ((9 : Int32))), some (.int (was)), some (.int (b)), some (.int (nI v))], [.int (b)], (x_up σ1 3 (upd (σ1 3) (nI x).toNatClampNeg (was)))) rfl ?_ ?_
      · exact vp_in_nI (by omega) (by decide)
      rw [hpc]
      refine ev_iret rfl rfl rfl ⟨by rw [← hV]; rfl, fun c hc => ?_⟩
      by_cases hcr : c = 3
      · subst hcr; rw [x_up_eq]; exact upd_bk hrow hwas
      · rw [x_up_ne hcr]; exact hfr c (fun q => by rcases List.mem_cons.mp q with q | q; exact hcr q; exact hc q)
    · exact absurd (show (9 : Int32) < nI v from nI_lt (a := 9) (by omega) (by omega)) c28
  | succ m ih =>
    intro v b σ1 hv hlv hfr hrow hV
    refine ev_br 2 [] ((9 : Int32) < (nI v)) 60 31 ([some (.ref 0), some (.ref 49), some (.ref 3), some (.int (nI x)), some (.int ((1 : Int32))), some (.int ((9 : Int32))), some (.int (was)), some (.int (b)), some (.int (nI v))], [], σ1) rfl ?_ (fun c28 => ?_) (fun c28 => ?_)
    · trivial
    · exact absurd c28 (nI_nlt (a := 9) (by omega) (by omega))
    · refine ev_blk 6 [vp_in (nI x) 10] 38 ([some (.ref 0), some (.ref 49), some (.ref 3), some (.int (nI x)), some (.int ((1 : Int32))), some (.int ((9 : Int32))), some (.int (was)), some (.int (b)), some (.int (nI v))], [.ref 49, .ref 0], (x_up σ1 3 (upd (σ1 3) (nI x).toNatClampNeg (nI v)))) rfl ?_ ?_
      · exact vp_in_nI (by omega) (by decide)
      rw [hpc]
      have hc : ∀ c, c ∉ (3 :: scC) → (x_up σ1 3 (upd (σ1 3) x (nI v))) c = σ c := fun c hc => by rw [x_up_ne (fun q => hc (by rw [q]; exact List.mem_cons_self))]; exact hfr c hc
      have hat : atC (x_up σ1 3 (upd (σ1 3) x (nI v))) = a_ln (atC σ) x (nI v) := by unfold atC; rw [hc 2 (by decide), show (x_up σ1 3 (upd (σ1 3) x (nI v))) 3 = upd (σ 3) x (nI v) from (x_up_eq).trans (upd_ig hrow), hc 4 (by decide), hc 5 (by decide), hc 6 (by decide), hc 7 (by decide), hc 9 (by decide)]; rfl
      have htk : tkC (x_up σ1 3 (upd (σ1 3) x (nI v))) = tkC σ := by unfold tkC; rw [hc 10 (by decide)]
      refine ev_callV M_X5_firstOtherwise [.ref 49] [] 0 rfl rfl ln_X5_237 k_X5_firstOtherwise rfl rfl rfl rfl rfl rfl (c_first0 (x_up σ1 3 (upd (σ1 3) x (nI v))) n (by rw [hat]; exact aOk_ln hok (by omega) (by omega)) ((congrFun (hc 1 (by decide)) 0).trans hn) z ((congrFun (hc 49 (by decide)) 1).trans hz) hz8) ?_
      rintro r σ2 ⟨rfl, hf2⟩
      rw [hat, htk, hc 50 (by decide), hc 1 (by decide), hc 7 (by decide)]
      show xEv _ _ _ 41 ([some (.ref 0), some (.ref 49), some (.ref 3), some (.int (nI x)), some (.int ((1 : Int32))), some (.int ((9 : Int32))), some (.int (was)), some (.int (b)), some (.int (nI v))], [.int (s_unl (a_ln (atC σ) x (nI v)) (tkC σ) (σ 50) z 0 (laneL n (σ 1 1) (σ 7) 0) (laneL n (σ 1 1) (σ 7) 1))], σ2)
      refine ev_br 1 [] (¬ (s_unl (a_ln (atC σ) x (nI v)) (tkC σ) (σ 50) z 0 (laneL n (σ 1 1) (σ 7) 0) (laneL n (σ 1 1) (σ 7) 1)) = (-1 : Int32)) 54 45 ([some (.ref 0), some (.ref 49), some (.ref 3), some (.int (nI x)), some (.int ((1 : Int32))), some (.int ((9 : Int32))), some (.int (was)), some (.int (b)), some (.int (nI v))], [], σ2) rfl ?_ (fun c42 => ?_) (fun c42 => ?_)
      · trivial
      · refine ev_blk 2 [] 24 ([some (.ref 0), some (.ref 49), some (.ref 3), some (.int (nI x)), some (.int ((1 : Int32))), some (.int ((9 : Int32))), some (.int (was)), some (.int (b)), some (.int ((nI v) + (1 : Int32)))], [], σ2) rfl ?_ ?_
        · trivial
        rw [nI_1]
        refine ih (v + 1) _ σ2 (by omega) (by omega) (fun c hc2 => (hf2 c (fun q => hc2 (List.mem_cons_of_mem _ q))).trans (hc c hc2)) (fun i hi => ?_) ?_
        · rw [hf2 3 (by decide), x_up_eq, upd_ne hi]; exact hrow i hi
        · rw [← hV]; conv => rhs; rw [s_tri]
          rw [if_neg c42]
      · refine ev_blk 8 [] 24 ([some (.ref 0), some (.ref 49), some (.ref 3), some (.int (nI x)), some (.int ((1 : Int32))), some (.int ((9 : Int32))), some (.int (was)), some (.int (b ||| ((1 : Int32) <<< ((nI v) &&& 31)))), some (.int ((nI v) + (1 : Int32)))], [], σ2) rfl ?_ ?_
        · trivial
        rw [nI_1]
        refine ih (v + 1) _ σ2 (by omega) (by omega) (fun c hc2 => (hf2 c (fun q => hc2 (List.mem_cons_of_mem _ q))).trans (hc c hc2)) (fun i hi => ?_) ?_
        · rw [hf2 3 (by decide), x_up_eq, upd_ne hi]; exact hrow i hi
        · rw [← hV]; conv => rhs; rw [s_tri]
          rw [if_pos (Classical.byContradiction c42)]
set_option maxRecDepth 100000 in
theorem c_tried0_3 (σ : xSg) (n : Nat) (hok : aOk (atC σ) n) (hn : σ 1 0 = nI n) (x : Nat) (hx : x < n) (z : Nat) (hz : σ 49 1 = nI z) (hz8 : z ≤ 8) : xCtr M_X5_tried [.ref 0, .ref 49, .ref 3, .int (nI x), .int ((1 : Int32)), .int ((9 : Int32))] σ (fun r σ2 => r = some (.int (s_tri (fun v => s_unl (a_ln (atC σ) x (nI v)) (tkC σ) (σ 50) z 0 (laneL n (σ 1 1) (σ 7) 0) (laneL n (σ 1 1) (σ 7) 1)) 9 1 0)) ∧ xFr scC σ σ2) := by
  refine ctr_ev ok_X5_tried (by decide +kernel) rfl rfl rfl ?_
  show xEv (.inl 6) M_X5_tried _ 0 ([some (.ref 0), some (.ref 49), some (.ref 3), some (.int (nI x)), some (.int ((1 : Int32))), some (.int ((9 : Int32))), none, none, none], [], σ)
  have hn10 := hok.1
  have hpc : (nI x).toNatClampNeg = x := nI_clamp (by omega)
  refine ev_br 1 [] ((nI x) < 0) 10 4 ([some (.ref 0), some (.ref 49), some (.ref 3), some (.int (nI x)), some (.int ((1 : Int32))), some (.int ((9 : Int32))), none, none, none], [], σ) rfl ?_ (fun c1 => ?_) (fun c1 => ?_)
  · trivial
  · exact absurd c1 (nI_pos (by omega))
  · refine ev_br 3 [] ((nI x) < (10 : Int32)) 12 10 ([some (.ref 0), some (.ref 49), some (.ref 3), some (.int (nI x)), some (.int ((1 : Int32))), some (.int ((9 : Int32))), none, none, none], [], σ) rfl ?_ (fun c7 => ?_) (fun c7 => ?_)
    · trivial
    · refine ev_blk 8 [vp_in (nI x) 10] 24 ([some (.ref 0), some (.ref 49), some (.ref 3), some (.int (nI x)), some (.int ((1 : Int32))), some (.int ((9 : Int32))), some (.int ((σ 3) (nI x).toNatClampNeg)), some (.int ((0 : Int32))), some (.int ((1 : Int32)))], [], σ) rfl ?_ ?_
      · exact vp_in_nI (by omega) (by decide)
      rw [hpc]
      exact c_tried0_3_lp σ n hok hn x hx z hz hz8 _ _ rfl 9 1 0 σ (by omega) (by omega) xFr.rf (fun _ _ => rfl) rfl
    · exact absurd (nI_lt (b := 10) (by omega) (by decide)) c7
set_option maxRecDepth 100000 in
theorem c_tried1_9_lp (σ : xSg) (n : Nat) (hok : aOk (atC σ) n) (hn : σ 1 0 = nI n) (z : Nat) (hz : σ 51 1 = nI z) (hz8 : z ≤ 8) (V was : Int32) (hwas : was = σ 9 4) : ∀ (m v : Nat) (b : Int32) (σ1 : xSg), v + m = 5 → 0 ≤ v → xFr (9 :: scC) σ σ1 → (∀ i, i ≠ 4 → σ1 9 i = σ 9 i) → s_tri (fun v => s_unl (a_st (atC σ) (nI v)) (tkC σ) (σ 52) z 0 (laneL n (σ 1 1) (σ 7) 0) (laneL n (σ 1 1) (σ 7) 1)) m v b = V → xEv (.inl 6) M_X5_tried (fun r σ2 => r = some (.int V) ∧ xFr scC σ σ2) 24 ([some (.ref 0), some (.ref 51), some (.ref 9), some (.int ((4 : Int32))), some (.int ((0 : Int32))), some (.int ((4 : Int32))), some (.int (was)), some (.int (b)), some (.int (nI v))], [], σ1) := by
  have hn10 := hok.1
  intro m
  induction m with
  | zero =>
    intro v b σ1 hv hlv hfr hrow hV
    refine ev_br 2 [] ((4 : Int32) < (nI v)) 60 31 ([some (.ref 0), some (.ref 51), some (.ref 9), some (.int ((4 : Int32))), some (.int ((0 : Int32))), some (.int ((4 : Int32))), some (.int (was)), some (.int (b)), some (.int (nI v))], [], σ1) rfl ?_ (fun c28 => ?_) (fun c28 => ?_)
    · trivial
    · refine ev_blk 5 [vp_in ((4 : Int32)) 5] 67 ([some (.ref 0), some (.ref 51), some (.ref 9), some (.int ((4 : Int32))), some (.int ((0 : Int32))), some (.int ((4 : Int32))), some (.int (was)), some (.int (b)), some (.int (nI v))], [.int (b)], (x_up σ1 9 (upd (σ1 9) 4 (was)))) rfl ?_ ?_
      · exact vp_in_nI (n := 4) (by decide) (by decide)
      refine ev_iret rfl rfl rfl ⟨by rw [← hV]; rfl, fun c hc => ?_⟩
      by_cases hcr : c = 9
      · subst hcr; rw [x_up_eq]; exact upd_bk hrow hwas
      · rw [x_up_ne hcr]; exact hfr c (fun q => by rcases List.mem_cons.mp q with q | q; exact hcr q; exact hc q)
    · exact absurd (show (4 : Int32) < nI v from nI_lt (a := 4) (by omega) (by omega)) c28
  | succ m ih =>
    intro v b σ1 hv hlv hfr hrow hV
    refine ev_br 2 [] ((4 : Int32) < (nI v)) 60 31 ([some (.ref 0), some (.ref 51), some (.ref 9), some (.int ((4 : Int32))), some (.int ((0 : Int32))), some (.int ((4 : Int32))), some (.int (was)), some (.int (b)), some (.int (nI v))], [], σ1) rfl ?_ (fun c28 => ?_) (fun c28 => ?_)
    · trivial
    · exact absurd c28 (nI_nlt (a := 4) (by omega) (by omega))
    · refine ev_blk 6 [vp_in ((4 : Int32)) 5] 38 ([some (.ref 0), some (.ref 51), some (.ref 9), some (.int ((4 : Int32))), some (.int ((0 : Int32))), some (.int ((4 : Int32))), some (.int (was)), some (.int (b)), some (.int (nI v))], [.ref 51, .ref 0], (x_up σ1 9 (upd (σ1 9) 4 (nI v)))) rfl ?_ ?_
      · exact vp_in_nI (n := 4) (by decide) (by decide)
      have hc : ∀ c, c ∉ (9 :: scC) → (x_up σ1 9 (upd (σ1 9) 4 (nI v))) c = σ c := fun c hc => by rw [x_up_ne (fun q => hc (by rw [q]; exact List.mem_cons_self))]; exact hfr c hc
      have hat : atC (x_up σ1 9 (upd (σ1 9) 4 (nI v))) = a_st (atC σ) (nI v) := by unfold atC; rw [hc 2 (by decide), hc 3 (by decide), hc 4 (by decide), hc 5 (by decide), hc 6 (by decide), hc 7 (by decide), show (x_up σ1 9 (upd (σ1 9) 4 (nI v))) 9 = upd (σ 9) 4 (nI v) from (x_up_eq).trans (upd_ig hrow)]; rfl
      have htk : tkC (x_up σ1 9 (upd (σ1 9) 4 (nI v))) = tkC σ := by unfold tkC; rw [hc 10 (by decide)]
      refine ev_callV M_X5_firstOtherwise [.ref 51] [] 0 rfl rfl ln_X5_237 k_X5_firstOtherwise rfl rfl rfl rfl rfl rfl (c_first1 (x_up σ1 9 (upd (σ1 9) 4 (nI v))) n (by rw [hat]; exact aOk_st hok (by omega)) ((congrFun (hc 1 (by decide)) 0).trans hn) z ((congrFun (hc 51 (by decide)) 1).trans hz) hz8) ?_
      rintro r σ2 ⟨rfl, hf2⟩
      rw [hat, htk, hc 52 (by decide), hc 1 (by decide), hc 7 (by decide)]
      show xEv _ _ _ 41 ([some (.ref 0), some (.ref 51), some (.ref 9), some (.int ((4 : Int32))), some (.int ((0 : Int32))), some (.int ((4 : Int32))), some (.int (was)), some (.int (b)), some (.int (nI v))], [.int (s_unl (a_st (atC σ) (nI v)) (tkC σ) (σ 52) z 0 (laneL n (σ 1 1) (σ 7) 0) (laneL n (σ 1 1) (σ 7) 1))], σ2)
      refine ev_br 1 [] (¬ (s_unl (a_st (atC σ) (nI v)) (tkC σ) (σ 52) z 0 (laneL n (σ 1 1) (σ 7) 0) (laneL n (σ 1 1) (σ 7) 1)) = (-1 : Int32)) 54 45 ([some (.ref 0), some (.ref 51), some (.ref 9), some (.int ((4 : Int32))), some (.int ((0 : Int32))), some (.int ((4 : Int32))), some (.int (was)), some (.int (b)), some (.int (nI v))], [], σ2) rfl ?_ (fun c42 => ?_) (fun c42 => ?_)
      · trivial
      · refine ev_blk 2 [] 24 ([some (.ref 0), some (.ref 51), some (.ref 9), some (.int ((4 : Int32))), some (.int ((0 : Int32))), some (.int ((4 : Int32))), some (.int (was)), some (.int (b)), some (.int ((nI v) + (1 : Int32)))], [], σ2) rfl ?_ ?_
        · trivial
        rw [nI_1]
        refine ih (v + 1) _ σ2 (by omega) (by omega) (fun c hc2 => (hf2 c (fun q => hc2 (List.mem_cons_of_mem _ q))).trans (hc c hc2)) (fun i hi => ?_) ?_
        · rw [hf2 9 (by decide), x_up_eq, upd_ne hi]; exact hrow i hi
        · rw [← hV]; conv => rhs; rw [s_tri]
          rw [if_neg c42]
      · refine ev_blk 8 [] 24 ([some (.ref 0), some (.ref 51), some (.ref 9), some (.int ((4 : Int32))), some (.int ((0 : Int32))), some (.int ((4 : Int32))), some (.int (was)), some (.int (b ||| ((1 : Int32) <<< ((nI v) &&& 31)))), some (.int ((nI v) + (1 : Int32)))], [], σ2) rfl ?_ ?_
        · trivial
        rw [nI_1]
        refine ih (v + 1) _ σ2 (by omega) (by omega) (fun c hc2 => (hf2 c (fun q => hc2 (List.mem_cons_of_mem _ q))).trans (hc c hc2)) (fun i hi => ?_) ?_
        · rw [hf2 9 (by decide), x_up_eq, upd_ne hi]; exact hrow i hi
        · rw [← hV]; conv => rhs; rw [s_tri]
          rw [if_pos (Classical.byContradiction c42)]
set_option maxRecDepth 100000 in
theorem c_tried1_9 (σ : xSg) (n : Nat) (hok : aOk (atC σ) n) (hn : σ 1 0 = nI n) (z : Nat) (hz : σ 51 1 = nI z) (hz8 : z ≤ 8) : xCtr M_X5_tried [.ref 0, .ref 51, .ref 9, .int ((4 : Int32)), .int ((0 : Int32)), .int ((4 : Int32))] σ (fun r σ2 => r = some (.int (s_tri (fun v => s_unl (a_st (atC σ) (nI v)) (tkC σ) (σ 52) z 0 (laneL n (σ 1 1) (σ 7) 0) (laneL n (σ 1 1) (σ 7) 1)) 5 0 0)) ∧ xFr scC σ σ2) := by
  refine ctr_ev ok_X5_tried (by decide +kernel) rfl rfl rfl ?_
  show xEv (.inl 6) M_X5_tried _ 0 ([some (.ref 0), some (.ref 51), some (.ref 9), some (.int ((4 : Int32))), some (.int ((0 : Int32))), some (.int ((4 : Int32))), none, none, none], [], σ)
  have hn10 := hok.1
  refine ev_br 1 [] ((4 : Int32) < 0) 10 4 ([some (.ref 0), some (.ref 51), some (.ref 9), some (.int ((4 : Int32))), some (.int ((0 : Int32))), some (.int ((4 : Int32))), none, none, none], [], σ) rfl ?_ (fun c1 => ?_) (fun c1 => ?_)
  · trivial
  · exact absurd c1 (by decide)
  · refine ev_br 3 [] ((4 : Int32) < (5 : Int32)) 12 10 ([some (.ref 0), some (.ref 51), some (.ref 9), some (.int ((4 : Int32))), some (.int ((0 : Int32))), some (.int ((4 : Int32))), none, none, none], [], σ) rfl ?_ (fun c7 => ?_) (fun c7 => ?_)
    · trivial
    · refine ev_blk 8 [vp_in ((4 : Int32)) 5] 24 ([some (.ref 0), some (.ref 51), some (.ref 9), some (.int ((4 : Int32))), some (.int ((0 : Int32))), some (.int ((4 : Int32))), some (.int ((σ 9) 4)), some (.int ((0 : Int32))), some (.int ((0 : Int32)))], [], σ) rfl ?_ ?_
      · exact vp_in_nI (n := 4) (by decide) (by decide)
      exact c_tried1_9_lp σ n hok hn z hz hz8 _ _ rfl 5 0 0 σ (by omega) (by omega) xFr.rf (fun _ _ => rfl) rfl
    · exact absurd (by decide) c7
set_option maxRecDepth 100000 in
theorem c_tried1_2_lp (σ : xSg) (n : Nat) (hok : aOk (atC σ) n) (hn : σ 1 0 = nI n) (x : Nat) (hx : x < n) (z : Nat) (hz : σ 51 1 = nI z) (hz8 : z ≤ 8) (V was : Int32) (hwas : was = σ 2 x) : ∀ (m v : Nat) (b : Int32) (σ1 : xSg), v + m = 6 → 0 ≤ v → xFr (2 :: scC) σ σ1 → (∀ i, i ≠ x → σ1 2 i = σ 2 i) → s_tri (fun v => s_unl (a_kd (atC σ) x (nI v)) (tkC σ) (σ 52) z 0 (laneL n (σ 1 1) (σ 7) 0) (laneL n (σ 1 1) (σ 7) 1)) m v b = V → xEv (.inl 6) M_X5_tried (fun r σ2 => r = some (.int V) ∧ xFr scC σ σ2) 24 ([some (.ref 0), some (.ref 51), some (.ref 2), some (.int (nI x)), some (.int ((0 : Int32))), some (.int ((5 : Int32))), some (.int (was)), some (.int (b)), some (.int (nI v))], [], σ1) := by
  have hn10 := hok.1
  have hpc : (nI x).toNatClampNeg = x := nI_clamp (by omega)
  intro m
  induction m with
  | zero =>
    intro v b σ1 hv hlv hfr hrow hV
    refine ev_br 2 [] ((5 : Int32) < (nI v)) 60 31 ([some (.ref 0), some (.ref 51), some (.ref 2), some (.int (nI x)), some (.int ((0 : Int32))), some (.int ((5 : Int32))), some (.int (was)), some (.int (b)), some (.int (nI v))], [], σ1) rfl ?_ (fun c28 => ?_) (fun c28 => ?_)
    · trivial
    · refine ev_blk 5 [vp_in (nI x) 10] 67 ([some (.ref 0), some (.ref 51), some (.ref 2), some (.int (nI x)), some (.int ((0 : Int32))), some (.int ((5 : Int32))), some (.int (was)), some (.int (b)), some (.int (nI v))], [.int (b)], (x_up σ1 2 (upd (σ1 2) (nI x).toNatClampNeg (was)))) rfl ?_ ?_
      · exact vp_in_nI (by omega) (by decide)
      rw [hpc]
      refine ev_iret rfl rfl rfl ⟨by rw [← hV]; rfl, fun c hc => ?_⟩
      by_cases hcr : c = 2
      · subst hcr; rw [x_up_eq]; exact upd_bk hrow hwas
      · rw [x_up_ne hcr]; exact hfr c (fun q => by rcases List.mem_cons.mp q with q | q; exact hcr q; exact hc q)
    · exact absurd (show (5 : Int32) < nI v from nI_lt (a := 5) (by omega) (by omega)) c28
  | succ m ih =>
    intro v b σ1 hv hlv hfr hrow hV
    refine ev_br 2 [] ((5 : Int32) < (nI v)) 60 31 ([some (.ref 0), some (.ref 51), some (.ref 2), some (.int (nI x)), some (.int ((0 : Int32))), some (.int ((5 : Int32))), some (.int (was)), some (.int (b)), some (.int (nI v))], [], σ1) rfl ?_ (fun c28 => ?_) (fun c28 => ?_)
    · trivial
    · exact absurd c28 (nI_nlt (a := 5) (by omega) (by omega))
    · refine ev_blk 6 [vp_in (nI x) 10] 38 ([some (.ref 0), some (.ref 51), some (.ref 2), some (.int (nI x)), some (.int ((0 : Int32))), some (.int ((5 : Int32))), some (.int (was)), some (.int (b)), some (.int (nI v))], [.ref 51, .ref 0], (x_up σ1 2 (upd (σ1 2) (nI x).toNatClampNeg (nI v)))) rfl ?_ ?_
      · exact vp_in_nI (by omega) (by decide)
      rw [hpc]
      have hc : ∀ c, c ∉ (2 :: scC) → (x_up σ1 2 (upd (σ1 2) x (nI v))) c = σ c := fun c hc => by rw [x_up_ne (fun q => hc (by rw [q]; exact List.mem_cons_self))]; exact hfr c hc
      have hat : atC (x_up σ1 2 (upd (σ1 2) x (nI v))) = a_kd (atC σ) x (nI v) := by unfold atC; rw [show (x_up σ1 2 (upd (σ1 2) x (nI v))) 2 = upd (σ 2) x (nI v) from (x_up_eq).trans (upd_ig hrow), hc 3 (by decide), hc 4 (by decide), hc 5 (by decide), hc 6 (by decide), hc 7 (by decide), hc 9 (by decide)]; rfl
      have htk : tkC (x_up σ1 2 (upd (σ1 2) x (nI v))) = tkC σ := by unfold tkC; rw [hc 10 (by decide)]
      refine ev_callV M_X5_firstOtherwise [.ref 51] [] 0 rfl rfl ln_X5_237 k_X5_firstOtherwise rfl rfl rfl rfl rfl rfl (c_first1 (x_up σ1 2 (upd (σ1 2) x (nI v))) n (by rw [hat]; exact aOk_kd hok (by omega)) ((congrFun (hc 1 (by decide)) 0).trans hn) z ((congrFun (hc 51 (by decide)) 1).trans hz) hz8) ?_
      rintro r σ2 ⟨rfl, hf2⟩
      rw [hat, htk, hc 52 (by decide), hc 1 (by decide), hc 7 (by decide)]
      show xEv _ _ _ 41 ([some (.ref 0), some (.ref 51), some (.ref 2), some (.int (nI x)), some (.int ((0 : Int32))), some (.int ((5 : Int32))), some (.int (was)), some (.int (b)), some (.int (nI v))], [.int (s_unl (a_kd (atC σ) x (nI v)) (tkC σ) (σ 52) z 0 (laneL n (σ 1 1) (σ 7) 0) (laneL n (σ 1 1) (σ 7) 1))], σ2)
      refine ev_br 1 [] (¬ (s_unl (a_kd (atC σ) x (nI v)) (tkC σ) (σ 52) z 0 (laneL n (σ 1 1) (σ 7) 0) (laneL n (σ 1 1) (σ 7) 1)) = (-1 : Int32)) 54 45 ([some (.ref 0), some (.ref 51), some (.ref 2), some (.int (nI x)), some (.int ((0 : Int32))), some (.int ((5 : Int32))), some (.int (was)), some (.int (b)), some (.int (nI v))], [], σ2) rfl ?_ (fun c42 => ?_) (fun c42 => ?_)
      · trivial
      · refine ev_blk 2 [] 24 ([some (.ref 0), some (.ref 51), some (.ref 2), some (.int (nI x)), some (.int ((0 : Int32))), some (.int ((5 : Int32))), some (.int (was)), some (.int (b)), some (.int ((nI v) + (1 : Int32)))], [], σ2) rfl ?_ ?_
        · trivial
        rw [nI_1]
        refine ih (v + 1) _ σ2 (by omega) (by omega) (fun c hc2 => (hf2 c (fun q => hc2 (List.mem_cons_of_mem _ q))).trans (hc c hc2)) (fun i hi => ?_) ?_
        · rw [hf2 2 (by decide), x_up_eq, upd_ne hi]; exact hrow i hi
        · rw [← hV]; conv => rhs; rw [s_tri]
          rw [if_neg c42]
      · refine ev_blk 8 [] 24 ([some (.ref 0), some (.ref 51), some (.ref 2), some (.int (nI x)), some (.int ((0 : Int32))), some (.int ((5 : Int32))), some (.int (was)), some (.int (b ||| ((1 : Int32) <<< ((nI v) &&& 31)))), some (.int ((nI v) + (1 : Int32)))], [], σ2) rfl ?_ ?_
        · trivial
        rw [nI_1]
        refine ih (v + 1) _ σ2 (by omega) (by omega) (fun c hc2 => (hf2 c (fun q => hc2 (List.mem_cons_of_mem _ q))).trans (hc c hc2)) (fun i hi => ?_) ?_
        · rw [hf2 2 (by decide), x_up_eq, upd_ne hi]; exact hrow i hi
        · rw [← hV]; conv => rhs; rw [s_tri]
          rw [if_pos (Classical.byContradiction c42)]
set_option maxRecDepth 100000 in
theorem c_tried1_2 (σ : xSg) (n : Nat) (hok : aOk (atC σ) n) (hn : σ 1 0 = nI n) (x : Nat) (hx : x < n) (z : Nat) (hz : σ 51 1 = nI z) (hz8 : z ≤ 8) : xCtr M_X5_tried [.ref 0, .ref 51, .ref 2, .int (nI x), .int ((0 : Int32)), .int ((5 : Int32))] σ (fun r σ2 => r = some (.int (s_tri (fun v => s_unl (a_kd (atC σ) x (nI v)) (tkC σ) (σ 52) z 0 (laneL n (σ 1 1) (σ 7) 0) (laneL n (σ 1 1) (σ 7) 1)) 6 0 0)) ∧ xFr scC σ σ2) := by
  refine ctr_ev ok_X5_tried (by decide +kernel) rfl rfl rfl ?_
  show xEv (.inl 6) M_X5_tried _ 0 ([some (.ref 0), some (.ref 51), some (.ref 2), some (.int (nI x)), some (.int ((0 : Int32))), some (.int ((5 : Int32))), none, none, none], [], σ)
  have hn10 := hok.1
  have hpc : (nI x).toNatClampNeg = x := nI_clamp (by omega)
  refine ev_br 1 [] ((nI x) < 0) 10 4 ([some (.ref 0), some (.ref 51), some (.ref 2), some (.int (nI x)), some (.int ((0 : Int32))), some (.int ((5 : Int32))), none, none, none], [], σ) rfl ?_ (fun c1 => ?_) (fun c1 => ?_)
  · trivial
  · exact absurd c1 (nI_pos (by omega))
  · refine ev_br 3 [] ((nI x) < (10 : Int32)) 12 10 ([some (.ref 0), some (.ref 51), some (.ref 2), some (.int (nI x)), some (.int ((0 : Int32))), some (.int ((5 : Int32))), none, none, none], [], σ) rfl ?_ (fun c7 => ?_) (fun c7 => ?_)
    · trivial
    · refine ev_blk 8 [vp_in (nI x) 10] 24 ([some (.ref 0), some (.ref 51), some (.ref 2), some (.int (nI x)), some (.int ((0 : Int32))), some (.int ((5 : Int32))), some (.int ((σ 2) (nI x).toNatClampNeg)), some (.int ((0 : Int32))), some (.int ((0 : Int32)))], [], σ) rfl ?_ ?_
      · exact vp_in_nI (by omega) (by decide)
      rw [hpc]
      exact c_tried1_2_lp σ n hok hn x hx z hz hz8 _ _ rfl 6 0 0 σ (by omega) (by omega) xFr.rf (fun _ _ => rfl) rfl
    · exact absurd (nI_lt (b := 10) (by omega) (by decide)) c7
set_option maxRecDepth 100000 in
theorem c_tried1_3_lp (σ : xSg) (n : Nat) (hok : aOk (atC σ) n) (hn : σ 1 0 = nI n) (x : Nat) (hx : x < n) (z : Nat) (hz : σ 51 1 = nI z) (hz8 : z ≤ 8) (V was : Int32) (hwas : was = σ 3 x) : ∀ (m v : Nat) (b : Int32) (σ1 : xSg), v + m = 10 → 1 ≤ v → xFr (3 :: scC) σ σ1 → (∀ i, i ≠ x → σ1 3 i = σ 3 i) → s_tri (fun v => s_unl (a_ln (atC σ) x (nI v)) (tkC σ) (σ 52) z 0 (laneL n (σ 1 1) (σ 7) 0) (laneL n (σ 1 1) (σ 7) 1)) m v b = V → xEv (.inl 6) M_X5_tried (fun r σ2 => r = some (.int V) ∧ xFr scC σ σ2) 24 ([some (.ref 0), some (.ref 51), some (.ref 3), some (.int (nI x)), some (.int ((1 : Int32))), some (.int ((9 : Int32))), some (.int (was)), some (.int (b)), some (.int (nI v))], [], σ1) := by
  have hn10 := hok.1
  have hpc : (nI x).toNatClampNeg = x := nI_clamp (by omega)
  intro m
  induction m with
  | zero =>
    intro v b σ1 hv hlv hfr hrow hV
    refine ev_br 2 [] ((9 : Int32) < (nI v)) 60 31 ([some (.ref 0), some (.ref 51), some (.ref 3), some (.int (nI x)), some (.int ((1 : Int32))), some (.int ((9 : Int32))), some (.int (was)), some (.int (b)), some (.int (nI v))], [], σ1) rfl ?_ (fun c28 => ?_) (fun c28 => ?_)
    · trivial
    · refine ev_blk 5 [vp_in (nI x) 10] 67 ([some (.ref 0), some (.ref 51), some (.ref 3), some (.int (nI x)), some (.int ((1 : Int32))), some (.int ((9 : Int32))), some (.int (was)), some (.int (b)), some (.int (nI v))], [.int (b)], (x_up σ1 3 (upd (σ1 3) (nI x).toNatClampNeg (was)))) rfl ?_ ?_
      · exact vp_in_nI (by omega) (by decide)
      rw [hpc]
      refine ev_iret rfl rfl rfl ⟨by rw [← hV]; rfl, fun c hc => ?_⟩
      by_cases hcr : c = 3
      · subst hcr; rw [x_up_eq]; exact upd_bk hrow hwas
      · rw [x_up_ne hcr]; exact hfr c (fun q => by rcases List.mem_cons.mp q with q | q; exact hcr q; exact hc q)
    · exact absurd (show (9 : Int32) < nI v from nI_lt (a := 9) (by omega) (by omega)) c28
  | succ m ih =>
    intro v b σ1 hv hlv hfr hrow hV
    refine ev_br 2 [] ((9 : Int32) < (nI v)) 60 31 ([some (.ref 0), some (.ref 51), some (.ref 3), some (.int (nI x)), some (.int ((1 : Int32))), some (.int ((9 : Int32))), some (.int (was)), some (.int (b)), some (.int (nI v))], [], σ1) rfl ?_ (fun c28 => ?_) (fun c28 => ?_)
    · trivial
    · exact absurd c28 (nI_nlt (a := 9) (by omega) (by omega))
    · refine ev_blk 6 [vp_in (nI x) 10] 38 ([some (.ref 0), some (.ref 51), some (.ref 3), some (.int (nI x)), some (.int ((1 : Int32))), some (.int ((9 : Int32))), some (.int (was)), some (.int (b)), some (.int (nI v))], [.ref 51, .ref 0], (x_up σ1 3 (upd (σ1 3) (nI x).toNatClampNeg (nI v)))) rfl ?_ ?_
      · exact vp_in_nI (by omega) (by decide)
      rw [hpc]
      have hc : ∀ c, c ∉ (3 :: scC) → (x_up σ1 3 (upd (σ1 3) x (nI v))) c = σ c := fun c hc => by rw [x_up_ne (fun q => hc (by rw [q]; exact List.mem_cons_self))]; exact hfr c hc
      have hat : atC (x_up σ1 3 (upd (σ1 3) x (nI v))) = a_ln (atC σ) x (nI v) := by unfold atC; rw [hc 2 (by decide), show (x_up σ1 3 (upd (σ1 3) x (nI v))) 3 = upd (σ 3) x (nI v) from (x_up_eq).trans (upd_ig hrow), hc 4 (by decide), hc 5 (by decide), hc 6 (by decide), hc 7 (by decide), hc 9 (by decide)]; rfl
      have htk : tkC (x_up σ1 3 (upd (σ1 3) x (nI v))) = tkC σ := by unfold tkC; rw [hc 10 (by decide)]
      refine ev_callV M_X5_firstOtherwise [.ref 51] [] 0 rfl rfl ln_X5_237 k_X5_firstOtherwise rfl rfl rfl rfl rfl rfl (c_first1 (x_up σ1 3 (upd (σ1 3) x (nI v))) n (by rw [hat]; exact aOk_ln hok (by omega) (by omega)) ((congrFun (hc 1 (by decide)) 0).trans hn) z ((congrFun (hc 51 (by decide)) 1).trans hz) hz8) ?_
      rintro r σ2 ⟨rfl, hf2⟩
      rw [hat, htk, hc 52 (by decide), hc 1 (by decide), hc 7 (by decide)]
      show xEv _ _ _ 41 ([some (.ref 0), some (.ref 51), some (.ref 3), some (.int (nI x)), some (.int ((1 : Int32))), some (.int ((9 : Int32))), some (.int (was)), some (.int (b)), some (.int (nI v))], [.int (s_unl (a_ln (atC σ) x (nI v)) (tkC σ) (σ 52) z 0 (laneL n (σ 1 1) (σ 7) 0) (laneL n (σ 1 1) (σ 7) 1))], σ2)
      refine ev_br 1 [] (¬ (s_unl (a_ln (atC σ) x (nI v)) (tkC σ) (σ 52) z 0 (laneL n (σ 1 1) (σ 7) 0) (laneL n (σ 1 1) (σ 7) 1)) = (-1 : Int32)) 54 45 ([some (.ref 0), some (.ref 51), some (.ref 3), some (.int (nI x)), some (.int ((1 : Int32))), some (.int ((9 : Int32))), some (.int (was)), some (.int (b)), some (.int (nI v))], [], σ2) rfl ?_ (fun c42 => ?_) (fun c42 => ?_)
      · trivial
      · refine ev_blk 2 [] 24 ([some (.ref 0), some (.ref 51), some (.ref 3), some (.int (nI x)), some (.int ((1 : Int32))), some (.int ((9 : Int32))), some (.int (was)), some (.int (b)), some (.int ((nI v) + (1 : Int32)))], [], σ2) rfl ?_ ?_
        · trivial
        rw [nI_1]
        refine ih (v + 1) _ σ2 (by omega) (by omega) (fun c hc2 => (hf2 c (fun q => hc2 (List.mem_cons_of_mem _ q))).trans (hc c hc2)) (fun i hi => ?_) ?_
        · rw [hf2 3 (by decide), x_up_eq, upd_ne hi]; exact hrow i hi
        · rw [← hV]; conv => rhs; rw [s_tri]
          rw [if_neg c42]
      · refine ev_blk 8 [] 24 ([some (.ref 0), some (.ref 51), some (.ref 3), some (.int (nI x)), some (.int ((1 : Int32))), some (.int ((9 : Int32))), some (.int (was)), some (.int (b ||| ((1 : Int32) <<< ((nI v) &&& 31)))), some (.int ((nI v) + (1 : Int32)))], [], σ2) rfl ?_ ?_
        · trivial
        rw [nI_1]
        refine ih (v + 1) _ σ2 (by omega) (by omega) (fun c hc2 => (hf2 c (fun q => hc2 (List.mem_cons_of_mem _ q))).trans (hc c hc2)) (fun i hi => ?_) ?_
        · rw [hf2 3 (by decide), x_up_eq, upd_ne hi]; exact hrow i hi
        · rw [← hV]; conv => rhs; rw [s_tri]
          rw [if_pos (Classical.byContradiction c42)]
set_option maxRecDepth 100000 in
theorem c_tried1_3 (σ : xSg) (n : Nat) (hok : aOk (atC σ) n) (hn : σ 1 0 = nI n) (x : Nat) (hx : x < n) (z : Nat) (hz : σ 51 1 = nI z) (hz8 : z ≤ 8) : xCtr M_X5_tried [.ref 0, .ref 51, .ref 3, .int (nI x), .int ((1 : Int32)), .int ((9 : Int32))] σ (fun r σ2 => r = some (.int (s_tri (fun v => s_unl (a_ln (atC σ) x (nI v)) (tkC σ) (σ 52) z 0 (laneL n (σ 1 1) (σ 7) 0) (laneL n (σ 1 1) (σ 7) 1)) 9 1 0)) ∧ xFr scC σ σ2) := by
  refine ctr_ev ok_X5_tried (by decide +kernel) rfl rfl rfl ?_
  show xEv (.inl 6) M_X5_tried _ 0 ([some (.ref 0), some (.ref 51), some (.ref 3), some (.int (nI x)), some (.int ((1 : Int32))), some (.int ((9 : Int32))), none, none, none], [], σ)
  have hn10 := hok.1
  have hpc : (nI x).toNatClampNeg = x := nI_clamp (by omega)
  refine ev_br 1 [] ((nI x) < 0) 10 4 ([some (.ref 0), some (.ref 51), some (.ref 3), some (.int (nI x)), some (.int ((1 : Int32))), some (.int ((9 : Int32))), none, none, none], [], σ) rfl ?_ (fun c1 => ?_) (fun c1 => ?_)
  · trivial
  · exact absurd c1 (nI_pos (by omega))
  · refine ev_br 3 [] ((nI x) < (10 : Int32)) 12 10 ([some (.ref 0), some (.ref 51), some (.ref 3), some (.int (nI x)), some (.int ((1 : Int32))), some (.int ((9 : Int32))), none, none, none], [], σ) rfl ?_ (fun c7 => ?_) (fun c7 => ?_)
    · trivial
    · refine ev_blk 8 [vp_in (nI x) 10] 24 ([some (.ref 0), some (.ref 51), some (.ref 3), some (.int (nI x)), some (.int ((1 : Int32))), some (.int ((9 : Int32))), some (.int ((σ 3) (nI x).toNatClampNeg)), some (.int ((0 : Int32))), some (.int ((1 : Int32)))], [], σ) rfl ?_ ?_
      · exact vp_in_nI (by omega) (by decide)
      rw [hpc]
      exact c_tried1_3_lp σ n hok hn x hx z hz hz8 _ _ rfl 9 1 0 σ (by omega) (by omega) xFr.rf (fun _ _ => rfl) rfl
    · exact absurd (nI_lt (b := 10) (by omega) (by decide)) c7
set_option maxRecDepth 100000 in
theorem c_tried2_9_lp (σ : xSg) (n : Nat) (hok : aOk (atC σ) n) (hn : σ 1 0 = nI n) (z : Nat) (hz : σ 53 1 = nI z) (hz8 : z ≤ 8) (V was : Int32) (hwas : was = σ 9 4) : ∀ (m v : Nat) (b : Int32) (σ1 : xSg), v + m = 5 → 0 ≤ v → xFr (9 :: scC) σ σ1 → (∀ i, i ≠ 4 → σ1 9 i = σ 9 i) → s_tri (fun v => s_unl (a_st (atC σ) (nI v)) (tkC σ) (σ 54) z 0 (laneL n (σ 1 1) (σ 7) 0) (laneL n (σ 1 1) (σ 7) 1)) m v b = V → xEv (.inl 6) M_X5_tried (fun r σ2 => r = some (.int V) ∧ xFr scC σ σ2) 24 ([some (.ref 0), some (.ref 53), some (.ref 9), some (.int ((4 : Int32))), some (.int ((0 : Int32))), some (.int ((4 : Int32))), some (.int (was)), some (.int (b)), some (.int (nI v))], [], σ1) := by
  have hn10 := hok.1
  intro m
  induction m with
  | zero =>
    intro v b σ1 hv hlv hfr hrow hV
    refine ev_br 2 [] ((4 : Int32) < (nI v)) 60 31 ([some (.ref 0), some (.ref 53), some (.ref 9), some (.int ((4 : Int32))), some (.int ((0 : Int32))), some (.int ((4 : Int32))), some (.int (was)), some (.int (b)), some (.int (nI v))], [], σ1) rfl ?_ (fun c28 => ?_) (fun c28 => ?_)
    · trivial
    · refine ev_blk 5 [vp_in ((4 : Int32)) 5] 67 ([some (.ref 0), some (.ref 53), some (.ref 9), some (.int ((4 : Int32))), some (.int ((0 : Int32))), some (.int ((4 : Int32))), some (.int (was)), some (.int (b)), some (.int (nI v))], [.int (b)], (x_up σ1 9 (upd (σ1 9) 4 (was)))) rfl ?_ ?_
      · exact vp_in_nI (n := 4) (by decide) (by decide)
      refine ev_iret rfl rfl rfl ⟨by rw [← hV]; rfl, fun c hc => ?_⟩
      by_cases hcr : c = 9
      · subst hcr; rw [x_up_eq]; exact upd_bk hrow hwas
      · rw [x_up_ne hcr]; exact hfr c (fun q => by rcases List.mem_cons.mp q with q | q; exact hcr q; exact hc q)
    · exact absurd (show (4 : Int32) < nI v from nI_lt (a := 4) (by omega) (by omega)) c28
  | succ m ih =>
    intro v b σ1 hv hlv hfr hrow hV
    refine ev_br 2 [] ((4 : Int32) < (nI v)) 60 31 ([some (.ref 0), some (.ref 53), some (.ref 9), some (.int ((4 : Int32))), some (.int ((0 : Int32))), some (.int ((4 : Int32))), some (.int (was)), some (.int (b)), some (.int (nI v))], [], σ1) rfl ?_ (fun c28 => ?_) (fun c28 => ?_)
    · trivial
    · exact absurd c28 (nI_nlt (a := 4) (by omega) (by omega))
    · refine ev_blk 6 [vp_in ((4 : Int32)) 5] 38 ([some (.ref 0), some (.ref 53), some (.ref 9), some (.int ((4 : Int32))), some (.int ((0 : Int32))), some (.int ((4 : Int32))), some (.int (was)), some (.int (b)), some (.int (nI v))], [.ref 53, .ref 0], (x_up σ1 9 (upd (σ1 9) 4 (nI v)))) rfl ?_ ?_
      · exact vp_in_nI (n := 4) (by decide) (by decide)
      have hc : ∀ c, c ∉ (9 :: scC) → (x_up σ1 9 (upd (σ1 9) 4 (nI v))) c = σ c := fun c hc => by rw [x_up_ne (fun q => hc (by rw [q]; exact List.mem_cons_self))]; exact hfr c hc
      have hat : atC (x_up σ1 9 (upd (σ1 9) 4 (nI v))) = a_st (atC σ) (nI v) := by unfold atC; rw [hc 2 (by decide), hc 3 (by decide), hc 4 (by decide), hc 5 (by decide), hc 6 (by decide), hc 7 (by decide), show (x_up σ1 9 (upd (σ1 9) 4 (nI v))) 9 = upd (σ 9) 4 (nI v) from (x_up_eq).trans (upd_ig hrow)]; rfl
      have htk : tkC (x_up σ1 9 (upd (σ1 9) 4 (nI v))) = tkC σ := by unfold tkC; rw [hc 10 (by decide)]
      refine ev_callV M_X5_firstOtherwise [.ref 53] [] 0 rfl rfl ln_X5_237 k_X5_firstOtherwise rfl rfl rfl rfl rfl rfl (c_first2 (x_up σ1 9 (upd (σ1 9) 4 (nI v))) n (by rw [hat]; exact aOk_st hok (by omega)) ((congrFun (hc 1 (by decide)) 0).trans hn) z ((congrFun (hc 53 (by decide)) 1).trans hz) hz8) ?_
      rintro r σ2 ⟨rfl, hf2⟩
      rw [hat, htk, hc 54 (by decide), hc 1 (by decide), hc 7 (by decide)]
      show xEv _ _ _ 41 ([some (.ref 0), some (.ref 53), some (.ref 9), some (.int ((4 : Int32))), some (.int ((0 : Int32))), some (.int ((4 : Int32))), some (.int (was)), some (.int (b)), some (.int (nI v))], [.int (s_unl (a_st (atC σ) (nI v)) (tkC σ) (σ 54) z 0 (laneL n (σ 1 1) (σ 7) 0) (laneL n (σ 1 1) (σ 7) 1))], σ2)
      refine ev_br 1 [] (¬ (s_unl (a_st (atC σ) (nI v)) (tkC σ) (σ 54) z 0 (laneL n (σ 1 1) (σ 7) 0) (laneL n (σ 1 1) (σ 7) 1)) = (-1 : Int32)) 54 45 ([some (.ref 0), some (.ref 53), some (.ref 9), some (.int ((4 : Int32))), some (.int ((0 : Int32))), some (.int ((4 : Int32))), some (.int (was)), some (.int (b)), some (.int (nI v))], [], σ2) rfl ?_ (fun c42 => ?_) (fun c42 => ?_)
      · trivial
      · refine ev_blk 2 [] 24 ([some (.ref 0), some (.ref 53), some (.ref 9), some (.int ((4 : Int32))), some (.int ((0 : Int32))), some (.int ((4 : Int32))), some (.int (was)), some (.int (b)), some (.int ((nI v) + (1 : Int32)))], [], σ2) rfl ?_ ?_
        · trivial
        rw [nI_1]
        refine ih (v + 1) _ σ2 (by omega) (by omega) (fun c hc2 => (hf2 c (fun q => hc2 (List.mem_cons_of_mem _ q))).trans (hc c hc2)) (fun i hi => ?_) ?_
        · rw [hf2 9 (by decide), x_up_eq, upd_ne hi]; exact hrow i hi
        · rw [← hV]; conv => rhs; rw [s_tri]
          rw [if_neg c42]
      · refine ev_blk 8 [] 24 ([some (.ref 0), some (.ref 53), some (.ref 9), some (.int ((4 : Int32))), some (.int ((0 : Int32))), some (.int ((4 : Int32))), some (.int (was)), some (.int (b ||| ((1 : Int32) <<< ((nI v) &&& 31)))), some (.int ((nI v) + (1 : Int32)))], [], σ2) rfl ?_ ?_
        · trivial
        rw [nI_1]
        refine ih (v + 1) _ σ2 (by omega) (by omega) (fun c hc2 => (hf2 c (fun q => hc2 (List.mem_cons_of_mem _ q))).trans (hc c hc2)) (fun i hi => ?_) ?_
        · rw [hf2 9 (by decide), x_up_eq, upd_ne hi]; exact hrow i hi
        · rw [← hV]; conv => rhs; rw [s_tri]
          rw [if_pos (Classical.byContradiction c42)]
set_option maxRecDepth 100000 in
theorem c_tried2_9 (σ : xSg) (n : Nat) (hok : aOk (atC σ) n) (hn : σ 1 0 = nI n) (z : Nat) (hz : σ 53 1 = nI z) (hz8 : z ≤ 8) : xCtr M_X5_tried [.ref 0, .ref 53, .ref 9, .int ((4 : Int32)), .int ((0 : Int32)), .int ((4 : Int32))] σ (fun r σ2 => r = some (.int (s_tri (fun v => s_unl (a_st (atC σ) (nI v)) (tkC σ) (σ 54) z 0 (laneL n (σ 1 1) (σ 7) 0) (laneL n (σ 1 1) (σ 7) 1)) 5 0 0)) ∧ xFr scC σ σ2) := by
  refine ctr_ev ok_X5_tried (by decide +kernel) rfl rfl rfl ?_
  show xEv (.inl 6) M_X5_tried _ 0 ([some (.ref 0), some (.ref 53), some (.ref 9), some (.int ((4 : Int32))), some (.int ((0 : Int32))), some (.int ((4 : Int32))), none, none, none], [], σ)
  have hn10 := hok.1
  refine ev_br 1 [] ((4 : Int32) < 0) 10 4 ([some (.ref 0), some (.ref 53), some (.ref 9), some (.int ((4 : Int32))), some (.int ((0 : Int32))), some (.int ((4 : Int32))), none, none, none], [], σ) rfl ?_ (fun c1 => ?_) (fun c1 => ?_)
  · trivial
  · exact absurd c1 (by decide)
  · refine ev_br 3 [] ((4 : Int32) < (5 : Int32)) 12 10 ([some (.ref 0), some (.ref 53), some (.ref 9), some (.int ((4 : Int32))), some (.int ((0 : Int32))), some (.int ((4 : Int32))), none, none, none], [], σ) rfl ?_ (fun c7 => ?_) (fun c7 => ?_)
    · trivial
    · refine ev_blk 8 [vp_in ((4 : Int32)) 5] 24 ([some (.ref 0), some (.ref 53), some (.ref 9), some (.int ((4 : Int32))), some (.int ((0 : Int32))), some (.int ((4 : Int32))), some (.int ((σ 9) 4)), some (.int ((0 : Int32))), some (.int ((0 : Int32)))], [], σ) rfl ?_ ?_
      · exact vp_in_nI (n := 4) (by decide) (by decide)
      exact c_tried2_9_lp σ n hok hn z hz hz8 _ _ rfl 5 0 0 σ (by omega) (by omega) xFr.rf (fun _ _ => rfl) rfl
    · exact absurd (by decide) c7
set_option maxRecDepth 100000 in
theorem c_tried2_2_lp (σ : xSg) (n : Nat) (hok : aOk (atC σ) n) (hn : σ 1 0 = nI n) (x : Nat) (hx : x < n) (z : Nat) (hz : σ 53 1 = nI z) (hz8 : z ≤ 8) (V was : Int32) (hwas : was = σ 2 x) : ∀ (m v : Nat) (b : Int32) (σ1 : xSg), v + m = 6 → 0 ≤ v → xFr (2 :: scC) σ σ1 → (∀ i, i ≠ x → σ1 2 i = σ 2 i) → s_tri (fun v => s_unl (a_kd (atC σ) x (nI v)) (tkC σ) (σ 54) z 0 (laneL n (σ 1 1) (σ 7) 0) (laneL n (σ 1 1) (σ 7) 1)) m v b = V → xEv (.inl 6) M_X5_tried (fun r σ2 => r = some (.int V) ∧ xFr scC σ σ2) 24 ([some (.ref 0), some (.ref 53), some (.ref 2), some (.int (nI x)), some (.int ((0 : Int32))), some (.int ((5 : Int32))), some (.int (was)), some (.int (b)), some (.int (nI v))], [], σ1) := by
  have hn10 := hok.1
  have hpc : (nI x).toNatClampNeg = x := nI_clamp (by omega)
  intro m
  induction m with
  | zero =>
    intro v b σ1 hv hlv hfr hrow hV
    refine ev_br 2 [] ((5 : Int32) < (nI v)) 60 31 ([some (.ref 0), some (.ref 53), some (.ref 2), some (.int (nI x)), some (.int ((0 : Int32))), some (.int ((5 : Int32))), some (.int (was)), some (.int (b)), some (.int (nI v))], [], σ1) rfl ?_ (fun c28 => ?_) (fun c28 => ?_)
    · trivial
    · refine ev_blk 5 [vp_in (nI x) 10] 67 ([some (.ref 0), some (.ref 53), some (.ref 2), some (.int (nI x)), some (.int ((0 : Int32))), some (.int ((5 : Int32))), some (.int (was)), some (.int (b)), some (.int (nI v))], [.int (b)], (x_up σ1 2 (upd (σ1 2) (nI x).toNatClampNeg (was)))) rfl ?_ ?_
      · exact vp_in_nI (by omega) (by decide)
      rw [hpc]
      refine ev_iret rfl rfl rfl ⟨by rw [← hV]; rfl, fun c hc => ?_⟩
      by_cases hcr : c = 2
      · subst hcr; rw [x_up_eq]; exact upd_bk hrow hwas
      · rw [x_up_ne hcr]; exact hfr c (fun q => by rcases List.mem_cons.mp q with q | q; exact hcr q; exact hc q)
    · exact absurd (show (5 : Int32) < nI v from nI_lt (a := 5) (by omega) (by omega)) c28
  | succ m ih =>
    intro v b σ1 hv hlv hfr hrow hV
    refine ev_br 2 [] ((5 : Int32) < (nI v)) 60 31 ([some (.ref 0), some (.ref 53), some (.ref 2), some (.int (nI x)), some (.int ((0 : Int32))), some (.int ((5 : Int32))), some (.int (was)), some (.int (b)), some (.int (nI v))], [], σ1) rfl ?_ (fun c28 => ?_) (fun c28 => ?_)
    · trivial
    · exact absurd c28 (nI_nlt (a := 5) (by omega) (by omega))
    · refine ev_blk 6 [vp_in (nI x) 10] 38 ([some (.ref 0), some (.ref 53), some (.ref 2), some (.int (nI x)), some (.int ((0 : Int32))), some (.int ((5 : Int32))), some (.int (was)), some (.int (b)), some (.int (nI v))], [.ref 53, .ref 0], (x_up σ1 2 (upd (σ1 2) (nI x).toNatClampNeg (nI v)))) rfl ?_ ?_
      · exact vp_in_nI (by omega) (by decide)
      rw [hpc]
      have hc : ∀ c, c ∉ (2 :: scC) → (x_up σ1 2 (upd (σ1 2) x (nI v))) c = σ c := fun c hc => by rw [x_up_ne (fun q => hc (by rw [q]; exact List.mem_cons_self))]; exact hfr c hc
      have hat : atC (x_up σ1 2 (upd (σ1 2) x (nI v))) = a_kd (atC σ) x (nI v) := by unfold atC; rw [show (x_up σ1 2 (upd (σ1 2) x (nI v))) 2 = upd (σ 2) x (nI v) from (x_up_eq).trans (upd_ig hrow), hc 3 (by decide), hc 4 (by decide), hc 5 (by decide), hc 6 (by decide), hc 7 (by decide), hc 9 (by decide)]; rfl
      have htk : tkC (x_up σ1 2 (upd (σ1 2) x (nI v))) = tkC σ := by unfold tkC; rw [hc 10 (by decide)]
      refine ev_callV M_X5_firstOtherwise [.ref 53] [] 0 rfl rfl ln_X5_237 k_X5_firstOtherwise rfl rfl rfl rfl rfl rfl (c_first2 (x_up σ1 2 (upd (σ1 2) x (nI v))) n (by rw [hat]; exact aOk_kd hok (by omega)) ((congrFun (hc 1 (by decide)) 0).trans hn) z ((congrFun (hc 53 (by decide)) 1).trans hz) hz8) ?_
      rintro r σ2 ⟨rfl, hf2⟩
      rw [hat, htk, hc 54 (by decide), hc 1 (by decide), hc 7 (by decide)]
      show xEv _ _ _ 41 ([some (.ref 0), some (.ref 53), some (.ref 2), some (.int (nI x)), some (.int ((0 : Int32))), some (.int ((5 : Int32))), some (.int (was)), some (.int (b)), some (.int (nI v))], [.int (s_unl (a_kd (atC σ) x (nI v)) (tkC σ) (σ 54) z 0 (laneL n (σ 1 1) (σ 7) 0) (laneL n (σ 1 1) (σ 7) 1))], σ2)
      refine ev_br 1 [] (¬ (s_unl (a_kd (atC σ) x (nI v)) (tkC σ) (σ 54) z 0 (laneL n (σ 1 1) (σ 7) 0) (laneL n (σ 1 1) (σ 7) 1)) = (-1 : Int32)) 54 45 ([some (.ref 0), some (.ref 53), some (.ref 2), some (.int (nI x)), some (.int ((0 : Int32))), some (.int ((5 : Int32))), some (.int (was)), some (.int (b)), some (.int (nI v))], [], σ2) rfl ?_ (fun c42 => ?_) (fun c42 => ?_)
      · trivial
      · refine ev_blk 2 [] 24 ([some (.ref 0), some (.ref 53), some (.ref 2), some (.int (nI x)), some (.int ((0 : Int32))), some (.int ((5 : Int32))), some (.int (was)), some (.int (b)), some (.int ((nI v) + (1 : Int32)))], [], σ2) rfl ?_ ?_
        · trivial
        rw [nI_1]
        refine ih (v + 1) _ σ2 (by omega) (by omega) (fun c hc2 => (hf2 c (fun q => hc2 (List.mem_cons_of_mem _ q))).trans (hc c hc2)) (fun i hi => ?_) ?_
        · rw [hf2 2 (by decide), x_up_eq, upd_ne hi]; exact hrow i hi
        · rw [← hV]; conv => rhs; rw [s_tri]
          rw [if_neg c42]
      · refine ev_blk 8 [] 24 ([some (.ref 0), some (.ref 53), some (.ref 2), some (.int (nI x)), some (.int ((0 : Int32))), some (.int ((5 : Int32))), some (.int (was)), some (.int (b ||| ((1 : Int32) <<< ((nI v) &&& 31)))), some (.int ((nI v) + (1 : Int32)))], [], σ2) rfl ?_ ?_
        · trivial
        rw [nI_1]
        refine ih (v + 1) _ σ2 (by omega) (by omega) (fun c hc2 => (hf2 c (fun q => hc2 (List.mem_cons_of_mem _ q))).trans (hc c hc2)) (fun i hi => ?_) ?_
        · rw [hf2 2 (by decide), x_up_eq, upd_ne hi]; exact hrow i hi
        · rw [← hV]; conv => rhs; rw [s_tri]
          rw [if_pos (Classical.byContradiction c42)]
set_option maxRecDepth 100000 in
theorem c_tried2_2 (σ : xSg) (n : Nat) (hok : aOk (atC σ) n) (hn : σ 1 0 = nI n) (x : Nat) (hx : x < n) (z : Nat) (hz : σ 53 1 = nI z) (hz8 : z ≤ 8) : xCtr M_X5_tried [.ref 0, .ref 53, .ref 2, .int (nI x), .int ((0 : Int32)), .int ((5 : Int32))] σ (fun r σ2 => r = some (.int (s_tri (fun v => s_unl (a_kd (atC σ) x (nI v)) (tkC σ) (σ 54) z 0 (laneL n (σ 1 1) (σ 7) 0) (laneL n (σ 1 1) (σ 7) 1)) 6 0 0)) ∧ xFr scC σ σ2) := by
  refine ctr_ev ok_X5_tried (by decide +kernel) rfl rfl rfl ?_
  show xEv (.inl 6) M_X5_tried _ 0 ([some (.ref 0), some (.ref 53), some (.ref 2), some (.int (nI x)), some (.int ((0 : Int32))), some (.int ((5 : Int32))), none, none, none], [], σ)
  have hn10 := hok.1
  have hpc : (nI x).toNatClampNeg = x := nI_clamp (by omega)
  refine ev_br 1 [] ((nI x) < 0) 10 4 ([some (.ref 0), some (.ref 53), some (.ref 2), some (.int (nI x)), some (.int ((0 : Int32))), some (.int ((5 : Int32))), none, none, none], [], σ) rfl ?_ (fun c1 => ?_) (fun c1 => ?_)
  · trivial
  · exact absurd c1 (nI_pos (by omega))
  · refine ev_br 3 [] ((nI x) < (10 : Int32)) 12 10 ([some (.ref 0), some (.ref 53), some (.ref 2), some (.int (nI x)), some (.int ((0 : Int32))), some (.int ((5 : Int32))), none, none, none], [], σ) rfl ?_ (fun c7 => ?_) (fun c7 => ?_)
    · trivial
    · refine ev_blk 8 [vp_in (nI x) 10] 24 ([some (.ref 0), some (.ref 53), some (.ref 2), some (.int (nI x)), some (.int ((0 : Int32))), some (.int ((5 : Int32))), some (.int ((σ 2) (nI x).toNatClampNeg)), some (.int ((0 : Int32))), some (.int ((0 : Int32)))], [], σ) rfl ?_ ?_
      · exact vp_in_nI (by omega) (by decide)
      rw [hpc]
      exact c_tried2_2_lp σ n hok hn x hx z hz hz8 _ _ rfl 6 0 0 σ (by omega) (by omega) xFr.rf (fun _ _ => rfl) rfl
    · exact absurd (nI_lt (b := 10) (by omega) (by decide)) c7
set_option maxRecDepth 100000 in
theorem c_tried2_3_lp (σ : xSg) (n : Nat) (hok : aOk (atC σ) n) (hn : σ 1 0 = nI n) (x : Nat) (hx : x < n) (z : Nat) (hz : σ 53 1 = nI z) (hz8 : z ≤ 8) (V was : Int32) (hwas : was = σ 3 x) : ∀ (m v : Nat) (b : Int32) (σ1 : xSg), v + m = 10 → 1 ≤ v → xFr (3 :: scC) σ σ1 → (∀ i, i ≠ x → σ1 3 i = σ 3 i) → s_tri (fun v => s_unl (a_ln (atC σ) x (nI v)) (tkC σ) (σ 54) z 0 (laneL n (σ 1 1) (σ 7) 0) (laneL n (σ 1 1) (σ 7) 1)) m v b = V → xEv (.inl 6) M_X5_tried (fun r σ2 => r = some (.int V) ∧ xFr scC σ σ2) 24 ([some (.ref 0), some (.ref 53), some (.ref 3), some (.int (nI x)), some (.int ((1 : Int32))), some (.int ((9 : Int32))), some (.int (was)), some (.int (b)), some (.int (nI v))], [], σ1) := by
  have hn10 := hok.1
  have hpc : (nI x).toNatClampNeg = x := nI_clamp (by omega)
  intro m
  induction m with
  | zero =>
    intro v b σ1 hv hlv hfr hrow hV
    refine ev_br 2 [] ((9 : Int32) < (nI v)) 60 31 ([some (.ref 0), some (.ref 53), some (.ref 3), some (.int (nI x)), some (.int ((1 : Int32))), some (.int ((9 : Int32))), some (.int (was)), some (.int (b)), some (.int (nI v))], [], σ1) rfl ?_ (fun c28 => ?_) (fun c28 => ?_)
    · trivial
    · refine ev_blk 5 [vp_in (nI x) 10] 67 ([some (.ref 0), some (.ref 53), some (.ref 3), some (.int (nI x)), some (.int ((1 : Int32))), some (.int ((9 : Int32))), some (.int (was)), some (.int (b)), some (.int (nI v))], [.int (b)], (x_up σ1 3 (upd (σ1 3) (nI x).toNatClampNeg (was)))) rfl ?_ ?_
      · exact vp_in_nI (by omega) (by decide)
      rw [hpc]
      refine ev_iret rfl rfl rfl ⟨by rw [← hV]; rfl, fun c hc => ?_⟩
      by_cases hcr : c = 3
      · subst hcr; rw [x_up_eq]; exact upd_bk hrow hwas
      · rw [x_up_ne hcr]; exact hfr c (fun q => by rcases List.mem_cons.mp q with q | q; exact hcr q; exact hc q)
    · exact absurd (show (9 : Int32) < nI v from nI_lt (a := 9) (by omega) (by omega)) c28
  | succ m ih =>
    intro v b σ1 hv hlv hfr hrow hV
    refine ev_br 2 [] ((9 : Int32) < (nI v)) 60 31 ([some (.ref 0), some (.ref 53), some (.ref 3), some (.int (nI x)), some (.int ((1 : Int32))), some (.int ((9 : Int32))), some (.int (was)), some (.int (b)), some (.int (nI v))], [], σ1) rfl ?_ (fun c28 => ?_) (fun c28 => ?_)
    · trivial
    · exact absurd c28 (nI_nlt (a := 9) (by omega) (by omega))
    · refine ev_blk 6 [vp_in (nI x) 10] 38 ([some (.ref 0), some (.ref 53), some (.ref 3), some (.int (nI x)), some (.int ((1 : Int32))), some (.int ((9 : Int32))), some (.int (was)), some (.int (b)), some (.int (nI v))], [.ref 53, .ref 0], (x_up σ1 3 (upd (σ1 3) (nI x).toNatClampNeg (nI v)))) rfl ?_ ?_
      · exact vp_in_nI (by omega) (by decide)
      rw [hpc]
      have hc : ∀ c, c ∉ (3 :: scC) → (x_up σ1 3 (upd (σ1 3) x (nI v))) c = σ c := fun c hc => by rw [x_up_ne (fun q => hc (by rw [q]; exact List.mem_cons_self))]; exact hfr c hc
      have hat : atC (x_up σ1 3 (upd (σ1 3) x (nI v))) = a_ln (atC σ) x (nI v) := by unfold atC; rw [hc 2 (by decide), show (x_up σ1 3 (upd (σ1 3) x (nI v))) 3 = upd (σ 3) x (nI v) from (x_up_eq).trans (upd_ig hrow), hc 4 (by decide), hc 5 (by decide), hc 6 (by decide), hc 7 (by decide), hc 9 (by decide)]; rfl
      have htk : tkC (x_up σ1 3 (upd (σ1 3) x (nI v))) = tkC σ := by unfold tkC; rw [hc 10 (by decide)]
      refine ev_callV M_X5_firstOtherwise [.ref 53] [] 0 rfl rfl ln_X5_237 k_X5_firstOtherwise rfl rfl rfl rfl rfl rfl (c_first2 (x_up σ1 3 (upd (σ1 3) x (nI v))) n (by rw [hat]; exact aOk_ln hok (by omega) (by omega)) ((congrFun (hc 1 (by decide)) 0).trans hn) z ((congrFun (hc 53 (by decide)) 1).trans hz) hz8) ?_
      rintro r σ2 ⟨rfl, hf2⟩
      rw [hat, htk, hc 54 (by decide), hc 1 (by decide), hc 7 (by decide)]
      show xEv _ _ _ 41 ([some (.ref 0), some (.ref 53), some (.ref 3), some (.int (nI x)), some (.int ((1 : Int32))), some (.int ((9 : Int32))), some (.int (was)), some (.int (b)), some (.int (nI v))], [.int (s_unl (a_ln (atC σ) x (nI v)) (tkC σ) (σ 54) z 0 (laneL n (σ 1 1) (σ 7) 0) (laneL n (σ 1 1) (σ 7) 1))], σ2)
      refine ev_br 1 [] (¬ (s_unl (a_ln (atC σ) x (nI v)) (tkC σ) (σ 54) z 0 (laneL n (σ 1 1) (σ 7) 0) (laneL n (σ 1 1) (σ 7) 1)) = (-1 : Int32)) 54 45 ([some (.ref 0), some (.ref 53), some (.ref 3), some (.int (nI x)), some (.int ((1 : Int32))), some (.int ((9 : Int32))), some (.int (was)), some (.int (b)), some (.int (nI v))], [], σ2) rfl ?_ (fun c42 => ?_) (fun c42 => ?_)
      · trivial
      · refine ev_blk 2 [] 24 ([some (.ref 0), some (.ref 53), some (.ref 3), some (.int (nI x)), some (.int ((1 : Int32))), some (.int ((9 : Int32))), some (.int (was)), some (.int (b)), some (.int ((nI v) + (1 : Int32)))], [], σ2) rfl ?_ ?_
        · trivial
        rw [nI_1]
        refine ih (v + 1) _ σ2 (by omega) (by omega) (fun c hc2 => (hf2 c (fun q => hc2 (List.mem_cons_of_mem _ q))).trans (hc c hc2)) (fun i hi => ?_) ?_
        · rw [hf2 3 (by decide), x_up_eq, upd_ne hi]; exact hrow i hi
        · rw [← hV]; conv => rhs; rw [s_tri]
          rw [if_neg c42]
      · refine ev_blk 8 [] 24 ([some (.ref 0), some (.ref 53), some (.ref 3), some (.int (nI x)), some (.int ((1 : Int32))), some (.int ((9 : Int32))), some (.int (was)), some (.int (b ||| ((1 : Int32) <<< ((nI v) &&& 31)))), some (.int ((nI v) + (1 : Int32)))], [], σ2) rfl ?_ ?_
        · trivial
        rw [nI_1]
        refine ih (v + 1) _ σ2 (by omega) (by omega) (fun c hc2 => (hf2 c (fun q => hc2 (List.mem_cons_of_mem _ q))).trans (hc c hc2)) (fun i hi => ?_) ?_
        · rw [hf2 3 (by decide), x_up_eq, upd_ne hi]; exact hrow i hi
        · rw [← hV]; conv => rhs; rw [s_tri]
          rw [if_pos (Classical.byContradiction c42)]
set_option maxRecDepth 100000 in
theorem c_tried2_3 (σ : xSg) (n : Nat) (hok : aOk (atC σ) n) (hn : σ 1 0 = nI n) (x : Nat) (hx : x < n) (z : Nat) (hz : σ 53 1 = nI z) (hz8 : z ≤ 8) : xCtr M_X5_tried [.ref 0, .ref 53, .ref 3, .int (nI x), .int ((1 : Int32)), .int ((9 : Int32))] σ (fun r σ2 => r = some (.int (s_tri (fun v => s_unl (a_ln (atC σ) x (nI v)) (tkC σ) (σ 54) z 0 (laneL n (σ 1 1) (σ 7) 0) (laneL n (σ 1 1) (σ 7) 1)) 9 1 0)) ∧ xFr scC σ σ2) := by
  refine ctr_ev ok_X5_tried (by decide +kernel) rfl rfl rfl ?_
  show xEv (.inl 6) M_X5_tried _ 0 ([some (.ref 0), some (.ref 53), some (.ref 3), some (.int (nI x)), some (.int ((1 : Int32))), some (.int ((9 : Int32))), none, none, none], [], σ)
  have hn10 := hok.1
  have hpc : (nI x).toNatClampNeg = x := nI_clamp (by omega)
  refine ev_br 1 [] ((nI x) < 0) 10 4 ([some (.ref 0), some (.ref 53), some (.ref 3), some (.int (nI x)), some (.int ((1 : Int32))), some (.int ((9 : Int32))), none, none, none], [], σ) rfl ?_ (fun c1 => ?_) (fun c1 => ?_)
  · trivial
  · exact absurd c1 (nI_pos (by omega))
  · refine ev_br 3 [] ((nI x) < (10 : Int32)) 12 10 ([some (.ref 0), some (.ref 53), some (.ref 3), some (.int (nI x)), some (.int ((1 : Int32))), some (.int ((9 : Int32))), none, none, none], [], σ) rfl ?_ (fun c7 => ?_) (fun c7 => ?_)
    · trivial
    · refine ev_blk 8 [vp_in (nI x) 10] 24 ([some (.ref 0), some (.ref 53), some (.ref 3), some (.int (nI x)), some (.int ((1 : Int32))), some (.int ((9 : Int32))), some (.int ((σ 3) (nI x).toNatClampNeg)), some (.int ((0 : Int32))), some (.int ((1 : Int32)))], [], σ) rfl ?_ ?_
      · exact vp_in_nI (by omega) (by decide)
      rw [hpc]
      exact c_tried2_3_lp σ n hok hn x hx z hz hz8 _ _ rfl 9 1 0 σ (by omega) (by omega) xFr.rf (fun _ _ => rfl) rfl
    · exact absurd (nI_lt (b := 10) (by omega) (by decide)) c7
set_option maxRecDepth 100000 in
theorem c_tried3_9_lp (σ : xSg) (n : Nat) (hok : aOk (atC σ) n) (hn : σ 1 0 = nI n) (z : Nat) (hz : σ 55 1 = nI z) (hz8 : z ≤ 8) (V was : Int32) (hwas : was = σ 9 4) : ∀ (m v : Nat) (b : Int32) (σ1 : xSg), v + m = 5 → 0 ≤ v → xFr (9 :: scC) σ σ1 → (∀ i, i ≠ 4 → σ1 9 i = σ 9 i) → s_tri (fun v => s_unl (a_st (atC σ) (nI v)) (tkC σ) (σ 56) z 0 (laneL n (σ 1 1) (σ 7) 0) (laneL n (σ 1 1) (σ 7) 1)) m v b = V → xEv (.inl 6) M_X5_tried (fun r σ2 => r = some (.int V) ∧ xFr scC σ σ2) 24 ([some (.ref 0), some (.ref 55), some (.ref 9), some (.int ((4 : Int32))), some (.int ((0 : Int32))), some (.int ((4 : Int32))), some (.int (was)), some (.int (b)), some (.int (nI v))], [], σ1) := by
  have hn10 := hok.1
  intro m
  induction m with
  | zero =>
    intro v b σ1 hv hlv hfr hrow hV
    refine ev_br 2 [] ((4 : Int32) < (nI v)) 60 31 ([some (.ref 0), some (.ref 55), some (.ref 9), some (.int ((4 : Int32))), some (.int ((0 : Int32))), some (.int ((4 : Int32))), some (.int (was)), some (.int (b)), some (.int (nI v))], [], σ1) rfl ?_ (fun c28 => ?_) (fun c28 => ?_)
    · trivial
    · refine ev_blk 5 [vp_in ((4 : Int32)) 5] 67 ([some (.ref 0), some (.ref 55), some (.ref 9), some (.int ((4 : Int32))), some (.int ((0 : Int32))), some (.int ((4 : Int32))), some (.int (was)), some (.int (b)), some (.int (nI v))], [.int (b)], (x_up σ1 9 (upd (σ1 9) 4 (was)))) rfl ?_ ?_
      · exact vp_in_nI (n := 4) (by decide) (by decide)
      refine ev_iret rfl rfl rfl ⟨by rw [← hV]; rfl, fun c hc => ?_⟩
      by_cases hcr : c = 9
      · subst hcr; rw [x_up_eq]; exact upd_bk hrow hwas
      · rw [x_up_ne hcr]; exact hfr c (fun q => by rcases List.mem_cons.mp q with q | q; exact hcr q; exact hc q)
    · exact absurd (show (4 : Int32) < nI v from nI_lt (a := 4) (by omega) (by omega)) c28
  | succ m ih =>
    intro v b σ1 hv hlv hfr hrow hV
    refine ev_br 2 [] ((4 : Int32) < (nI v)) 60 31 ([some (.ref 0), some (.ref 55), some (.ref 9), some (.int ((4 : Int32))), some (.int ((0 : Int32))), some (.int ((4 : Int32))), some (.int (was)), some (.int (b)), some (.int (nI v))], [], σ1) rfl ?_ (fun c28 => ?_) (fun c28 => ?_)
    · trivial
    · exact absurd c28 (nI_nlt (a := 4) (by omega) (by omega))
    · refine ev_blk 6 [vp_in ((4 : Int32)) 5] 38 ([some (.ref 0), some (.ref 55), some (.ref 9), some (.int ((4 : Int32))), some (.int ((0 : Int32))), some (.int ((4 : Int32))), some (.int (was)), some (.int (b)), some (.int (nI v))], [.ref 55, .ref 0], (x_up σ1 9 (upd (σ1 9) 4 (nI v)))) rfl ?_ ?_
      · exact vp_in_nI (n := 4) (by decide) (by decide)
      have hc : ∀ c, c ∉ (9 :: scC) → (x_up σ1 9 (upd (σ1 9) 4 (nI v))) c = σ c := fun c hc => by rw [x_up_ne (fun q => hc (by rw [q]; exact List.mem_cons_self))]; exact hfr c hc
      have hat : atC (x_up σ1 9 (upd (σ1 9) 4 (nI v))) = a_st (atC σ) (nI v) := by unfold atC; rw [hc 2 (by decide), hc 3 (by decide), hc 4 (by decide), hc 5 (by decide), hc 6 (by decide), hc 7 (by decide), show (x_up σ1 9 (upd (σ1 9) 4 (nI v))) 9 = upd (σ 9) 4 (nI v) from (x_up_eq).trans (upd_ig hrow)]; rfl
      have htk : tkC (x_up σ1 9 (upd (σ1 9) 4 (nI v))) = tkC σ := by unfold tkC; rw [hc 10 (by decide)]
      refine ev_callV M_X5_firstOtherwise [.ref 55] [] 0 rfl rfl ln_X5_237 k_X5_firstOtherwise rfl rfl rfl rfl rfl rfl (c_first3 (x_up σ1 9 (upd (σ1 9) 4 (nI v))) n (by rw [hat]; exact aOk_st hok (by omega)) ((congrFun (hc 1 (by decide)) 0).trans hn) z ((congrFun (hc 55 (by decide)) 1).trans hz) hz8) ?_
      rintro r σ2 ⟨rfl, hf2⟩
      rw [hat, htk, hc 56 (by decide), hc 1 (by decide), hc 7 (by decide)]
      show xEv _ _ _ 41 ([some (.ref 0), some (.ref 55), some (.ref 9), some (.int ((4 : Int32))), some (.int ((0 : Int32))), some (.int ((4 : Int32))), some (.int (was)), some (.int (b)), some (.int (nI v))], [.int (s_unl (a_st (atC σ) (nI v)) (tkC σ) (σ 56) z 0 (laneL n (σ 1 1) (σ 7) 0) (laneL n (σ 1 1) (σ 7) 1))], σ2)
      refine ev_br 1 [] (¬ (s_unl (a_st (atC σ) (nI v)) (tkC σ) (σ 56) z 0 (laneL n (σ 1 1) (σ 7) 0) (laneL n (σ 1 1) (σ 7) 1)) = (-1 : Int32)) 54 45 ([some (.ref 0), some (.ref 55), some (.ref 9), some (.int ((4 : Int32))), some (.int ((0 : Int32))), some (.int ((4 : Int32))), some (.int (was)), some (.int (b)), some (.int (nI v))], [], σ2) rfl ?_ (fun c42 => ?_) (fun c42 => ?_)
      · trivial
      · refine ev_blk 2 [] 24 ([some (.ref 0), some (.ref 55), some (.ref 9), some (.int ((4 : Int32))), some (.int ((0 : Int32))), some (.int ((4 : Int32))), some (.int (was)), some (.int (b)), some (.int ((nI v) + (1 : Int32)))], [], σ2) rfl ?_ ?_
        · trivial
        rw [nI_1]
        refine ih (v + 1) _ σ2 (by omega) (by omega) (fun c hc2 => (hf2 c (fun q => hc2 (List.mem_cons_of_mem _ q))).trans (hc c hc2)) (fun i hi => ?_) ?_
        · rw [hf2 9 (by decide), x_up_eq, upd_ne hi]; exact hrow i hi
        · rw [← hV]; conv => rhs; rw [s_tri]
          rw [if_neg c42]
      · refine ev_blk 8 [] 24 ([some (.ref 0), some (.ref 55), some (.ref 9), some (.int ((4 : Int32))), some (.int ((0 : Int32))), some (.int ((4 : Int32))), some (.int (was)), some (.int (b ||| ((1 : Int32) <<< ((nI v) &&& 31)))), some (.int ((nI v) + (1 : Int32)))], [], σ2) rfl ?_ ?_
        · trivial
        rw [nI_1]
        refine ih (v + 1) _ σ2 (by omega) (by omega) (fun c hc2 => (hf2 c (fun q => hc2 (List.mem_cons_of_mem _ q))).trans (hc c hc2)) (fun i hi => ?_) ?_
        · rw [hf2 9 (by decide), x_up_eq, upd_ne hi]; exact hrow i hi
        · rw [← hV]; conv => rhs; rw [s_tri]
          rw [if_pos (Classical.byContradiction c42)]
set_option maxRecDepth 100000 in
theorem c_tried3_9 (σ : xSg) (n : Nat) (hok : aOk (atC σ) n) (hn : σ 1 0 = nI n) (z : Nat) (hz : σ 55 1 = nI z) (hz8 : z ≤ 8) : xCtr M_X5_tried [.ref 0, .ref 55, .ref 9, .int ((4 : Int32)), .int ((0 : Int32)), .int ((4 : Int32))] σ (fun r σ2 => r = some (.int (s_tri (fun v => s_unl (a_st (atC σ) (nI v)) (tkC σ) (σ 56) z 0 (laneL n (σ 1 1) (σ 7) 0) (laneL n (σ 1 1) (σ 7) 1)) 5 0 0)) ∧ xFr scC σ σ2) := by
  refine ctr_ev ok_X5_tried (by decide +kernel) rfl rfl rfl ?_
  show xEv (.inl 6) M_X5_tried _ 0 ([some (.ref 0), some (.ref 55), some (.ref 9), some (.int ((4 : Int32))), some (.int ((0 : Int32))), some (.int ((4 : Int32))), none, none, none], [], σ)
  have hn10 := hok.1
  refine ev_br 1 [] ((4 : Int32) < 0) 10 4 ([some (.ref 0), some (.ref 55), some (.ref 9), some (.int ((4 : Int32))), some (.int ((0 : Int32))), some (.int ((4 : Int32))), none, none, none], [], σ) rfl ?_ (fun c1 => ?_) (fun c1 => ?_)
  · trivial
  · exact absurd c1 (by decide)
  · refine ev_br 3 [] ((4 : Int32) < (5 : Int32)) 12 10 ([some (.ref 0), some (.ref 55), some (.ref 9), some (.int ((4 : Int32))), some (.int ((0 : Int32))), some (.int ((4 : Int32))), none, none, none], [], σ) rfl ?_ (fun c7 => ?_) (fun c7 => ?_)
    · trivial
    · refine ev_blk 8 [vp_in ((4 : Int32)) 5] 24 ([some (.ref 0), some (.ref 55), some (.ref 9), some (.int ((4 : Int32))), some (.int ((0 : Int32))), some (.int ((4 : Int32))), some (.int ((σ 9) 4)), some (.int ((0 : Int32))), some (.int ((0 : Int32)))], [], σ) rfl ?_ ?_
      · exact vp_in_nI (n := 4) (by decide) (by decide)
      exact c_tried3_9_lp σ n hok hn z hz hz8 _ _ rfl 5 0 0 σ (by omega) (by omega) xFr.rf (fun _ _ => rfl) rfl
    · exact absurd (by decide) c7
set_option maxRecDepth 100000 in
theorem c_tried3_2_lp (σ : xSg) (n : Nat) (hok : aOk (atC σ) n) (hn : σ 1 0 = nI n) (x : Nat) (hx : x < n) (z : Nat) (hz : σ 55 1 = nI z) (hz8 : z ≤ 8) (V was : Int32) (hwas : was = σ 2 x) : ∀ (m v : Nat) (b : Int32) (σ1 : xSg), v + m = 6 → 0 ≤ v → xFr (2 :: scC) σ σ1 → (∀ i, i ≠ x → σ1 2 i = σ 2 i) → s_tri (fun v => s_unl (a_kd (atC σ) x (nI v)) (tkC σ) (σ 56) z 0 (laneL n (σ 1 1) (σ 7) 0) (laneL n (σ 1 1) (σ 7) 1)) m v b = V → xEv (.inl 6) M_X5_tried (fun r σ2 => r = some (.int V) ∧ xFr scC σ σ2) 24 ([some (.ref 0), some (.ref 55), some (.ref 2), some (.int (nI x)), some (.int ((0 : Int32))), some (.int ((5 : Int32))), some (.int (was)), some (.int (b)), some (.int (nI v))], [], σ1) := by
  have hn10 := hok.1
  have hpc : (nI x).toNatClampNeg = x := nI_clamp (by omega)
  intro m
  induction m with
  | zero =>
    intro v b σ1 hv hlv hfr hrow hV
    refine ev_br 2 [] ((5 : Int32) < (nI v)) 60 31 ([some (.ref 0), some (.ref 55), some (.ref 2), some (.int (nI x)), some (.int ((0 : Int32))), some (.int ((5 : Int32))), some (.int (was)), some (.int (b)), some (.int (nI v))], [], σ1) rfl ?_ (fun c28 => ?_) (fun c28 => ?_)
    · trivial
    · refine ev_blk 5 [vp_in (nI x) 10] 67 ([some (.ref 0), some (.ref 55), some (.ref 2), some (.int (nI x)), some (.int ((0 : Int32))), some (.int ((5 : Int32))), some (.int (was)), some (.int (b)), some (.int (nI v))], [.int (b)], (x_up σ1 2 (upd (σ1 2) (nI x).toNatClampNeg (was)))) rfl ?_ ?_
      · exact vp_in_nI (by omega) (by decide)
      rw [hpc]
      refine ev_iret rfl rfl rfl ⟨by rw [← hV]; rfl, fun c hc => ?_⟩
      by_cases hcr : c = 2
      · subst hcr; rw [x_up_eq]; exact upd_bk hrow hwas
      · rw [x_up_ne hcr]; exact hfr c (fun q => by rcases List.mem_cons.mp q with q | q; exact hcr q; exact hc q)
    · exact absurd (show (5 : Int32) < nI v from nI_lt (a := 5) (by omega) (by omega)) c28
  | succ m ih =>
    intro v b σ1 hv hlv hfr hrow hV
    refine ev_br 2 [] ((5 : Int32) < (nI v)) 60 31 ([some (.ref 0), some (.ref 55), some (.ref 2), some (.int (nI x)), some (.int ((0 : Int32))), some (.int ((5 : Int32))), some (.int (was)), some (.int (b)), some (.int (nI v))], [], σ1) rfl ?_ (fun c28 => ?_) (fun c28 => ?_)
    · trivial
    · exact absurd c28 (nI_nlt (a := 5) (by omega) (by omega))
    · refine ev_blk 6 [vp_in (nI x) 10] 38 ([some (.ref 0), some (.ref 55), some (.ref 2), some (.int (nI x)), some (.int ((0 : Int32))), some (.int ((5 : Int32))), some (.int (was)), some (.int (b)), some (.int (nI v))], [.ref 55, .ref 0], (x_up σ1 2 (upd (σ1 2) (nI x).toNatClampNeg (nI v)))) rfl ?_ ?_
      · exact vp_in_nI (by omega) (by decide)
      rw [hpc]
      have hc : ∀ c, c ∉ (2 :: scC) → (x_up σ1 2 (upd (σ1 2) x (nI v))) c = σ c := fun c hc => by rw [x_up_ne (fun q => hc (by rw [q]; exact List.mem_cons_self))]; exact hfr c hc
      have hat : atC (x_up σ1 2 (upd (σ1 2) x (nI v))) = a_kd (atC σ) x (nI v) := by unfold atC; rw [show (x_up σ1 2 (upd (σ1 2) x (nI v))) 2 = upd (σ 2) x (nI v) from (x_up_eq).trans (upd_ig hrow), hc 3 (by decide), hc 4 (by decide), hc 5 (by decide), hc 6 (by decide), hc 7 (by decide), hc 9 (by decide)]; rfl
      have htk : tkC (x_up σ1 2 (upd (σ1 2) x (nI v))) = tkC σ := by unfold tkC; rw [hc 10 (by decide)]
      refine ev_callV M_X5_firstOtherwise [.ref 55] [] 0 rfl rfl ln_X5_237 k_X5_firstOtherwise rfl rfl rfl rfl rfl rfl (c_first3 (x_up σ1 2 (upd (σ1 2) x (nI v))) n (by rw [hat]; exact aOk_kd hok (by omega)) ((congrFun (hc 1 (by decide)) 0).trans hn) z ((congrFun (hc 55 (by decide)) 1).trans hz) hz8) ?_
      rintro r σ2 ⟨rfl, hf2⟩
      rw [hat, htk, hc 56 (by decide), hc 1 (by decide), hc 7 (by decide)]
      show xEv _ _ _ 41 ([some (.ref 0), some (.ref 55), some (.ref 2), some (.int (nI x)), some (.int ((0 : Int32))), some (.int ((5 : Int32))), some (.int (was)), some (.int (b)), some (.int (nI v))], [.int (s_unl (a_kd (atC σ) x (nI v)) (tkC σ) (σ 56) z 0 (laneL n (σ 1 1) (σ 7) 0) (laneL n (σ 1 1) (σ 7) 1))], σ2)
      refine ev_br 1 [] (¬ (s_unl (a_kd (atC σ) x (nI v)) (tkC σ) (σ 56) z 0 (laneL n (σ 1 1) (σ 7) 0) (laneL n (σ 1 1) (σ 7) 1)) = (-1 : Int32)) 54 45 ([some (.ref 0), some (.ref 55), some (.ref 2), some (.int (nI x)), some (.int ((0 : Int32))), some (.int ((5 : Int32))), some (.int (was)), some (.int (b)), some (.int (nI v))], [], σ2) rfl ?_ (fun c42 => ?_) (fun c42 => ?_)
      · trivial
      · refine ev_blk 2 [] 24 ([some (.ref 0), some (.ref 55), some (.ref 2), some (.int (nI x)), some (.int ((0 : Int32))), some (.int ((5 : Int32))), some (.int (was)), some (.int (b)), some (.int ((nI v) + (1 : Int32)))], [], σ2) rfl ?_ ?_
        · trivial
        rw [nI_1]
        refine ih (v + 1) _ σ2 (by omega) (by omega) (fun c hc2 => (hf2 c (fun q => hc2 (List.mem_cons_of_mem _ q))).trans (hc c hc2)) (fun i hi => ?_) ?_
        · rw [hf2 2 (by decide), x_up_eq, upd_ne hi]; exact hrow i hi
        · rw [← hV]; conv => rhs; rw [s_tri]
          rw [if_neg c42]
      · refine ev_blk 8 [] 24 ([some (.ref 0), some (.ref 55), some (.ref 2), some (.int (nI x)), some (.int ((0 : Int32))), some (.int ((5 : Int32))), some (.int (was)), some (.int (b ||| ((1 : Int32) <<< ((nI v) &&& 31)))), some (.int ((nI v) + (1 : Int32)))], [], σ2) rfl ?_ ?_
        · trivial
        rw [nI_1]
        refine ih (v + 1) _ σ2 (by omega) (by omega) (fun c hc2 => (hf2 c (fun q => hc2 (List.mem_cons_of_mem _ q))).trans (hc c hc2)) (fun i hi => ?_) ?_
        · rw [hf2 2 (by decide), x_up_eq, upd_ne hi]; exact hrow i hi
        · rw [← hV]; conv => rhs; rw [s_tri]
          rw [if_pos (Classical.byContradiction c42)]
set_option maxRecDepth 100000 in
theorem c_tried3_2 (σ : xSg) (n : Nat) (hok : aOk (atC σ) n) (hn : σ 1 0 = nI n) (x : Nat) (hx : x < n) (z : Nat) (hz : σ 55 1 = nI z) (hz8 : z ≤ 8) : xCtr M_X5_tried [.ref 0, .ref 55, .ref 2, .int (nI x), .int ((0 : Int32)), .int ((5 : Int32))] σ (fun r σ2 => r = some (.int (s_tri (fun v => s_unl (a_kd (atC σ) x (nI v)) (tkC σ) (σ 56) z 0 (laneL n (σ 1 1) (σ 7) 0) (laneL n (σ 1 1) (σ 7) 1)) 6 0 0)) ∧ xFr scC σ σ2) := by
  refine ctr_ev ok_X5_tried (by decide +kernel) rfl rfl rfl ?_
  show xEv (.inl 6) M_X5_tried _ 0 ([some (.ref 0), some (.ref 55), some (.ref 2), some (.int (nI x)), some (.int ((0 : Int32))), some (.int ((5 : Int32))), none, none, none], [], σ)
  have hn10 := hok.1
  have hpc : (nI x).toNatClampNeg = x := nI_clamp (by omega)
  refine ev_br 1 [] ((nI x) < 0) 10 4 ([some (.ref 0), some (.ref 55), some (.ref 2), some (.int (nI x)), some (.int ((0 : Int32))), some (.int ((5 : Int32))), none, none, none], [], σ) rfl ?_ (fun c1 => ?_) (fun c1 => ?_)
  · trivial
  · exact absurd c1 (nI_pos (by omega))
  · refine ev_br 3 [] ((nI x) < (10 : Int32)) 12 10 ([some (.ref 0), some (.ref 55), some (.ref 2), some (.int (nI x)), some (.int ((0 : Int32))), some (.int ((5 : Int32))), none, none, none], [], σ) rfl ?_ (fun c7 => ?_) (fun c7 => ?_)
    · trivial
    · refine ev_blk 8 [vp_in (nI x) 10] 24 ([some (.ref 0), some (.ref 55), some (.ref 2), some (.int (nI x)), some (.int ((0 : Int32))), some (.int ((5 : Int32))), some (.int ((σ 2) (nI x).toNatClampNeg)), some (.int ((0 : Int32))), some (.int ((0 : Int32)))], [], σ) rfl ?_ ?_
      · exact vp_in_nI (by omega) (by decide)
      rw [hpc]
      exact c_tried3_2_lp σ n hok hn x hx z hz hz8 _ _ rfl 6 0 0 σ (by omega) (by omega) xFr.rf (fun _ _ => rfl) rfl
    · exact absurd (nI_lt (b := 10) (by omega) (by decide)) c7
set_option maxRecDepth 100000 in
theorem c_tried3_3_lp (σ : xSg) (n : Nat) (hok : aOk (atC σ) n) (hn : σ 1 0 = nI n) (x : Nat) (hx : x < n) (z : Nat) (hz : σ 55 1 = nI z) (hz8 : z ≤ 8) (V was : Int32) (hwas : was = σ 3 x) : ∀ (m v : Nat) (b : Int32) (σ1 : xSg), v + m = 10 → 1 ≤ v → xFr (3 :: scC) σ σ1 → (∀ i, i ≠ x → σ1 3 i = σ 3 i) → s_tri (fun v => s_unl (a_ln (atC σ) x (nI v)) (tkC σ) (σ 56) z 0 (laneL n (σ 1 1) (σ 7) 0) (laneL n (σ 1 1) (σ 7) 1)) m v b = V → xEv (.inl 6) M_X5_tried (fun r σ2 => r = some (.int V) ∧ xFr scC σ σ2) 24 ([some (.ref 0), some (.ref 55), some (.ref 3), some (.int (nI x)), some (.int ((1 : Int32))), some (.int ((9 : Int32))), some (.int (was)), some (.int (b)), some (.int (nI v))], [], σ1) := by
  have hn10 := hok.1
  have hpc : (nI x).toNatClampNeg = x := nI_clamp (by omega)
  intro m
  induction m with
  | zero =>
    intro v b σ1 hv hlv hfr hrow hV
    refine ev_br 2 [] ((9 : Int32) < (nI v)) 60 31 ([some (.ref 0), some (.ref 55), some (.ref 3), some (.int (nI x)), some (.int ((1 : Int32))), some (.int ((9 : Int32))), some (.int (was)), some (.int (b)), some (.int (nI v))], [], σ1) rfl ?_ (fun c28 => ?_) (fun c28 => ?_)
    · trivial
    · refine ev_blk 5 [vp_in (nI x) 10] 67 ([some (.ref 0), some (.ref 55), some (.ref 3), some (.int (nI x)), some (.int ((1 : Int32))), some (.int ((9 : Int32))), some (.int (was)), some (.int (b)), some (.int (nI v))], [.int (b)], (x_up σ1 3 (upd (σ1 3) (nI x).toNatClampNeg (was)))) rfl ?_ ?_
      · exact vp_in_nI (by omega) (by decide)
      rw [hpc]
      refine ev_iret rfl rfl rfl ⟨by rw [← hV]; rfl, fun c hc => ?_⟩
      by_cases hcr : c = 3
      · subst hcr; rw [x_up_eq]; exact upd_bk hrow hwas
      · rw [x_up_ne hcr]; exact hfr c (fun q => by rcases List.mem_cons.mp q with q | q; exact hcr q; exact hc q)
    · exact absurd (show (9 : Int32) < nI v from nI_lt (a := 9) (by omega) (by omega)) c28
  | succ m ih =>
    intro v b σ1 hv hlv hfr hrow hV
    refine ev_br 2 [] ((9 : Int32) < (nI v)) 60 31 ([some (.ref 0), some (.ref 55), some (.ref 3), some (.int (nI x)), some (.int ((1 : Int32))), some (.int ((9 : Int32))), some (.int (was)), some (.int (b)), some (.int (nI v))], [], σ1) rfl ?_ (fun c28 => ?_) (fun c28 => ?_)
    · trivial
    · exact absurd c28 (nI_nlt (a := 9) (by omega) (by omega))
    · refine ev_blk 6 [vp_in (nI x) 10] 38 ([some (.ref 0), some (.ref 55), some (.ref 3), some (.int (nI x)), some (.int ((1 : Int32))), some (.int ((9 : Int32))), some (.int (was)), some (.int (b)), some (.int (nI v))], [.ref 55, .ref 0], (x_up σ1 3 (upd (σ1 3) (nI x).toNatClampNeg (nI v)))) rfl ?_ ?_
      · exact vp_in_nI (by omega) (by decide)
      rw [hpc]
      have hc : ∀ c, c ∉ (3 :: scC) → (x_up σ1 3 (upd (σ1 3) x (nI v))) c = σ c := fun c hc => by rw [x_up_ne (fun q => hc (by rw [q]; exact List.mem_cons_self))]; exact hfr c hc
      have hat : atC (x_up σ1 3 (upd (σ1 3) x (nI v))) = a_ln (atC σ) x (nI v) := by unfold atC; rw [hc 2 (by decide), show (x_up σ1 3 (upd (σ1 3) x (nI v))) 3 = upd (σ 3) x (nI v) from (x_up_eq).trans (upd_ig hrow), hc 4 (by decide), hc 5 (by decide), hc 6 (by decide), hc 7 (by decide), hc 9 (by decide)]; rfl
      have htk : tkC (x_up σ1 3 (upd (σ1 3) x (nI v))) = tkC σ := by unfold tkC; rw [hc 10 (by decide)]
      refine ev_callV M_X5_firstOtherwise [.ref 55] [] 0 rfl rfl ln_X5_237 k_X5_firstOtherwise rfl rfl rfl rfl rfl rfl (c_first3 (x_up σ1 3 (upd (σ1 3) x (nI v))) n (by rw [hat]; exact aOk_ln hok (by omega) (by omega)) ((congrFun (hc 1 (by decide)) 0).trans hn) z ((congrFun (hc 55 (by decide)) 1).trans hz) hz8) ?_
      rintro r σ2 ⟨rfl, hf2⟩
      rw [hat, htk, hc 56 (by decide), hc 1 (by decide), hc 7 (by decide)]
      show xEv _ _ _ 41 ([some (.ref 0), some (.ref 55), some (.ref 3), some (.int (nI x)), some (.int ((1 : Int32))), some (.int ((9 : Int32))), some (.int (was)), some (.int (b)), some (.int (nI v))], [.int (s_unl (a_ln (atC σ) x (nI v)) (tkC σ) (σ 56) z 0 (laneL n (σ 1 1) (σ 7) 0) (laneL n (σ 1 1) (σ 7) 1))], σ2)
      refine ev_br 1 [] (¬ (s_unl (a_ln (atC σ) x (nI v)) (tkC σ) (σ 56) z 0 (laneL n (σ 1 1) (σ 7) 0) (laneL n (σ 1 1) (σ 7) 1)) = (-1 : Int32)) 54 45 ([some (.ref 0), some (.ref 55), some (.ref 3), some (.int (nI x)), some (.int ((1 : Int32))), some (.int ((9 : Int32))), some (.int (was)), some (.int (b)), some (.int (nI v))], [], σ2) rfl ?_ (fun c42 => ?_) (fun c42 => ?_)
      · trivial
      · refine ev_blk 2 [] 24 ([some (.ref 0), some (.ref 55), some (.ref 3), some (.int (nI x)), some (.int ((1 : Int32))), some (.int ((9 : Int32))), some (.int (was)), some (.int (b)), some (.int ((nI v) + (1 : Int32)))], [], σ2) rfl ?_ ?_
        · trivial
        rw [nI_1]
        refine ih (v + 1) _ σ2 (by omega) (by omega) (fun c hc2 => (hf2 c (fun q => hc2 (List.mem_cons_of_mem _ q))).trans (hc c hc2)) (fun i hi => ?_) ?_
        · rw [hf2 3 (by decide), x_up_eq, upd_ne hi]; exact hrow i hi
        · rw [← hV]; conv => rhs; rw [s_tri]
          rw [if_neg c42]
      · refine ev_blk 8 [] 24 ([some (.ref 0), some (.ref 55), some (.ref 3), some (.int (nI x)), some (.int ((1 : Int32))), some (.int ((9 : Int32))), some (.int (was)), some (.int (b ||| ((1 : Int32) <<< ((nI v) &&& 31)))), some (.int ((nI v) + (1 : Int32)))], [], σ2) rfl ?_ ?_
        · trivial
        rw [nI_1]
        refine ih (v + 1) _ σ2 (by omega) (by omega) (fun c hc2 => (hf2 c (fun q => hc2 (List.mem_cons_of_mem _ q))).trans (hc c hc2)) (fun i hi => ?_) ?_
        · rw [hf2 3 (by decide), x_up_eq, upd_ne hi]; exact hrow i hi
        · rw [← hV]; conv => rhs; rw [s_tri]
          rw [if_pos (Classical.byContradiction c42)]
set_option maxRecDepth 100000 in
theorem c_tried3_3 (σ : xSg) (n : Nat) (hok : aOk (atC σ) n) (hn : σ 1 0 = nI n) (x : Nat) (hx : x < n) (z : Nat) (hz : σ 55 1 = nI z) (hz8 : z ≤ 8) : xCtr M_X5_tried [.ref 0, .ref 55, .ref 3, .int (nI x), .int ((1 : Int32)), .int ((9 : Int32))] σ (fun r σ2 => r = some (.int (s_tri (fun v => s_unl (a_ln (atC σ) x (nI v)) (tkC σ) (σ 56) z 0 (laneL n (σ 1 1) (σ 7) 0) (laneL n (σ 1 1) (σ 7) 1)) 9 1 0)) ∧ xFr scC σ σ2) := by
  refine ctr_ev ok_X5_tried (by decide +kernel) rfl rfl rfl ?_
  show xEv (.inl 6) M_X5_tried _ 0 ([some (.ref 0), some (.ref 55), some (.ref 3), some (.int (nI x)), some (.int ((1 : Int32))), some (.int ((9 : Int32))), none, none, none], [], σ)
  have hn10 := hok.1
  have hpc : (nI x).toNatClampNeg = x := nI_clamp (by omega)
  refine ev_br 1 [] ((nI x) < 0) 10 4 ([some (.ref 0), some (.ref 55), some (.ref 3), some (.int (nI x)), some (.int ((1 : Int32))), some (.int ((9 : Int32))), none, none, none], [], σ) rfl ?_ (fun c1 => ?_) (fun c1 => ?_)
  · trivial
  · exact absurd c1 (nI_pos (by omega))
  · refine ev_br 3 [] ((nI x) < (10 : Int32)) 12 10 ([some (.ref 0), some (.ref 55), some (.ref 3), some (.int (nI x)), some (.int ((1 : Int32))), some (.int ((9 : Int32))), none, none, none], [], σ) rfl ?_ (fun c7 => ?_) (fun c7 => ?_)
    · trivial
    · refine ev_blk 8 [vp_in (nI x) 10] 24 ([some (.ref 0), some (.ref 55), some (.ref 3), some (.int (nI x)), some (.int ((1 : Int32))), some (.int ((9 : Int32))), some (.int ((σ 3) (nI x).toNatClampNeg)), some (.int ((0 : Int32))), some (.int ((1 : Int32)))], [], σ) rfl ?_ ?_
      · exact vp_in_nI (by omega) (by decide)
      rw [hpc]
      exact c_tried3_3_lp σ n hok hn x hx z hz hz8 _ _ rfl 9 1 0 σ (by omega) (by omega) xFr.rf (fun _ _ => rfl) rfl
    · exact absurd (nI_lt (b := 10) (by omega) (by decide)) c7
