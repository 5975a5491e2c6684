/-! load, in one value -/
abbrev r5 (z : Nat) (x : Int32) : Prop := ¬ x < 0 ∧ x.toNatClampNeg + 5 ≤ z
abbrev zShp (S : zS) (f : Nat → Int32) (p : Nat) : Int32 × zS := zShip S (f p) (f (p + 1)) (f (p + 2)) (f (p + 3)) (f (p + 4))
def zLdL (z : Nat) (f : Nat → Int32) (fr : Int32) : Nat → Nat → Nat → zS → Int32 × zS
  | 0, _, c, S => (nI c, S)
  | m + 1, k, c, S => if r5 z (fr + (5 : Int32) * nI k) then zLdL z f fr m (k + 1) (if (zShp S f (fr + (5 : Int32) * nI k).toNatClampNeg).1 < 0 then c else c + 1) (zShp S f (fr + (5 : Int32) * nI k).toNatClampNeg).2 else (-12, S)
def zLd (S : zS) (s so fr n : Int32) : Int32 × zS := if ¬ iN 4 s ∨ ¬ (so = 0 ∨ so = 1) ∨ n < 0 ∨ 10 < n then (-2, S) else if (S.2.2.2 s.toNatClampNeg).1 = -1 then (-11, S) else if ¬ (S.2.2.2 s.toNatClampNeg).1 = so then (-13, S) else zLdL (S.2.2.2 s.toNatClampNeg).2.1 (S.2.2.2 s.toNatClampNeg).2.2 fr n.toNatClampNeg 0 0 S
theorem zLdL_y {z m k c : Nat} {f : Nat → Int32} {fr : Int32} {S : zS} (h : r5 z (fr + (5 : Int32) * nI k)) : zLdL z f fr (m + 1) k c S = zLdL z f fr m (k + 1) (if (zShp S f (fr + (5 : Int32) * nI k).toNatClampNeg).1 < 0 then c else c + 1) (zShp S f (fr + (5 : Int32) * nI k).toNatClampNeg).2 := by
  show (if _ then _ else _) = _
  rw [if_pos h]
theorem zLdL_n {z m k c : Nat} {f : Nat → Int32} {fr : Int32} {S : zS} (h : ¬ r5 z (fr + (5 : Int32) * nI k)) : zLdL z f fr (m + 1) k c S = (-12, S) := by
  show (if _ then _ else _) = _
  rw [if_neg h]
theorem zShip_sh (S : zS) (la k ln fi lc : Int32) : (zShip S la k ln fi lc).2.2.2.2 = S.2.2.2 := by
  unfold zShip
  split
  · rfl
  · split <;> rfl
theorem so_loadL {z : Nat} {f : Nat → Int32} {fr : Int32} : ∀ (m k c : Nat) (S : zS), sOk S → sOk (zLdL z f fr m k c S).2
  | 0, _, _, S, ok => ok
  | m + 1, k, c, S, ok => by
    by_cases h : r5 z (fr + (5 : Int32) * nI k)
    · rw [zLdL_y h]
      exact so_loadL m (k + 1) _ _ (so_ship ok _ _ _ _ _)
    · rw [zLdL_n h]
      exact ok
theorem so_load {S : zS} (ok : sOk S) (s so fr n : Int32) : sOk (zLd S s so fr n).2 := by
  unfold zLd
  split
  · exact ok
  · split
    · exact ok
    · split
      · exact ok
      · exact so_loadL _ _ _ _ ok
theorem cl5 : (5 : Int32).toNatClampNeg = 5 := by decide
theorem r5_rn {z : Nat} {x : Int32} (hz : z ≤ 40) : r5 z x ↔ rnN z x 5 := by
  constructor
  · intro h
    exact rn_of h.1 (by decide) (by rw [cl5]; exact h.2)
  · intro h
    obtain ⟨h1, -, h3⟩ := rn_cl hz h
    rw [cl5] at h3
    exact ⟨h1, h3⟩
theorem ll_ab {n : Nat} {w : Int32} {La : Nat → Int32} (hn : n ≤ 10) : (laneL n w La 0).length + (laneL n w La 1).length ≤ n := by
  have hd : (laneL n w La 0 ++ laneL n w La 1).Nodup := List.nodup_append.mpr ⟨laneL_nodup _ _ _ _, laneL_nodup _ _ _ _, fun x hx y hy e => laneL_apart x hx (by rw [e]; exact hy)⟩
  have hm : ∀ x ∈ laneL n w La 0 ++ laneL n w La 1, x < n := fun x hx => by
    rcases List.mem_append.mp hx with q | q
    · exact (lnp_lt q).1
    · exact (lnp_lt q).1
  have h := fl_perm hd (fun x hx => by have := hm x hx; omega)
  have h2 : ((List.range 10).filter (fun x => decide (x ∈ laneL n w La 0 ++ laneL n w La 1))).length ≤ ((List.range 10).filter (fun x => decide (x < n))).length := fl_mono (fun x _ hp => decide_eq_true (hm x (of_decide_eq_true hp)))
  have h3 : ∀ m, m ≤ 10 → ((List.range 10).filter (fun x => decide (x < m))).length = m := by decide +kernel
  rw [h3 n hn, h, List.length_append] at h2
  exact h2
set_option maxRecDepth 100000 in
theorem c_load0_lp (so fr : Int32) (n z : Nat) (f : Nat → Int32) (hz : z ≤ 40) (hn : n ≤ 10) (σ : xSg) : ∀ (m k c : Nat) (S : zS) (σ1 : xSg), k + m = n → c ≤ k → sOk S → CH0 σ1 S → (S.2.2.2 0).2.1 = z → (S.2.2.2 0).2.2 = f → (∀ c, 57 ≤ c → σ1 c = σ c) → xEv (.inl 2) M_X5_load (zC σ (zLdL z f fr m k c S)) 74 ([some (.ref 0), some (.int ((0 : Int32))), some (.int (so)), some (.int (fr)), some (.int (nI n)), some (.ref 49), some (.int (nI c)), some (.int (nI k)), none, none, none], [], σ1) := by
  intro m
  induction m with
  | zero =>
    intro k c S σ1 hk hck ok hc ez ef hf
    refine ev_br 2 [] ((nI n) ≤ (nI k)) 170 81 ([some (.ref 0), some (.int ((0 : Int32))), some (.int (so)), some (.int (fr)), some (.int (nI n)), some (.ref 49), some (.int (nI c)), some (.int (nI k)), none, none, none], [], σ1) rfl ?_ (fun c78 => ?_) (fun c78 => ?_)
    · trivial
    · refine ev_blk 1 [] 172 ([some (.ref 0), some (.int ((0 : Int32))), some (.int (so)), some (.int (fr)), some (.int (nI n)), some (.ref 49), some (.int (nI c)), some (.int (nI k)), none, none, none], [.int (nI c)], σ1) rfl ?_ ?_
      · trivial
      exact ev_iret rfl rfl rfl ⟨rfl, hc, hf⟩
    · exact absurd (nI_le (by omega) (by omega)) c78
  | succ m ih =>
    intro k c S σ1 hk hck ok hc ez ef hf
    obtain ⟨-, -, h1, hi⟩ := hc.2.2.2.2.2 0 (by decide)
    rw [ez] at h1
    rw [ef] at hi
    refine ev_br 2 [] ((nI n) ≤ (nI k)) 170 81 ([some (.ref 0), some (.int ((0 : Int32))), some (.int (so)), some (.int (fr)), some (.int (nI n)), some (.ref 49), some (.int (nI c)), some (.int (nI k)), none, none, none], [], σ1) rfl ?_ (fun c78 => ?_) (fun c78 => ?_)
    · trivial
    · exact absurd c78 (nI_ge (by omega) (by omega))
    · refine ev_blk 9 [] 94 ([some (.ref 0), some (.int ((0 : Int32))), some (.int (so)), some (.int (fr)), some (.int (nI n)), some (.ref 49), some (.int (nI c)), some (.int (nI k)), some (.int (fr + ((5 : Int32) * (nI k)))), none, none], [.int ((5 : Int32)), .int (fr + ((5 : Int32) * (nI k))), .ref 49], σ1) rfl ?_ ?_
      · trivial
      refine ev_callV M_X4_hasRun [.int (fr + ((5 : Int32) * (nI k))), .int ((5 : Int32))] [] 49 rfl rfl ln_X5_266 k_X4_hasRun rfl rfl rfl rfl rfl rfl (c_hasRun0 _ _ _) ?_
      refine pu_k ?_
      show xEv _ _ _ 97 ([some (.ref 0), some (.int ((0 : Int32))), some (.int (so)), some (.int (fr)), some (.int (nI n)), some (.ref 49), some (.int (nI c)), some (.int (nI k)), some (.int (fr + ((5 : Int32) * (nI k)))), none, none], [.int (zi (¬ (fr + ((5 : Int32) * (nI k))) < 0 ∧ ¬ (5 : Int32) < 0 ∧ ¬ σ1 49 1 < (fr + ((5 : Int32) * (nI k))) ∧ ¬ σ1 49 1 - (fr + ((5 : Int32) * (nI k))) < (5 : Int32)))], σ1)
      refine ev_br 0 [] (¬ (zi (¬ (fr + ((5 : Int32) * (nI k))) < 0 ∧ ¬ (5 : Int32) < 0 ∧ ¬ σ1 49 1 < (fr + ((5 : Int32) * (nI k))) ∧ ¬ σ1 49 1 - (fr + ((5 : Int32) * (nI k))) < (5 : Int32))) = 0) 103 100 ([some (.ref 0), some (.int ((0 : Int32))), some (.int (so)), some (.int (fr)), some (.int (nI n)), some (.ref 49), some (.int (nI c)), some (.int (nI k)), some (.int (fr + ((5 : Int32) * (nI k)))), none, none], [], σ1) rfl ?_ (fun c97 => ?_) (fun c97 => ?_)
      · trivial
      · replace c97 := zi_1.mp c97
        have hr := (r5_rn hz).mpr ((rnC hz).mp (by rw [show σ1 49 1 = nI z from h1] at c97; exact c97))
        rw [zLdL_y hr]
        obtain ⟨p, hp, hat⟩ := nI_of hr.1
        have hp5 : p + 5 ≤ z := by have := hr.2; rw [hat, nI_clamp hp] at this; exact this
        rw [hat]
        have hp0 : (nI p).toNatClampNeg = p := nI_clamp hp
        have he1 : (nI p) + (1 : Int32) = nI (p + 1) := nI_add p 1
        have hp1 : ((nI p) + (1 : Int32)).toNatClampNeg = p + 1 := by rw [he1, nI_clamp (by omega)]
        have he2 : (nI p) + (2 : Int32) = nI (p + 2) := nI_add p 2
        have hp2 : ((nI p) + (2 : Int32)).toNatClampNeg = p + 2 := by rw [he2, nI_clamp (by omega)]
        have he3 : (nI p) + (3 : Int32) = nI (p + 3) := nI_add p 3
        have hp3 : ((nI p) + (3 : Int32)).toNatClampNeg = p + 3 := by rw [he3, nI_clamp (by omega)]
        have he4 : (nI p) + (4 : Int32) = nI (p + 4) := nI_add p 4
        have hp4 : ((nI p) + (4 : Int32)).toNatClampNeg = p + 4 := by rw [he4, nI_clamp (by omega)]
        rw [hp0]
        show xEv _ _ _ 103 ([some (.ref 0), some (.int ((0 : Int32))), some (.int (so)), some (.int (fr)), some (.int (nI n)), some (.ref 49), some (.int (nI c)), some (.int (nI k)), some (.int (nI p)), none, none], [], σ1)
        refine ev_blk 27 [vp_in (nI p) 40, vp_in ((nI p) + (1 : Int32)) 40, vp_in ((nI p) + (2 : Int32)) 40, vp_in ((nI p) + (3 : Int32)) 40, vp_in ((nI p) + (4 : Int32)) 40] 144 ([some (.ref 0), some (.int ((0 : Int32))), some (.int (so)), some (.int (fr)), some (.int (nI n)), some (.ref 49), some (.int (nI c)), some (.int (nI k)), some (.int (nI p)), some (.ref 50), none], [.int ((σ1 50) ((nI p) + (4 : Int32)).toNatClampNeg), .int ((σ1 50) ((nI p) + (3 : Int32)).toNatClampNeg), .int ((σ1 50) ((nI p) + (2 : Int32)).toNatClampNeg), .int ((σ1 50) ((nI p) + (1 : Int32)).toNatClampNeg), .int ((σ1 50) (nI p).toNatClampNeg), .ref 0], σ1) rfl ?_ ?_
        · exact ⟨(vp_in_nI (by omega) (by decide)), (by rw [he1]; exact vp_in_nI (by omega) (by decide)), (by rw [he2]; exact vp_in_nI (by omega) (by decide)), (by rw [he3]; exact vp_in_nI (by omega) (by decide)), (by rw [he4]; exact vp_in_nI (by omega) (by decide))⟩
        rw [hp1]
        rw [hp2]
        rw [hp3]
        rw [hp4]
        rw [hp0]
        rw [hi (p + 1) (by omega)]
        rw [hi (p + 2) (by omega)]
        rw [hi (p + 3) (by omega)]
        rw [hi (p + 4) (by omega)]
        rw [hi p (by omega)]
        refine ev_callV M_X5_ship [.int (f p), .int (f (p + 1)), .int (f (p + 2)), .int (f (p + 3)), .int (f (p + 4))] [] 0 rfl rfl ln_X5_278 k_X5_ship rfl rfl rfl rfl rfl rfl (c_ship _ S.1.1 hc.1.1 ok.1.1.1 _ _ _ _ _) ?_
        intro r σ' hq
        obtain ⟨rfl, hc', fr'⟩ := kc_ship hc hq
        show xEv _ _ _ 147 ([some (.ref 0), some (.int ((0 : Int32))), some (.int (so)), some (.int (fr)), some (.int (nI n)), some (.ref 49), some (.int (nI c)), some (.int (nI k)), some (.int (nI p)), some (.ref 50), none], [.int ((zShp S f p).1)], σ')
        refine ev_br 3 [] (((zShp S f p).1) < 0) 160 156 ([some (.ref 0), some (.int ((0 : Int32))), some (.int (so)), some (.int (fr)), some (.int (nI n)), some (.ref 49), some (.int (nI c)), some (.int (nI k)), some (.int (nI p)), some (.ref 50), some (.int ((zShp S f p).1))], [.int (nI c)], σ') rfl ?_ (fun c153 => ?_) (fun c153 => ?_)
        · trivial
        · refine ev_blk 5 [] 74 ([some (.ref 0), some (.int ((0 : Int32))), some (.int (so)), some (.int (fr)), some (.int (nI n)), some (.ref 49), some (.int ((nI c) + (0 : Int32))), some (.int ((nI k) + (1 : Int32))), some (.int (nI p)), some (.ref 50), some (.int ((zShp S f p).1))], [], σ') rfl ?_ ?_
          · trivial
          rw [if_pos c153, show nI c + (0 : Int32) = nI c from Int32.add_zero _, nI_1]
          refine ev_drop 8 (ev_drop 9 (ev_drop 10 ?_))
          exact ih (k + 1) c (zShp S f p).2 σ' (by omega) (by omega) (so_ship ok _ _ _ _ _) hc' (by rw [zShip_sh]; exact ez) (by rw [zShip_sh]; exact ef) (fun c hc => (fr' c hc).trans (hf c hc))
        · refine ev_blk 6 [] 74 ([some (.ref 0), some (.int ((0 : Int32))), some (.int (so)), some (.int (fr)), some (.int (nI n)), some (.ref 49), some (.int ((nI c) + (1 : Int32))), some (.int ((nI k) + (1 : Int32))), some (.int (nI p)), some (.ref 50), some (.int ((zShp S f p).1))], [], σ') rfl ?_ ?_
          · trivial
          rw [if_neg c153, nI_1, nI_1]
          refine ev_drop 8 (ev_drop 9 (ev_drop 10 ?_))
          exact ih (k + 1) (c + 1) (zShp S f p).2 σ' (by omega) (by omega) (so_ship ok _ _ _ _ _) hc' (by rw [zShip_sh]; exact ez) (by rw [zShip_sh]; exact ef) (fun c hc => (fr' c hc).trans (hf c hc))
      · replace c97 := zi_n.mp c97
        refine ev_blk 1 [] 102 ([some (.ref 0), some (.int ((0 : Int32))), some (.int (so)), some (.int (fr)), some (.int (nI n)), some (.ref 49), some (.int (nI c)), some (.int (nI k)), some (.int (fr + ((5 : Int32) * (nI k)))), none, none], [.int ((-12 : Int32))], σ1) rfl ?_ ?_
        · trivial
        have hno : ¬ r5 z (fr + (5 : Int32) * nI k) := fun q => c97 (by rw [show σ1 49 1 = nI z from h1]; exact (rnC hz).mpr ((r5_rn hz).mp q))
        rw [zLdL_n hno]
        exact ev_iret rfl rfl rfl ⟨rfl, hc, hf⟩
set_option maxRecDepth 100000 in
theorem c_load1_lp (so fr : Int32) (n z : Nat) (f : Nat → Int32) (hz : z ≤ 40) (hn : n ≤ 10) (σ : xSg) : ∀ (m k c : Nat) (S : zS) (σ1 : xSg), k + m = n → c ≤ k → sOk S → CH0 σ1 S → (S.2.2.2 1).2.1 = z → (S.2.2.2 1).2.2 = f → (∀ c, 57 ≤ c → σ1 c = σ c) → xEv (.inl 2) M_X5_load (zC σ (zLdL z f fr m k c S)) 74 ([some (.ref 0), some (.int ((1 : Int32))), some (.int (so)), some (.int (fr)), some (.int (nI n)), some (.ref 51), some (.int (nI c)), some (.int (nI k)), none, none, none], [], σ1) := by
  intro m
  induction m with
  | zero =>
    intro k c S σ1 hk hck ok hc ez ef hf
    refine ev_br 2 [] ((nI n) ≤ (nI k)) 170 81 ([some (.ref 0), some (.int ((1 : Int32))), some (.int (so)), some (.int (fr)), some (.int (nI n)), some (.ref 51), some (.int (nI c)), some (.int (nI k)), none, none, none], [], σ1) rfl ?_ (fun c78 => ?_) (fun c78 => ?_)
    · trivial
    · refine ev_blk 1 [] 172 ([some (.ref 0), some (.int ((1 : Int32))), some (.int (so)), some (.int (fr)), some (.int (nI n)), some (.ref 51), some (.int (nI c)), some (.int (nI k)), none, none, none], [.int (nI c)], σ1) rfl ?_ ?_
      · trivial
      exact ev_iret rfl rfl rfl ⟨rfl, hc, hf⟩
    · exact absurd (nI_le (by omega) (by omega)) c78
  | succ m ih =>
    intro k c S σ1 hk hck ok hc ez ef hf
    obtain ⟨-, -, h1, hi⟩ := hc.2.2.2.2.2 1 (by decide)
    rw [ez] at h1
    rw [ef] at hi
    refine ev_br 2 [] ((nI n) ≤ (nI k)) 170 81 ([some (.ref 0), some (.int ((1 : Int32))), some (.int (so)), some (.int (fr)), some (.int (nI n)), some (.ref 51), some (.int (nI c)), some (.int (nI k)), none, none, none], [], σ1) rfl ?_ (fun c78 => ?_) (fun c78 => ?_)
    · trivial
    · exact absurd c78 (nI_ge (by omega) (by omega))
    · refine ev_blk 9 [] 94 ([some (.ref 0), some (.int ((1 : Int32))), some (.int (so)), some (.int (fr)), some (.int (nI n)), some (.ref 51), some (.int (nI c)), some (.int (nI k)), some (.int (fr + ((5 : Int32) * (nI k)))), none, none], [.int ((5 : Int32)), .int (fr + ((5 : Int32) * (nI k))), .ref 51], σ1) rfl ?_ ?_
      · trivial
      refine ev_callV M_X4_hasRun [.int (fr + ((5 : Int32) * (nI k))), .int ((5 : Int32))] [] 51 rfl rfl ln_X5_266 k_X4_hasRun rfl rfl rfl rfl rfl rfl (c_hasRun1 _ _ _) ?_
      refine pu_k ?_
      show xEv _ _ _ 97 ([some (.ref 0), some (.int ((1 : Int32))), some (.int (so)), some (.int (fr)), some (.int (nI n)), some (.ref 51), some (.int (nI c)), some (.int (nI k)), some (.int (fr + ((5 : Int32) * (nI k)))), none, none], [.int (zi (¬ (fr + ((5 : Int32) * (nI k))) < 0 ∧ ¬ (5 : Int32) < 0 ∧ ¬ σ1 51 1 < (fr + ((5 : Int32) * (nI k))) ∧ ¬ σ1 51 1 - (fr + ((5 : Int32) * (nI k))) < (5 : Int32)))], σ1)
      refine ev_br 0 [] (¬ (zi (¬ (fr + ((5 : Int32) * (nI k))) < 0 ∧ ¬ (5 : Int32) < 0 ∧ ¬ σ1 51 1 < (fr + ((5 : Int32) * (nI k))) ∧ ¬ σ1 51 1 - (fr + ((5 : Int32) * (nI k))) < (5 : Int32))) = 0) 103 100 ([some (.ref 0), some (.int ((1 : Int32))), some (.int (so)), some (.int (fr)), some (.int (nI n)), some (.ref 51), some (.int (nI c)), some (.int (nI k)), some (.int (fr + ((5 : Int32) * (nI k)))), none, none], [], σ1) rfl ?_ (fun c97 => ?_) (fun c97 => ?_)
      · trivial
      · replace c97 := zi_1.mp c97
        have hr := (r5_rn hz).mpr ((rnC hz).mp (by rw [show σ1 51 1 = nI z from h1] at c97; exact c97))
        rw [zLdL_y hr]
        obtain ⟨p, hp, hat⟩ := nI_of hr.1
        have hp5 : p + 5 ≤ z := by have := hr.2; rw [hat, nI_clamp hp] at this; exact this
        rw [hat]
        have hp0 : (nI p).toNatClampNeg = p := nI_clamp hp
        have he1 : (nI p) + (1 : Int32) = nI (p + 1) := nI_add p 1
        have hp1 : ((nI p) + (1 : Int32)).toNatClampNeg = p + 1 := by rw [he1, nI_clamp (by omega)]
        have he2 : (nI p) + (2 : Int32) = nI (p + 2) := nI_add p 2
        have hp2 : ((nI p) + (2 : Int32)).toNatClampNeg = p + 2 := by rw [he2, nI_clamp (by omega)]
        have he3 : (nI p) + (3 : Int32) = nI (p + 3) := nI_add p 3
        have hp3 : ((nI p) + (3 : Int32)).toNatClampNeg = p + 3 := by rw [he3, nI_clamp (by omega)]
        have he4 : (nI p) + (4 : Int32) = nI (p + 4) := nI_add p 4
        have hp4 : ((nI p) + (4 : Int32)).toNatClampNeg = p + 4 := by rw [he4, nI_clamp (by omega)]
        rw [hp0]
        show xEv _ _ _ 103 ([some (.ref 0), some (.int ((1 : Int32))), some (.int (so)), some (.int (fr)), some (.int (nI n)), some (.ref 51), some (.int (nI c)), some (.int (nI k)), some (.int (nI p)), none, none], [], σ1)
        refine ev_blk 27 [vp_in (nI p) 40, vp_in ((nI p) + (1 : Int32)) 40, vp_in ((nI p) + (2 : Int32)) 40, vp_in ((nI p) + (3 : Int32)) 40, vp_in ((nI p) + (4 : Int32)) 40] 144 ([some (.ref 0), some (.int ((1 : Int32))), some (.int (so)), some (.int (fr)), some (.int (nI n)), some (.ref 51), some (.int (nI c)), some (.int (nI k)), some (.int (nI p)), some (.ref 52), none], [.int ((σ1 52) ((nI p) + (4 : Int32)).toNatClampNeg), .int ((σ1 52) ((nI p) + (3 : Int32)).toNatClampNeg), .int ((σ1 52) ((nI p) + (2 : Int32)).toNatClampNeg), .int ((σ1 52) ((nI p) + (1 : Int32)).toNatClampNeg), .int ((σ1 52) (nI p).toNatClampNeg), .ref 0], σ1) rfl ?_ ?_
        · exact ⟨(vp_in_nI (by omega) (by decide)), (by rw [he1]; exact vp_in_nI (by omega) (by decide)), (by rw [he2]; exact vp_in_nI (by omega) (by decide)), (by rw [he3]; exact vp_in_nI (by omega) (by decide)), (by rw [he4]; exact vp_in_nI (by omega) (by decide))⟩
        rw [hp1]
        rw [hp2]
        rw [hp3]
        rw [hp4]
        rw [hp0]
        rw [hi (p + 1) (by omega)]
        rw [hi (p + 2) (by omega)]
        rw [hi (p + 3) (by omega)]
        rw [hi (p + 4) (by omega)]
        rw [hi p (by omega)]
        refine ev_callV M_X5_ship [.int (f p), .int (f (p + 1)), .int (f (p + 2)), .int (f (p + 3)), .int (f (p + 4))] [] 0 rfl rfl ln_X5_278 k_X5_ship rfl rfl rfl rfl rfl rfl (c_ship _ S.1.1 hc.1.1 ok.1.1.1 _ _ _ _ _) ?_
        intro r σ' hq
        obtain ⟨rfl, hc', fr'⟩ := kc_ship hc hq
        show xEv _ _ _ 147 ([some (.ref 0), some (.int ((1 : Int32))), some (.int (so)), some (.int (fr)), some (.int (nI n)), some (.ref 51), some (.int (nI c)), some (.int (nI k)), some (.int (nI p)), some (.ref 52), none], [.int ((zShp S f p).1)], σ')
        refine ev_br 3 [] (((zShp S f p).1) < 0) 160 156 ([some (.ref 0), some (.int ((1 : Int32))), some (.int (so)), some (.int (fr)), some (.int (nI n)), some (.ref 51), some (.int (nI c)), some (.int (nI k)), some (.int (nI p)), some (.ref 52), some (.int ((zShp S f p).1))], [.int (nI c)], σ') rfl ?_ (fun c153 => ?_) (fun c153 => ?_)
        · trivial
        · refine ev_blk 5 [] 74 ([some (.ref 0), some (.int ((1 : Int32))), some (.int (so)), some (.int (fr)), some (.int (nI n)), some (.ref 51), some (.int ((nI c) + (0 : Int32))), some (.int ((nI k) + (1 : Int32))), some (.int (nI p)), some (.ref 52), some (.int ((zShp S f p).1))], [], σ') rfl ?_ ?_
          · trivial
          rw [if_pos c153, show nI c + (0 : Int32) = nI c from Int32.add_zero _, nI_1]
          refine ev_drop 8 (ev_drop 9 (ev_drop 10 ?_))
          exact ih (k + 1) c (zShp S f p).2 σ' (by omega) (by omega) (so_ship ok _ _ _ _ _) hc' (by rw [zShip_sh]; exact ez) (by rw [zShip_sh]; exact ef) (fun c hc => (fr' c hc).trans (hf c hc))
        · refine ev_blk 6 [] 74 ([some (.ref 0), some (.int ((1 : Int32))), some (.int (so)), some (.int (fr)), some (.int (nI n)), some (.ref 51), some (.int ((nI c) + (1 : Int32))), some (.int ((nI k) + (1 : Int32))), some (.int (nI p)), some (.ref 52), some (.int ((zShp S f p).1))], [], σ') rfl ?_ ?_
          · trivial
          rw [if_neg c153, nI_1, nI_1]
          refine ev_drop 8 (ev_drop 9 (ev_drop 10 ?_))
          exact ih (k + 1) (c + 1) (zShp S f p).2 σ' (by omega) (by omega) (so_ship ok _ _ _ _ _) hc' (by rw [zShip_sh]; exact ez) (by rw [zShip_sh]; exact ef) (fun c hc => (fr' c hc).trans (hf c hc))
      · replace c97 := zi_n.mp c97
        refine ev_blk 1 [] 102 ([some (.ref 0), some (.int ((1 : Int32))), some (.int (so)), some (.int (fr)), some (.int (nI n)), some (.ref 51), some (.int (nI c)), some (.int (nI k)), some (.int (fr + ((5 : Int32) * (nI k)))), none, none], [.int ((-12 : Int32))], σ1) rfl ?_ ?_
        · trivial
        have hno : ¬ r5 z (fr + (5 : Int32) * nI k) := fun q => c97 (by rw [show σ1 51 1 = nI z from h1]; exact (rnC hz).mpr ((r5_rn hz).mp q))
        rw [zLdL_n hno]
        exact ev_iret rfl rfl rfl ⟨rfl, hc, hf⟩
set_option maxRecDepth 100000 in
theorem c_load2_lp (so fr : Int32) (n z : Nat) (f : Nat → Int32) (hz : z ≤ 40) (hn : n ≤ 10) (σ : xSg) : ∀ (m k c : Nat) (S : zS) (σ1 : xSg), k + m = n → c ≤ k → sOk S → CH0 σ1 S → (S.2.2.2 2).2.1 = z → (S.2.2.2 2).2.2 = f → (∀ c, 57 ≤ c → σ1 c = σ c) → xEv (.inl 2) M_X5_load (zC σ (zLdL z f fr m k c S)) 74 ([some (.ref 0), some (.int ((2 : Int32))), some (.int (so)), some (.int (fr)), some (.int (nI n)), some (.ref 53), some (.int (nI c)), some (.int (nI k)), none, none, none], [], σ1) := by
  intro m
  induction m with
  | zero =>
    intro k c S σ1 hk hck ok hc ez ef hf
    refine ev_br 2 [] ((nI n) ≤ (nI k)) 170 81 ([some (.ref 0), some (.int ((2 : Int32))), some (.int (so)), some (.int (fr)), some (.int (nI n)), some (.ref 53), some (.int (nI c)), some (.int (nI k)), none, none, none], [], σ1) rfl ?_ (fun c78 => ?_) (fun c78 => ?_)
    · trivial
    · refine ev_blk 1 [] 172 ([some (.ref 0), some (.int ((2 : Int32))), some (.int (so)), some (.int (fr)), some (.int (nI n)), some (.ref 53), some (.int (nI c)), some (.int (nI k)), none, none, none], [.int (nI c)], σ1) rfl ?_ ?_
      · trivial
      exact ev_iret rfl rfl rfl ⟨rfl, hc, hf⟩
    · exact absurd (nI_le (by omega) (by omega)) c78
  | succ m ih =>
    intro k c S σ1 hk hck ok hc ez ef hf
    obtain ⟨-, -, h1, hi⟩ := hc.2.2.2.2.2 2 (by decide)
    rw [ez] at h1
    rw [ef] at hi
    refine ev_br 2 [] ((nI n) ≤ (nI k)) 170 81 ([some (.ref 0), some (.int ((2 : Int32))), some (.int (so)), some (.int (fr)), some (.int (nI n)), some (.ref 53), some (.int (nI c)), some (.int (nI k)), none, none, none], [], σ1) rfl ?_ (fun c78 => ?_) (fun c78 => ?_)
    · trivial
    · exact absurd c78 (nI_ge (by omega) (by omega))
    · refine ev_blk 9 [] 94 ([some (.ref 0), some (.int ((2 : Int32))), some (.int (so)), some (.int (fr)), some (.int (nI n)), some (.ref 53), some (.int (nI c)), some (.int (nI k)), some (.int (fr + ((5 : Int32) * (nI k)))), none, none], [.int ((5 : Int32)), .int (fr + ((5 : Int32) * (nI k))), .ref 53], σ1) rfl ?_ ?_
      · trivial
      refine ev_callV M_X4_hasRun [.int (fr + ((5 : Int32) * (nI k))), .int ((5 : Int32))] [] 53 rfl rfl ln_X5_266 k_X4_hasRun rfl rfl rfl rfl rfl rfl (c_hasRun2 _ _ _) ?_
      refine pu_k ?_
      show xEv _ _ _ 97 ([some (.ref 0), some (.int ((2 : Int32))), some (.int (so)), some (.int (fr)), some (.int (nI n)), some (.ref 53), some (.int (nI c)), some (.int (nI k)), some (.int (fr + ((5 : Int32) * (nI k)))), none, none], [.int (zi (¬ (fr + ((5 : Int32) * (nI k))) < 0 ∧ ¬ (5 : Int32) < 0 ∧ ¬ σ1 53 1 < (fr + ((5 : Int32) * (nI k))) ∧ ¬ σ1 53 1 - (fr + ((5 : Int32) * (nI k))) < (5 : Int32)))], σ1)
      refine ev_br 0 [] (¬ (zi (¬ (fr + ((5 : Int32) * (nI k))) < 0 ∧ ¬ (5 : Int32) < 0 ∧ ¬ σ1 53 1 < (fr + ((5 : Int32) * (nI k))) ∧ ¬ σ1 53 1 - (fr + ((5 : Int32) * (nI k))) < (5 : Int32))) = 0) 103 100 ([some (.ref 0), some (.int ((2 : Int32))), some (.int (so)), some (.int (fr)), some (.int (nI n)), some (.ref 53), some (.int (nI c)), some (.int (nI k)), some (.int (fr + ((5 : Int32) * (nI k)))), none, none], [], σ1) rfl ?_ (fun c97 => ?_) (fun c97 => ?_)
      · trivial
      · replace c97 := zi_1.mp c97
        have hr := (r5_rn hz).mpr ((rnC hz).mp (by rw [show σ1 53 1 = nI z from h1] at c97; exact c97))
        rw [zLdL_y hr]
        obtain ⟨p, hp, hat⟩ := nI_of hr.1
        have hp5 : p + 5 ≤ z := by have := hr.2; rw [hat, nI_clamp hp] at this; exact this
        rw [hat]
        have hp0 : (nI p).toNatClampNeg = p := nI_clamp hp
        have he1 : (nI p) + (1 : Int32) = nI (p + 1) := nI_add p 1
        have hp1 : ((nI p) + (1 : Int32)).toNatClampNeg = p + 1 := by rw [he1, nI_clamp (by omega)]
        have he2 : (nI p) + (2 : Int32) = nI (p + 2) := nI_add p 2
        have hp2 : ((nI p) + (2 : Int32)).toNatClampNeg = p + 2 := by rw [he2, nI_clamp (by omega)]
        have he3 : (nI p) + (3 : Int32) = nI (p + 3) := nI_add p 3
        have hp3 : ((nI p) + (3 : Int32)).toNatClampNeg = p + 3 := by rw [he3, nI_clamp (by omega)]
        have he4 : (nI p) + (4 : Int32) = nI (p + 4) := nI_add p 4
        have hp4 : ((nI p) + (4 : Int32)).toNatClampNeg = p + 4 := by rw [he4, nI_clamp (by omega)]
        rw [hp0]
        show xEv _ _ _ 103 ([some (.ref 0), some (.int ((2 : Int32))), some (.int (so)), some (.int (fr)), some (.int (nI n)), some (.ref 53), some (.int (nI c)), some (.int (nI k)), some (.int (nI p)), none, none], [], σ1)
        refine ev_blk 27 [vp_in (nI p) 40, vp_in ((nI p) + (1 : Int32)) 40, vp_in ((nI p) + (2 : Int32)) 40, vp_in ((nI p) + (3 : Int32)) 40, vp_in ((nI p) + (4 : Int32)) 40] 144 ([some (.ref 0), some (.int ((2 : Int32))), some (.int (so)), some (.int (fr)), some (.int (nI n)), some (.ref 53), some (.int (nI c)), some (.int (nI k)), some (.int (nI p)), some (.ref 54), none], [.int ((σ1 54) ((nI p) + (4 : Int32)).toNatClampNeg), .int ((σ1 54) ((nI p) + (3 : Int32)).toNatClampNeg), .int ((σ1 54) ((nI p) + (2 : Int32)).toNatClampNeg), .int ((σ1 54) ((nI p) + (1 : Int32)).toNatClampNeg), .int ((σ1 54) (nI p).toNatClampNeg), .ref 0], σ1) rfl ?_ ?_
        · exact ⟨(vp_in_nI (by omega) (by decide)), (by rw [he1]; exact vp_in_nI (by omega) (by decide)), (by rw [he2]; exact vp_in_nI (by omega) (by decide)), (by rw [he3]; exact vp_in_nI (by omega) (by decide)), (by rw [he4]; exact vp_in_nI (by omega) (by decide))⟩
        rw [hp1]
        rw [hp2]
        rw [hp3]
        rw [hp4]
        rw [hp0]
        rw [hi (p + 1) (by omega)]
        rw [hi (p + 2) (by omega)]
        rw [hi (p + 3) (by omega)]
        rw [hi (p + 4) (by omega)]
        rw [hi p (by omega)]
        refine ev_callV M_X5_ship [.int (f p), .int (f (p + 1)), .int (f (p + 2)), .int (f (p + 3)), .int (f (p + 4))] [] 0 rfl rfl ln_X5_278 k_X5_ship rfl rfl rfl rfl rfl rfl (c_ship _ S.1.1 hc.1.1 ok.1.1.1 _ _ _ _ _) ?_
        intro r σ' hq
        obtain ⟨rfl, hc', fr'⟩ := kc_ship hc hq
        show xEv _ _ _ 147 ([some (.ref 0), some (.int ((2 : Int32))), some (.int (so)), some (.int (fr)), some (.int (nI n)), some (.ref 53), some (.int (nI c)), some (.int (nI k)), some (.int (nI p)), some (.ref 54), none], [.int ((zShp S f p).1)], σ')
        refine ev_br 3 [] (((zShp S f p).1) < 0) 160 156 ([some (.ref 0), some (.int ((2 : Int32))), some (.int (so)), some (.int (fr)), some (.int (nI n)), some (.ref 53), some (.int (nI c)), some (.int (nI k)), some (.int (nI p)), some (.ref 54), some (.int ((zShp S f p).1))], [.int (nI c)], σ') rfl ?_ (fun c153 => ?_) (fun c153 => ?_)
        · trivial
        · refine ev_blk 5 [] 74 ([some (.ref 0), some (.int ((2 : Int32))), some (.int (so)), some (.int (fr)), some (.int (nI n)), some (.ref 53), some (.int ((nI c) + (0 : Int32))), some (.int ((nI k) + (1 : Int32))), some (.int (nI p)), some (.ref 54), some (.int ((zShp S f p).1))], [], σ') rfl ?_ ?_
          · trivial
          rw [if_pos c153, show nI c + (0 : Int32) = nI c from Int32.add_zero _, nI_1]
          refine ev_drop 8 (ev_drop 9 (ev_drop 10 ?_))
          exact ih (k + 1) c (zShp S f p).2 σ' (by omega) (by omega) (so_ship ok _ _ _ _ _) hc' (by rw [zShip_sh]; exact ez) (by rw [zShip_sh]; exact ef) (fun c hc => (fr' c hc).trans (hf c hc))
        · refine ev_blk 6 [] 74 ([some (.ref 0), some (.int ((2 : Int32))), some (.int (so)), some (.int (fr)), some (.int (nI n)), some (.ref 53), some (.int ((nI c) + (1 : Int32))), some (.int ((nI k) + (1 : Int32))), some (.int (nI p)), some (.ref 54), some (.int ((zShp S f p).1))], [], σ') rfl ?_ ?_
          · trivial
          rw [if_neg c153, nI_1, nI_1]
          refine ev_drop 8 (ev_drop 9 (ev_drop 10 ?_))
          exact ih (k + 1) (c + 1) (zShp S f p).2 σ' (by omega) (by omega) (so_ship ok _ _ _ _ _) hc' (by rw [zShip_sh]; exact ez) (by rw [zShip_sh]; exact ef) (fun c hc => (fr' c hc).trans (hf c hc))
      · replace c97 := zi_n.mp c97
        refine ev_blk 1 [] 102 ([some (.ref 0), some (.int ((2 : Int32))), some (.int (so)), some (.int (fr)), some (.int (nI n)), some (.ref 53), some (.int (nI c)), some (.int (nI k)), some (.int (fr + ((5 : Int32) * (nI k)))), none, none], [.int ((-12 : Int32))], σ1) rfl ?_ ?_
        · trivial
        have hno : ¬ r5 z (fr + (5 : Int32) * nI k) := fun q => c97 (by rw [show σ1 53 1 = nI z from h1]; exact (rnC hz).mpr ((r5_rn hz).mp q))
        rw [zLdL_n hno]
        exact ev_iret rfl rfl rfl ⟨rfl, hc, hf⟩
set_option maxRecDepth 100000 in
theorem c_load3_lp (so fr : Int32) (n z : Nat) (f : Nat → Int32) (hz : z ≤ 40) (hn : n ≤ 10) (σ : xSg) : ∀ (m k c : Nat) (S : zS) (σ1 : xSg), k + m = n → c ≤ k → sOk S → CH0 σ1 S → (S.2.2.2 3).2.1 = z → (S.2.2.2 3).2.2 = f → (∀ c, 57 ≤ c → σ1 c = σ c) → xEv (.inl 2) M_X5_load (zC σ (zLdL z f fr m k c S)) 74 ([some (.ref 0), some (.int ((3 : Int32))), some (.int (so)), some (.int (fr)), some (.int (nI n)), some (.ref 55), some (.int (nI c)), some (.int (nI k)), none, none, none], [], σ1) := by
  intro m
  induction m with
  | zero =>
    intro k c S σ1 hk hck ok hc ez ef hf
    refine ev_br 2 [] ((nI n) ≤ (nI k)) 170 81 ([some (.ref 0), some (.int ((3 : Int32))), some (.int (so)), some (.int (fr)), some (.int (nI n)), some (.ref 55), some (.int (nI c)), some (.int (nI k)), none, none, none], [], σ1) rfl ?_ (fun c78 => ?_) (fun c78 => ?_)
    · trivial
    · refine ev_blk 1 [] 172 ([some (.ref 0), some (.int ((3 : Int32))), some (.int (so)), some (.int (fr)), some (.int (nI n)), some (.ref 55), some (.int (nI c)), some (.int (nI k)), none, none, none], [.int (nI c)], σ1) rfl ?_ ?_
      · trivial
      exact ev_iret rfl rfl rfl ⟨rfl, hc, hf⟩
    · exact absurd (nI_le (by omega) (by omega)) c78
  | succ m ih =>
    intro k c S σ1 hk hck ok hc ez ef hf
    obtain ⟨-, -, h1, hi⟩ := hc.2.2.2.2.2 3 (by decide)
    rw [ez] at h1
    rw [ef] at hi
    refine ev_br 2 [] ((nI n) ≤ (nI k)) 170 81 ([some (.ref 0), some (.int ((3 : Int32))), some (.int (so)), some (.int (fr)), some (.int (nI n)), some (.ref 55), some (.int (nI c)), some (.int (nI k)), none, none, none], [], σ1) rfl ?_ (fun c78 => ?_) (fun c78 => ?_)
    · trivial
    · exact absurd c78 (nI_ge (by omega) (by omega))
    · refine ev_blk 9 [] 94 ([some (.ref 0), some (.int ((3 : Int32))), some (.int (so)), some (.int (fr)), some (.int (nI n)), some (.ref 55), some (.int (nI c)), some (.int (nI k)), some (.int (fr + ((5 : Int32) * (nI k)))), none, none], [.int ((5 : Int32)), .int (fr + ((5 : Int32) * (nI k))), .ref 55], σ1) rfl ?_ ?_
      · trivial
      refine ev_callV M_X4_hasRun [.int (fr + ((5 : Int32) * (nI k))), .int ((5 : Int32))] [] 55 rfl rfl ln_X5_266 k_X4_hasRun rfl rfl rfl rfl rfl rfl (c_hasRun3 _ _ _) ?_
      refine pu_k ?_
      show xEv _ _ _ 97 ([some (.ref 0), some (.int ((3 : Int32))), some (.int (so)), some (.int (fr)), some (.int (nI n)), some (.ref 55), some (.int (nI c)), some (.int (nI k)), some (.int (fr + ((5 : Int32) * (nI k)))), none, none], [.int (zi (¬ (fr + ((5 : Int32) * (nI k))) < 0 ∧ ¬ (5 : Int32) < 0 ∧ ¬ σ1 55 1 < (fr + ((5 : Int32) * (nI k))) ∧ ¬ σ1 55 1 - (fr + ((5 : Int32) * (nI k))) < (5 : Int32)))], σ1)
      refine ev_br 0 [] (¬ (zi (¬ (fr + ((5 : Int32) * (nI k))) < 0 ∧ ¬ (5 : Int32) < 0 ∧ ¬ σ1 55 1 < (fr + ((5 : Int32) * (nI k))) ∧ ¬ σ1 55 1 - (fr + ((5 : Int32) * (nI k))) < (5 : Int32))) = 0) 103 100 ([some (.ref 0), some (.int ((3 : Int32))), some (.int (so)), some (.int (fr)), some (.int (nI n)), some (.ref 55), some (.int (nI c)), some (.int (nI k)), some (.int (fr + ((5 : Int32) * (nI k)))), none, none], [], σ1) rfl ?_ (fun c97 => ?_) (fun c97 => ?_)
      · trivial
      · replace c97 := zi_1.mp c97
        have hr := (r5_rn hz).mpr ((rnC hz).mp (by rw [show σ1 55 1 = nI z from h1] at c97; exact c97))
        rw [zLdL_y hr]
        obtain ⟨p, hp, hat⟩ := nI_of hr.1
        have hp5 : p + 5 ≤ z := by have := hr.2; rw [hat, nI_clamp hp] at this; exact this
        rw [hat]
        have hp0 : (nI p).toNatClampNeg = p := nI_clamp hp
        have he1 : (nI p) + (1 : Int32) = nI (p + 1) := nI_add p 1
        have hp1 : ((nI p) + (1 : Int32)).toNatClampNeg = p + 1 := by rw [he1, nI_clamp (by omega)]
        have he2 : (nI p) + (2 : Int32) = nI (p + 2) := nI_add p 2
        have hp2 : ((nI p) + (2 : Int32)).toNatClampNeg = p + 2 := by rw [he2, nI_clamp (by omega)]
        have he3 : (nI p) + (3 : Int32) = nI (p + 3) := nI_add p 3
        have hp3 : ((nI p) + (3 : Int32)).toNatClampNeg = p + 3 := by rw [he3, nI_clamp (by omega)]
        have he4 : (nI p) + (4 : Int32) = nI (p + 4) := nI_add p 4
        have hp4 : ((nI p) + (4 : Int32)).toNatClampNeg = p + 4 := by rw [he4, nI_clamp (by omega)]
        rw [hp0]
        show xEv _ _ _ 103 ([some (.ref 0), some (.int ((3 : Int32))), some (.int (so)), some (.int (fr)), some (.int (nI n)), some (.ref 55), some (.int (nI c)), some (.int (nI k)), some (.int (nI p)), none, none], [], σ1)
        refine ev_blk 27 [vp_in (nI p) 40, vp_in ((nI p) + (1 : Int32)) 40, vp_in ((nI p) + (2 : Int32)) 40, vp_in ((nI p) + (3 : Int32)) 40, vp_in ((nI p) + (4 : Int32)) 40] 144 ([some (.ref 0), some (.int ((3 : Int32))), some (.int (so)), some (.int (fr)), some (.int (nI n)), some (.ref 55), some (.int (nI c)), some (.int (nI k)), some (.int (nI p)), some (.ref 56), none], [.int ((σ1 56) ((nI p) + (4 : Int32)).toNatClampNeg), .int ((σ1 56) ((nI p) + (3 : Int32)).toNatClampNeg), .int ((σ1 56) ((nI p) + (2 : Int32)).toNatClampNeg), .int ((σ1 56) ((nI p) + (1 : Int32)).toNatClampNeg), .int ((σ1 56) (nI p).toNatClampNeg), .ref 0], σ1) rfl ?_ ?_
        · exact ⟨(vp_in_nI (by omega) (by decide)), (by rw [he1]; exact vp_in_nI (by omega) (by decide)), (by rw [he2]; exact vp_in_nI (by omega) (by decide)), (by rw [he3]; exact vp_in_nI (by omega) (by decide)), (by rw [he4]; exact vp_in_nI (by omega) (by decide))⟩
        rw [hp1]
        rw [hp2]
        rw [hp3]
        rw [hp4]
        rw [hp0]
        rw [hi (p + 1) (by omega)]
        rw [hi (p + 2) (by omega)]
        rw [hi (p + 3) (by omega)]
        rw [hi (p + 4) (by omega)]
        rw [hi p (by omega)]
        refine ev_callV M_X5_ship [.int (f p), .int (f (p + 1)), .int (f (p + 2)), .int (f (p + 3)), .int (f (p + 4))] [] 0 rfl rfl ln_X5_278 k_X5_ship rfl rfl rfl rfl rfl rfl (c_ship _ S.1.1 hc.1.1 ok.1.1.1 _ _ _ _ _) ?_
        intro r σ' hq
        obtain ⟨rfl, hc', fr'⟩ := kc_ship hc hq
        show xEv _ _ _ 147 ([some (.ref 0), some (.int ((3 : Int32))), some (.int (so)), some (.int (fr)), some (.int (nI n)), some (.ref 55), some (.int (nI c)), some (.int (nI k)), some (.int (nI p)), some (.ref 56), none], [.int ((zShp S f p).1)], σ')
        refine ev_br 3 [] (((zShp S f p).1) < 0) 160 156 ([some (.ref 0), some (.int ((3 : Int32))), some (.int (so)), some (.int (fr)), some (.int (nI n)), some (.ref 55), some (.int (nI c)), some (.int (nI k)), some (.int (nI p)), some (.ref 56), some (.int ((zShp S f p).1))], [.int (nI c)], σ') rfl ?_ (fun c153 => ?_) (fun c153 => ?_)
        · trivial
        · refine ev_blk 5 [] 74 ([some (.ref 0), some (.int ((3 : Int32))), some (.int (so)), some (.int (fr)), some (.int (nI n)), some (.ref 55), some (.int ((nI c) + (0 : Int32))), some (.int ((nI k) + (1 : Int32))), some (.int (nI p)), some (.ref 56), some (.int ((zShp S f p).1))], [], σ') rfl ?_ ?_
          · trivial
          rw [if_pos c153, show nI c + (0 : Int32) = nI c from Int32.add_zero _, nI_1]
          refine ev_drop 8 (ev_drop 9 (ev_drop 10 ?_))
          exact ih (k + 1) c (zShp S f p).2 σ' (by omega) (by omega) (so_ship ok _ _ _ _ _) hc' (by rw [zShip_sh]; exact ez) (by rw [zShip_sh]; exact ef) (fun c hc => (fr' c hc).trans (hf c hc))
        · refine ev_blk 6 [] 74 ([some (.ref 0), some (.int ((3 : Int32))), some (.int (so)), some (.int (fr)), some (.int (nI n)), some (.ref 55), some (.int ((nI c) + (1 : Int32))), some (.int ((nI k) + (1 : Int32))), some (.int (nI p)), some (.ref 56), some (.int ((zShp S f p).1))], [], σ') rfl ?_ ?_
          · trivial
          rw [if_neg c153, nI_1, nI_1]
          refine ev_drop 8 (ev_drop 9 (ev_drop 10 ?_))
          exact ih (k + 1) (c + 1) (zShp S f p).2 σ' (by omega) (by omega) (so_ship ok _ _ _ _ _) hc' (by rw [zShip_sh]; exact ez) (by rw [zShip_sh]; exact ef) (fun c hc => (fr' c hc).trans (hf c hc))
      · replace c97 := zi_n.mp c97
        refine ev_blk 1 [] 102 ([some (.ref 0), some (.int ((3 : Int32))), some (.int (so)), some (.int (fr)), some (.int (nI n)), some (.ref 55), some (.int (nI c)), some (.int (nI k)), some (.int (fr + ((5 : Int32) * (nI k)))), none, none], [.int ((-12 : Int32))], σ1) rfl ?_ ?_
        · trivial
        have hno : ¬ r5 z (fr + (5 : Int32) * nI k) := fun q => c97 (by rw [show σ1 55 1 = nI z from h1]; exact (rnC hz).mpr ((r5_rn hz).mp q))
        rw [zLdL_n hno]
        exact ev_iret rfl rfl rfl ⟨rfl, hc, hf⟩
set_option maxRecDepth 100000 in
theorem c_load0 (σ : xSg) (S : zS) (ok : sOk S) (hc : CH0 σ S) (so fr n : Int32) : xCtr M_X5_load [.ref 0, .int ((0 : Int32)), .int (so), .int (fr), .int (n)] σ (zC σ (zLd S (nI 0) so fr n)) := by
  refine ctr_ev ok_X5_load (by decide +kernel) rfl rfl rfl ?_
  show xEv (.inl 2) M_X5_load _ 0 ([some (.ref 0), some (.int ((0 : Int32))), some (.int (so)), some (.int (fr)), some (.int (n)), none, none, none, none, none, none], [], σ)
  have hg : iN 4 (nI 0) := iN_nI (by decide) (by decide)
  obtain ⟨ho, h0, h1, hi⟩ := hc.2.2.2.2.2 0 (by decide)
  have hcl : (nI 0).toNatClampNeg = 0 := rfl
  refine ev_blk 1 [] 1 ([some (.ref 0), some (.int ((0 : Int32))), some (.int (so)), some (.int (fr)), some (.int (n)), none, none, none, none, none, none], [.int ((0 : Int32))], σ) rfl ?_ ?_
  · trivial
  refine ev_callS M_X5_isSheet [.int ((0 : Int32))] [] rfl rfl ln_X5_229 k_X5_isSheet rfl rfl rfl (c_isSheet _ _) ?_
  refine pu_k ?_
  rw [zi_t (show ¬ ((0 : Int32)) < 0 ∧ ¬ (4 : Int32) ≤ ((0 : Int32)) by decide)]
  show xEv _ _ _ 4 ([some (.ref 0), some (.int ((0 : Int32))), some (.int (so)), some (.int (fr)), some (.int (n)), none, none, none, none, none, none], [.int ((1 : Int32))], σ)
  refine ev_br 0 [] ((1 : Int32) = 0) 26 7 ([some (.ref 0), some (.int ((0 : Int32))), some (.int (so)), some (.int (fr)), some (.int (n)), none, none, none, none, none, none], [], σ) rfl ?_ (fun c4 => ?_) (fun c4 => ?_)
  · trivial
  · exact absurd c4 (by decide)
  · refine ev_blk 1 [] 8 ([some (.ref 0), some (.int ((0 : Int32))), some (.int (so)), some (.int (fr)), some (.int (n)), none, none, none, none, none, none], [.int (so)], σ) rfl ?_ ?_
    · trivial
    refine ev_callS M_X5_isSort [.int (so)] [] rfl rfl ln_X5_257 k_X5_isSort rfl rfl rfl (c_isSort _ _) ?_
    refine pu_k ?_
    show xEv _ _ _ 11 ([some (.ref 0), some (.int ((0 : Int32))), some (.int (so)), some (.int (fr)), some (.int (n)), none, none, none, none, none, none], [.int (zi (so = 0 ∨ so = 1))], σ)
    refine ev_br 0 [] ((zi (so = 0 ∨ so = 1)) = 0) 26 14 ([some (.ref 0), some (.int ((0 : Int32))), some (.int (so)), some (.int (fr)), some (.int (n)), none, none, none, none, none, none], [], σ) rfl ?_ (fun c11 => ?_) (fun c11 => ?_)
    · trivial
    · replace c11 := zi_0.mp c11
      refine ev_blk 1 [] 28 ([some (.ref 0), some (.int ((0 : Int32))), some (.int (so)), some (.int (fr)), some (.int (n)), none, none, none, none, none, none], [.int ((-2 : Int32))], σ) rfl ?_ ?_
      · trivial
      have e : zLd S (nI 0) so fr n = (-2, S) := by rw [zLd, if_pos (Or.inr (Or.inl c11))]
      rw [e]
      exact ev_iret rfl rfl rfl ⟨rfl, hc, fun _ _ => rfl⟩
    · replace c11 := zi_1.mp c11
      refine ev_br 1 [] (n < 0) 26 19 ([some (.ref 0), some (.int ((0 : Int32))), some (.int (so)), some (.int (fr)), some (.int (n)), none, none, none, none, none, none], [], σ) rfl ?_ (fun c16 => ?_) (fun c16 => ?_)
      · trivial
      · refine ev_blk 1 [] 28 ([some (.ref 0), some (.int ((0 : Int32))), some (.int (so)), some (.int (fr)), some (.int (n)), none, none, none, none, none, none], [.int ((-2 : Int32))], σ) rfl ?_ ?_
        · trivial
        have e : zLd S (nI 0) so fr n = (-2, S) := by rw [zLd, if_pos (Or.inr (Or.inr (Or.inl c16)))]
        rw [e]
        exact ev_iret rfl rfl rfl ⟨rfl, hc, fun _ _ => rfl⟩
      · refine ev_br 2 [] (n ≤ (10 : Int32)) 29 26 ([some (.ref 0), some (.int ((0 : Int32))), some (.int (so)), some (.int (fr)), some (.int (n)), none, none, none, none, none, none], [], σ) rfl ?_ (fun c23 => ?_) (fun c23 => ?_)
        · trivial
        · obtain ⟨n, hn, rfl⟩ := nI_of2 (M := 10) (n := 10) (by decide) c16 c23
          have hv : ¬ (¬ iN 4 (nI 0) ∨ ¬ (so = 0 ∨ so = 1) ∨ nI n < 0 ∨ 10 < nI n) := by rintro (q | q | q | q); exact q hg; exact q c11; exact c16 q; exact absurd q (Int32.not_lt.mpr c23)
          refine ev_blk 6 [vp_in ((0 : Int32)) 4] 39 ([some (.ref 0), some (.int ((0 : Int32))), some (.int (so)), some (.int (fr)), some (.int (nI n)), some (.ref 49), none, none, none, none, none], [.ref 49], σ) rfl ?_ ?_
          · exact (vp_in_nI (n := 0) (by decide) (by decide))
          refine ev_callV M_X4_isMissing [] [] 49 rfl rfl ln_X5_232 k_X4_isMissing rfl rfl rfl rfl rfl rfl (c_isMissing0 _) ?_
          refine pu_k ?_
          show xEv _ _ _ 42 ([some (.ref 0), some (.int ((0 : Int32))), some (.int (so)), some (.int (fr)), some (.int (nI n)), some (.ref 49), none, none, none, none, none], [.int (zi (σ 49 0 = -1))], σ)
          refine ev_br 0 [] (¬ (zi (σ 49 0 = -1)) = 0) 57 45 ([some (.ref 0), some (.int ((0 : Int32))), some (.int (so)), some (.int (fr)), some (.int (nI n)), some (.ref 49), none, none, none, none, none], [], σ) rfl ?_ (fun c42 => ?_) (fun c42 => ?_)
          · trivial
          · replace c42 := zi_1.mp c42
            refine ev_blk 1 [] 59 ([some (.ref 0), some (.int ((0 : Int32))), some (.int (so)), some (.int (fr)), some (.int (nI n)), some (.ref 49), none, none, none, none, none], [.ref 49], σ) rfl ?_ ?_
            · trivial
            refine ev_callV M_X4_isMissing [] [] 49 rfl rfl ln_X5_232 k_X4_isMissing rfl rfl rfl rfl rfl rfl (c_isMissing0 _) ?_
            refine pu_k ?_
            show xEv _ _ _ 62 ([some (.ref 0), some (.int ((0 : Int32))), some (.int (so)), some (.int (fr)), some (.int (nI n)), some (.ref 49), none, none, none, none, none], [.int (zi (σ 49 0 = -1))], σ)
            refine ev_br 0 [] ((zi (σ 49 0 = -1)) = 0) 68 65 ([some (.ref 0), some (.int ((0 : Int32))), some (.int (so)), some (.int (fr)), some (.int (nI n)), some (.ref 49), none, none, none, none, none], [], σ) rfl ?_ (fun c62 => ?_) (fun c62 => ?_)
            · trivial
            · exact absurd c42 (zi_0.mp c62)
            · replace c62 := zi_1.mp c62
              refine ev_blk 1 [] 67 ([some (.ref 0), some (.int ((0 : Int32))), some (.int (so)), some (.int (fr)), some (.int (nI n)), some (.ref 49), none, none, none, none, none], [.int ((-11 : Int32))], σ) rfl ?_ ?_
              · trivial
              have e : zLd S (nI 0) so fr (nI n) = (-11, S) := by rw [zLd, if_neg hv, hcl, if_pos (h0.symm.trans c42)]
              rw [e]
              exact ev_iret rfl rfl rfl ⟨rfl, hc, fun _ _ => rfl⟩
          · replace c42 := zi_n.mp c42
            refine ev_br 3 [] ((σ 49 0) = so) 57 54 ([some (.ref 0), some (.int ((0 : Int32))), some (.int (so)), some (.int (fr)), some (.int (nI n)), some (.ref 49), none, none, none, none, none], [], σ) rfl ?_ (fun c51 => ?_) (fun c51 => ?_)
            · trivial
            · refine ev_blk 1 [] 59 ([some (.ref 0), some (.int ((0 : Int32))), some (.int (so)), some (.int (fr)), some (.int (nI n)), some (.ref 49), none, none, none, none, none], [.ref 49], σ) rfl ?_ ?_
              · trivial
              refine ev_callV M_X4_isMissing [] [] 49 rfl rfl ln_X5_232 k_X4_isMissing rfl rfl rfl rfl rfl rfl (c_isMissing0 _) ?_
              refine pu_k ?_
              show xEv _ _ _ 62 ([some (.ref 0), some (.int ((0 : Int32))), some (.int (so)), some (.int (fr)), some (.int (nI n)), some (.ref 49), none, none, none, none, none], [.int (zi (σ 49 0 = -1))], σ)
              refine ev_br 0 [] ((zi (σ 49 0 = -1)) = 0) 68 65 ([some (.ref 0), some (.int ((0 : Int32))), some (.int (so)), some (.int (fr)), some (.int (nI n)), some (.ref 49), none, none, none, none, none], [], σ) rfl ?_ (fun c62 => ?_) (fun c62 => ?_)
              · trivial
              · replace c62 := zi_0.mp c62
                refine ev_blk 4 [] 74 ([some (.ref 0), some (.int ((0 : Int32))), some (.int (so)), some (.int (fr)), some (.int (nI n)), some (.ref 49), some (.int ((0 : Int32))), some (.int ((0 : Int32))), none, none, none], [], σ) rfl ?_ ?_
                · trivial
                have e : zLd S (nI 0) so fr (nI n) = zLdL (S.2.2.2 0).2.1 (S.2.2.2 0).2.2 fr n 0 0 S := by rw [zLd, if_neg hv, hcl, if_neg (fun q => c42 (h0.trans q)), if_neg (fun q => q (h0.symm.trans c51)), nI_clamp (by omega)]
                rw [e]
                exact c_load0_lp so fr n _ _ ho.2 hn σ n 0 0 S σ (by omega) (Nat.le_refl _) ok hc rfl rfl (fun _ _ => rfl)
              · exact absurd (zi_1.mp c62) c42
            · refine ev_blk 1 [] 56 ([some (.ref 0), some (.int ((0 : Int32))), some (.int (so)), some (.int (fr)), some (.int (nI n)), some (.ref 49), none, none, none, none, none], [.int ((-13 : Int32))], σ) rfl ?_ ?_
              · trivial
              have e : zLd S (nI 0) so fr (nI n) = (-13, S) := by rw [zLd, if_neg hv, hcl, if_neg (fun q => c42 (h0.trans q)), if_pos (fun q => c51 (h0.trans q))]
              rw [e]
              exact ev_iret rfl rfl rfl ⟨rfl, hc, fun _ _ => rfl⟩
        · refine ev_blk 1 [] 28 ([some (.ref 0), some (.int ((0 : Int32))), some (.int (so)), some (.int (fr)), some (.int (n)), none, none, none, none, none, none], [.int ((-2 : Int32))], σ) rfl ?_ ?_
          · trivial
          have e : zLd S (nI 0) so fr n = (-2, S) := by rw [zLd, if_pos (Or.inr (Or.inr (Or.inr (Int32.not_le.mp c23))))]
          rw [e]
          exact ev_iret rfl rfl rfl ⟨rfl, hc, fun _ _ => rfl⟩
set_option maxRecDepth 100000 in
theorem c_load1 (σ : xSg) (S : zS) (ok : sOk S) (hc : CH0 σ S) (so fr n : Int32) : xCtr M_X5_load [.ref 0, .int ((1 : Int32)), .int (so), .int (fr), .int (n)] σ (zC σ (zLd S (nI 1) so fr n)) := by
  refine ctr_ev ok_X5_load (by decide +kernel) rfl rfl rfl ?_
  show xEv (.inl 2) M_X5_load _ 0 ([some (.ref 0), some (.int ((1 : Int32))), some (.int (so)), some (.int (fr)), some (.int (n)), none, none, none, none, none, none], [], σ)
  have hg : iN 4 (nI 1) := iN_nI (by decide) (by decide)
  obtain ⟨ho, h0, h1, hi⟩ := hc.2.2.2.2.2 1 (by decide)
  have hcl : (nI 1).toNatClampNeg = 1 := rfl
  refine ev_blk 1 [] 1 ([some (.ref 0), some (.int ((1 : Int32))), some (.int (so)), some (.int (fr)), some (.int (n)), none, none, none, none, none, none], [.int ((1 : Int32))], σ) rfl ?_ ?_
  · trivial
  refine ev_callS M_X5_isSheet [.int ((1 : Int32))] [] rfl rfl ln_X5_229 k_X5_isSheet rfl rfl rfl (c_isSheet _ _) ?_
  refine pu_k ?_
  rw [zi_t (show ¬ ((1 : Int32)) < 0 ∧ ¬ (4 : Int32) ≤ ((1 : Int32)) by decide)]
  show xEv _ _ _ 4 ([some (.ref 0), some (.int ((1 : Int32))), some (.int (so)), some (.int (fr)), some (.int (n)), none, none, none, none, none, none], [.int ((1 : Int32))], σ)
  refine ev_br 0 [] ((1 : Int32) = 0) 26 7 ([some (.ref 0), some (.int ((1 : Int32))), some (.int (so)), some (.int (fr)), some (.int (n)), none, none, none, none, none, none], [], σ) rfl ?_ (fun c4 => ?_) (fun c4 => ?_)
  · trivial
  · exact absurd c4 (by decide)
  · refine ev_blk 1 [] 8 ([some (.ref 0), some (.int ((1 : Int32))), some (.int (so)), some (.int (fr)), some (.int (n)), none, none, none, none, none, none], [.int (so)], σ) rfl ?_ ?_
    · trivial
    refine ev_callS M_X5_isSort [.int (so)] [] rfl rfl ln_X5_257 k_X5_isSort rfl rfl rfl (c_isSort _ _) ?_
    refine pu_k ?_
    show xEv _ _ _ 11 ([some (.ref 0), some (.int ((1 : Int32))), some (.int (so)), some (.int (fr)), some (.int (n)), none, none, none, none, none, none], [.int (zi (so = 0 ∨ so = 1))], σ)
    refine ev_br 0 [] ((zi (so = 0 ∨ so = 1)) = 0) 26 14 ([some (.ref 0), some (.int ((1 : Int32))), some (.int (so)), some (.int (fr)), some (.int (n)), none, none, none, none, none, none], [], σ) rfl ?_ (fun c11 => ?_) (fun c11 => ?_)
    · trivial
    · replace c11 := zi_0.mp c11
      refine ev_blk 1 [] 28 ([some (.ref 0), some (.int ((1 : Int32))), some (.int (so)), some (.int (fr)), some (.int (n)), none, none, none, none, none, none], [.int ((-2 : Int32))], σ) rfl ?_ ?_
      · trivial
      have e : zLd S (nI 1) so fr n = (-2, S) := by rw [zLd, if_pos (Or.inr (Or.inl c11))]
      rw [e]
      exact ev_iret rfl rfl rfl ⟨rfl, hc, fun _ _ => rfl⟩
    · replace c11 := zi_1.mp c11
      refine ev_br 1 [] (n < 0) 26 19 ([some (.ref 0), some (.int ((1 : Int32))), some (.int (so)), some (.int (fr)), some (.int (n)), none, none, none, none, none, none], [], σ) rfl ?_ (fun c16 => ?_) (fun c16 => ?_)
      · trivial
      · refine ev_blk 1 [] 28 ([some (.ref 0), some (.int ((1 : Int32))), some (.int (so)), some (.int (fr)), some (.int (n)), none, none, none, none, none, none], [.int ((-2 : Int32))], σ) rfl ?_ ?_
        · trivial
        have e : zLd S (nI 1) so fr n = (-2, S) := by rw [zLd, if_pos (Or.inr (Or.inr (Or.inl c16)))]
        rw [e]
        exact ev_iret rfl rfl rfl ⟨rfl, hc, fun _ _ => rfl⟩
      · refine ev_br 2 [] (n ≤ (10 : Int32)) 29 26 ([some (.ref 0), some (.int ((1 : Int32))), some (.int (so)), some (.int (fr)), some (.int (n)), none, none, none, none, none, none], [], σ) rfl ?_ (fun c23 => ?_) (fun c23 => ?_)
        · trivial
        · obtain ⟨n, hn, rfl⟩ := nI_of2 (M := 10) (n := 10) (by decide) c16 c23
          have hv : ¬ (¬ iN 4 (nI 1) ∨ ¬ (so = 0 ∨ so = 1) ∨ nI n < 0 ∨ 10 < nI n) := by rintro (q | q | q | q); exact q hg; exact q c11; exact c16 q; exact absurd q (Int32.not_lt.mpr c23)
          refine ev_blk 6 [vp_in ((1 : Int32)) 4] 39 ([some (.ref 0), some (.int ((1 : Int32))), some (.int (so)), some (.int (fr)), some (.int (nI n)), some (.ref 51), none, none, none, none, none], [.ref 51], σ) rfl ?_ ?_
          · exact (vp_in_nI (n := 1) (by decide) (by decide))
          refine ev_callV M_X4_isMissing [] [] 51 rfl rfl ln_X5_232 k_X4_isMissing rfl rfl rfl rfl rfl rfl (c_isMissing1 _) ?_
          refine pu_k ?_
          show xEv _ _ _ 42 ([some (.ref 0), some (.int ((1 : Int32))), some (.int (so)), some (.int (fr)), some (.int (nI n)), some (.ref 51), none, none, none, none, none], [.int (zi (σ 51 0 = -1))], σ)
          refine ev_br 0 [] (¬ (zi (σ 51 0 = -1)) = 0) 57 45 ([some (.ref 0), some (.int ((1 : Int32))), some (.int (so)), some (.int (fr)), some (.int (nI n)), some (.ref 51), none, none, none, none, none], [], σ) rfl ?_ (fun c42 => ?_) (fun c42 => ?_)
          · trivial
          · replace c42 := zi_1.mp c42
            refine ev_blk 1 [] 59 ([some (.ref 0), some (.int ((1 : Int32))), some (.int (so)), some (.int (fr)), some (.int (nI n)), some (.ref 51), none, none, none, none, none], [.ref 51], σ) rfl ?_ ?_
            · trivial
            refine ev_callV M_X4_isMissing [] [] 51 rfl rfl ln_X5_232 k_X4_isMissing rfl rfl rfl rfl rfl rfl (c_isMissing1 _) ?_
            refine pu_k ?_
            show xEv _ _ _ 62 ([some (.ref 0), some (.int ((1 : Int32))), some (.int (so)), some (.int (fr)), some (.int (nI n)), some (.ref 51), none, none, none, none, none], [.int (zi (σ 51 0 = -1))], σ)
            refine ev_br 0 [] ((zi (σ 51 0 = -1)) = 0) 68 65 ([some (.ref 0), some (.int ((1 : Int32))), some (.int (so)), some (.int (fr)), some (.int (nI n)), some (.ref 51), none, none, none, none, none], [], σ) rfl ?_ (fun c62 => ?_) (fun c62 => ?_)
            · trivial
            · exact absurd c42 (zi_0.mp c62)
            · replace c62 := zi_1.mp c62
              refine ev_blk 1 [] 67 ([some (.ref 0), some (.int ((1 : Int32))), some (.int (so)), some (.int (fr)), some (.int (nI n)), some (.ref 51), none, none, none, none, none], [.int ((-11 : Int32))], σ) rfl ?_ ?_
              · trivial
              have e : zLd S (nI 1) so fr (nI n) = (-11, S) := by rw [zLd, if_neg hv, hcl, if_pos (h0.symm.trans c42)]
              rw [e]
              exact ev_iret rfl rfl rfl ⟨rfl, hc, fun _ _ => rfl⟩
          · replace c42 := zi_n.mp c42
            refine ev_br 3 [] ((σ 51 0) = so) 57 54 ([some (.ref 0), some (.int ((1 : Int32))), some (.int (so)), some (.int (fr)), some (.int (nI n)), some (.ref 51), none, none, none, none, none], [], σ) rfl ?_ (fun c51 => ?_) (fun c51 => ?_)
            · trivial
            · refine ev_blk 1 [] 59 ([some (.ref 0), some (.int ((1 : Int32))), some (.int (so)), some (.int (fr)), some (.int (nI n)), some (.ref 51), none, none, none, none, none], [.ref 51], σ) rfl ?_ ?_
              · trivial
              refine ev_callV M_X4_isMissing [] [] 51 rfl rfl ln_X5_232 k_X4_isMissing rfl rfl rfl rfl rfl rfl (c_isMissing1 _) ?_
              refine pu_k ?_
              show xEv _ _ _ 62 ([some (.ref 0), some (.int ((1 : Int32))), some (.int (so)), some (.int (fr)), some (.int (nI n)), some (.ref 51), none, none, none, none, none], [.int (zi (σ 51 0 = -1))], σ)
              refine ev_br 0 [] ((zi (σ 51 0 = -1)) = 0) 68 65 ([some (.ref 0), some (.int ((1 : Int32))), some (.int (so)), some (.int (fr)), some (.int (nI n)), some (.ref 51), none, none, none, none, none], [], σ) rfl ?_ (fun c62 => ?_) (fun c62 => ?_)
              · trivial
              · replace c62 := zi_0.mp c62
                refine ev_blk 4 [] 74 ([some (.ref 0), some (.int ((1 : Int32))), some (.int (so)), some (.int (fr)), some (.int (nI n)), some (.ref 51), some (.int ((0 : Int32))), some (.int ((0 : Int32))), none, none, none], [], σ) rfl ?_ ?_
                · trivial
                have e : zLd S (nI 1) so fr (nI n) = zLdL (S.2.2.2 1).2.1 (S.2.2.2 1).2.2 fr n 0 0 S := by rw [zLd, if_neg hv, hcl, if_neg (fun q => c42 (h0.trans q)), if_neg (fun q => q (h0.symm.trans c51)), nI_clamp (by omega)]
                rw [e]
                exact c_load1_lp so fr n _ _ ho.2 hn σ n 0 0 S σ (by omega) (Nat.le_refl _) ok hc rfl rfl (fun _ _ => rfl)
              · exact absurd (zi_1.mp c62) c42
            · refine ev_blk 1 [] 56 ([some (.ref 0), some (.int ((1 : Int32))), some (.int (so)), some (.int (fr)), some (.int (nI n)), some (.ref 51), none, none, none, none, none], [.int ((-13 : Int32))], σ) rfl ?_ ?_
              · trivial
              have e : zLd S (nI 1) so fr (nI n) = (-13, S) := by rw [zLd, if_neg hv, hcl, if_neg (fun q => c42 (h0.trans q)), if_pos (fun q => c51 (h0.trans q))]
              rw [e]
              exact ev_iret rfl rfl rfl ⟨rfl, hc, fun _ _ => rfl⟩
        · refine ev_blk 1 [] 28 ([some (.ref 0), some (.int ((1 : Int32))), some (.int (so)), some (.int (fr)), some (.int (n)), none, none, none, none, none, none], [.int ((-2 : Int32))], σ) rfl ?_ ?_
          · trivial
          have e : zLd S (nI 1) so fr n = (-2, S) := by rw [zLd, if_pos (Or.inr (Or.inr (Or.inr (Int32.not_le.mp c23))))]
          rw [e]
          exact ev_iret rfl rfl rfl ⟨rfl, hc, fun _ _ => rfl⟩
set_option maxRecDepth 100000 in
theorem c_load2 (σ : xSg) (S : zS) (ok : sOk S) (hc : CH0 σ S) (so fr n : Int32) : xCtr M_X5_load [.ref 0, .int ((2 : Int32)), .int (so), .int (fr), .int (n)] σ (zC σ (zLd S (nI 2) so fr n)) := by
  refine ctr_ev ok_X5_load (by decide +kernel) rfl rfl rfl ?_
  show xEv (.inl 2) M_X5_load _ 0 ([some (.ref 0), some (.int ((2 : Int32))), some (.int (so)), some (.int (fr)), some (.int (n)), none, none, none, none, none, none], [], σ)
  have hg : iN 4 (nI 2) := iN_nI (by decide) (by decide)
  obtain ⟨ho, h0, h1, hi⟩ := hc.2.2.2.2.2 2 (by decide)
  have hcl : (nI 2).toNatClampNeg = 2 := rfl
  refine ev_blk 1 [] 1 ([some (.ref 0), some (.int ((2 : Int32))), some (.int (so)), some (.int (fr)), some (.int (n)), none, none, none, none, none, none], [.int ((2 : Int32))], σ) rfl ?_ ?_
  · trivial
  refine ev_callS M_X5_isSheet [.int ((2 : Int32))] [] rfl rfl ln_X5_229 k_X5_isSheet rfl rfl rfl (c_isSheet _ _) ?_
  refine pu_k ?_
  rw [zi_t (show ¬ ((2 : Int32)) < 0 ∧ ¬ (4 : Int32) ≤ ((2 : Int32)) by decide)]
  show xEv _ _ _ 4 ([some (.ref 0), some (.int ((2 : Int32))), some (.int (so)), some (.int (fr)), some (.int (n)), none, none, none, none, none, none], [.int ((1 : Int32))], σ)
  refine ev_br 0 [] ((1 : Int32) = 0) 26 7 ([some (.ref 0), some (.int ((2 : Int32))), some (.int (so)), some (.int (fr)), some (.int (n)), none, none, none, none, none, none], [], σ) rfl ?_ (fun c4 => ?_) (fun c4 => ?_)
  · trivial
  · exact absurd c4 (by decide)
  · refine ev_blk 1 [] 8 ([some (.ref 0), some (.int ((2 : Int32))), some (.int (so)), some (.int (fr)), some (.int (n)), none, none, none, none, none, none], [.int (so)], σ) rfl ?_ ?_
    · trivial
    refine ev_callS M_X5_isSort [.int (so)] [] rfl rfl ln_X5_257 k_X5_isSort rfl rfl rfl (c_isSort _ _) ?_
    refine pu_k ?_
    show xEv _ _ _ 11 ([some (.ref 0), some (.int ((2 : Int32))), some (.int (so)), some (.int (fr)), some (.int (n)), none, none, none, none, none, none], [.int (zi (so = 0 ∨ so = 1))], σ)
    refine ev_br 0 [] ((zi (so = 0 ∨ so = 1)) = 0) 26 14 ([some (.ref 0), some (.int ((2 : Int32))), some (.int (so)), some (.int (fr)), some (.int (n)), none, none, none, none, none, none], [], σ) rfl ?_ (fun c11 => ?_) (fun c11 => ?_)
    · trivial
    · replace c11 := zi_0.mp c11
      refine ev_blk 1 [] 28 ([some (.ref 0), some (.int ((2 : Int32))), some (.int (so)), some (.int (fr)), some (.int (n)), none, none, none, none, none, none], [.int ((-2 : Int32))], σ) rfl ?_ ?_
      · trivial
      have e : zLd S (nI 2) so fr n = (-2, S) := by rw [zLd, if_pos (Or.inr (Or.inl c11))]
      rw [e]
      exact ev_iret rfl rfl rfl ⟨rfl, hc, fun _ _ => rfl⟩
    · replace c11 := zi_1.mp c11
      refine ev_br 1 [] (n < 0) 26 19 ([some (.ref 0), some (.int ((2 : Int32))), some (.int (so)), some (.int (fr)), some (.int (n)), none, none, none, none, none, none], [], σ) rfl ?_ (fun c16 => ?_) (fun c16 => ?_)
      · trivial
      · refine ev_blk 1 [] 28 ([some (.ref 0), some (.int ((2 : Int32))), some (.int (so)), some (.int (fr)), some (.int (n)), none, none, none, none, none, none], [.int ((-2 : Int32))], σ) rfl ?_ ?_
        · trivial
        have e : zLd S (nI 2) so fr n = (-2, S) := by rw [zLd, if_pos (Or.inr (Or.inr (Or.inl c16)))]
        rw [e]
        exact ev_iret rfl rfl rfl ⟨rfl, hc, fun _ _ => rfl⟩
      · refine ev_br 2 [] (n ≤ (10 : Int32)) 29 26 ([some (.ref 0), some (.int ((2 : Int32))), some (.int (so)), some (.int (fr)), some (.int (n)), none, none, none, none, none, none], [], σ) rfl ?_ (fun c23 => ?_) (fun c23 => ?_)
        · trivial
        · obtain ⟨n, hn, rfl⟩ := nI_of2 (M := 10) (n := 10) (by decide) c16 c23
          have hv : ¬ (¬ iN 4 (nI 2) ∨ ¬ (so = 0 ∨ so = 1) ∨ nI n < 0 ∨ 10 < nI n) := by rintro (q | q | q | q); exact q hg; exact q c11; exact c16 q; exact absurd q (Int32.not_lt.mpr c23)
          refine ev_blk 6 [vp_in ((2 : Int32)) 4] 39 ([some (.ref 0), some (.int ((2 : Int32))), some (.int (so)), some (.int (fr)), some (.int (nI n)), some (.ref 53), none, none, none, none, none], [.ref 53], σ) rfl ?_ ?_
          · exact (vp_in_nI (n := 2) (by decide) (by decide))
          refine ev_callV M_X4_isMissing [] [] 53 rfl rfl ln_X5_232 k_X4_isMissing rfl rfl rfl rfl rfl rfl (c_isMissing2 _) ?_
          refine pu_k ?_
          show xEv _ _ _ 42 ([some (.ref 0), some (.int ((2 : Int32))), some (.int (so)), some (.int (fr)), some (.int (nI n)), some (.ref 53), none, none, none, none, none], [.int (zi (σ 53 0 = -1))], σ)
          refine ev_br 0 [] (¬ (zi (σ 53 0 = -1)) = 0) 57 45 ([some (.ref 0), some (.int ((2 : Int32))), some (.int (so)), some (.int (fr)), some (.int (nI n)), some (.ref 53), none, none, none, none, none], [], σ) rfl ?_ (fun c42 => ?_) (fun c42 => ?_)
          · trivial
          · replace c42 := zi_1.mp c42
            refine ev_blk 1 [] 59 ([some (.ref 0), some (.int ((2 : Int32))), some (.int (so)), some (.int (fr)), some (.int (nI n)), some (.ref 53), none, none, none, none, none], [.ref 53], σ) rfl ?_ ?_
            · trivial
            refine ev_callV M_X4_isMissing [] [] 53 rfl rfl ln_X5_232 k_X4_isMissing rfl rfl rfl rfl rfl rfl (c_isMissing2 _) ?_
            refine pu_k ?_
            show xEv _ _ _ 62 ([some (.ref 0), some (.int ((2 : Int32))), some (.int (so)), some (.int (fr)), some (.int (nI n)), some (.ref 53), none, none, none, none, none], [.int (zi (σ 53 0 = -1))], σ)
            refine ev_br 0 [] ((zi (σ 53 0 = -1)) = 0) 68 65 ([some (.ref 0), some (.int ((2 : Int32))), some (.int (so)), some (.int (fr)), some (.int (nI n)), some (.ref 53), none, none, none, none, none], [], σ) rfl ?_ (fun c62 => ?_) (fun c62 => ?_)
            · trivial
            · exact absurd c42 (zi_0.mp c62)
            · replace c62 := zi_1.mp c62
              refine ev_blk 1 [] 67 ([some (.ref 0), some (.int ((2 : Int32))), some (.int (so)), some (.int (fr)), some (.int (nI n)), some (.ref 53), none, none, none, none, none], [.int ((-11 : Int32))], σ) rfl ?_ ?_
              · trivial
              have e : zLd S (nI 2) so fr (nI n) = (-11, S) := by rw [zLd, if_neg hv, hcl, if_pos (h0.symm.trans c42)]
              rw [e]
              exact ev_iret rfl rfl rfl ⟨rfl, hc, fun _ _ => rfl⟩
          · replace c42 := zi_n.mp c42
            refine ev_br 3 [] ((σ 53 0) = so) 57 54 ([some (.ref 0), some (.int ((2 : Int32))), some (.int (so)), some (.int (fr)), some (.int (nI n)), some (.ref 53), none, none, none, none, none], [], σ) rfl ?_ (fun c51 => ?_) (fun c51 => ?_)
            · trivial
            · refine ev_blk 1 [] 59 ([some (.ref 0), some (.int ((2 : Int32))), some (.int (so)), some (.int (fr)), some (.int (nI n)), some (.ref 53), none, none, none, none, none], [.ref 53], σ) rfl ?_ ?_
              · trivial
              refine ev_callV M_X4_isMissing [] [] 53 rfl rfl ln_X5_232 k_X4_isMissing rfl rfl rfl rfl rfl rfl (c_isMissing2 _) ?_
              refine pu_k ?_
              show xEv _ _ _ 62 ([some (.ref 0), some (.int ((2 : Int32))), some (.int (so)), some (.int (fr)), some (.int (nI n)), some (.ref 53), none, none, none, none, none], [.int (zi (σ 53 0 = -1))], σ)
              refine ev_br 0 [] ((zi (σ 53 0 = -1)) = 0) 68 65 ([some (.ref 0), some (.int ((2 : Int32))), some (.int (so)), some (.int (fr)), some (.int (nI n)), some (.ref 53), none, none, none, none, none], [], σ) rfl ?_ (fun c62 => ?_) (fun c62 => ?_)
              · trivial
              · replace c62 := zi_0.mp c62
                refine ev_blk 4 [] 74 ([some (.ref 0), some (.int ((2 : Int32))), some (.int (so)), some (.int (fr)), some (.int (nI n)), some (.ref 53), some (.int ((0 : Int32))), some (.int ((0 : Int32))), none, none, none], [], σ) rfl ?_ ?_
                · trivial
                have e : zLd S (nI 2) so fr (nI n) = zLdL (S.2.2.2 2).2.1 (S.2.2.2 2).2.2 fr n 0 0 S := by rw [zLd, if_neg hv, hcl, if_neg (fun q => c42 (h0.trans q)), if_neg (fun q => q (h0.symm.trans c51)), nI_clamp (by omega)]
                rw [e]
                exact c_load2_lp so fr n _ _ ho.2 hn σ n 0 0 S σ (by omega) (Nat.le_refl _) ok hc rfl rfl (fun _ _ => rfl)
              · exact absurd (zi_1.mp c62) c42
            · refine ev_blk 1 [] 56 ([some (.ref 0), some (.int ((2 : Int32))), some (.int (so)), some (.int (fr)), some (.int (nI n)), some (.ref 53), none, none, none, none, none], [.int ((-13 : Int32))], σ) rfl ?_ ?_
              · trivial
              have e : zLd S (nI 2) so fr (nI n) = (-13, S) := by rw [zLd, if_neg hv, hcl, if_neg (fun q => c42 (h0.trans q)), if_pos (fun q => c51 (h0.trans q))]
              rw [e]
              exact ev_iret rfl rfl rfl ⟨rfl, hc, fun _ _ => rfl⟩
        · refine ev_blk 1 [] 28 ([some (.ref 0), some (.int ((2 : Int32))), some (.int (so)), some (.int (fr)), some (.int (n)), none, none, none, none, none, none], [.int ((-2 : Int32))], σ) rfl ?_ ?_
          · trivial
          have e : zLd S (nI 2) so fr n = (-2, S) := by rw [zLd, if_pos (Or.inr (Or.inr (Or.inr (Int32.not_le.mp c23))))]
          rw [e]
          exact ev_iret rfl rfl rfl ⟨rfl, hc, fun _ _ => rfl⟩
set_option maxRecDepth 100000 in
theorem c_load3 (σ : xSg) (S : zS) (ok : sOk S) (hc : CH0 σ S) (so fr n : Int32) : xCtr M_X5_load [.ref 0, .int ((3 : Int32)), .int (so), .int (fr), .int (n)] σ (zC σ (zLd S (nI 3) so fr n)) := by
  refine ctr_ev ok_X5_load (by decide +kernel) rfl rfl rfl ?_
  show xEv (.inl 2) M_X5_load _ 0 ([some (.ref 0), some (.int ((3 : Int32))), some (.int (so)), some (.int (fr)), some (.int (n)), none, none, none, none, none, none], [], σ)
  have hg : iN 4 (nI 3) := iN_nI (by decide) (by decide)
  obtain ⟨ho, h0, h1, hi⟩ := hc.2.2.2.2.2 3 (by decide)
  have hcl : (nI 3).toNatClampNeg = 3 := rfl
  refine ev_blk 1 [] 1 ([some (.ref 0), some (.int ((3 : Int32))), some (.int (so)), some (.int (fr)), some (.int (n)), none, none, none, none, none, none], [.int ((3 : Int32))], σ) rfl ?_ ?_
  · trivial
  refine ev_callS M_X5_isSheet [.int ((3 : Int32))] [] rfl rfl ln_X5_229 k_X5_isSheet rfl rfl rfl (c_isSheet _ _) ?_
  refine pu_k ?_
  rw [zi_t (show ¬ ((3 : Int32)) < 0 ∧ ¬ (4 : Int32) ≤ ((3 : Int32)) by decide)]
  show xEv _ _ _ 4 ([some (.ref 0), some (.int ((3 : Int32))), some (.int (so)), some (.int (fr)), some (.int (n)), none, none, none, none, none, none], [.int ((1 : Int32))], σ)
  refine ev_br 0 [] ((1 : Int32) = 0) 26 7 ([some (.ref 0), some (.int ((3 : Int32))), some (.int (so)), some (.int (fr)), some (.int (n)), none, none, none, none, none, none], [], σ) rfl ?_ (fun c4 => ?_) (fun c4 => ?_)
  · trivial
  · exact absurd c4 (by decide)
  · refine ev_blk 1 [] 8 ([some (.ref 0), some (.int ((3 : Int32))), some (.int (so)), some (.int (fr)), some (.int (n)), none, none, none, none, none, none], [.int (so)], σ) rfl ?_ ?_
    · trivial
    refine ev_callS M_X5_isSort [.int (so)] [] rfl rfl ln_X5_257 k_X5_isSort rfl rfl rfl (c_isSort _ _) ?_
    refine pu_k ?_
    show xEv _ _ _ 11 ([some (.ref 0), some (.int ((3 : Int32))), some (.int (so)), some (.int (fr)), some (.int (n)), none, none, none, none, none, none], [.int (zi (so = 0 ∨ so = 1))], σ)
    refine ev_br 0 [] ((zi (so = 0 ∨ so = 1)) = 0) 26 14 ([some (.ref 0), some (.int ((3 : Int32))), some (.int (so)), some (.int (fr)), some (.int (n)), none, none, none, none, none, none], [], σ) rfl ?_ (fun c11 => ?_) (fun c11 => ?_)
    · trivial
    · replace c11 := zi_0.mp c11
      refine ev_blk 1 [] 28 ([some (.ref 0), some (.int ((3 : Int32))), some (.int (so)), some (.int (fr)), some (.int (n)), none, none, none, none, none, none], [.int ((-2 : Int32))], σ) rfl ?_ ?_
      · trivial
      have e : zLd S (nI 3) so fr n = (-2, S) := by rw [zLd, if_pos (Or.inr (Or.inl c11))]
      rw [e]
      exact ev_iret rfl rfl rfl ⟨rfl, hc, fun _ _ => rfl⟩
    · replace c11 := zi_1.mp c11
      refine ev_br 1 [] (n < 0) 26 19 ([some (.ref 0), some (.int ((3 : Int32))), some (.int (so)), some (.int (fr)), some (.int (n)), none, none, none, none, none, none], [], σ) rfl ?_ (fun c16 => ?_) (fun c16 => ?_)
      · trivial
      · refine ev_blk 1 [] 28 ([some (.ref 0), some (.int ((3 : Int32))), some (.int (so)), some (.int (fr)), some (.int (n)), none, none, none, none, none, none], [.int ((-2 : Int32))], σ) rfl ?_ ?_
        · trivial
        have e : zLd S (nI 3) so fr n = (-2, S) := by rw [zLd, if_pos (Or.inr (Or.inr (Or.inl c16)))]
        rw [e]
        exact ev_iret rfl rfl rfl ⟨rfl, hc, fun _ _ => rfl⟩
      · refine ev_br 2 [] (n ≤ (10 : Int32)) 29 26 ([some (.ref 0), some (.int ((3 : Int32))), some (.int (so)), some (.int (fr)), some (.int (n)), none, none, none, none, none, none], [], σ) rfl ?_ (fun c23 => ?_) (fun c23 => ?_)
        · trivial
        · obtain ⟨n, hn, rfl⟩ := nI_of2 (M := 10) (n := 10) (by decide) c16 c23
          have hv : ¬ (¬ iN 4 (nI 3) ∨ ¬ (so = 0 ∨ so = 1) ∨ nI n < 0 ∨ 10 < nI n) := by rintro (q | q | q | q); exact q hg; exact q c11; exact c16 q; exact absurd q (Int32.not_lt.mpr c23)
          refine ev_blk 6 [vp_in ((3 : Int32)) 4] 39 ([some (.ref 0), some (.int ((3 : Int32))), some (.int (so)), some (.int (fr)), some (.int (nI n)), some (.ref 55), none, none, none, none, none], [.ref 55], σ) rfl ?_ ?_
          · exact (vp_in_nI (n := 3) (by decide) (by decide))
          refine ev_callV M_X4_isMissing [] [] 55 rfl rfl ln_X5_232 k_X4_isMissing rfl rfl rfl rfl rfl rfl (c_isMissing3 _) ?_
          refine pu_k ?_
          show xEv _ _ _ 42 ([some (.ref 0), some (.int ((3 : Int32))), some (.int (so)), some (.int (fr)), some (.int (nI n)), some (.ref 55), none, none, none, none, none], [.int (zi (σ 55 0 = -1))], σ)
          refine ev_br 0 [] (¬ (zi (σ 55 0 = -1)) = 0) 57 45 ([some (.ref 0), some (.int ((3 : Int32))), some (.int (so)), some (.int (fr)), some (.int (nI n)), some (.ref 55), none, none, none, none, none], [], σ) rfl ?_ (fun c42 => ?_) (fun c42 => ?_)
          · trivial
          · replace c42 := zi_1.mp c42
            refine ev_blk 1 [] 59 ([some (.ref 0), some (.int ((3 : Int32))), some (.int (so)), some (.int (fr)), some (.int (nI n)), some (.ref 55), none, none, none, none, none], [.ref 55], σ) rfl ?_ ?_
            · trivial
            refine ev_callV M_X4_isMissing [] [] 55 rfl rfl ln_X5_232 k_X4_isMissing rfl rfl rfl rfl rfl rfl (c_isMissing3 _) ?_
            refine pu_k ?_
            show xEv _ _ _ 62 ([some (.ref 0), some (.int ((3 : Int32))), some (.int (so)), some (.int (fr)), some (.int (nI n)), some (.ref 55), none, none, none, none, none], [.int (zi (σ 55 0 = -1))], σ)
            refine ev_br 0 [] ((zi (σ 55 0 = -1)) = 0) 68 65 ([some (.ref 0), some (.int ((3 : Int32))), some (.int (so)), some (.int (fr)), some (.int (nI n)), some (.ref 55), none, none, none, none, none], [], σ) rfl ?_ (fun c62 => ?_) (fun c62 => ?_)
            · trivial
            · exact absurd c42 (zi_0.mp c62)
            · replace c62 := zi_1.mp c62
              refine ev_blk 1 [] 67 ([some (.ref 0), some (.int ((3 : Int32))), some (.int (so)), some (.int (fr)), some (.int (nI n)), some (.ref 55), none, none, none, none, none], [.int ((-11 : Int32))], σ) rfl ?_ ?_
              · trivial
              have e : zLd S (nI 3) so fr (nI n) = (-11, S) := by rw [zLd, if_neg hv, hcl, if_pos (h0.symm.trans c42)]
              rw [e]
              exact ev_iret rfl rfl rfl ⟨rfl, hc, fun _ _ => rfl⟩
          · replace c42 := zi_n.mp c42
            refine ev_br 3 [] ((σ 55 0) = so) 57 54 ([some (.ref 0), some (.int ((3 : Int32))), some (.int (so)), some (.int (fr)), some (.int (nI n)), some (.ref 55), none, none, none, none, none], [], σ) rfl ?_ (fun c51 => ?_) (fun c51 => ?_)
            · trivial
            · refine ev_blk 1 [] 59 ([some (.ref 0), some (.int ((3 : Int32))), some (.int (so)), some (.int (fr)), some (.int (nI n)), some (.ref 55), none, none, none, none, none], [.ref 55], σ) rfl ?_ ?_
              · trivial
              refine ev_callV M_X4_isMissing [] [] 55 rfl rfl ln_X5_232 k_X4_isMissing rfl rfl rfl rfl rfl rfl (c_isMissing3 _) ?_
              refine pu_k ?_
              show xEv _ _ _ 62 ([some (.ref 0), some (.int ((3 : Int32))), some (.int (so)), some (.int (fr)), some (.int (nI n)), some (.ref 55), none, none, none, none, none], [.int (zi (σ 55 0 = -1))], σ)
              refine ev_br 0 [] ((zi (σ 55 0 = -1)) = 0) 68 65 ([some (.ref 0), some (.int ((3 : Int32))), some (.int (so)), some (.int (fr)), some (.int (nI n)), some (.ref 55), none, none, none, none, none], [], σ) rfl ?_ (fun c62 => ?_) (fun c62 => ?_)
              · trivial
              · replace c62 := zi_0.mp c62
                refine ev_blk 4 [] 74 ([some (.ref 0), some (.int ((3 : Int32))), some (.int (so)), some (.int (fr)), some (.int (nI n)), some (.ref 55), some (.int ((0 : Int32))), some (.int ((0 : Int32))), none, none, none], [], σ) rfl ?_ ?_
                · trivial
                have e : zLd S (nI 3) so fr (nI n) = zLdL (S.2.2.2 3).2.1 (S.2.2.2 3).2.2 fr n 0 0 S := by rw [zLd, if_neg hv, hcl, if_neg (fun q => c42 (h0.trans q)), if_neg (fun q => q (h0.symm.trans c51)), nI_clamp (by omega)]
                rw [e]
                exact c_load3_lp so fr n _ _ ho.2 hn σ n 0 0 S σ (by omega) (Nat.le_refl _) ok hc rfl rfl (fun _ _ => rfl)
              · exact absurd (zi_1.mp c62) c42
            · refine ev_blk 1 [] 56 ([some (.ref 0), some (.int ((3 : Int32))), some (.int (so)), some (.int (fr)), some (.int (nI n)), some (.ref 55), none, none, none, none, none], [.int ((-13 : Int32))], σ) rfl ?_ ?_
              · trivial
              have e : zLd S (nI 3) so fr (nI n) = (-13, S) := by rw [zLd, if_neg hv, hcl, if_neg (fun q => c42 (h0.trans q)), if_pos (fun q => c51 (h0.trans q))]
              rw [e]
              exact ev_iret rfl rfl rfl ⟨rfl, hc, fun _ _ => rfl⟩
        · refine ev_blk 1 [] 28 ([some (.ref 0), some (.int ((3 : Int32))), some (.int (so)), some (.int (fr)), some (.int (n)), none, none, none, none, none, none], [.int ((-2 : Int32))], σ) rfl ?_ ?_
          · trivial
          have e : zLd S (nI 3) so fr n = (-2, S) := by rw [zLd, if_pos (Or.inr (Or.inr (Or.inr (Int32.not_le.mp c23))))]
          rw [e]
          exact ev_iret rfl rfl rfl ⟨rfl, hc, fun _ _ => rfl⟩
set_option maxRecDepth 100000 in
theorem zc_load (σ : xSg) (S : zS) (ok : sOk S) (hc : CH0 σ S) (s so fr n : Int32) : xCtr M_X5_load [.ref 0, .int (s), .int (so), .int (fr), .int (n)] σ (zC σ (zLd S s so fr n)) := by
  rcases pk_ix s (n := 4) (by decide) with hb | hb | ⟨W, hW, rfl⟩
  · have hbad : ¬ iN 4 s := fun q => q.1 hb
    refine ctr_ev ok_X5_load (by decide +kernel) rfl rfl rfl ?_
    show xEv (.inl 2) M_X5_load _ 0 ([some (.ref 0), some (.int (s)), some (.int (so)), some (.int (fr)), some (.int (n)), none, none, none, none, none, none], [], σ)
    refine ev_blk 1 [] 1 ([some (.ref 0), some (.int (s)), some (.int (so)), some (.int (fr)), some (.int (n)), none, none, none, none, none, none], [.int (s)], σ) rfl ?_ ?_
    · trivial
    refine ev_callS M_X5_isSheet [.int (s)] [] rfl rfl ln_X5_229 k_X5_isSheet rfl rfl rfl (c_isSheet _ _) ?_
    refine pu_k ?_
    show xEv _ _ _ 4 ([some (.ref 0), some (.int (s)), some (.int (so)), some (.int (fr)), some (.int (n)), none, none, none, none, none, none], [.int (zi (¬ s < 0 ∧ ¬ (4 : Int32) ≤ (s)))], σ)
    refine ev_br 0 [] ((zi (¬ s < 0 ∧ ¬ (4 : Int32) ≤ (s))) = 0) 26 7 ([some (.ref 0), some (.int (s)), some (.int (so)), some (.int (fr)), some (.int (n)), none, none, none, none, none, none], [], σ) rfl ?_ (fun c4 => ?_) (fun c4 => ?_)
    · trivial
    · replace c4 := zi_0.mp c4
      refine ev_blk 1 [] 28 ([some (.ref 0), some (.int (s)), some (.int (so)), some (.int (fr)), some (.int (n)), none, none, none, none, none, none], [.int ((-2 : Int32))], σ) rfl ?_ ?_
      · trivial
      have e : zLd S s so fr n = (-2, S) := by rw [zLd, if_pos (Or.inl hbad)]
      rw [e]
      exact ev_iret rfl rfl rfl ⟨rfl, hc, fun _ _ => rfl⟩
    · exact absurd (zi_1.mp c4) hbad
  · have hbad : ¬ iN 4 s := fun q => q.2 hb
    refine ctr_ev ok_X5_load (by decide +kernel) rfl rfl rfl ?_
    show xEv (.inl 2) M_X5_load _ 0 ([some (.ref 0), some (.int (s)), some (.int (so)), some (.int (fr)), some (.int (n)), none, none, none, none, none, none], [], σ)
    refine ev_blk 1 [] 1 ([some (.ref 0), some (.int (s)), some (.int (so)), some (.int (fr)), some (.int (n)), none, none, none, none, none, none], [.int (s)], σ) rfl ?_ ?_
    · trivial
    refine ev_callS M_X5_isSheet [.int (s)] [] rfl rfl ln_X5_229 k_X5_isSheet rfl rfl rfl (c_isSheet _ _) ?_
    refine pu_k ?_
    show xEv _ _ _ 4 ([some (.ref 0), some (.int (s)), some (.int (so)), some (.int (fr)), some (.int (n)), none, none, none, none, none, none], [.int (zi (¬ s < 0 ∧ ¬ (4 : Int32) ≤ (s)))], σ)
    refine ev_br 0 [] ((zi (¬ s < 0 ∧ ¬ (4 : Int32) ≤ (s))) = 0) 26 7 ([some (.ref 0), some (.int (s)), some (.int (so)), some (.int (fr)), some (.int (n)), none, none, none, none, none, none], [], σ) rfl ?_ (fun c4 => ?_) (fun c4 => ?_)
    · trivial
    · replace c4 := zi_0.mp c4
      refine ev_blk 1 [] 28 ([some (.ref 0), some (.int (s)), some (.int (so)), some (.int (fr)), some (.int (n)), none, none, none, none, none, none], [.int ((-2 : Int32))], σ) rfl ?_ ?_
      · trivial
      have e : zLd S s so fr n = (-2, S) := by rw [zLd, if_pos (Or.inl hbad)]
      rw [e]
      exact ev_iret rfl rfl rfl ⟨rfl, hc, fun _ _ => rfl⟩
    · exact absurd (zi_1.mp c4) hbad
  · rcases (show W = 0 ∨ W = 1 ∨ W = 2 ∨ W = 3 by omega) with rfl | rfl | rfl | rfl
    · exact c_load0 σ S ok hc so fr n
    · exact c_load1 σ S ok hc so fr n
    · exact c_load2 σ S ok hc so fr n
    · exact c_load3 σ S ok hc so fr n
theorem l_at {fr : Int32} {k z : Nat} (hk : k ≤ 10) (hz : z ≤ 40) (h : k = 0 ∨ ∃ a, a ≤ 40 ∧ fr = nI a) : (¬ lg_cmp (fr.toInt64 + ((5 : Int64) * (nI k).toInt64)) (0 : Int64) < 0 ∧ lg_cmp ((fr.toInt64 + ((5 : Int64) * (nI k).toInt64)) + (4 : Int64)) ((nI z).toInt64) < 0) ↔ r5 z (fr + (5 : Int32) * nI k) := by
  rw [show (5 : Int64) = lN 5 from rfl, show (0 : Int64) = lN 0 from rfl, show (4 : Int64) = lN 4 from rfl, show (5 : Int32) = nI 5 from rfl, nI_l (n := k) (by omega), nI_l (n := z) (by omega), lN_mul, nI_mulN, lg_cmp_lt, lg_cmp_lt]
  by_cases q : fr < 0
  · have hk0 : k = 0 := by
      rcases h with h | ⟨a, ha, rfl⟩
      · exact h
      · exact absurd q (nI_pos (by omega))
    subst hk0
    rw [show lN (5 * 0) = 0 from rfl, show nI (5 * 0) = 0 from rfl, Int64.add_zero, Int32.add_zero]
    constructor
    · rintro ⟨h1, -⟩
      refine absurd ?_ h1
      rw [Int64.lt_iff_toInt_lt, Int32.toInt_toInt64]
      exact (Int32.lt_iff_toInt_lt).mp q
    · rintro ⟨h1, -⟩
      exact absurd q h1
  · obtain ⟨a, ha, rfl⟩ := nI_of q
    have hb : a + 5 * k < 2 ^ 31 := by
      rcases h with h | ⟨b, hb, e⟩
      · omega
      · have := (nI_eq ha (by omega)).mp e; omega
    rw [nI_l ha, lN_add, lN_add, nI_add, lN_ltB (by omega) (by omega), lN_ltB (by omega) (by omega)]
    unfold r5
    rw [nI_clamp hb]
    constructor
    · rintro ⟨-, h2⟩
      exact ⟨nI_pos hb, by omega⟩
    · rintro ⟨-, h2⟩
      exact ⟨by omega, by omega⟩
theorem l_atN {fr : Int32} {k p : Nat} (hk : k ≤ 10) (h : k = 0 ∨ ∃ a, a ≤ 40 ∧ fr = nI a) (hp : p < 2 ^ 31) (e : fr + (5 : Int32) * nI k = nI p) : fr.toInt64 + ((5 : Int64) * (nI k).toInt64) = lN p := by
  rw [show (5 : Int64) = lN 5 from rfl, nI_l (n := k) (by omega), lN_mul]
  rw [show (5 : Int32) = nI 5 from rfl, nI_mulN] at e
  rcases h with rfl | ⟨a, ha, rfl⟩
  · rw [show nI (5 * 0) = 0 from rfl, Int32.add_zero] at e
    rw [e, nI_l hp, lN_add]
    rfl
  · rw [nI_add, nI_eq (by omega) hp] at e
    rw [nI_l (by omega), lN_add, e]
theorem w01 {so : Int32} : (¬ so < 0 ∧ ¬ (1 : Int32) < so) ↔ (so = 0 ∨ so = 1) := by
  constructor
  · rintro ⟨h1, h2⟩
    obtain ⟨j, hj, rfl⟩ := nI_of h1
    have h3 : j ≤ 1 := by have := mt (fun z => nI_lt (a := 1) (b := j) z hj) h2; omega
    rcases (show j = 0 ∨ j = 1 by omega) with rfl | rfl
    · exact Or.inl rfl
    · exact Or.inr rfl
  · rintro (rfl | rfl) <;> decide
set_option maxRecDepth 100000 in
theorem m_load_lp (so fr : Int32) (n z W : Nat) (f : Nat → Int32) (hW : W < 4) (hz : z ≤ 40) (hn : n ≤ 10) (σ : xSg) : ∀ (m k c : Nat) (S : zS) (σ1 : xSg), k + m = n → c ≤ k → (k = 0 ∨ ∃ a, a ≤ 40 ∧ fr = nI a) → sOk S → RH0 σ1 S → (S.2.2.2 W).2.1 = z → (S.2.2.2 W).2.2 = f → (∀ c, c < 57 → σ1 c = σ c) → xEv (.inl 2) M_X6_load (zM σ (zLdL z f fr m k c S)) 72 ([some (.ref 57), some (.int (nI W)), some (.int (so)), some (.int (fr)), some (.int (nI n)), some (.int (nI c)), some (.int (nI k)), none, none, none], [], σ1) := by
  intro m
  induction m with
  | zero =>
    intro k c S σ1 hk hck hkf ok hc ez ef hf
    refine ev_br 2 [] ((nI n) ≤ (nI k)) 187 79 ([some (.ref 57), some (.int (nI W)), some (.int (so)), some (.int (fr)), some (.int (nI n)), some (.int (nI c)), some (.int (nI k)), none, none, none], [], σ1) rfl ?_ (fun c76 => ?_) (fun c76 => ?_)
    · trivial
    · refine ev_blk 1 [] 189 ([some (.ref 57), some (.int (nI W)), some (.int (so)), some (.int (fr)), some (.int (nI n)), some (.int (nI c)), some (.int (nI k)), none, none, none], [.int (nI c)], σ1) rfl ?_ ?_
      · trivial
      exact ev_iret rfl rfl rfl ⟨rfl, hc, hf⟩
    · exact absurd (nI_le (by omega) (by omega)) c76
  | succ m ih =>
    intro k c S σ1 hk hck hkf ok hc ez ef hf
    obtain ⟨-, -, h1, hi⟩ := hc.2.2.2.2.2 W hW
    rw [ez] at h1
    rw [ef] at hi
    have hWc : (nI W).toNatClampNeg = W := nI_clamp (by omega)
    have hin : vp_in (nI W) 4 := vp_in_nI hW (by decide)
    have hla := l_at (fr := fr) (k := k) (z := z) (by omega) hz hkf
    refine ev_br 2 [] ((nI n) ≤ (nI k)) 187 79 ([some (.ref 57), some (.int (nI W)), some (.int (so)), some (.int (fr)), some (.int (nI n)), some (.int (nI c)), some (.int (nI k)), none, none, none], [], σ1) rfl ?_ (fun c76 => ?_) (fun c76 => ?_)
    · trivial
    · exact absurd c76 (nI_ge (by omega) (by omega))
    · refine ev_br 11 [] ((lg_cmp (fr.toInt64 + ((5 : Int64) * ((nI k).toInt64))) (0 : Int64)) < 0) 115 98 ([some (.ref 57), some (.int (nI W)), some (.int (so)), some (.int (fr)), some (.int (nI n)), some (.int (nI c)), some (.int (nI k)), some (.long (fr.toInt64 + ((5 : Int64) * ((nI k).toInt64)))), none, none], [], σ1) rfl ?_ (fun c95 => ?_) (fun c95 => ?_)
      · trivial
      · refine ev_blk 1 [] 117 ([some (.ref 57), some (.int (nI W)), some (.int (so)), some (.int (fr)), some (.int (nI n)), some (.int (nI c)), some (.int (nI k)), some (.long (fr.toInt64 + ((5 : Int64) * ((nI k).toInt64)))), none, none], [.int ((-12 : Int32))], σ1) rfl ?_ ?_
        · trivial
        have hno : ¬ r5 z (fr + (5 : Int32) * nI k) := fun q => (hla.mpr q).1 c95
        rw [zLdL_n hno]
        exact ev_iret rfl rfl rfl ⟨rfl, hc, hf⟩
      · refine ev_br 9 [vp_in (nI W) 4] ((lg_cmp ((fr.toInt64 + ((5 : Int64) * ((nI k).toInt64))) + (4 : Int64)) (((σ1 87) (nI W).toNatClampNeg).toInt64)) < 0) 118 115 ([some (.ref 57), some (.int (nI W)), some (.int (so)), some (.int (fr)), some (.int (nI n)), some (.int (nI c)), some (.int (nI k)), some (.long (fr.toInt64 + ((5 : Int64) * ((nI k).toInt64)))), none, none], [], σ1) rfl ?_ (fun c112 => ?_) (fun c112 => ?_)
        · exact hin
        · rw [hWc] at c112
          have hr := hla.mp ⟨c95, by rw [← h1]; exact c112⟩
          rw [zLdL_y hr]
          obtain ⟨p, hp, hat⟩ := nI_of hr.1
          have hp5 : p + 5 ≤ z := by have := hr.2; rw [hat, nI_clamp hp] at this; exact this
          have hlat := l_atN (by omega) hkf hp hat
          have hfr : ∃ a, a ≤ 40 ∧ fr = nI a := by
            rcases hkf with q | q
            · subst q; exact ⟨p, by omega, by rw [← hat, show (5 : Int32) * nI 0 = 0 from rfl, Int32.add_zero]⟩
            · exact q
          rw [hat, hlat, nI_clamp hp]
          show xEv _ _ _ 118 ([some (.ref 57), some (.int (nI W)), some (.int (so)), some (.int (fr)), some (.int (nI n)), some (.int (nI c)), some (.int (nI k)), some (.long (lN p)), none, none], [], σ1)
          refine ev_blk 7 [] 128 ([some (.ref 57), some (.int (nI W)), some (.int (so)), some (.int (fr)), some (.int (nI n)), some (.int (nI c)), some (.int (nI k)), some (.long (lN p)), none, some (.int (((40 : Int32) * (nI W)) + ((lN p).toInt32)))], [], σ1) rfl ?_ ?_
          · trivial
          rw [lN_i, n40, nI_add]
          have hp0 : (nI (40 * W + p)).toNatClampNeg = 40 * W + p := nI_clamp (by omega)
          have he1 : (nI (40 * W + p)) + (1 : Int32) = nI (40 * W + p + 1) := nI_add (40 * W + p) 1
          have hp1 : ((nI (40 * W + p)) + (1 : Int32)).toNatClampNeg = 40 * W + p + 1 := by rw [he1, nI_clamp (by omega)]
          have hr1 : σ1 88 (40 * W + p + 1) = f (p + 1) := by rw [Nat.add_assoc]; exact hi (p + 1) (by omega)
          have he2 : (nI (40 * W + p)) + (2 : Int32) = nI (40 * W + p + 2) := nI_add (40 * W + p) 2
          have hp2 : ((nI (40 * W + p)) + (2 : Int32)).toNatClampNeg = 40 * W + p + 2 := by rw [he2, nI_clamp (by omega)]
          have hr2 : σ1 88 (40 * W + p + 2) = f (p + 2) := by rw [Nat.add_assoc]; exact hi (p + 2) (by omega)
          have he3 : (nI (40 * W + p)) + (3 : Int32) = nI (40 * W + p + 3) := nI_add (40 * W + p) 3
          have hp3 : ((nI (40 * W + p)) + (3 : Int32)).toNatClampNeg = 40 * W + p + 3 := by rw [he3, nI_clamp (by omega)]
          have hr3 : σ1 88 (40 * W + p + 3) = f (p + 3) := by rw [Nat.add_assoc]; exact hi (p + 3) (by omega)
          have he4 : (nI (40 * W + p)) + (4 : Int32) = nI (40 * W + p + 4) := nI_add (40 * W + p) 4
          have hp4 : ((nI (40 * W + p)) + (4 : Int32)).toNatClampNeg = 40 * W + p + 4 := by rw [he4, nI_clamp (by omega)]
          have hr4 : σ1 88 (40 * W + p + 4) = f (p + 4) := by rw [Nat.add_assoc]; exact hi (p + 4) (by omega)
          show xEv _ _ _ 128 ([some (.ref 57), some (.int (nI W)), some (.int (so)), some (.int (fr)), some (.int (nI n)), some (.int (nI c)), some (.int (nI k)), some (.long (lN p)), none, some (.int (nI (40 * W + p)))], [], σ1)
          refine ev_blk 29 [vp_in (nI (40 * W + p)) 160, vp_in ((nI (40 * W + p)) + (1 : Int32)) 160, vp_in ((nI (40 * W + p)) + (2 : Int32)) 160, vp_in ((nI (40 * W + p)) + (3 : Int32)) 160, vp_in ((nI (40 * W + p)) + (4 : Int32)) 160] 172 ([some (.ref 57), some (.int (nI W)), some (.int (so)), some (.int (fr)), some (.int (nI n)), some (.int (nI c)), some (.int (nI k)), some (.long (lN p)), none, some (.int (nI (40 * W + p)))], [.int ((σ1 88) ((nI (40 * W + p)) + (4 : Int32)).toNatClampNeg), .int ((σ1 88) ((nI (40 * W + p)) + (3 : Int32)).toNatClampNeg), .int ((σ1 88) ((nI (40 * W + p)) + (2 : Int32)).toNatClampNeg), .int ((σ1 88) ((nI (40 * W + p)) + (1 : Int32)).toNatClampNeg), .int ((σ1 88) (nI (40 * W + p)).toNatClampNeg), .ref 57], σ1) rfl ?_ ?_
          · exact ⟨(vp_in_nI (by omega) (by decide)), (by rw [he1]; exact vp_in_nI (by omega) (by decide)), (by rw [he2]; exact vp_in_nI (by omega) (by decide)), (by rw [he3]; exact vp_in_nI (by omega) (by decide)), (by rw [he4]; exact vp_in_nI (by omega) (by decide))⟩
          rw [hp1]
          rw [hp2]
          rw [hp3]
          rw [hp4]
          rw [hp0]
          rw [hr1]
          rw [hr2]
          rw [hr3]
          rw [hr4]
          rw [hi p (by omega)]
          refine ev_callV M_X6_comesTo [.int (f p), .int (f (p + 1)), .int (f (p + 2)), .int (f (p + 3)), .int (f (p + 4))] [] 57 rfl rfl ln_X6_118 k_X6_comesTo rfl rfl rfl rfl rfl rfl (m_comesTo _ S.1.1 hc.1.1 ok.1.1.1 (lA S.1) (lB S.1) (rh_LR hc) (ll_ab ok.1.1.1) _ _ _ _ _) ?_
          intro r σ' hq
          obtain ⟨rfl, hc', fr'⟩ := km_ship ok hc hq
          show xEv _ _ _ 175 ([some (.ref 57), some (.int (nI W)), some (.int (so)), some (.int (fr)), some (.int (nI n)), some (.int (nI c)), some (.int (nI k)), some (.long (lN p)), none, some (.int (nI (40 * W + p)))], [.int ((zShp S f p).1)], σ')
          refine ev_br 0 [] (((zShp S f p).1) < 0) 181 178 ([some (.ref 57), some (.int (nI W)), some (.int (so)), some (.int (fr)), some (.int (nI n)), some (.int (nI c)), some (.int (nI k)), some (.long (lN p)), none, some (.int (nI (40 * W + p)))], [], σ') rfl ?_ (fun c175 => ?_) (fun c175 => ?_)
          · trivial
          · refine ev_blk 2 [] 72 ([some (.ref 57), some (.int (nI W)), some (.int (so)), some (.int (fr)), some (.int (nI n)), some (.int (nI c)), some (.int ((nI k) + (1 : Int32))), some (.long (lN p)), none, some (.int (nI (40 * W + p)))], [], σ') rfl ?_ ?_
            · trivial
            rw [if_pos c175, nI_1]
            refine ev_drop 7 (ev_drop 9 ?_)
            exact ih (k + 1) c (zShp S f p).2 σ' (by omega) (by omega) (Or.inr hfr) (so_ship ok _ _ _ _ _) hc' (by rw [zShip_sh]; exact ez) (by rw [zShip_sh]; exact ef) (fun c hc => (fr' c hc).trans (hf c hc))
          · refine ev_blk 3 [] 72 ([some (.ref 57), some (.int (nI W)), some (.int (so)), some (.int (fr)), some (.int (nI n)), some (.int ((nI c) + (1 : Int32))), some (.int ((nI k) + (1 : Int32))), some (.long (lN p)), none, some (.int (nI (40 * W + p)))], [], σ') rfl ?_ ?_
            · trivial
            rw [if_neg c175, nI_1, nI_1]
            refine ev_drop 7 (ev_drop 9 ?_)
            exact ih (k + 1) (c + 1) (zShp S f p).2 σ' (by omega) (by omega) (Or.inr hfr) (so_ship ok _ _ _ _ _) hc' (by rw [zShip_sh]; exact ez) (by rw [zShip_sh]; exact ef) (fun c hc => (fr' c hc).trans (hf c hc))
        · rw [hWc] at c112
          refine ev_blk 1 [] 117 ([some (.ref 57), some (.int (nI W)), some (.int (so)), some (.int (fr)), some (.int (nI n)), some (.int (nI c)), some (.int (nI k)), some (.long (fr.toInt64 + ((5 : Int64) * ((nI k).toInt64)))), none, none], [.int ((-12 : Int32))], σ1) rfl ?_ ?_
          · trivial
          have hno : ¬ r5 z (fr + (5 : Int32) * nI k) := fun q => c112 (by rw [h1]; exact (hla.mpr q).2)
          rw [zLdL_n hno]
          exact ev_iret rfl rfl rfl ⟨rfl, hc, hf⟩
set_option maxRecDepth 100000 in
theorem zm_load (σ : xSg) (S : zS) (ok : sOk S) (hc : RH0 σ S) (s so fr n : Int32) : xCtr M_X6_load [.ref 57, .int (s), .int (so), .int (fr), .int (n)] σ (zM σ (zLd S s so fr n)) := by
  refine ctr_ev ok_X6_load (by decide +kernel) rfl rfl rfl ?_
  show xEv (.inl 2) M_X6_load _ 0 ([some (.ref 57), some (.int (s)), some (.int (so)), some (.int (fr)), some (.int (n)), none, none, none, none, none], [], σ)
  refine ev_blk 1 [] 1 ([some (.ref 57), some (.int (s)), some (.int (so)), some (.int (fr)), some (.int (n)), none, none, none, none, none], [.int (s)], σ) rfl ?_ ?_
  · trivial
  refine ev_callS M_X6_isSheet [.int (s)] [] rfl rfl ln_X6_203 k_X6_isSheet rfl rfl rfl (m_isSheet _ _) ?_
  refine pu_k ?_
  show xEv _ _ _ 4 ([some (.ref 57), some (.int (s)), some (.int (so)), some (.int (fr)), some (.int (n)), none, none, none, none, none], [.int (zi (¬ s < 0 ∧ ¬ (3 : Int32) < s))], σ)
  refine ev_br 0 [] ((zi (¬ s < 0 ∧ ¬ (3 : Int32) < s)) = 0) 27 7 ([some (.ref 57), some (.int (s)), some (.int (so)), some (.int (fr)), some (.int (n)), none, none, none, none, none], [], σ) rfl ?_ (fun c4 => ?_) (fun c4 => ?_)
  · trivial
  · replace c4 := zi_0.mp c4
    refine ev_blk 1 [] 29 ([some (.ref 57), some (.int (s)), some (.int (so)), some (.int (fr)), some (.int (n)), none, none, none, none, none], [.int ((-2 : Int32))], σ) rfl ?_ ?_
    · trivial
    have e : zLd S s so fr n = (-2, S) := by rw [zLd, if_pos (Or.inl (fun q => c4 (iN4.mpr q)))]
    rw [e]
    exact ev_iret rfl rfl rfl ⟨rfl, hc, fun _ _ => rfl⟩
  · replace c4 := zi_1.mp c4
    refine ev_blk 3 [] 10 ([some (.ref 57), some (.int (s)), some (.int (so)), some (.int (fr)), some (.int (n)), none, none, none, none, none], [.int ((1 : Int32)), .int ((0 : Int32)), .int (so)], σ) rfl ?_ ?_
    · trivial
    refine ev_callS M_X6_within [.int (so), .int ((0 : Int32)), .int ((1 : Int32))] [] rfl rfl ln_X6_110 k_X6_within rfl rfl rfl (m_within _ _ _ _) ?_
    refine pu_k ?_
    show xEv _ _ _ 13 ([some (.ref 57), some (.int (s)), some (.int (so)), some (.int (fr)), some (.int (n)), none, none, none, none, none], [.int (zi (¬ so < (0 : Int32) ∧ ¬ (1 : Int32) < so))], σ)
    refine ev_br 0 [] ((zi (¬ so < (0 : Int32) ∧ ¬ (1 : Int32) < so)) = 0) 27 16 ([some (.ref 57), some (.int (s)), some (.int (so)), some (.int (fr)), some (.int (n)), none, none, none, none, none], [], σ) rfl ?_ (fun c13 => ?_) (fun c13 => ?_)
    · trivial
    · replace c13 := zi_0.mp c13
      refine ev_blk 1 [] 29 ([some (.ref 57), some (.int (s)), some (.int (so)), some (.int (fr)), some (.int (n)), none, none, none, none, none], [.int ((-2 : Int32))], σ) rfl ?_ ?_
      · trivial
      have e : zLd S s so fr n = (-2, S) := by rw [zLd, if_pos (Or.inr (Or.inl (fun q => c13 (w01.mpr q))))]
      rw [e]
      exact ev_iret rfl rfl rfl ⟨rfl, hc, fun _ _ => rfl⟩
    · replace c13 := zi_1.mp c13
      refine ev_blk 3 [] 21 ([some (.ref 57), some (.int (s)), some (.int (so)), some (.int (fr)), some (.int (n)), none, none, none, none, none], [.int ((10 : Int32)), .int ((0 : Int32)), .int (n)], σ) rfl ?_ ?_
      · trivial
      refine ev_callS M_X6_within [.int (n), .int ((0 : Int32)), .int ((10 : Int32))] [] rfl rfl ln_X6_110 k_X6_within rfl rfl rfl (m_within _ _ _ _) ?_
      refine pu_k ?_
      show xEv _ _ _ 24 ([some (.ref 57), some (.int (s)), some (.int (so)), some (.int (fr)), some (.int (n)), none, none, none, none, none], [.int (zi (¬ n < (0 : Int32) ∧ ¬ (10 : Int32) < n))], σ)
      refine ev_br 0 [] (¬ (zi (¬ n < (0 : Int32) ∧ ¬ (10 : Int32) < n)) = 0) 30 27 ([some (.ref 57), some (.int (s)), some (.int (so)), some (.int (fr)), some (.int (n)), none, none, none, none, none], [], σ) rfl ?_ (fun c24 => ?_) (fun c24 => ?_)
      · trivial
      · replace c24 := zi_1.mp c24
        have hs := iN4.mp c4
        obtain ⟨W, hW, _, rfl⟩ := iN_of hs
        obtain ⟨n, hn, rfl⟩ := nI_of2 (M := 10) (n := 10) (by decide) c24.1 (Int32.not_lt.mp c24.2)
        have hv : ¬ (¬ iN 4 (nI W) ∨ ¬ (so = 0 ∨ so = 1) ∨ nI n < 0 ∨ 10 < nI n) := by rintro (q | q | q | q); exact q hs; exact q (w01.mp c13); exact c24.1 q; exact c24.2 q
        have hWc : (nI W).toNatClampNeg = W := nI_clamp (by omega)
        have hin : vp_in (nI W) 4 := vp_in_nI hW (by decide)
        obtain ⟨ho, h0, h1, hi⟩ := hc.2.2.2.2.2 W hW
        show xEv _ _ _ 30 ([some (.ref 57), some (.int (nI W)), some (.int (so)), some (.int (fr)), some (.int (nI n)), none, none, none, none, none], [], σ)
        refine ev_br 4 [vp_in (nI W) 4] (((σ 86) (nI W).toNatClampNeg) = 0) 54 39 ([some (.ref 57), some (.int (nI W)), some (.int (so)), some (.int (fr)), some (.int (nI n)), none, none, none, none, none], [], σ) rfl ?_ (fun c36 => ?_) (fun c36 => ?_)
        · exact hin
        · rw [hWc] at c36
          refine ev_br 4 [vp_in (nI W) 4] (¬ ((σ 86) (nI W).toNatClampNeg) = 0) 66 63 ([some (.ref 57), some (.int (nI W)), some (.int (so)), some (.int (fr)), some (.int (nI n)), none, none, none, none, none], [], σ) rfl ?_ (fun c60 => ?_) (fun c60 => ?_)
          · exact hin
          · rw [hWc] at c60
            exact absurd c36 c60
          · rw [hWc] at c60
            refine ev_blk 1 [] 65 ([some (.ref 57), some (.int (nI W)), some (.int (so)), some (.int (fr)), some (.int (nI n)), none, none, none, none, none], [.int ((-11 : Int32))], σ) rfl ?_ ?_
            · trivial
            have e : zLd S (nI W) so fr (nI n) = (-11, S) := by rw [zLd, if_neg hv, hWc, if_pos ((so_p1 ho.1).1.mp (h0.symm.trans c36))]
            rw [e]
            exact ev_iret rfl rfl rfl ⟨rfl, hc, fun _ _ => rfl⟩
        · rw [hWc] at c36
          refine ev_br 7 [vp_in (nI W) 4] (((σ 86) (nI W).toNatClampNeg) = (so + (1 : Int32))) 54 51 ([some (.ref 57), some (.int (nI W)), some (.int (so)), some (.int (fr)), some (.int (nI n)), none, none, none, none, none], [], σ) rfl ?_ (fun c48 => ?_) (fun c48 => ?_)
          · exact hin
          · rw [hWc] at c48
            refine ev_br 4 [vp_in (nI W) 4] (¬ ((σ 86) (nI W).toNatClampNeg) = 0) 66 63 ([some (.ref 57), some (.int (nI W)), some (.int (so)), some (.int (fr)), some (.int (nI n)), none, none, none, none, none], [], σ) rfl ?_ (fun c60 => ?_) (fun c60 => ?_)
            · exact hin
            · rw [hWc] at c60
              refine ev_blk 4 [] 72 ([some (.ref 57), some (.int (nI W)), some (.int (so)), some (.int (fr)), some (.int (nI n)), some (.int ((0 : Int32))), some (.int ((0 : Int32))), none, none, none], [], σ) rfl ?_ ?_
              · trivial
              have e : zLd S (nI W) so fr (nI n) = zLdL (S.2.2.2 W).2.1 (S.2.2.2 W).2.2 fr n 0 0 S := by rw [zLd, if_neg hv, hWc, if_neg (fun q => c36 (h0.trans ((so_p1 ho.1).1.mpr q))), if_neg (fun q => q (so_eq.mp (h0.symm.trans c48))), nI_clamp (by omega)]
              rw [e]
              exact m_load_lp so fr n _ W _ hW ho.2 hn σ n 0 0 S σ (by omega) (Nat.le_refl _) (Or.inl rfl) ok hc rfl rfl (fun _ _ => rfl)
            · rw [hWc] at c60
              exact absurd c36 c60
          · rw [hWc] at c48
            refine ev_blk 1 [] 53 ([some (.ref 57), some (.int (nI W)), some (.int (so)), some (.int (fr)), some (.int (nI n)), none, none, none, none, none], [.int ((-13 : Int32))], σ) rfl ?_ ?_
            · trivial
            have e : zLd S (nI W) so fr (nI n) = (-13, S) := by rw [zLd, if_neg hv, hWc, if_neg (fun q => c36 (h0.trans ((so_p1 ho.1).1.mpr q))), if_pos (fun q => c48 (h0.trans (so_eq.mpr q)))]
            rw [e]
            exact ev_iret rfl rfl rfl ⟨rfl, hc, fun _ _ => rfl⟩
      · replace c24 := zi_n.mp c24
        refine ev_blk 1 [] 29 ([some (.ref 57), some (.int (s)), some (.int (so)), some (.int (fr)), some (.int (n)), none, none, none, none, none], [.int ((-2 : Int32))], σ) rfl ?_ ?_
        · trivial
        have e : zLd S s so fr n = (-2, S) := by rw [zLd, if_pos (Or.inr (Or.inr (Classical.byContradiction (fun q => c24 ⟨fun z => q (Or.inl z), fun z => q (Or.inr z)⟩))))]
        rw [e]
        exact ev_iret rfl rfl rfl ⟨rfl, hc, fun _ _ => rfl⟩
