/-! load, in one value -/
abbrev r5 (z : Nat) (x : Int32) : Prop := ¬ x < 0 ∧ x.toNatClampNeg + 5 ≤ z
abbrev zShp (S : zS) (f : Nat → Int32) (p : Nat) : Int32 × zS := zShip S (f p) (f (p + 1)) (f (p + 2)) (f (p + 3)) (f (p + 4))
def zLdL (z : Nat) (f : Nat → Int32) (fr : Int32) : Nat → Nat → Nat → zS → Int32 × zS
  | 0, _, c, S => (nI c, S)
  | m + 1, k, c, S => if r5 z (fr + (5 : Int32) * nI k) then zLdL z f fr m (k + 1) (if (zShp S f (fr + (5 : Int32) * nI k).toNatClampNeg).1 < 0 then c else c + 1) (zShp S f (fr + (5 : Int32) * nI k).toNatClampNeg).2 else (-12, S)
def zLd (S : zS) (s so fr n : Int32) : Int32 × zS := if ¬ iN 4 s ∨ ¬ (so = 0 ∨ so = 1) ∨ n < 0 ∨ 10 < n then (-2, S) else if (S.2.2.2 s.toNatClampNeg).1 = -1 then (-11, S) else if ¬ (S.2.2.2 s.toNatClampNeg).1 = so then (-13, S) else zLdL (S.2.2.2 s.toNatClampNeg).2.1 (S.2.2.2 s.toNatClampNeg).2.2 fr n.toNatClampNeg 0 0 S
theorem zLdL_y {z m k c : Nat} {f : Nat → Int32} {fr : Int32} {S : zS} (h : r5 z (fr + (5 : Int32) * nI k)) : zLdL z f fr (m + 1) k c S = zLdL z f fr m (k + 1) (if (zShp S f (fr + (5 : Int32) * nI k).toNatClampNeg).1 < 0 then c else c + 1) (zShp S f (fr + (5 : Int32) * nI k).toNatClampNeg).2 := by
  show (if _ then _ else _) = _
  rw [if_pos h]
theorem zLdL_n {z m k c : Nat} {f : Nat → Int32} {fr : Int32} {S : zS} (h : ¬ r5 z (fr + (5 : Int32) * nI k)) : zLdL z f fr (m + 1) k c S = (-12, S) := by
  show (if _ then _ else _) = _
  rw [if_neg h]
theorem zShip_sh (S : zS) (la k ln fi lc : Int32) : (zShip S la k ln fi lc).2.2.2.2 = S.2.2.2 := by
  unfold zShip
  split
  · rfl
  · split <;> rfl
theorem so_loadL {z : Nat} {f : Nat → Int32} {fr : Int32} : ∀ (m k c : Nat) (S : zS), sOk S → sOk (zLdL z f fr m k c S).2
  | 0, _, _, S, ok => ok
  | m + 1, k, c, S, ok => by
    by_cases h : r5 z (fr + (5 : Int32) * nI k)
    · rw [zLdL_y h]
      exact so_loadL m (k + 1) _ _ (so_ship ok _ _ _ _ _)
    · rw [zLdL_n h]
      exact ok
theorem so_load {S : zS} (ok : sOk S) (s so fr n : Int32) : sOk (zLd S s so fr n).2 := by
  unfold zLd
  split
  · exact ok
  · split
    · exact ok
    · split
      · exact ok
      · exact so_loadL _ _ _ _ ok
theorem cl5 : (5 : Int32).toNatClampNeg = 5 := by decide
theorem r5_rn {z : Nat} {x : Int32} (hz : z ≤ 40) : r5 z x ↔ rnN z x 5 := by
  constructor
  · intro h
    exact rn_of h.1 (by decide) (by rw [cl5]; exact h.2)
  · intro h
    obtain ⟨h1, -, h3⟩ := rn_cl hz h
    rw [cl5] at h3
    exact ⟨h1, h3⟩
theorem ll_ab {n : Nat} {w : Int32} {La : Nat → Int32} (hn : n ≤ 10) : (laneL n w La 0).length + (laneL n w La 1).length ≤ n := by
  have hd : (laneL n w La 0 ++ laneL n w La 1).Nodup := List.nodup_append.mpr ⟨laneL_nodup _ _ _ _, laneL_nodup _ _ _ _, fun x hx y hy e => laneL_apart x hx (by rw [e]; exact hy)⟩
  have hm : ∀ x ∈ laneL n w La 0 ++ laneL n w La 1, x < n := fun x hx => by
    rcases List.mem_append.mp hx with q | q
    · exact (lnp_lt q).1
    · exact (lnp_lt q).1
  have h := fl_perm hd (fun x hx => by have := hm x hx; omega)
  have h2 : ((List.range 10).filter (fun x => decide (x ∈ laneL n w La 0 ++ laneL n w La 1))).length ≤ ((List.range 10).filter (fun x => decide (x < n))).length := fl_mono (fun x _ hp => decide_eq_true (hm x (of_decide_eq_true hp)))
  have h3 : ∀ m, m ≤ 10 → ((List.range 10).filter (fun x => decide (x < m))).length = m := by decide +kernel
  rw [h3 n hn, h, List.length_append] at h2
  exact h2
set_option maxRecDepth 100000 in
theorem c_load0_lp (so fr : Int32) (n z : Nat) (f : Nat → Int32) (hz : z ≤ 40) (hn : n ≤ 10) (σ : xSg) : ∀ (m k c : Nat) (S : zS) (σ1 : xSg), k + m = n → c ≤ k → sOk S → CH0 σ1 S → (S.2.2.2 0).2.1 = z → (S.2.2.2 0).2.2 = f → (∀ c, 57 ≤ c → σ1 c = σ c) → xEv (.inl 2) M_X5_load (zC σ (zLdL z f fr m k c S)) 74 ([some (.ref 0), some (.int ((0 : Int32))), some (.int (so)), some (.int (fr)), some (.int (nI n)), some (.ref 49), some (.int (nI c)), some (.int (nI k)), none, none, none], [], σ1) := by
  intro m
  induction m with
  | zero =>
    intro k c S σ1 hk hck ok hc ez ef hf
    refine ev_br 2 [] ((nI n) ≤ (nI k)) 170 81 ([some (.ref 0), some (.int ((0 : Int32))), some (.int (so)), some (.int (fr)), some (.int (nI n)), some (.ref 49), some (.int (nI c)), some (.int (nI k)), none, none, none], [], σ1) rfl ?_ (fun c78 => ?_) (fun c78 => ?_)
    · trivial
    · refine ev_blk 1 [] 172 ([some (.ref 0), some (.int ((0 : Int32))), some (.int (so)), some (.int (fr)), some (.int (nI n)), some (.ref 49), some (.int (nI c)), some (.int (nI k)), none, none, none], [.int (nI c)], σ1) rfl ?_ ?_
      · trivial
      exact ev_iret rfl rfl rfl ⟨rfl, hc, hf⟩
    · exact absurd (nI_le (by omega) (by omega)) c78
  | succ m ih =>
    intro k c S σ1 hk hck ok hc ez ef hf
    obtain ⟨-, -, h1, hi⟩ := hc.2.2.2.2.2 0 (by decide)
    rw [ez] at h1
    rw [ef] at hi
    refine ev_br 2 [] ((nI n) ≤ (nI k)) 170 81 ([some (.ref 0), some (.int ((0 : Int32))), some (.int (so)), some (.int (fr)), some (.int (nI n)), some (.ref 49), some (.int (nI c)), some (.int (nI k)), none, none, none], [], σ1) rfl ?_ (fun c78 => ?_) (fun c78 => ?_)
    · trivial
    · exact absurd c78 (nI_ge (by omega) (by omega))
    · refine ev_blk 9 [] 94 ([some (.ref 0), some (.int ((0 : Int32))), some (.int (so)), some (.int (fr)), some (.int (nI n)), some (.ref 49), some (.int (nI c)), some (.int (nI k)), some (.int (fr + ((5 : Int32) * (nI k)))), none, none], [.int ((5 : Int32)), .int (fr + ((5 : Int32) * (nI k))), .ref 49], σ1) rfl ?_ ?_
      · trivial
      refine ev_callV M_X4_hasRun [.int (fr + ((5 : Int32) * (nI k))), .int ((5 : Int32))] [] 49 rfl rfl ln_X5_266 k_X4_hasRun rfl rfl rfl rfl rfl rfl (c_hasRun0 _ _ _) ?_
      refine pu_k ?_
      show xEv _ _ _ 97 ([some (.ref 0), some (.int ((0 : Int32))), some (.int (so)), some (.int (fr)), some (.int (nI n)), some (.ref 49), some (.int (nI c)), some (.int (nI k)), some (.int (fr + ((5 : Int32) * (nI k)))), none, none], [.int (zi (¬ (fr + ((5 : Int32) * (nI k))) < 0 ∧ ¬ (5 : Int32) < 0 ∧ ¬ σ1 49 1 < (fr + ((5 : Int32) * (nI k))) ∧ ¬ σ1 49 1 - (fr + ((5 : Int32) * (nI k))) < (5 : Int32)))], σ1)
      refine ev_br 0 [] (¬ (zi (¬ (fr + ((5 : Int32) * (nI k))) < 0 ∧ ¬ (5 : Int32) < 0 ∧ ¬ σ1 49 1 < (fr + ((5 : Int32) * (nI k))) ∧ ¬ σ1 49 1 - (fr + ((5 : Int32) * (nI k))) < (5 : Int32))) = 0) 103 100 ([some (.ref 0), some (.int ((0 : Int32))), some (.int (so)), some (.int (fr)), some (.int (nI n)), some (.ref 49), some (.int (nI c)), some (.int (nI k)), some (.int (fr + ((5 : Int32) * (nI k)))), none, none], [], σ1) rfl ?_ (fun c97 => ?_) (fun c97 => ?_)
      · trivial
      · replace c97 := zi_1.mp c97
        have hr := (r5_rn hz).mpr ((rnC hz).mp (by rw [show σ1 49 1 = nI z from h1] at c97; exact c97))
        rw [zLdL_y hr]
        obtain ⟨p, hp, hat⟩ := nI_of hr.1
        have hp5 : p + 5 ≤ z := by have := hr.2; rw [hat, nI_clamp hp] at this; exact this
        rw [hat]
        have hp0 : (nI p).toNatClampNeg = p := nI_clamp hp
        have he1 : (nI p) + (1 : Int32) = nI (p + 1) := nI_add p 1
        have hp1 : ((nI p) + (1 : Int32)).toNatClampNeg = p + 1 := by rw [he1, nI_clamp (by omega)]
        have he2 : (nI p) + (2 : Int32) = nI (p + 2) := nI_add p 2
        have hp2 : ((nI p) + (2 : Int32)).toNatClampNeg = p + 2 := by rw [he2, nI_clamp (by omega)]
        have he3 : (nI p) + (3 : Int32) = nI (p + 3) := nI_add p 3
        have hp3 : ((nI p) + (3 : Int32)).toNatClampNeg = p + 3 := by rw [he3, nI_clamp (by omega)]
        have he4 : (nI p) + (4 : Int32) = nI (p + 4) := nI_add p 4
        have hp4 : ((nI p) + (4 : Int32)).toNatClampNeg = p + 4 := by rw [he4, nI_clamp (by omega)]
        rw [hp0]
        show xEv _ _ _ 103 ([some (.ref 0), some (.int ((0 : Int32))), some (.int (so)), some (.int (fr)), some (.int (nI n)), some (.ref 49), some (.int (nI c)), some (.int (nI k)), some (.int (nI p)), none, none], [], σ1)
        refine ev_blk 27 [vp_in (nI p) 40, vp_in ((nI p) + (1 : Int32)) 40, vp_in ((nI p) + (2 : Int32)) 40, vp_in ((nI p) + (3 : Int32)) 40, vp_in ((nI p) + (4 : Int32)) 40] 144 ([some (.ref 0), some (.int ((0 : Int32))), some (.int (so)), some (.int (fr)), some (.int (nI n)), some (.ref 49), some (.int (nI c)), some (.int (nI k)), some (.int (nI p)), some (.ref 50), none], [.int ((σ1 50) ((nI p) + (4 : Int32)).toNatClampNeg), .int ((σ1 50) ((nI p) + (3 : Int32)).toNatClampNeg), .int ((σ1 50) ((nI p) + (2 : Int32)).toNatClampNeg), .int ((σ1 50) ((nI p) + (1 : Int32)).toNatClampNeg), .int ((σ1 50) (nI p).toNatClampNeg), .ref 0], σ1) rfl ?_ ?_
        · exact ⟨(vp_in_nI (by omega) (by decide)), (by rw [he1]; exact vp_in_nI (by omega) (by decide)), (by rw [he2]; exact vp_in_nI (by omega) (by decide)), (by rw [he3]; exact vp_in_nI (by omega) (by decide)), (by rw [he4]; exact vp_in_nI (by omega) (by decide))⟩
        rw [hp1]
        rw [hp2]
        rw [hp3]
        rw [hp4]
        rw [hp0]
        rw [hi (p + 1) (by omega)]
        rw [hi (p + 2) (by omega)]
        rw [hi (p + 3) (by omega)]
        rw [hi (p + 4) (by omega)]
        rw [hi p (by omega)]
        refine ev_callV M_X5_ship [.int (f p), .int (f (p + 1)), .int (f (p + 2)), .int (f (p + 3)), .int (f (p + 4))] [] 0 rfl rfl ln_X5_278 k_X5_ship rfl rfl rfl rfl rfl rfl (c_ship _ S.1.1 hc.1.1 ok.1.1.1 _ _ _ _ _) ?_
        intro r σ' hq
        obtain ⟨rfl, hc', fr'⟩ := kc_ship hc hq
        show xEv _ _ _ 147 ([some (.ref 0), some (.int ((0 : Int32))), some (.int (so)), some (.int (fr)), some (.int (nI n)), some (.ref 49), some (.int (nI c)), some (.int (nI k)), some (.int (nI p)), some (.ref 50), none], [.int ((zShp S f p).1)], σ')
        refine ev_br 3 [] (((zShp S f p).1) < 0) 160 156 ([some (.ref 0), some (.int ((0 : Int32))), some (.int (so)), some (.int (fr)), some (.int (nI n)), some (.ref 49), some (.int (nI c)), some (.int (nI k)), some (.int (nI p)), some (.ref 50), some (.int ((zShp S f p).1))], [.int (nI c)], σ') rfl ?_ (fun c153 => ?_) (fun c153 => ?_)
        · trivial
        · refine ev_blk 5 [] 74 ([some (.ref 0), some (.int ((0 : Int32))), some (.int (so)), some (.int (fr)), some (.int (nI n)), some (.ref 49), some (.int ((nI c) + (0 : Int32))), some (.int ((nI k) + (1 : Int32))), some (.int (nI p)), some (.ref 50), some (.int ((zShp S f p).1))], [], σ') rfl ?_ ?_
          · trivial
          rw [if_pos c153, show nI c + (0 : Int32) = nI c from Int32.add_zero _, nI_1]
          refine ev_drop 8 (ev_drop 9 (ev_drop 10 ?_))
          exact ih (k + 1) c (zShp S f p).2 σ' (by omega) (by omega) (so_ship ok _ _ _ _ _) hc' (by rw [zShip_sh]; exact ez) (by rw [zShip_sh]; exact ef) (fun c hc => (fr' c hc).trans (hf c hc))
        · refine ev_blk 6 [] 74 ([some (.ref 0), some (.int ((0 : Int32))), some (.int (so)), some (.int (fr)), some (.int (nI n)), some (.ref 49), some (.int ((nI c) + (1 : Int32))), some (.int ((nI k) + (1 : Int32))), some (.int (nI p)), some (.ref 50), some (.int ((zShp S f p).1))], [], σ') rfl ?_ ?_
          · trivial
          rw [if_neg c153, nI_1, nI_1]
          refine ev_drop 8 (ev_drop 9 (ev_drop 10 ?_))
          exact ih (k + 1) (c + 1) (zShp S f p).2 σ' (by omega) (by omega) (so_ship ok _ _ _ _ _) hc' (by rw [zShip_sh]; exact ez) (by rw [zShip_sh]; exact ef) (fun c hc => (fr' c hc).trans (hf c hc))
      · replace c97 := zi_n.mp c97
        refine ev_blk 1 [] 102 ([some (.ref 0), some (.int ((0 : Int32))), some (.int (so)), some (.int (fr)), some (.int (nI n)), some (.ref 49), some (.int (nI c)), some (.int (nI k)), some (.int (fr + ((5 : Int32) * (nI k)))), none, none], [.int ((-12 : Int32))], σ1) rfl ?_ ?_
        · trivial
        have hno : ¬ r5 z (fr + (5 : Int32) * nI k) := fun q => c97 (by rw [show σ1 49 1 = nI z from h1]; exact (rnC hz).mpr ((r5_rn hz).mp q))
        rw [zLdL_n hno]
        exact ev_iret rfl rfl rfl ⟨rfl, hc, hf⟩
set_option maxRecDepth 100000 in
theorem c_load1_lp (so fr : Int32) (n z : Nat) (f : Nat → Int32) (hz : z ≤ 40) (hn : n ≤ 10) (σ : xSg) : ∀ (m k c : Nat) (S : zS) (σ1 : xSg), k + m = n → c ≤ k → sOk S → CH0 σ1 S → (S.2.2.2 1).2.1 = z → (S.2.2.2 1).2.2 = f → (∀ c, 57 ≤ c → σ1 c = σ c) → xEv (.inl 2) M_X5_load (zC σ (zLdL z f fr m k c S)) 74 ([some (.ref 0), some (.int ((1 : Int32))), some (.int (so)), some (.int (fr)), some (.int (nI n)), some (.ref 51), some (.int (nI c)), some (.int (nI k)), none, none, none], [], σ1) := by
  intro m
  induction m with
  | zero =>
    intro k c S σ1 hk hck ok hc ez ef hf
    refine ev_br 2 [] ((nI n) ≤ (nI k)) 170 81 ([some (.ref 0), some (.int ((1 : Int32))), some (.int (so)), some (.int (fr)), some (.int (nI n)), some (.ref 51), some (.int (nI c)), some (.int (nI k)), none, none, none], [], σ1) rfl ?_ (fun c78 => ?_) (fun c78 => ?_)
    · trivial
    · refine ev_blk 1 [] 172 ([some (.ref 0), some (.int ((1 : Int32))), some (.int (so)), some (.int (fr)), some (.int (nI n)), some (.ref 51), some (.int (nI c)), some (.int (nI k)), none, none, none], [.int (nI c)], σ1) rfl ?_ ?_
      · trivial
      exact ev_iret rfl rfl rfl ⟨rfl, hc, hf⟩
    · exact absurd (nI_le (by omega) (by omega)) c78
  | succ m ih =>
    intro k c S σ1 hk hck ok hc ez ef hf
    obtain ⟨-, -, h1, hi⟩ := hc.2.2.2.2.2 1 (by decide)
    rw [ez] at h1
    rw [ef] at hi
    refine ev_br 2 [] ((nI n) ≤ (nI k)) 170 81 ([some (.ref 0), some (.int ((1 : Int32))), some (.int (so)), some (.int (fr)), some (.int (nI n)), some (.ref 51), some (.int (nI c)), some (.int (nI k)), none, none, none], [], σ1) rfl ?_ (fun c78 => ?_) (fun c78 => ?_)
    · trivial
    · exact absurd c78 (nI_ge (by omega) (by omega))
    · refine ev_blk 9 [] 94 ([some (.ref 0), some (.int ((1 : Int32))), some (.int (so)), some (.int (fr)), some (.int (nI n)), some (.ref 51), some (.int (nI c)), some (.int (nI k)), some (.int (fr + ((5 : Int32) * (nI k)))), none, none], [.int ((5 : Int32)), .int (fr + ((5 : Int32) * (nI k))), .ref 51], σ1) rfl ?_ ?_
      · trivial
      refine ev_callV M_X4_hasRun [.int (fr + ((5 : Int32) * (nI k))), .int ((5 : Int32))] [] 51 rfl rfl ln_X5_266 k_X4_hasRun rfl rfl rfl rfl rfl rfl (c_hasRun1 _ _ _) ?_
      refine pu_k ?_
      show xEv _ _ _ 97 ([some (.ref 0), some (.int ((1 : Int32))), some (.int (so)), some (.int (fr)), some (.int (nI n)), some (.ref 51), some (.int (nI c)), some (.int (nI k)), some (.int (fr + ((5 : Int32) * (nI k)))), none, none], [.int (zi (¬ (fr + ((5 : Int32) * (nI k))) < 0 ∧ ¬ (5 : Int32) < 0 ∧ ¬ σ1 51 1 < (fr + ((5 : Int32) * (nI k))) ∧ ¬ σ1 51 1 - (fr + ((5 : Int32) * (nI k))) < (5 : Int32)))], σ1)
      refine ev_br 0 [] (¬ (zi (¬ (fr + ((5 : Int32) * (nI k))) < 0 ∧ ¬ (5 : Int32) < 0 ∧ ¬ σ1 51 1 < (fr + ((5 : Int32) * (nI k))) ∧ ¬ σ1 51 1 - (fr + ((5 : Int32) * (nI k))) < (5 : Int32))) = 0) 103 100 ([some (.ref 0), some (.int ((1 : Int32))), some (.int (so)), some (.int (fr)), some (.int (nI n)), some (.ref 51), some (.int (nI c)), some (.int (nI k)), some (.int (fr + ((5 : Int32) * (nI k)))), none, none], [], σ1) rfl ?_ (fun c97 => ?_) (fun c97 => ?_)
      · trivial
      · replace c97 := zi_1.mp c97
        have hr := (r5_rn hz).mpr ((rnC hz).mp (by rw [show σ1 51 1 = nI z from h1] at c97; exact c97))
        rw [zLdL_y hr]
        obtain ⟨p, hp, hat⟩ := nI_of hr.1
        have hp5 : p + 5 ≤ z := by have := hr.2; rw [hat, nI_clamp hp] at this; exact this
        rw [hat]
        have hp0 : (nI p).toNatClampNeg = p := nI_clamp hp
        have he1 : (nI p) + (1 : Int32) = nI (p + 1) := nI_add p 1
        have hp1 : ((nI p) + (1 : Int32)).toNatClampNeg = p + 1 := by rw [he1, nI_clamp (by omega)]
        have he2 : (nI p) + (2 : Int32) = nI (p + 2) := nI_add p 2
        have hp2 : ((nI p) + (2 : Int32)).toNatClampNeg = p + 2 := by rw [he2, nI_clamp (by omega)]
        have he3 : (nI p) + (3 : Int32) = nI (p + 3) := nI_add p 3
        have hp3 : ((nI p) + (3 : Int32)).toNatClampNeg = p + 3 := by rw [he3, nI_clamp (by omega)]
        have he4 : (nI p) + (4 : Int32) = nI (p + 4) := nI_add p 4
        have hp4 : ((nI p) + (4 : Int32)).toNatClampNeg = p + 4 := by rw [he4, nI_clamp (by omega)]
        rw [hp0]
        show xEv _ _ _ 103 ([some (.ref 0), some (.int ((1 : Int32))), some (.int (so)), some (.int (fr)), some (.int (nI n)), some (.ref 51), some (.int (nI c)), some (.int (nI k)), some (.int (nI p)), none, none], [], σ1)
        refine ev_blk 27 [vp_in (nI p) 40, vp_in ((nI p) + (1 : Int32)) 40, vp_in ((nI p) + (2 : Int32)) 40, vp_in ((nI p) + (3 : Int32)) 40, vp_in ((nI p) + (4 : Int32)) 40] 144 ([some (.ref 0), some (.int ((1 : Int32))), some (.int (so)), some (.int (fr)), some (.int (nI n)), some (.ref 51), some (.int (nI c)), some (.int (nI k)), some (.int (nI p)), some (.ref 52), none], [.int ((σ1 52) ((nI p) + (4 : Int32)).toNatClampNeg), .int ((σ1 52) ((nI p) + (3 : Int32)).toNatClampNeg), .int ((σ1 52) ((nI p) + (2 : Int32)).toNatClampNeg), .int ((σ1 52) ((nI p) + (1 : Int32)).toNatClampNeg), .int ((σ1 52) (nI p).toNatClampNeg), .ref 0], σ1) rfl ?_ ?_
        · exact ⟨(vp_in_nI (by omega) (by decide)), (by rw [he1]; exact vp_in_nI (by omega) (by decide)), (by rw [he2]; exact vp_in_nI (by omega) (by decide)), (by rw [he3]; exact vp_in_nI (by omega) (by decide)), (by rw [he4]; exact vp_in_nI (by omega) (by decide))⟩
        rw [hp1]
        rw [hp2]
        rw [hp3]
        rw [hp4]
        rw [hp0]
        rw [hi (p + 1) (by omega)]
        rw [hi (p + 2) (by omega)]
        rw [hi (p + 3) (by omega)]
        rw [hi (p + 4) (by omega)]
        rw [hi p (by omega)]
        refine ev_callV M_X5_ship [.int (f p), .int (f (p + 1)), .int (f (p + 2)), .int (f (p + 3)), .int (f (p + 4))] [] 0 rfl rfl ln_X5_278 k_X5_ship rfl rfl rfl rfl rfl rfl (c_ship _ S.1.1 hc.1.1 ok.1.1.1 _ _ _ _ _) ?_
        intro r σ' hq
        obtain ⟨rfl, hc', fr'⟩ := kc_ship hc hq
        show xEv _ _ _ 147 ([some (.ref 0), some (.int ((1 : Int32))), some (.int (so)), some (.int (fr)), some (.int (nI n)), some (.ref 51), some (.int (nI c)), some (.int (nI k)), some (.int (nI p)), some (.ref 52), none], [.int ((zShp S f p).1)], σ')
        refine ev_br 3 [] (((zShp S f p).1) < 0) 160 156 ([some (.ref 0), some (.int ((1 : Int32))), some (.int (so)), some (.int (fr)), some (.int (nI n)), some (.ref 51), some (.int (nI c)), some (.int (nI k)), some (.int (nI p)), some (.ref 52), some (.int ((zShp S f p).1))], [.int (nI c)], σ') rfl ?_ (fun c153 => ?_) (fun c153 => ?_)
        · trivial
        · refine ev_blk 5 [] 74 ([some (.ref 0), some (.int ((1 : Int32))), some (.int (so)), some (.int (fr)), some (.int (nI n)), some (.ref 51), some (.int ((nI c) + (0 : Int32))), some (.int ((nI k) + (1 : Int32))), some (.int (nI p)), some (.ref 52), some (.int ((zShp S f p).1))], [], σ') rfl ?_ ?_
          · trivial
          rw [if_pos c153, show nI c + (0 : Int32) = nI c from Int32.add_zero _, nI_1]
          refine ev_drop 8 (ev_drop 9 (ev_drop 10 ?_))
          exact ih (k + 1) c (zShp S f p).2 σ' (by omega) (by omega) (so_ship ok _ _ _ _ _) hc' (by rw [zShip_sh]; exact ez) (by rw [zShip_sh]; exact ef) (fun c hc => (fr' c hc).trans (hf c hc))
        · refine ev_blk 6 [] 74 ([some (.ref 0), some (.int ((1 : Int32))), some (.int (so)), some (.int (fr)), some (.int (nI n)), some (.ref 51), some (.int ((nI c) + (1 : Int32))), some (.int ((nI k) + (1 : Int32))), some (.int (nI p)), some (.ref 52), some (.int ((zShp S f p).1))], [], σ') rfl ?_ ?_
          · trivial
          rw [if_neg c153, nI_1, nI_1]
          refine ev_drop 8 (ev_drop 9 (ev_drop 10 ?_))
          exact ih (k + 1) (c + 1) (zShp S f p).2 σ' (by omega) (by omega) (so_ship ok _ _ _ _ _) hc' (by rw [zShip_sh]; exact ez) (by rw [zShip_sh]; exact ef) (fun c hc => (fr' c hc).trans (hf c hc))
      · replace c97 := zi_n.mp c97
        refine ev_blk 1 [] 102 ([some (.ref 0), some (.int ((1 : Int32))), some (.int (so)), some (.int (fr)), some (.int (nI n)), some (.ref 51), some (.int (nI c)), some (.int (nI k)), some (.int (fr + ((5 : Int32) * (nI k)))), none, none], [.int ((-12 : Int32))], σ1) rfl ?_ ?_
        · trivial
        have hno : ¬ r5 z (fr + (5 : Int32) * nI k) := fun q => c97 (by rw [show σ1 51 1 = nI z from h1]; exact (rnC hz).mpr ((r5_rn hz).mp q))
        rw [zLdL_n hno]
        exact ev_iret rfl rfl rfl ⟨rfl, hc, hf⟩
set_option maxRecDepth 100000 in
theorem c_load2_lp (so fr : Int32) (n z : Nat) (f : Nat → Int32) (hz : z ≤ 40) (hn : n ≤ 10) (σ : xSg) : ∀ (m k c : Nat) (S : zS) (σ1 : xSg), k + m = n → c ≤ k → sOk S → CH0 σ1 S → (S.2.2.2 2).2.1 = z → (S.2.2.2 2).2.2 = f → (∀ c, 57 ≤ c → σ1 c = σ c) → xEv (.inl 2) M_X5_load (zC σ (zLdL z f fr m k c S)) 74 ([some (.ref 0), some (.int ((2 : Int32))), some (.int (so)), some (.int (fr)), some (.int (nI n)), some (.ref 53), some (.int (nI c)), some (.int (nI k)), none, none, none], [], σ1) := by
  intro m
  induction m with
  | zero =>
    intro k c S σ1 hk hck ok hc ez ef hf
    refine ev_br 2 [] ((nI n) ≤ (nI k)) 170 81 ([some (.ref 0), some (.int ((2 : Int32))), some (.int (so)), some (.int (fr)), some (.int (nI n)), some (.ref 53), some (.int (nI c)), some (.int (nI k)), none, none, none], [], σ1) rfl ?_ (fun c78 => ?_) (fun c78 => ?_)
    · trivial
    · refine ev_blk 1 [] 172 ([some (.ref 0), some (.int ((2 : Int32))), some (.int (so)), some (.int (fr)), some (.int (nI n)), some (.ref 53), some (.int (nI c)), some (.int (nI k)), none, none, none], [.int (nI c)], σ1) rfl ?_ ?_
      · trivial
      exact ev_iret rfl rfl rfl ⟨rfl, hc, hf⟩
    · exact absurd (nI_le (by omega) (by omega)) c78
  | succ m ih =>
    intro k c S σ1 hk hck ok hc ez ef hf
    obtain ⟨-, -, h1, hi⟩ := hc.2.2.2.2.2 2 (by decide)
    rw [ez] at h1
    rw [ef] at hi
    refine ev_br 2 [] ((nI n) ≤ (nI k)) 170 81 ([some (.ref 0), some (.int ((2 : Int32))), some (.int (so)), some (.int (fr)), some (.int (nI n)), some (.ref 53), some (.int (nI c)), some (.int (nI k)), none, none, none], [], σ1) rfl ?_ (fun c78 => ?_) (fun c78 => ?_)
    · trivial
    · exact absurd c78 (nI_ge (by omega) (by omega))
    · refine ev_blk 9 [] 94 ([some (.ref 0), some (.int ((2 : Int32))), some (.int (so)), some (.int (fr)), some (.int (nI n)), some (.ref 53), some (.int (nI c)), some (.int (nI k)), some (.int (fr + ((5 : Int32) * (nI k)))), none, none], [.int ((5 : Int32)), .int (fr + ((5 : Int32) * (nI k))), .ref 53], σ1) rfl ?_ ?_
      · trivial
      refine ev_callV M_X4_hasRun [.int (fr + ((5 : Int32) * (nI k))), .int ((5 : Int32))] [] 53 rfl rfl ln_X5_266 k_X4_hasRun rfl rfl rfl rfl rfl rfl (c_hasRun2 _ _ _) ?_
      refine pu_k ?_
      show xEv _ _ _ 97 ([some (.ref 0), some (.int ((2 : Int32))), some (.int (so)), some (.int (fr)), some (.int (nI n)), some (.ref 53), some (.int (nI c)), some (.int (nI k)), some (.int (fr + ((5 : Int32) * (nI k)))), none, none], [.int (zi (¬ (fr + ((5 : Int32) * (nI k))) < 0 ∧ ¬ (5 : Int32) < 0 ∧ ¬ σ1 53 1 < (fr + ((5 : Int32) * (nI k))) ∧ ¬ σ1 53 1 - (fr + ((5 : Int32) * (nI k))) < (5 : Int32)))], σ1)
      refine ev_br 0 [] (¬ (zi (¬ (fr + ((5 : Int32) * (nI k))) < 0 ∧ ¬ (5 : Int32) < 0 ∧ ¬ σ1 53 1 < (fr + ((5 : Int32) * (nI k))) ∧ ¬ σ1 53 1 - (fr + ((5 : Int32) * (nI k))) < (5 : Int32))) = 0) 103 100 ([some (.ref 0), some (.int ((2 : Int32))), some (.int (so)), some (.int (fr)), some (.int (nI n)), some (.ref 53), some (.int (nI c)), some (.int (nI k)), some (.int (fr + ((5 : Int32) * (nI k)))), none, none], [], σ1) rfl ?_ (fun c97 => ?_) (fun c97 => ?_)
      · trivial
      · replace c97 := zi_1.mp c97
        have hr := (r5_rn hz).mpr ((rnC hz).mp (by rw [show σ1 53 1 = nI z from h1] at c97; exact c97))
        rw [zLdL_y hr]
        obtain ⟨p, hp, hat⟩ := nI_of hr.1
        have hp5 : p + 5 ≤ z := by have := hr.2; rw [hat, nI_clamp hp] at this; exact this
        rw [hat]
        have hp0 : (nI p).toNatClampNeg = p := nI_clamp hp
        have he1 : (nI p) + (1 : Int32) = nI (p + 1) := nI_add p 1
        have hp1 : ((nI p) + (1 : Int32)).toNatClampNeg = p + 1 := by rw [he1, nI_clamp (by omega)]
        have he2 : (nI p) + (2 : Int32) = nI (p + 2) := nI_add p 2
        have hp2 : ((nI p) + (2 : Int32)).toNatClampNeg = p + 2 := by rw [he2, nI_clamp (by omega)]
        have he3 : (nI p) + (3 : Int32) = nI (p + 3) := nI_add p 3
        have hp3 : ((nI p) + (3 : Int32)).toNatClampNeg = p + 3 := by rw [he3, nI_clamp (by omega)]
        have he4 : (nI p) + (4 : Int32) = nI (p + 4) := nI_add p 4
        have hp4 : ((nI p) + (4 : Int32)).toNatClampNeg = p + 4 := by rw [he4, nI_clamp (by omega)]
        rw [hp0]
        show xEv _ _ _ 103 ([some (.ref 0), some (.int ((2 : Int32))), some (.int (so)), some (.int (fr)), some (.int (nI n)), some (.ref 53), some (.int (nI c)), some (.int (nI k)), some (.int (nI p)), none, none], [], σ1)
        refine ev_blk 27 [vp_in (nI p) 40, vp_in ((nI p) + (1 : Int32)) 40, vp_in ((nI p) + (2 : Int32)) 40, vp_in ((nI p) + (3 : Int32)) 40, vp_in ((nI p) + (4 : Int32)) 40] 144 ([some (.ref 0), some (.int ((2 : Int32))), some (.int (so)), some (.int (fr)), some (.int (nI n)), some (.ref 53), some (.int (nI c)), some (.int (nI k)), some (.int (nI p)), some (.ref 54), none], [.int ((σ1 54) ((nI p) + (4 : Int32)).toNatClampNeg), .int ((σ1 54) ((nI p) + (3 : Int32)).toNatClampNeg), .int ((σ1 54) ((nI p) + (2 : Int32)).toNatClampNeg), .int ((σ1 54) ((nI p) + (1 : Int32)).toNatClampNeg), .int ((σ1 54) (nI p).toNatClampNeg), .ref 0], σ1) rfl ?_ ?_
        · exact ⟨(vp_in_nI (by omega) (by decide)), (by rw [he1]; exact vp_in_nI (by omega) (by decide)), (by rw [he2]; exact vp_in_nI (by omega) (by decide)), (by rw [he3]; exact vp_in_nI (by omega) (by decide)), (by rw [he4]; exact vp_in_nI (by omega) (by decide))⟩
        rw [hp1]
        rw [hp2]
        rw [hp3]
        rw [hp4]
        rw [hp0]
        rw [hi (p + 1) (by omega)]
        rw [hi (p + 2) (by omega)]
        rw [hi (p + 3) (by omega)]
        rw [hi (p + 4) (by omega)]
        rw [hi p (by omega)]
        refine ev_callV M_X5_ship [.int (f p), .int (f (p + 1)), .int (f (p + 2)), .int (f (p + 3)), .int (f (p + 4))] [] 0 rfl rfl ln_X5_278 k_X5_ship rfl rfl rfl rfl rfl rfl (c_ship _ S.1.1 hc.1.1 ok.1.1.1 _ _ _ _ _) ?_
        intro r σ' hq
        obtain ⟨rfl, hc', fr'⟩ := kc_ship hc hq
        show xEv _ _ _ 147 ([some (.ref 0), some (.int ((2 : Int32))), some (.int (so)), some (.int (fr)), some (.int (nI n)), some (.ref 53), some (.int (nI c)), some (.int (nI k)), some (.int (nI p)), some (.ref 54), none], [.int ((zShp S f p).1)], σ')
        refine ev_br 3 [] (((zShp S f p).1) < 0) 160 156 ([some (.ref 0), some (.int ((2 : Int32))), some (.int (so)), some (.int (fr)), some (.int (nI n)), some (.ref 53), some (.int (nI c)), some (.int (nI k)), some (.int (nI p)), some (.ref 54), some (.int ((zShp S f p).1))], [.int (nI c)], σ') rfl ?_ (fun c153 => ?_) (fun c153 => ?_)
        · trivial
        · refine ev_blk 5 [] 74 ([some (.ref 0), some (.int ((2 : Int32))), some (.int (so)), some (.int (fr)), some (.int (nI n)), some (.ref 53), some (.int ((nI c) + (0 : Int32))), some (.int ((nI k) + (1 : Int32))), some (.int (nI p)), some (.ref 54), some (.int ((zShp S f p).1))], [], σ') rfl ?_ ?_
          · trivial
          rw [if_pos c153, show nI c + (0 : Int32) = nI c from Int32.add_zero _, nI_1]
          refine ev_drop 8 (ev_drop 9 (ev_drop 10 ?_))
          exact ih (k + 1) c (zShp S f p).2 σ' (by omega) (by omega) (so_ship ok _ _ _ _ _) hc' (by rw [zShip_sh]; exact ez) (by rw [zShip_sh]; exact ef) (fun c hc => (fr' c hc).trans (hf c hc))
        · refine ev_blk 6 [] 74 ([some (.ref 0), some (.int ((2 : Int32))), some (.int (so)), some (.int (fr)), some (.int (nI n)), some (.ref 53), some (.int ((nI c) + (1 : Int32))), some (.int ((nI k) + (1 : Int32))), some (.int (nI p)), some (.ref 54), some (.int ((zShp S f p).1))], [], σ') rfl ?_ ?_
          · trivial
          rw [if_neg c153, nI_1, nI_1]
          refine ev_drop 8 (ev_drop 9 (ev_drop 10 ?_))
          exact ih (k + 1) (c + 1) (zShp S f p).2 σ' (by omega) (by omega) (so_ship ok _ _ _ _ _) hc' (by rw [zShip_sh]; exact ez) (by rw [zShip_sh]; exact ef) (fun c hc => (fr' c hc).trans (hf c hc))
      · replace c97 := zi_n.mp c97
        refine ev_blk 1 [] 102 ([some (.ref 0), some (.int ((2 : Int32))), some (.int (so)), some (.int (fr)), some (.int (nI n)), some (.ref 53), some (.int (nI c)), some (.int (nI k)), some (.int (fr + ((5 : Int32) * (nI k)))), none, none], [.int ((-12 : Int32))], σ1) rfl ?_ ?_
        · trivial
        have hno : ¬ r5 z (fr + (5 : Int32) * nI k) := fun q => c97 (by rw [show σ1 53 1 = nI z from h1]; exact (rnC hz).mpr ((r5_rn hz).mp q))
        rw [zLdL_n hno]
        exact ev_iret rfl rfl rfl ⟨rfl, hc, hf⟩
set_option maxRecDepth 100000 in
theorem c_load3_lp (so fr : Int32) (n z : Nat) (f : Nat → Int32) (hz : z ≤ 40) (hn : n ≤ 10) (σ : xSg) : ∀ (m k c : Nat) (S : zS) (σ1 : xSg), k + m = n → c ≤ k → sOk S → CH0 σ1 S → (S.2.2.2 3).2.1 = z → (S.2.2.2 3).2.2 = f → (∀ c, 57 ≤ c → σ1 c = σ c) → xEv (.inl 2) M_X5_load (zC σ (zLdL z f fr m k c S)) 74 ([some (.ref 0), some (.int ((3 : Int32))), some (.int (so)), some (.int (fr)), some (.int (nI n)), some (.ref 55), some (.int (nI c)), some (.int (nI k)), none, none, none], [], σ1) := by
  intro m
  induction m with
  | zero =>
    intro k c S σ1 hk hck ok hc ez ef hf
    refine ev_br 2 [] ((nI n) ≤ (nI k)) 170 81 ([some (.ref 0), some (.int ((3 : Int32))), some (.int (so)), some (.int (fr)), some (.int (nI n)), some (.ref 55), some (.int (nI c)), some (.int (nI k)), none, none, none], [], σ1) rfl ?_ (fun c78 => ?_) (fun c78 => ?_)
    · trivial
    · refine ev_blk 1 [] 172 ([some (.ref 0), some (.int ((3 : Int32))), some (.int (so)), some (.int (fr)), some (.int (nI n)), some (.ref 55), some (.int (nI c)), some (.int (nI k)), none, none, none], [.int (nI c)], σ1) rfl ?_ ?_
      · trivial
      exact ev_iret rfl rfl rfl ⟨rfl, hc, hf⟩
    · exact absurd (nI_le (by omega) (by omega)) c78
  | succ m ih =>
    intro k c S σ1 hk hck ok hc ez ef hf
    obtain ⟨-, -, h1, hi⟩ := hc.2.2.2.2.2 3 (by decide)
    rw [ez] at h1
    rw [ef] at hi
    refine ev_br 2 [] ((nI n) ≤ (nI k)) 170 81 ([some (.ref 0), some (.int ((3 : Int32))), some (.int (so)), some (.int (fr)), some (.int (nI n)), some (.ref 55), some (.int (nI c)), some (.int (nI k)), none, none, none], [], σ1) rfl ?_ (fun c78 => ?_) (fun c78 => ?_)
    · trivial
    · exact absurd c78 (nI_ge (by omega) (by omega))
    · refine ev_blk 9 [] 94 ([some (.ref 0), some (.int ((3 : Int32))), some (.int (so)), some (.int (fr)), some (.int (nI n)), some (.ref 55), some (.int (nI c)), some (.int (nI k)), some (.int (fr + ((5 : Int32) * (nI k)))), none, none], [.int ((5 : Int32)), .int (fr + ((5 : Int32) * (nI k))), .ref 55], σ1) rfl ?_ ?_
      · trivial
      refine ev_callV M_X4_hasRun [.int (fr + ((5 : Int32) * (nI k))), .int ((5 : Int32))] [] 55 rfl rfl ln_X5_266 k_X4_hasRun rfl rfl rfl rfl rfl rfl (c_hasRun3 _ _ _) ?_
      refine pu_k ?_
      show xEv _ _ _ 97 ([some (.ref 0), some (.int ((3 : Int32))), some (.int (so)), some (.int (fr)), some (.int (nI n)), some (.ref 55), some (.int (nI c)), some (.int (nI k)), some (.int (fr + ((5 : Int32) * (nI k)))), none, none], [.int (zi (¬ (fr + ((5 : Int32) * (nI k))) < 0 ∧ ¬ (5 : Int32) < 0 ∧ ¬ σ1 55 1 < (fr + ((5 : Int32) * (nI k))) ∧ ¬ σ1 55 1 - (fr + ((5 : Int32) * (nI k))) < (5 : Int32)))], σ1)
      refine ev_br 0 [] (¬ (zi (¬ (fr + ((5 : Int32) * (nI k))) < 0 ∧ ¬ (5 : Int32) < 0 ∧ ¬ σ1 55 1 < (fr + ((5 : Int32) * (nI k))) ∧ ¬ σ1 55 1 - (fr + ((5 : Int32) * (nI k))) < (5 : Int32))) = 0) 103 100 ([some (.ref 0), some (.int ((3 : Int32))), some (.int (so)), some (.int (fr)), some (.int (nI n)), some (.ref 55), some (.int (nI c)), some (.int (nI k)), some (.int (fr + ((5 : Int32) * (nI k)))), none, none], [], σ1) rfl ?_ (fun c97 => ?_) (fun c97 => ?_)
      · trivial
      · replace c97 := zi_1.mp c97
        have hr := (r5_rn hz).mpr ((rnC hz).mp (by rw [show σ1 55 1 = nI z from h1] at c97; exact c97))
        rw [zLdL_y hr]
        obtain ⟨p, hp, hat⟩ := nI_of hr.1
        have hp5 : p + 5 ≤ z := by have := hr.2; rw [hat, nI_clamp hp] at this; exact this
        rw [hat]
        have hp0 : (nI p).toNatClampNeg = p := nI_clamp hp
        have he1 : (nI p) + (1 : Int32) = nI (p + 1) := nI_add p 1
        have hp1 : ((nI p) + (1 : Int32)).toNatClampNeg = p + 1 := by rw [he1, nI_clamp (by omega)]
        have he2 : (nI p) + (2 : Int32) = nI (p + 2) := nI_add p 2
        have hp2 : ((nI p) + (2 : Int32)).toNatClampNeg = p + 2 := by rw [he2, nI_clamp (by omega)]
        have he3 : (nI p) + (3 : Int32) = nI (p + 3) := nI_add p 3
        have hp3 : ((nI p) + (3 : Int32)).toNatClampNeg = p + 3 := by rw [he3, nI_clamp (by omega)]
        have he4 : (nI p) + (4 : Int32) = nI (p + 4) := nI_add p 4
        have hp4 : ((nI p) + (4 : Int32)).toNatClampNeg = p + 4 := by rw [he4, nI_clamp (by omega)]
        rw [hp0]
        show xEv _ _ _ 103 ([some (.ref 0), some (.int ((3 : Int32))), some (.int (so)), some (.int (fr)), some (.int (nI n)), some (.ref 55), some (.int (nI c)), some (.int (nI k)), some (.int (nI p)), none, none], [], σ1)
        refine ev_blk 27 [vp_in (nI p) 40, vp_in ((nI p) + (1 : Int32)) 40, vp_in ((nI p) + (2 : Int32)) 40, vp_in ((nI p) + (3 : Int32)) 40, vp_in ((nI p) + (4 : Int32)) 40] 144 ([some (.ref 0), some (.int ((3 : Int32))), some (.int (so)), some (.int (fr)), some (.int (nI n)), some (.ref 55), some (.int (nI c)), some (.int (nI k)), some (.int (nI p)), some (.ref 56), none], [.int ((σ1 56) ((nI p) + (4 : Int32)).toNatClampNeg), .int ((σ1 56) ((nI p) + (3 : Int32)).toNatClampNeg), .int ((σ1 56) ((nI p) + (2 : Int32)).toNatClampNeg), .int ((σ1 56) ((nI p) + (1 : Int32)).toNatClampNeg), .int ((σ1 56) (nI p).toNatClampNeg), .ref 0], σ1) rfl ?_ ?_
        · exact ⟨(vp_in_nI (by omega) (by decide)), (by rw [he1]; exact vp_in_nI (by omega) (by decide)), (by rw [he2]; exact vp_in_nI (by omega) (by decide)), (by rw [he3]; exact vp_in_nI (by omega) (by decide)), (by rw [he4]; exact vp_in_nI (by omega) (by decide))⟩
        rw [hp1]
        rw [hp2]
        rw [hp3]
        rw [hp4]
        rw [hp0]
        rw [hi (p + 1) (by omega)]
        rw [hi (p + 2) (by omega)]
        rw [hi (p + 3) (by omega)]
        rw [hi (p + 4) (by omega)]
        rw [hi p (by omega)]
        refine ev_callV M_X5_ship [.int (f p), .int (f (p + 1)), .int (f (p + 2)), .int (f (p + 3)), .int (f (p + 4))] [] 0 rfl rfl ln_X5_278 k_X5_ship rfl rfl rfl rfl rfl rfl (c_ship _ S.1.1 hc.1.1 ok.1.1.1 _ _ _ _ _) ?_
        intro r σ' hq
        obtain ⟨rfl, hc', fr'⟩ := kc_ship hc hq
        show xEv _ _ _ 147 ([some (.ref 0), some (.int ((3 : Int32))), some (.int (so)), some (.int (fr)), some (.int (nI n)), some (.ref 55), some (.int (nI c)), some (.int (nI k)), some (.int (nI p)), some (.ref 56), none], [.int ((zShp S f p).1)], σ')
        refine ev_br 3 [] (((zShp S f p).1) < 0) 160 156 ([some (.ref 0), some (.int ((3 : Int32))), some (.int (so)), some (.int (fr)), some (.int (nI n)), some (.ref 55), some (.int (nI c)), some (.int (nI k)), some (.int (nI p)), some (.ref 56), some (.int ((zShp S f p).1))], [.int (nI c)], σ') rfl ?_ (fun c153 => ?_) (fun c153 => ?_)
        · trivial
        · refine ev_blk 5 [] 74 ([some (.ref 0), some (.int ((3 : Int32))), some (.int (so)), some (.int (fr)), some (.int (nI n)), some (.ref 55), some (.int ((nI c) + (0 : Int32))), some (.int ((nI k) + (1 : Int32))), some (.int (nI p)), some (.ref 56), some (.int ((zShp S f p).1))], [], σ') rfl ?_ ?_
          · trivial
          rw [if_pos c153, show nI c + (0 : Int32) = nI c from Int32.add_zero _, nI_1]
          refine ev_drop 8 (ev_drop 9 (ev_drop 10 ?_))
          exact ih (k + 1) c (zShp S f p).2 σ' (by omega) (by omega) (so_ship ok _ _ _ _ _) hc' (by rw [zShip_sh]; exact ez) (by rw [zShip_sh]; exact ef) (fun c hc => (fr' c hc).trans (hf c hc))
        · refine ev_blk 6 [] 74 ([some (.ref 0), some (.int ((3 : Int32))), some (.int (so)), some (.int (fr)), some (.int (nI n)), some (.ref 55), some (.int ((nI c) + (1 : Int32))), some (.int ((nI k) + (1 : Int32))), some (.int (nI p)), some (.ref 56), some (.int ((zShp S f p).1))], [], σ') rfl ?_ ?_
          · trivial
          rw [if_neg c153, nI_1, nI_1]
          refine ev_drop 8 (ev_drop 9 (ev_drop 10 ?_))
          exact ih (k + 1) (c + 1) (zShp S f p).2 σ' (by omega) (by omega) (so_ship ok _ _ _ _ _) hc' (by rw [zShip_sh]; exact ez) (by rw [zShip_sh]; exact ef) (fun c hc => (fr' c hc).trans (hf c hc))
      · replace c97 := zi_n.mp c97
        refine ev_blk 1 [] 102 ([some (.ref 0), some (.int ((3 : Int32))), some (.int (so)), some (.int (fr)), some (.int (nI n)), some (.ref 55), some (.int (nI c)), some (.int (nI k)), some (.int (fr + ((5 : Int32) * (nI k)))), none, none], [.int ((-12 : Int32))], σ1) rfl ?_ ?_
        · trivial
        have hno : ¬ r5 z (fr + (5 : Int32) * nI k) := fun q => c97 (by rw [show σ1 55 1 = nI z from h1]; exact (rnC hz).mpr ((r5_rn hz).mp q))
        rw [zLdL_n hno]
        exact ev_iret rfl rfl rfl ⟨rfl, hc, hf⟩
