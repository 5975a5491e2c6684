/-- how far what was told is so: it i from the i-th filling on, m of them -/
def s_unl (a : sAt) (tk : sTk) (it : Nat → Int32) : Nat → Nat → List Nat → List Nat → Int32
  | 0, _, _, _ => -1
  | m + 1, i, A, B => if it i = nI (s_went (s_fill a tk A B)).length then s_unl a tk it m (i + 1) (s_fill a tk A B).1 (s_fill a tk A B).2.1 else nI i
def s_tri (f : Nat → Int32) : Nat → Nat → Int32 → Int32
  | 0, _, b => b
  | m + 1, v, b => s_tri f m (v + 1) (if f v = -1 then b ||| ((1 : Int32) <<< (nI v &&& 31)) else b)
def a_st (a : sAt) (v : Int32) : sAt := (aK a, aLn a, aFi a, aLo a, aCo a, aLa a, upd (aS a) 4 v)
def a_kd (a : sAt) (x : Nat) (v : Int32) : sAt := (upd (aK a) x v, aLn a, aFi a, aLo a, aCo a, aLa a, aS a)
def a_ln (a : sAt) (x : Nat) (v : Int32) : sAt := (aK a, upd (aLn a) x v, aFi a, aLo a, aCo a, aLa a, aS a)
theorem rg_nI {v lo hi : Nat} (h1 : lo ≤ v) (h2 : v ≤ hi) : rg (nI v) lo hi := ⟨v, rfl, h1, h2⟩
theorem aOk_st {a : sAt} {n v : Nat} (h : aOk a n) (hv : v ≤ 4) : aOk (a_st a (nI v)) n := by
  obtain ⟨h1, h2, h3, h4, h5, h6, h7⟩ := h
  exact ⟨h1, h2, h3, h4, h5, h6, by show rg (upd (aS a) 4 (nI v) 4) 0 4; rw [upd_eq]; exact rg_nI (Nat.zero_le _) hv⟩
theorem aOk_kd {a : sAt} {n v x : Nat} (h : aOk a n) (hv : v ≤ 5) : aOk (a_kd a x (nI v)) n := by
  obtain ⟨h1, h2, h3⟩ := h
  refine ⟨h1, fun i hi => ?_, h3⟩
  obtain ⟨k1, k2⟩ := h2 i hi
  refine ⟨?_, k2⟩
  show rg (upd (aK a) x (nI v) i) 0 5
  unfold upd
  split
  · exact rg_nI (Nat.zero_le _) hv
  · exact k1
theorem aOk_ln {a : sAt} {n v x : Nat} (h : aOk a n) (h1v : 1 ≤ v) (hv : v ≤ 9) : aOk (a_ln a x (nI v)) n := by
  obtain ⟨h1, h2, h3⟩ := h
  refine ⟨h1, fun i hi => ?_, h3⟩
  obtain ⟨k1, k2, k3⟩ := h2 i hi
  refine ⟨k1, ?_, k3⟩
  show rg (upd (aLn a) x (nI v) i) 1 9
  unfold upd
  split
  · exact rg_nI h1v hv
  · exact k2
theorem bc_flw {a : sAt} {tk : sTk} {n : Nat} {w inm : Int32} (hn : n ≤ 10) (hb : ∀ j, j < 32 → bt inm j = decide (j ∈ (s_went (s_flw a tk n w)).map Prod.fst)) : bcI inm = nI (s_went (s_flw a tk n w)).length := by
  have h4 := (s_fill_w (a := a) (tk := tk) (laneL_nodup n w (aLa a) 0) (laneL_nodup n w (aLa a) 1) laneL_apart).2.2.2
  rw [bc_in hb h4 (fun y hy => by have := (s_flw_in y hy).1; omega), List.length_map]
theorem flw_len {a : sAt} {tk : sTk} {n : Nat} {w : Int32} (hn : n ≤ 10) : (s_went (s_flw a tk n w)).length ≤ 10 := by
  have h4 := (s_fill_w (a := a) (tk := tk) (laneL_nodup n w (aLa a) 0) (laneL_nodup n w (aLa a) 1) laneL_apart).2.2.2
  have e : ((List.range 10).filter (fun x => decide (x ∈ (s_went (s_flw a tk n w)).map Prod.fst))).length = ((s_went (s_flw a tk n w)).map Prod.fst).length := fl_perm h4 (fun y hy => by have := (s_flw_in (a := a) (tk := tk) (n := n) (w := w) y hy).1; omega)
  have := List.length_filter_le (fun x => decide (x ∈ (s_went (s_flw a tk n w)).map Prod.fst)) (List.range 10)
  rw [e, List.length_map, List.length_range] at this
  exact this
set_option maxRecDepth 100000 in
theorem c_first0_lp (σ : xSg) (n : Nat) (hok : aOk (atC σ) n) (hn : σ 1 0 = nI n) (V : Int32) (z : Nat) (hz : σ 49 1 = nI z) (hz8 : z ≤ 8) : ∀ (m i : Nat) (w : Int32) (σ1 : xSg), i + m = z → xFr scC σ σ1 → (s_unl (atC σ) (tkC σ) (σ 50) m i (laneL n w (σ 7) 0) (laneL n w (σ 7) 1)) = V → xEv (.inl 5) M_X5_firstOtherwise (fun r σ2 => r = some (.int V) ∧ xFr scC σ σ2) 10 ([some (.ref 0), some (.ref 49), some (.int (w)), some (.int (nI i)), none], [], σ1) := by
  intro m
  induction m with
  | zero =>
    intro i w σ1 hi hfr hV
    have hz1 : σ1 49 1 = nI z := (congrFun (hfr 49 (by decide)) 1).trans hz
    refine ev_br 3 [] ((σ1 49 1) ≤ (nI i)) 66 18 ([some (.ref 0), some (.ref 49), some (.int (w)), some (.int (nI i)), none], [], σ1) rfl ?_ (fun c15 => ?_) (fun c15 => ?_)
    · trivial
    · refine ev_blk 1 [] 67 ([some (.ref 0), some (.ref 49), some (.int (w)), some (.int (nI i)), none], [.int ((-1 : Int32))], σ1) rfl ?_ ?_
      · trivial
      exact ev_iret rfl rfl rfl ⟨by rw [← hV]; rfl, hfr⟩
    · exact absurd (show σ1 49 1 ≤ nI i by rw [hz1]; exact nI_le (by omega) (by omega)) c15
  | succ m ih =>
    intro i w σ1 hi hfr hV
    have hat := atC_fr hfr rfl
    have htk : tkC σ1 = tkC σ := by unfold tkC; rw [hfr 10 (by decide)]
    have hok1 : aOk (atC σ1) n := by rw [hat]; exact hok
    have hn1 : σ1 1 0 = nI n := (congrFun (hfr 1 (by decide)) 0).trans hn
    have h7 : σ1 7 = σ 7 := hfr 7 (by decide)
    have hz1 : σ1 49 1 = nI z := (congrFun (hfr 49 (by decide)) 1).trans hz
    have hic : (nI i).toNatClampNeg = i := nI_clamp (by omega)
    refine ev_br 3 [] ((σ1 49 1) ≤ (nI i)) 66 18 ([some (.ref 0), some (.ref 49), some (.int (w)), some (.int (nI i)), none], [], σ1) rfl ?_ (fun c15 => ?_) (fun c15 => ?_)
    · trivial
    · exact absurd c15 (show ¬ σ1 49 1 ≤ nI i by rw [hz1]; exact nI_ge (by omega) (by omega))
    · refine ev_br 2 [] ((8 : Int32) ≤ (nI i)) 66 24 ([some (.ref 0), some (.ref 49), some (.int (w)), some (.int (nI i)), none], [], σ1) rfl ?_ (fun c21 => ?_) (fun c21 => ?_)
      · trivial
      · exact absurd c21 (nI_ge (b := 8) (by omega) (by decide))
      · refine ev_blk 4 [] 32 ([some (.ref 0), some (.ref 49), some (.int (w)), some (.int (nI i)), none], [.ref 104, .int (w), .ref 26], σ1) rfl ?_ ?_
        · trivial
        refine ev_callV M_X2_byRule [.int (w), .ref 104] [] 26 rfl rfl ln_X5_157 k_X2_byRule rfl rfl rfl rfl rfl rfl (c_byRule104 σ1 n (List.range 10) _ hok1 hn1 ord_by) ?_
        rintro r σ2 ⟨inm, rfl, hb, hF, hf2⟩
        have hT : s_fill (atC σ1) (tkC σ1) ((List.range 10).filter (s_lnp n w (σ1 7) 0)) ((List.range 10).filter (s_lnp n w (σ1 7) 1)) = s_flw (atC σ) (tkC σ) n w := by rw [hat, htk, h7]; rfl
        rw [hT] at hb hF
        rw [hat] at hF
        have hbc := bc_flw hok.1 hb
        have hwl := flw_len (a := atC σ) (tk := tkC σ) (n := n) (w := w) hok.1
        obtain ⟨e0, e1⟩ := s_flw_nx (a := atC σ) (tk := tkC σ) hok.1 hb
        show xEv _ _ _ 35 ([some (.ref 0), some (.ref 49), some (.int (w)), some (.int (nI i)), none], [.int (inm)], σ2)
        refine ev_blk 7 [] 44 ([some (.ref 0), some (.ref 49), some (.int (w &&& (inm ^^^ (-1 : Int32)))), some (.int (nI i)), some (.int (inm))], [], σ2) rfl ?_ ?_
        · trivial
        have h5 : σ2 50 i = σ 50 i := congrFun ((hf2 50 (by decide)).trans (hfr 50 (by decide))) i
        refine ev_blk 5 [vp_in (nI i) 40] 52 ([some (.ref 0), some (.ref 49), some (.int (w &&& (inm ^^^ (-1 : Int32)))), some (.int (nI i)), some (.int (inm))], [.int (inm), .int ((σ2 50) (nI i).toNatClampNeg)], σ2) rfl ?_ ?_
        · exact (vp_in_nI (by omega) (by decide))
        rw [hic]
        refine ev_callS M_J6_bitCount_0f7a4 [.int (inm)] [.int ((σ2 50) i)] rfl rfl ln_X5_138 k_J6_bitCount_0f7a4 rfl rfl rfl (c_bitCount _ _) ?_
        refine pu_k ?_
        show xEv _ _ _ 55 ([some (.ref 0), some (.ref 49), some (.int (w &&& (inm ^^^ (-1 : Int32)))), some (.int (nI i)), some (.int (inm))], [.int (bcI inm), .int ((σ2 50) i)], σ2)
        refine ev_br 0 [] (((σ2 50) i) = (bcI inm)) 60 58 ([some (.ref 0), some (.ref 49), some (.int (w &&& (inm ^^^ (-1 : Int32)))), some (.int (nI i)), some (.int (inm))], [], σ2) rfl ?_ (fun c55 => ?_) (fun c55 => ?_)
        · trivial
        · refine ev_blk 2 [] 10 ([some (.ref 0), some (.ref 49), some (.int (w &&& (inm ^^^ (-1 : Int32)))), some (.int ((nI i) + (1 : Int32))), some (.int (inm))], [], σ2) rfl ?_ ?_
          · trivial
          rw [nI_1]
          refine ev_drop 4 ?_
          refine ih (i + 1) _ σ2 (by omega) (hfr.tr (scC_f hf2)) ?_
          rw [show laneL n (w &&& (inm ^^^ (-1 : Int32))) (σ 7) 0 = _ from e0, show laneL n (w &&& (inm ^^^ (-1 : Int32))) (σ 7) 1 = _ from e1, ← hV, s_unl]
          rw [if_pos (show σ 50 i = nI (s_went (s_fill (atC σ) (tkC σ) (laneL n w (σ 7) 0) (laneL n w (σ 7) 1))).length from h5.symm.trans (c55.trans hbc))]
          rfl
        · refine ev_blk 1 [] 59 ([some (.ref 0), some (.ref 49), some (.int (w &&& (inm ^^^ (-1 : Int32)))), some (.int (nI i)), some (.int (inm))], [.int (nI i)], σ2) rfl ?_ ?_
          · trivial
          exact ev_iret rfl rfl rfl ⟨by rw [← hV, s_unl, if_neg (show ¬ σ 50 i = nI (s_went (s_fill (atC σ) (tkC σ) (laneL n w (σ 7) 0) (laneL n w (σ 7) 1))).length from fun z => c55 (h5.trans (z.trans hbc.symm)))], hfr.tr (scC_f hf2)⟩
set_option maxRecDepth 100000 in
theorem c_first0 (σ : xSg) (n : Nat) (hok : aOk (atC σ) n) (hn : σ 1 0 = nI n) (z : Nat) (hz : σ 49 1 = nI z) (hz8 : z ≤ 8) : xCtr M_X5_firstOtherwise [.ref 0, .ref 49] σ (fun r σ2 => r = some (.int (s_unl (atC σ) (tkC σ) (σ 50) z 0 (laneL n (σ 1 1) (σ 7) 0) (laneL n (σ 1 1) (σ 7) 1))) ∧ xFr scC σ σ2) := by
  refine ctr_ev ok_X5_firstOtherwise (by decide +kernel) rfl rfl rfl ?_
  show xEv (.inl 5) M_X5_firstOtherwise _ 0 ([some (.ref 0), some (.ref 49), none, none, none], [], σ)
  refine ev_blk 6 [] 10 ([some (.ref 0), some (.ref 49), some (.int ((σ 1 1))), some (.int ((0 : Int32))), none], [], σ) rfl ?_ ?_
  · trivial
  exact c_first0_lp σ n hok hn _ z hz hz8 z 0 (σ 1 1) σ (by omega) xFr.rf rfl
set_option maxRecDepth 100000 in
theorem c_first1_lp (σ : xSg) (n : Nat) (hok : aOk (atC σ) n) (hn : σ 1 0 = nI n) (V : Int32) (z : Nat) (hz : σ 51 1 = nI z) (hz8 : z ≤ 8) : ∀ (m i : Nat) (w : Int32) (σ1 : xSg), i + m = z → xFr scC σ σ1 → (s_unl (atC σ) (tkC σ) (σ 52) m i (laneL n w (σ 7) 0) (laneL n w (σ 7) 1)) = V → xEv (.inl 5) M_X5_firstOtherwise (fun r σ2 => r = some (.int V) ∧ xFr scC σ σ2) 10 ([some (.ref 0), some (.ref 51), some (.int (w)), some (.int (nI i)), none], [], σ1) := by
  intro m
  induction m with
  | zero =>
    intro i w σ1 hi hfr hV
    have hz1 : σ1 51 1 = nI z := (congrFun (hfr 51 (by decide)) 1).trans hz
    refine ev_br 3 [] ((σ1 51 1) ≤ (nI i)) 66 18 ([some (.ref 0), some (.ref 51), some (.int (w)), some (.int (nI i)), none], [], σ1) rfl ?_ (fun c15 => ?_) (fun c15 => ?_)
    · trivial
    · refine ev_blk 1 [] 67 ([some (.ref 0), some (.ref 51), some (.int (w)), some (.int (nI i)), none], [.int ((-1 : Int32))], σ1) rfl ?_ ?_
      · trivial
      exact ev_iret rfl rfl rfl ⟨by rw [← hV]; rfl, hfr⟩
    · exact absurd (show σ1 51 1 ≤ nI i by rw [hz1]; exact nI_le (by omega) (by omega)) c15
  | succ m ih =>
    intro i w σ1 hi hfr hV
    have hat := atC_fr hfr rfl
    have htk : tkC σ1 = tkC σ := by unfold tkC; rw [hfr 10 (by decide)]
    have hok1 : aOk (atC σ1) n := by rw [hat]; exact hok
    have hn1 : σ1 1 0 = nI n := (congrFun (hfr 1 (by decide)) 0).trans hn
    have h7 : σ1 7 = σ 7 := hfr 7 (by decide)
    have hz1 : σ1 51 1 = nI z := (congrFun (hfr 51 (by decide)) 1).trans hz
    have hic : (nI i).toNatClampNeg = i := nI_clamp (by omega)
    refine ev_br 3 [] ((σ1 51 1) ≤ (nI i)) 66 18 ([some (.ref 0), some (.ref 51), some (.int (w)), some (.int (nI i)), none], [], σ1) rfl ?_ (fun c15 => ?_) (fun c15 => ?_)
    · trivial
    · exact absurd c15 (show ¬ σ1 51 1 ≤ nI i by rw [hz1]; exact nI_ge (by omega) (by omega))
    · refine ev_br 2 [] ((8 : Int32) ≤ (nI i)) 66 24 ([some (.ref 0), some (.ref 51), some (.int (w)), some (.int (nI i)), none], [], σ1) rfl ?_ (fun c21 => ?_) (fun c21 => ?_)
      · trivial
      · exact absurd c21 (nI_ge (b := 8) (by omega) (by decide))
      · refine ev_blk 4 [] 32 ([some (.ref 0), some (.ref 51), some (.int (w)), some (.int (nI i)), none], [.ref 104, .int (w), .ref 26], σ1) rfl ?_ ?_
        · trivial
        refine ev_callV M_X2_byRule [.int (w), .ref 104] [] 26 rfl rfl ln_X5_157 k_X2_byRule rfl rfl rfl rfl rfl rfl (c_byRule104 σ1 n (List.range 10) _ hok1 hn1 ord_by) ?_
        rintro r σ2 ⟨inm, rfl, hb, hF, hf2⟩
        have hT : s_fill (atC σ1) (tkC σ1) ((List.range 10).filter (s_lnp n w (σ1 7) 0)) ((List.range 10).filter (s_lnp n w (σ1 7) 1)) = s_flw (atC σ) (tkC σ) n w := by rw [hat, htk, h7]; rfl
        rw [hT] at hb hF
        rw [hat] at hF
        have hbc := bc_flw hok.1 hb
        have hwl := flw_len (a := atC σ) (tk := tkC σ) (n := n) (w := w) hok.1
        obtain ⟨e0, e1⟩ := s_flw_nx (a := atC σ) (tk := tkC σ) hok.1 hb
        show xEv _ _ _ 35 ([some (.ref 0), some (.ref 51), some (.int (w)), some (.int (nI i)), none], [.int (inm)], σ2)
        refine ev_blk 7 [] 44 ([some (.ref 0), some (.ref 51), some (.int (w &&& (inm ^^^ (-1 : Int32)))), some (.int (nI i)), some (.int (inm))], [], σ2) rfl ?_ ?_
        · trivial
        have h5 : σ2 52 i = σ 52 i := congrFun ((hf2 52 (by decide)).trans (hfr 52 (by decide))) i
        refine ev_blk 5 [vp_in (nI i) 40] 52 ([some (.ref 0), some (.ref 51), some (.int (w &&& (inm ^^^ (-1 : Int32)))), some (.int (nI i)), some (.int (inm))], [.int (inm), .int ((σ2 52) (nI i).toNatClampNeg)], σ2) rfl ?_ ?_
        · exact (vp_in_nI (by omega) (by decide))
        rw [hic]
        refine ev_callS M_J6_bitCount_0f7a4 [.int (inm)] [.int ((σ2 52) i)] rfl rfl ln_X5_138 k_J6_bitCount_0f7a4 rfl rfl rfl (c_bitCount _ _) ?_
        refine pu_k ?_
        show xEv _ _ _ 55 ([some (.ref 0), some (.ref 51), some (.int (w &&& (inm ^^^ (-1 : Int32)))), some (.int (nI i)), some (.int (inm))], [.int (bcI inm), .int ((σ2 52) i)], σ2)
        refine ev_br 0 [] (((σ2 52) i) = (bcI inm)) 60 58 ([some (.ref 0), some (.ref 51), some (.int (w &&& (inm ^^^ (-1 : Int32)))), some (.int (nI i)), some (.int (inm))], [], σ2) rfl ?_ (fun c55 => ?_) (fun c55 => ?_)
        · trivial
        · refine ev_blk 2 [] 10 ([some (.ref 0), some (.ref 51), some (.int (w &&& (inm ^^^ (-1 : Int32)))), some (.int ((nI i) + (1 : Int32))), some (.int (inm))], [], σ2) rfl ?_ ?_
          · trivial
          rw [nI_1]
          refine ev_drop 4 ?_
          refine ih (i + 1) _ σ2 (by omega) (hfr.tr (scC_f hf2)) ?_
          rw [show laneL n (w &&& (inm ^^^ (-1 : Int32))) (σ 7) 0 = _ from e0, show laneL n (w &&& (inm ^^^ (-1 : Int32))) (σ 7) 1 = _ from e1, ← hV, s_unl]
          rw [if_pos (show σ 52 i = nI (s_went (s_fill (atC σ) (tkC σ) (laneL n w (σ 7) 0) (laneL n w (σ 7) 1))).length from h5.symm.trans (c55.trans hbc))]
          rfl
        · refine ev_blk 1 [] 59 ([some (.ref 0), some (.ref 51), some (.int (w &&& (inm ^^^ (-1 : Int32)))), some (.int (nI i)), some (.int (inm))], [.int (nI i)], σ2) rfl ?_ ?_
          · trivial
          exact ev_iret rfl rfl rfl ⟨by rw [← hV, s_unl, if_neg (show ¬ σ 52 i = nI (s_went (s_fill (atC σ) (tkC σ) (laneL n w (σ 7) 0) (laneL n w (σ 7) 1))).length from fun z => c55 (h5.trans (z.trans hbc.symm)))], hfr.tr (scC_f hf2)⟩
set_option maxRecDepth 100000 in
theorem c_first1 (σ : xSg) (n : Nat) (hok : aOk (atC σ) n) (hn : σ 1 0 = nI n) (z : Nat) (hz : σ 51 1 = nI z) (hz8 : z ≤ 8) : xCtr M_X5_firstOtherwise [.ref 0, .ref 51] σ (fun r σ2 => r = some (.int (s_unl (atC σ) (tkC σ) (σ 52) z 0 (laneL n (σ 1 1) (σ 7) 0) (laneL n (σ 1 1) (σ 7) 1))) ∧ xFr scC σ σ2) := by
  refine ctr_ev ok_X5_firstOtherwise (by decide +kernel) rfl rfl rfl ?_
  show xEv (.inl 5) M_X5_firstOtherwise _ 0 ([some (.ref 0), some (.ref 51), none, none, none], [], σ)
  refine ev_blk 6 [] 10 ([some (.ref 0), some (.ref 51), some (.int ((σ 1 1))), some (.int ((0 : Int32))), none], [], σ) rfl ?_ ?_
  · trivial
  exact c_first1_lp σ n hok hn _ z hz hz8 z 0 (σ 1 1) σ (by omega) xFr.rf rfl
set_option maxRecDepth 100000 in
theorem c_first2_lp (σ : xSg) (n : Nat) (hok : aOk (atC σ) n) (hn : σ 1 0 = nI n) (V : Int32) (z : Nat) (hz : σ 53 1 = nI z) (hz8 : z ≤ 8) : ∀ (m i : Nat) (w : Int32) (σ1 : xSg), i + m = z → xFr scC σ σ1 → (s_unl (atC σ) (tkC σ) (σ 54) m i (laneL n w (σ 7) 0) (laneL n w (σ 7) 1)) = V → xEv (.inl 5) M_X5_firstOtherwise (fun r σ2 => r = some (.int V) ∧ xFr scC σ σ2) 10 ([some (.ref 0), some (.ref 53), some (.int (w)), some (.int (nI i)), none], [], σ1) := by
  intro m
  induction m with
  | zero =>
    intro i w σ1 hi hfr hV
    have hz1 : σ1 53 1 = nI z := (congrFun (hfr 53 (by decide)) 1).trans hz
    refine ev_br 3 [] ((σ1 53 1) ≤ (nI i)) 66 18 ([some (.ref 0), some (.ref 53), some (.int (w)), some (.int (nI i)), none], [], σ1) rfl ?_ (fun c15 => ?_) (fun c15 => ?_)
    · trivial
    · refine ev_blk 1 [] 67 ([some (.ref 0), some (.ref 53), some (.int (w)), some (.int (nI i)), none], [.int ((-1 : Int32))], σ1) rfl ?_ ?_
      · trivial
      exact ev_iret rfl rfl rfl ⟨by rw [← hV]; rfl, hfr⟩
    · exact absurd (show σ1 53 1 ≤ nI i by rw [hz1]; exact nI_le (by omega) (by omega)) c15
  | succ m ih =>
    intro i w σ1 hi hfr hV
    have hat := atC_fr hfr rfl
    have htk : tkC σ1 = tkC σ := by unfold tkC; rw [hfr 10 (by decide)]
    have hok1 : aOk (atC σ1) n := by rw [hat]; exact hok
    have hn1 : σ1 1 0 = nI n := (congrFun (hfr 1 (by decide)) 0).trans hn
    have h7 : σ1 7 = σ 7 := hfr 7 (by decide)
    have hz1 : σ1 53 1 = nI z := (congrFun (hfr 53 (by decide)) 1).trans hz
    have hic : (nI i).toNatClampNeg = i := nI_clamp (by omega)
    refine ev_br 3 [] ((σ1 53 1) ≤ (nI i)) 66 18 ([some (.ref 0), some (.ref 53), some (.int (w)), some (.int (nI i)), none], [], σ1) rfl ?_ (fun c15 => ?_) (fun c15 => ?_)
    · trivial
    · exact absurd c15 (show ¬ σ1 53 1 ≤ nI i by rw [hz1]; exact nI_ge (by omega) (by omega))
    · refine ev_br 2 [] ((8 : Int32) ≤ (nI i)) 66 24 ([some (.ref 0), some (.ref 53), some (.int (w)), some (.int (nI i)), none], [], σ1) rfl ?_ (fun c21 => ?_) (fun c21 => ?_)
      · trivial
      · exact absurd c21 (nI_ge (b := 8) (by omega) (by decide))
      · refine ev_blk 4 [] 32 ([some (.ref 0), some (.ref 53), some (.int (w)), some (.int (nI i)), none], [.ref 104, .int (w), .ref 26], σ1) rfl ?_ ?_
        · trivial
        refine ev_callV M_X2_byRule [.int (w), .ref 104] [] 26 rfl rfl ln_X5_157 k_X2_byRule rfl rfl rfl rfl rfl rfl (c_byRule104 σ1 n (List.range 10) _ hok1 hn1 ord_by) ?_
        rintro r σ2 ⟨inm, rfl, hb, hF, hf2⟩
        have hT : s_fill (atC σ1) (tkC σ1) ((List.range 10).filter (s_lnp n w (σ1 7) 0)) ((List.range 10).filter (s_lnp n w (σ1 7) 1)) = s_flw (atC σ) (tkC σ) n w := by rw [hat, htk, h7]; rfl
        rw [hT] at hb hF
        rw [hat] at hF
        have hbc := bc_flw hok.1 hb
        have hwl := flw_len (a := atC σ) (tk := tkC σ) (n := n) (w := w) hok.1
        obtain ⟨e0, e1⟩ := s_flw_nx (a := atC σ) (tk := tkC σ) hok.1 hb
        show xEv _ _ _ 35 ([some (.ref 0), some (.ref 53), some (.int (w)), some (.int (nI i)), none], [.int (inm)], σ2)
        refine ev_blk 7 [] 44 ([some (.ref 0), some (.ref 53), some (.int (w &&& (inm ^^^ (-1 : Int32)))), some (.int (nI i)), some (.int (inm))], [], σ2) rfl ?_ ?_
        · trivial
        have h5 : σ2 54 i = σ 54 i := congrFun ((hf2 54 (by decide)).trans (hfr 54 (by decide))) i
        refine ev_blk 5 [vp_in (nI i) 40] 52 ([some (.ref 0), some (.ref 53), some (.int (w &&& (inm ^^^ (-1 : Int32)))), some (.int (nI i)), some (.int (inm))], [.int (inm), .int ((σ2 54) (nI i).toNatClampNeg)], σ2) rfl ?_ ?_
        · exact (vp_in_nI (by omega) (by decide))
        rw [hic]
        refine ev_callS M_J6_bitCount_0f7a4 [.int (inm)] [.int ((σ2 54) i)] rfl rfl ln_X5_138 k_J6_bitCount_0f7a4 rfl rfl rfl (c_bitCount _ _) ?_
        refine pu_k ?_
        show xEv _ _ _ 55 ([some (.ref 0), some (.ref 53), some (.int (w &&& (inm ^^^ (-1 : Int32)))), some (.int (nI i)), some (.int (inm))], [.int (bcI inm), .int ((σ2 54) i)], σ2)
        refine ev_br 0 [] (((σ2 54) i) = (bcI inm)) 60 58 ([some (.ref 0), some (.ref 53), some (.int (w &&& (inm ^^^ (-1 : Int32)))), some (.int (nI i)), some (.int (inm))], [], σ2) rfl ?_ (fun c55 => ?_) (fun c55 => ?_)
        · trivial
        · refine ev_blk 2 [] 10 ([some (.ref 0), some (.ref 53), some (.int (w &&& (inm ^^^ (-1 : Int32)))), some (.int ((nI i) + (1 : Int32))), some (.int (inm))], [], σ2) rfl ?_ ?_
          · trivial
          rw [nI_1]
          refine ev_drop 4 ?_
          refine ih (i + 1) _ σ2 (by omega) (hfr.tr (scC_f hf2)) ?_
          rw [show laneL n (w &&& (inm ^^^ (-1 : Int32))) (σ 7) 0 = _ from e0, show laneL n (w &&& (inm ^^^ (-1 : Int32))) (σ 7) 1 = _ from e1, ← hV, s_unl]
          rw [if_pos (show σ 54 i = nI (s_went (s_fill (atC σ) (tkC σ) (laneL n w (σ 7) 0) (laneL n w (σ 7) 1))).length from h5.symm.trans (c55.trans hbc))]
          rfl
        · refine ev_blk 1 [] 59 ([some (.ref 0), some (.ref 53), some (.int (w &&& (inm ^^^ (-1 : Int32)))), some (.int (nI i)), some (.int (inm))], [.int (nI i)], σ2) rfl ?_ ?_
          · trivial
          exact ev_iret rfl rfl rfl ⟨by rw [← hV, s_unl, if_neg (show ¬ σ 54 i = nI (s_went (s_fill (atC σ) (tkC σ) (laneL n w (σ 7) 0) (laneL n w (σ 7) 1))).length from fun z => c55 (h5.trans (z.trans hbc.symm)))], hfr.tr (scC_f hf2)⟩
set_option maxRecDepth 100000 in
theorem c_first2 (σ : xSg) (n : Nat) (hok : aOk (atC σ) n) (hn : σ 1 0 = nI n) (z : Nat) (hz : σ 53 1 = nI z) (hz8 : z ≤ 8) : xCtr M_X5_firstOtherwise [.ref 0, .ref 53] σ (fun r σ2 => r = some (.int (s_unl (atC σ) (tkC σ) (σ 54) z 0 (laneL n (σ 1 1) (σ 7) 0) (laneL n (σ 1 1) (σ 7) 1))) ∧ xFr scC σ σ2) := by
  refine ctr_ev ok_X5_firstOtherwise (by decide +kernel) rfl rfl rfl ?_
  show xEv (.inl 5) M_X5_firstOtherwise _ 0 ([some (.ref 0), some (.ref 53), none, none, none], [], σ)
  refine ev_blk 6 [] 10 ([some (.ref 0), some (.ref 53), some (.int ((σ 1 1))), some (.int ((0 : Int32))), none], [], σ) rfl ?_ ?_
  · trivial
  exact c_first2_lp σ n hok hn _ z hz hz8 z 0 (σ 1 1) σ (by omega) xFr.rf rfl
set_option maxRecDepth 100000 in
theorem c_first3_lp (σ : xSg) (n : Nat) (hok : aOk (atC σ) n) (hn : σ 1 0 = nI n) (V : Int32) (z : Nat) (hz : σ 55 1 = nI z) (hz8 : z ≤ 8) : ∀ (m i : Nat) (w : Int32) (σ1 : xSg), i + m = z → xFr scC σ σ1 → (s_unl (atC σ) (tkC σ) (σ 56) m i (laneL n w (σ 7) 0) (laneL n w (σ 7) 1)) = V → xEv (.inl 5) M_X5_firstOtherwise (fun r σ2 => r = some (.int V) ∧ xFr scC σ σ2) 10 ([some (.ref 0), some (.ref 55), some (.int (w)), some (.int (nI i)), none], [], σ1) := by
  intro m
  induction m with
  | zero =>
    intro i w σ1 hi hfr hV
    have hz1 : σ1 55 1 = nI z := (congrFun (hfr 55 (by decide)) 1).trans hz
    refine ev_br 3 [] ((σ1 55 1) ≤ (nI i)) 66 18 ([some (.ref 0), some (.ref 55), some (.int (w)), some (.int (nI i)), none], [], σ1) rfl ?_ (fun c15 => ?_) (fun c15 => ?_)
    · trivial
    · refine ev_blk 1 [] 67 ([some (.ref 0), some (.ref 55), some (.int (w)), some (.int (nI i)), none], [.int ((-1 : Int32))], σ1) rfl ?_ ?_
      · trivial
      exact ev_iret rfl rfl rfl ⟨by rw [← hV]; rfl, hfr⟩
    · exact absurd (show σ1 55 1 ≤ nI i by rw [hz1]; exact nI_le (by omega) (by omega)) c15
  | succ m ih =>
    intro i w σ1 hi hfr hV
    have hat := atC_fr hfr rfl
    have htk : tkC σ1 = tkC σ := by unfold tkC; rw [hfr 10 (by decide)]
    have hok1 : aOk (atC σ1) n := by rw [hat]; exact hok
    have hn1 : σ1 1 0 = nI n := (congrFun (hfr 1 (by decide)) 0).trans hn
    have h7 : σ1 7 = σ 7 := hfr 7 (by decide)
    have hz1 : σ1 55 1 = nI z := (congrFun (hfr 55 (by decide)) 1).trans hz
    have hic : (nI i).toNatClampNeg = i := nI_clamp (by omega)
    refine ev_br 3 [] ((σ1 55 1) ≤ (nI i)) 66 18 ([some (.ref 0), some (.ref 55), some (.int (w)), some (.int (nI i)), none], [], σ1) rfl ?_ (fun c15 => ?_) (fun c15 => ?_)
    · trivial
    · exact absurd c15 (show ¬ σ1 55 1 ≤ nI i by rw [hz1]; exact nI_ge (by omega) (by omega))
    · refine ev_br 2 [] ((8 : Int32) ≤ (nI i)) 66 24 ([some (.ref 0), some (.ref 55), some (.int (w)), some (.int (nI i)), none], [], σ1) rfl ?_ (fun c21 => ?_) (fun c21 => ?_)
      · trivial
      · exact absurd c21 (nI_ge (b := 8) (by omega) (by decide))
      · refine ev_blk 4 [] 32 ([some (.ref 0), some (.ref 55), some (.int (w)), some (.int (nI i)), none], [.ref 104, .int (w), .ref 26], σ1) rfl ?_ ?_
        · trivial
        refine ev_callV M_X2_byRule [.int (w), .ref 104] [] 26 rfl rfl ln_X5_157 k_X2_byRule rfl rfl rfl rfl rfl rfl (c_byRule104 σ1 n (List.range 10) _ hok1 hn1 ord_by) ?_
        rintro r σ2 ⟨inm, rfl, hb, hF, hf2⟩
        have hT : s_fill (atC σ1) (tkC σ1) ((List.range 10).filter (s_lnp n w (σ1 7) 0)) ((List.range 10).filter (s_lnp n w (σ1 7) 1)) = s_flw (atC σ) (tkC σ) n w := by rw [hat, htk, h7]; rfl
        rw [hT] at hb hF
        rw [hat] at hF
        have hbc := bc_flw hok.1 hb
        have hwl := flw_len (a := atC σ) (tk := tkC σ) (n := n) (w := w) hok.1
        obtain ⟨e0, e1⟩ := s_flw_nx (a := atC σ) (tk := tkC σ) hok.1 hb
        show xEv _ _ _ 35 ([some (.ref 0), some (.ref 55), some (.int (w)), some (.int (nI i)), none], [.int (inm)], σ2)
        refine ev_blk 7 [] 44 ([some (.ref 0), some (.ref 55), some (.int (w &&& (inm ^^^ (-1 : Int32)))), some (.int (nI i)), some (.int (inm))], [], σ2) rfl ?_ ?_
        · trivial
        have h5 : σ2 56 i = σ 56 i := congrFun ((hf2 56 (by decide)).trans (hfr 56 (by decide))) i
        refine ev_blk 5 [vp_in (nI i) 40] 52 ([some (.ref 0), some (.ref 55), some (.int (w &&& (inm ^^^ (-1 : Int32)))), some (.int (nI i)), some (.int (inm))], [.int (inm), .int ((σ2 56) (nI i).toNatClampNeg)], σ2) rfl ?_ ?_
        · exact (vp_in_nI (by omega) (by decide))
        rw [hic]
        refine ev_callS M_J6_bitCount_0f7a4 [.int (inm)] [.int ((σ2 56) i)] rfl rfl ln_X5_138 k_J6_bitCount_0f7a4 rfl rfl rfl (c_bitCount _ _) ?_
        refine pu_k ?_
        show xEv _ _ _ 55 ([some (.ref 0), some (.ref 55), some (.int (w &&& (inm ^^^ (-1 : Int32)))), some (.int (nI i)), some (.int (inm))], [.int (bcI inm), .int ((σ2 56) i)], σ2)
        refine ev_br 0 [] (((σ2 56) i) = (bcI inm)) 60 58 ([some (.ref 0), some (.ref 55), some (.int (w &&& (inm ^^^ (-1 : Int32)))), some (.int (nI i)), some (.int (inm))], [], σ2) rfl ?_ (fun c55 => ?_) (fun c55 => ?_)
        · trivial
        · refine ev_blk 2 [] 10 ([some (.ref 0), some (.ref 55), some (.int (w &&& (inm ^^^ (-1 : Int32)))), some (.int ((nI i) + (1 : Int32))), some (.int (inm))], [], σ2) rfl ?_ ?_
          · trivial
          rw [nI_1]
          refine ev_drop 4 ?_
          refine ih (i + 1) _ σ2 (by omega) (hfr.tr (scC_f hf2)) ?_
          rw [show laneL n (w &&& (inm ^^^ (-1 : Int32))) (σ 7) 0 = _ from e0, show laneL n (w &&& (inm ^^^ (-1 : Int32))) (σ 7) 1 = _ from e1, ← hV, s_unl]
          rw [if_pos (show σ 56 i = nI (s_went (s_fill (atC σ) (tkC σ) (laneL n w (σ 7) 0) (laneL n w (σ 7) 1))).length from h5.symm.trans (c55.trans hbc))]
          rfl
        · refine ev_blk 1 [] 59 ([some (.ref 0), some (.ref 55), some (.int (w &&& (inm ^^^ (-1 : Int32)))), some (.int (nI i)), some (.int (inm))], [.int (nI i)], σ2) rfl ?_ ?_
          · trivial
          exact ev_iret rfl rfl rfl ⟨by rw [← hV, s_unl, if_neg (show ¬ σ 56 i = nI (s_went (s_fill (atC σ) (tkC σ) (laneL n w (σ 7) 0) (laneL n w (σ 7) 1))).length from fun z => c55 (h5.trans (z.trans hbc.symm)))], hfr.tr (scC_f hf2)⟩
set_option maxRecDepth 100000 in
theorem c_first3 (σ : xSg) (n : Nat) (hok : aOk (atC σ) n) (hn : σ 1 0 = nI n) (z : Nat) (hz : σ 55 1 = nI z) (hz8 : z ≤ 8) : xCtr M_X5_firstOtherwise [.ref 0, .ref 55] σ (fun r σ2 => r = some (.int (s_unl (atC σ) (tkC σ) (σ 56) z 0 (laneL n (σ 1 1) (σ 7) 0) (laneL n (σ 1 1) (σ 7) 1))) ∧ xFr scC σ σ2) := by
  refine ctr_ev ok_X5_firstOtherwise (by decide +kernel) rfl rfl rfl ?_
  show xEv (.inl 5) M_X5_firstOtherwise _ 0 ([some (.ref 0), some (.ref 55), none, none, none], [], σ)
  refine ev_blk 6 [] 10 ([some (.ref 0), some (.ref 55), some (.int ((σ 1 1))), some (.int ((0 : Int32))), none], [], σ) rfl ?_ ?_
  · trivial
  exact c_first3_lp σ n hok hn _ z hz hz8 z 0 (σ 1 1) σ (by omega) xFr.rf rfl
