def s_dnx (f : Nat → Int32) (d : Nat) (us wa : Int32) : Int32 := if s_alw f d (us + wa) = true then nI d else s_day f wa (199 - d) (d + 1)
theorem s_day_rg {f : Nat → Int32} {w : Int32} : ∀ m d, d + m ≤ 200 → s_day f w m d = -1 ∨ ∃ x, x < 200 ∧ s_day f w m d = nI x
  | 0, _, _ => Or.inl rfl
  | m + 1, d, h => by
    unfold s_day
    split
    · exact Or.inr ⟨d, by omega, rfl⟩
    · exact s_day_rg m (d + 1) (by omega)
theorem s_dnx_rg {f : Nat → Int32} {d : Nat} {us wa : Int32} (hd : d < 200) : s_dnx f d us wa = -1 ∨ ∃ x, x < 200 ∧ s_dnx f d us wa = nI x := by
  unfold s_dnx
  split
  · exact Or.inr ⟨d, hd, rfl⟩
  · exact s_day_rg _ _ (by omega)
def s_dr (a : sAt) (tk : sTk) (f : Nat → Int32) : Nat → List Nat → List Nat → Nat → Int32 → Int32 → Int32
  | 0, _, _, _, _, l => l
  | m + 1, A, B, d, us, l => match s_went (s_fill a tk A B) with
    | [] => l
    | q :: t => if s_dnx f d us (s_spend a (q :: t)) = -1 then -1 else s_dr a tk f m (s_fill a tk A B).1 (s_fill a tk A B).2.1 (s_dnx f d us (s_spend a (q :: t))).toNatClampNeg (if s_dnx f d us (s_spend a (q :: t)) = nI d then us + s_spend a (q :: t) else s_spend a (q :: t)) (s_dnx f d us (s_spend a (q :: t)))
set_option maxRecDepth 100000 in
theorem c_drought_lp (σ : xSg) (n : Nat) (hok : aOk (atC σ) n) (hn : σ 1 0 = nI n) (V : Int32) : ∀ (m k d : Nat) (w us la : Int32) (σ1 : xSg), k + m = 10 → d < 200 → xFr scC σ σ1 → (s_dr (atC σ) (tkC σ) (σ 11) m (laneL n w (σ 7) 0) (laneL n w (σ 7) 1) d us la) = V → xEv (.inl 5) M_X5_drought (fun r σ2 => r = some (.int V) ∧ xFr scC σ σ2) 18 ([some (.ref 0), some (.int (w)), some (.int (nI d)), some (.int (us)), some (.int (la)), some (.int (nI k)), none, none], [], σ1) := by
  intro m
  induction m with
  | zero =>
    intro k d w us la σ1 hk hd hfr hV
    refine ev_br 2 [] ((10 : Int32) ≤ (nI k)) 108 25 ([some (.ref 0), some (.int (w)), some (.int (nI d)), some (.int (us)), some (.int (la)), some (.int (nI k)), none, none], [], σ1) rfl ?_ (fun c22 => ?_) (fun c22 => ?_)
    · trivial
    · refine ev_blk 1 [] 110 ([some (.ref 0), some (.int (w)), some (.int (nI d)), some (.int (us)), some (.int (la)), some (.int (nI k)), none, none], [.int (la)], σ1) rfl ?_ ?_
      · trivial
      exact ev_iret rfl rfl rfl ⟨by rw [← hV, s_dr], hfr⟩
    · exact absurd (show (10 : Int32) ≤ nI k by rw [show k = 10 by omega]; decide) c22
  | succ m ih =>
    intro k d w us la σ1 hk hd hfr hV
    have hat := atC_fr hfr rfl
    have htk : tkC σ1 = tkC σ := by unfold tkC; rw [hfr 10 (by decide)]
    have hok1 : aOk (atC σ1) n := by rw [hat]; exact hok
    have hn1 : σ1 1 0 = nI n := (congrFun (hfr 1 (by decide)) 0).trans hn
    have h7 : σ1 7 = σ 7 := hfr 7 (by decide)
    refine ev_br 2 [] ((10 : Int32) ≤ (nI k)) 108 25 ([some (.ref 0), some (.int (w)), some (.int (nI d)), some (.int (us)), some (.int (la)), some (.int (nI k)), none, none], [], σ1) rfl ?_ (fun c22 => ?_) (fun c22 => ?_)
    · trivial
    · exact absurd c22 (nI_ge (b := 10) (by omega) (by decide))
    · refine ev_blk 4 [] 33 ([some (.ref 0), some (.int (w)), some (.int (nI d)), some (.int (us)), some (.int (la)), some (.int (nI k)), none, none], [.ref 104, .int (w), .ref 26], σ1) rfl ?_ ?_
      · trivial
      refine ev_callV M_X2_byRule [.int (w), .ref 104] [] 26 rfl rfl ln_X5_157 k_X2_byRule rfl rfl rfl rfl rfl rfl (c_byRule104 σ1 n (List.range 10) _ hok1 hn1 ord_by) ?_
      rintro r σ2 ⟨inm, rfl, hb, hF, hf2⟩
      have hT : s_fill (atC σ1) (tkC σ1) ((List.range 10).filter (s_lnp n w (σ1 7) 0)) ((List.range 10).filter (s_lnp n w (σ1 7) 1)) = s_flw (atC σ) (tkC σ) n w := by rw [hat, htk, h7]; rfl
      rw [hT] at hb hF
      rw [hat] at hF
      have hz := in_zero hb (fun x hx => by have := (s_flw_in x hx).1; have := hok.1; omega)
      show xEv _ _ _ 36 ([some (.ref 0), some (.int (w)), some (.int (nI d)), some (.int (us)), some (.int (la)), some (.int (nI k)), none, none], [.int (inm)], σ2)
      refine ev_br 2 [] (¬ inm = 0) 46 43 ([some (.ref 0), some (.int (w)), some (.int (nI d)), some (.int (us)), some (.int (la)), some (.int (nI k)), some (.int (inm)), none], [], σ2) rfl ?_ (fun c40 => ?_) (fun c40 => ?_)
      · trivial
      · refine ev_blk 8 [] 57 ([some (.ref 0), some (.int (w &&& (inm ^^^ (-1 : Int32)))), some (.int (nI d)), some (.int (us)), some (.int (la)), some (.int (nI k)), some (.int (inm)), none], [.ref 26], σ2) rfl ?_ ?_
        · trivial
        refine ev_callV M_X2_spends [] [] 26 rfl rfl ln_X5_161 k_X2_spends rfl rfl rfl rfl rfl rfl (c_spends26 σ2) ?_
        refine pu_k ?_
        rw [c_spd ((atC_fr hf2 rfl).trans hat) hF]
        show xEv _ _ _ 60 ([some (.ref 0), some (.int (w &&& (inm ^^^ (-1 : Int32)))), some (.int (nI d)), some (.int (us)), some (.int (la)), some (.int (nI k)), some (.int (inm)), none], [.int ((s_spend (atC σ) (s_went (s_flw (atC σ) (tkC σ) n w))))], σ2)
        refine ev_blk 6 [] 70 ([some (.ref 0), some (.int (w &&& (inm ^^^ (-1 : Int32)))), some (.int (nI d)), some (.int (us)), some (.int (la)), some (.int (nI k)), some (.int (inm)), some (.int ((s_spend (atC σ) (s_went (s_flw (atC σ) (tkC σ) n w)))))], [.int ((s_spend (atC σ) (s_went (s_flw (atC σ) (tkC σ) n w)))), .int (us), .int (nI d), .ref 1], σ2) rfl ?_ ?_
        · trivial
        have h11 : σ2 11 = σ 11 := (hf2 11 (by decide)).trans (hfr 11 (by decide))
        refine ev_callV M_X3_dayFor [.int (nI d), .int (us), .int ((s_spend (atC σ) (s_went (s_flw (atC σ) (tkC σ) n w))))] [] 1 rfl rfl ln_X5_196 k_X3_dayFor rfl rfl rfl rfl rfl rfl (c_dayFor σ2 d us _ hd) ?_
        refine pu_k ?_
        rw [h11]
        show xEv _ _ _ 73 ([some (.ref 0), some (.int (w &&& (inm ^^^ (-1 : Int32)))), some (.int (nI d)), some (.int (us)), some (.int (la)), some (.int (nI k)), some (.int (inm)), some (.int ((s_spend (atC σ) (s_went (s_flw (atC σ) (tkC σ) n w)))))], [.int ((s_dnx (σ 11) d us (s_spend (atC σ) (s_went (s_flw (atC σ) (tkC σ) n w)))))], σ2)
        refine ev_br 3 [] (¬ (s_dnx (σ 11) d us (s_spend (atC σ) (s_went (s_flw (atC σ) (tkC σ) n w)))) = (-1 : Int32)) 83 81 ([some (.ref 0), some (.int (w &&& (inm ^^^ (-1 : Int32)))), some (.int (nI d)), some (.int (us)), some (.int ((s_dnx (σ 11) d us (s_spend (atC σ) (s_went (s_flw (atC σ) (tkC σ) n w)))))), some (.int (nI k)), some (.int (inm)), some (.int ((s_spend (atC σ) (s_went (s_flw (atC σ) (tkC σ) n w)))))], [], σ2) rfl ?_ (fun c78 => ?_) (fun c78 => ?_)
        · trivial
        · refine ev_br 2 [] (¬ (s_dnx (σ 11) d us (s_spend (atC σ) (s_went (s_flw (atC σ) (tkC σ) n w)))) = (nI d)) 96 89 ([some (.ref 0), some (.int (w &&& (inm ^^^ (-1 : Int32)))), some (.int (nI d)), some (.int (us)), some (.int ((s_dnx (σ 11) d us (s_spend (atC σ) (s_went (s_flw (atC σ) (tkC σ) n w)))))), some (.int (nI k)), some (.int (inm)), some (.int ((s_spend (atC σ) (s_went (s_flw (atC σ) (tkC σ) n w)))))], [], σ2) rfl ?_ (fun c86 => ?_) (fun c86 => ?_)
          · trivial
          · refine ev_blk 6 [] 18 ([some (.ref 0), some (.int (w &&& (inm ^^^ (-1 : Int32)))), some (.int ((s_dnx (σ 11) d us (s_spend (atC σ) (s_went (s_flw (atC σ) (tkC σ) n w)))))), some (.int ((s_spend (atC σ) (s_went (s_flw (atC σ) (tkC σ) n w))))), some (.int ((s_dnx (σ 11) d us (s_spend (atC σ) (s_went (s_flw (atC σ) (tkC σ) n w)))))), some (.int ((nI k) + (1 : Int32))), some (.int (inm)), some (.int ((s_spend (atC σ) (s_went (s_flw (atC σ) (tkC σ) n w)))))], [], σ2) rfl ?_ ?_
            · trivial
            rw [nI_1]
            refine ev_drop 6 ?_
            refine ev_drop 7 ?_
            obtain ⟨x, hx, ex⟩ := (s_dnx_rg (f := σ 11) (us := us) (wa := (s_spend (atC σ) (s_went (s_flw (atC σ) (tkC σ) n w)))) hd).resolve_left c78
            have hxc : (nI x).toNatClampNeg = x := nI_clamp (by omega)
            obtain ⟨e0, e1⟩ := s_flw_nx (a := atC σ) (tk := tkC σ) hok.1 hb
            have hVV : s_dr (atC σ) (tkC σ) (σ 11) m (laneL n (w &&& (inm ^^^ (-1 : Int32))) (σ 7) 0) (laneL n (w &&& (inm ^^^ (-1 : Int32))) (σ 7) 1) x ((s_spend (atC σ) (s_went (s_flw (atC σ) (tkC σ) n w)))) (nI x) = V := by
              rw [show laneL n (w &&& (inm ^^^ (-1 : Int32))) (σ 7) 0 = _ from e0, show laneL n (w &&& (inm ^^^ (-1 : Int32))) (σ 7) 1 = _ from e1, ← hV, s_dr]
              show _ = match s_went (s_flw (atC σ) (tkC σ) n w) with | [] => _ | _ :: _ => _
              generalize hww : s_went (s_flw (atC σ) (tkC σ) n w) = ww at *
              cases ww with
              | nil => exact absurd (hz.mpr rfl) c40
              | cons q t =>
                show _ = if _ = _ then _ else _
                rw [if_neg c78, if_neg c86, ex, hxc]
                rfl
            rw [ex]
            exact ih (k + 1) x _ _ _ σ2 (by omega) hx (hfr.tr (scC_f hf2)) hVV
          · refine ev_blk 9 [] 18 ([some (.ref 0), some (.int (w &&& (inm ^^^ (-1 : Int32)))), some (.int ((s_dnx (σ 11) d us (s_spend (atC σ) (s_went (s_flw (atC σ) (tkC σ) n w)))))), some (.int (us + (s_spend (atC σ) (s_went (s_flw (atC σ) (tkC σ) n w))))), some (.int ((s_dnx (σ 11) d us (s_spend (atC σ) (s_went (s_flw (atC σ) (tkC σ) n w)))))), some (.int ((nI k) + (1 : Int32))), some (.int (inm)), some (.int ((s_spend (atC σ) (s_went (s_flw (atC σ) (tkC σ) n w)))))], [], σ2) rfl ?_ ?_
            · trivial
            rw [nI_1]
            refine ev_drop 6 ?_
            refine ev_drop 7 ?_
            obtain ⟨x, hx, ex⟩ := (s_dnx_rg (f := σ 11) (us := us) (wa := (s_spend (atC σ) (s_went (s_flw (atC σ) (tkC σ) n w)))) hd).resolve_left c78
            have hxc : (nI x).toNatClampNeg = x := nI_clamp (by omega)
            obtain ⟨e0, e1⟩ := s_flw_nx (a := atC σ) (tk := tkC σ) hok.1 hb
            have hVV : s_dr (atC σ) (tkC σ) (σ 11) m (laneL n (w &&& (inm ^^^ (-1 : Int32))) (σ 7) 0) (laneL n (w &&& (inm ^^^ (-1 : Int32))) (σ 7) 1) x (us + (s_spend (atC σ) (s_went (s_flw (atC σ) (tkC σ) n w)))) (nI x) = V := by
              rw [show laneL n (w &&& (inm ^^^ (-1 : Int32))) (σ 7) 0 = _ from e0, show laneL n (w &&& (inm ^^^ (-1 : Int32))) (σ 7) 1 = _ from e1, ← hV, s_dr]
              show _ = match s_went (s_flw (atC σ) (tkC σ) n w) with | [] => _ | _ :: _ => _
              generalize hww : s_went (s_flw (atC σ) (tkC σ) n w) = ww at *
              cases ww with
              | nil => exact absurd (hz.mpr rfl) c40
              | cons q t =>
                show _ = if _ = _ then _ else _
                rw [if_neg c78, if_pos (Classical.byContradiction c86), ex, hxc]
                rfl
            rw [ex]
            exact ih (k + 1) x _ _ _ σ2 (by omega) hx (hfr.tr (scC_f hf2)) hVV
        · refine ev_blk 1 [] 82 ([some (.ref 0), some (.int (w &&& (inm ^^^ (-1 : Int32)))), some (.int (nI d)), some (.int (us)), some (.int ((s_dnx (σ 11) d us (s_spend (atC σ) (s_went (s_flw (atC σ) (tkC σ) n w)))))), some (.int (nI k)), some (.int (inm)), some (.int ((s_spend (atC σ) (s_went (s_flw (atC σ) (tkC σ) n w)))))], [.int ((-1 : Int32))], σ2) rfl ?_ ?_
          · trivial
          refine ev_iret rfl rfl rfl ⟨?_, hfr.tr (scC_f hf2)⟩
          have c78 := Classical.byContradiction c78
          rw [← hV, s_dr]
          show _ = some (Value.int (match s_went (s_flw (atC σ) (tkC σ) n w) with | [] => _ | _ :: _ => _))
          generalize hww : s_went (s_flw (atC σ) (tkC σ) n w) = ww at *
          cases ww with
          | nil => exact absurd (hz.mpr rfl) c40
          | cons q t =>
            show _ = some (Value.int (if _ = _ then _ else _))
            rw [if_pos c78]
      · refine ev_blk 2 [] 110 ([some (.ref 0), some (.int (w)), some (.int (nI d)), some (.int (us)), some (.int (la)), some (.int (nI k)), some (.int (inm)), none], [.int (la)], σ2) rfl ?_ ?_
        · trivial
        exact ev_iret rfl rfl rfl ⟨by rw [← hV, s_dr, show s_went (s_fill (atC σ) (tkC σ) (laneL n w (σ 7) 0) (laneL n w (σ 7) 1)) = [] from hz.mp (Classical.byContradiction c40)], hfr.tr (scC_f hf2)⟩
set_option maxRecDepth 100000 in
theorem c_droughtP (σ : xSg) (n : Nat) (hok : aOk (atC σ) n) (hn : σ 1 0 = nI n) : xCtr M_X5_drought [.ref 0] σ (fun r σ2 => r = some (.int (s_dr (atC σ) (tkC σ) (σ 11) 10 (laneL n (σ 1 1) (σ 7) 0) (laneL n (σ 1 1) (σ 7) 1) 0 0 (-1))) ∧ xFr scC σ σ2) := by
  refine ctr_ev ok_X5_drought (by decide +kernel) rfl rfl rfl ?_
  show xEv (.inl 5) M_X5_drought _ 0 ([some (.ref 0), none, none, none, none, none, none, none], [], σ)
  refine ev_blk 12 [] 18 ([some (.ref 0), some (.int ((σ 1 1))), some (.int ((0 : Int32))), some (.int ((0 : Int32))), some (.int ((-1 : Int32))), some (.int ((0 : Int32))), none, none], [], σ) rfl ?_ ?_
  · trivial
  exact c_drought_lp σ n hok hn _ 10 0 0 (σ 1 1) 0 (-1) σ rfl (by decide) xFr.rf rfl
