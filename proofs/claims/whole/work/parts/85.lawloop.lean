/-! the law's loop -/
set_option maxRecDepth 100000 in
theorem lw_loop {L : Nat} {xs : Nat → Int32} {Q : Option Value → xSg → Prop} (hL : L ≤ 3072) : ∀ (m i : Nat) (σ : xSg) (S : zS), L ≤ i + m → i ≤ L + 6 → sOk S → CH0 σ S → RH0 σ S → xEv (.inr (L, xs)) M_law Q 18 ([some (.ref 99), some (.ref 0), some (.ref 57), some (.int (nI i))], [], σ) := by
  intro m
  induction m with
  | zero =>
    intro i σ S hm hi ok hc0 hm0
    refine ev_br 5 [] (((Int32.ofNat L) - (6 : Int32)) < (nI i)) 1055 27 ([some (.ref 99), some (.ref 0), some (.ref 57), some (.int (nI i))], [], σ) rfl ?_ (fun c24 => ?_) (fun c24 => ?_)
    · trivial
    · refine ev_blk 1 [] 1056 ([some (.ref 99), some (.ref 0), some (.ref 57), some (.int (nI i))], [.int ((1 : Int32))], σ) rfl ?_ ?_
      · trivial
      exact ev_end
    · exact absurd ((lw_lt hL (by omega)).mpr (by omega)) c24
  | succ m ih =>
    intro i σ S hm hi ok hc0 hm0
    refine ev_br 5 [] (((Int32.ofNat L) - (6 : Int32)) < (nI i)) 1055 27 ([some (.ref 99), some (.ref 0), some (.ref 57), some (.int (nI i))], [], σ) rfl ?_ (fun c24 => ?_) (fun c24 => ?_)
    · trivial
    · refine ev_blk 1 [] 1056 ([some (.ref 99), some (.ref 0), some (.ref 57), some (.int (nI i))], [.int ((1 : Int32))], σ) rfl ?_ ?_
      · trivial
      exact ev_end
    · have hi6 : i + 6 ≤ L := Nat.le_of_not_lt (fun q => c24 ((lw_lt hL (by omega)).mpr q))
      have kk : ∀ (σ2 : xSg) (S2 : zS), sOk S2 → CH0 σ2 S2 → RH0 σ2 S2 → xEv (.inr (L, xs)) M_law Q 1049 ([some (.ref 99), some (.ref 0), some (.ref 57), some (.int (nI i))], [], σ2) := by
        intro σ2 S2 o2 h2 h3
        refine ev_blk 2 [] 18 ([some (.ref 99), some (.ref 0), some (.ref 57), some (.int ((nI i) + (6 : Int32)))], [], σ2) rfl ?_ ?_
        · trivial
        rw [show (nI i) + (6 : Int32) = nI (i + 6) from nI_add i 6]
        exact ih (i + 6) σ2 S2 (by omega) (by omega) o2 h2 h3
      have okn := ok
      have hcn := CH0_nrm ok hc0
      have hmn := RH0_nrm ok hm0
      refine ev_nrm ?_
      refine ev_sw 5 [vp_in (nI i) L] ((xs (nI i).toNatClampNeg) &&& (31 : Int32)) [((0 : Int32), 164), ((1 : Int32), 227), ((2 : Int32), 260), ((3 : Int32), 319), ((4 : Int32), 352), ((5 : Int32), 375), ((6 : Int32), 408), ((7 : Int32), 441), ((8 : Int32), 464), ((9 : Int32), 497), ((10 : Int32), 510), ((11 : Int32), 543), ((12 : Int32), 557), ((13 : Int32), 581), ((14 : Int32), 604), ((15 : Int32), 617), ((16 : Int32), 640), ((17 : Int32), 653), ((18 : Int32), 676), ((19 : Int32), 699), ((20 : Int32), 722), ((21 : Int32), 745), ((22 : Int32), 788), ((23 : Int32), 821), ((24 : Int32), 834), ((25 : Int32), 847), ((26 : Int32), 890), ((27 : Int32), 933), ((28 : Int32), 996)] 1049 ([some (.ref 99), some (.ref 0), some (.ref 57), some (.int (nI i))], [], (nrm σ)) rfl ?_ ?_
      · exact vp_in_nI (by omega) (by omega)
      refine ⟨fun c33_0 => ?_, fun c33_0 => ?_⟩
      · exact ev_tr ok_law0 (lc_ship hL hi6 (nrm_nrm σ) ok hcn hmn (fun σ2 S2 o2 h2 h3 => ev_tr ok_law (kk σ2 S2 o2 h2 h3)))
      refine ⟨fun c33_1 => ?_, fun c33_1 => ?_⟩
      · exact ev_tr ok_law1 (lc_set hL hi6 (nrm_nrm σ) ok hcn hmn (fun σ2 S2 o2 h2 h3 => ev_tr ok_law (kk σ2 S2 o2 h2 h3)))
      refine ⟨fun c33_2 => ?_, fun c33_2 => ?_⟩
      · exact ev_tr ok_law2 (lc_bar hL hi6 (nrm_nrm σ) ok hcn hmn (fun σ2 S2 o2 h2 h3 => ev_tr ok_law (kk σ2 S2 o2 h2 h3)))
      refine ⟨fun c33_3 => ?_, fun c33_3 => ?_⟩
      · exact ev_tr ok_law3 (lc_cap hL hi6 (nrm_nrm σ) ok hcn hmn (fun σ2 S2 o2 h2 h3 => ev_tr ok_law (kk σ2 S2 o2 h2 h3)))
      refine ⟨fun c33_4 => ?_, fun c33_4 => ?_⟩
      · exact ev_tr ok_law4 (lc_may hL hi6 (nrm_nrm σ) ok hcn hmn (fun σ2 S2 o2 h2 h3 => ev_tr ok_law (kk σ2 S2 o2 h2 h3)))
      refine ⟨fun c33_5 => ?_, fun c33_5 => ?_⟩
      · exact ev_tr ok_law5 (lc_told hL hi6 (nrm_nrm σ) ok hcn hmn (fun σ2 S2 o2 h2 h3 => ev_tr ok_law (kk σ2 S2 o2 h2 h3)))
      refine ⟨fun c33_6 => ?_, fun c33_6 => ?_⟩
      · exact ev_tr ok_law6 (lc_lane hL hi6 (nrm_nrm σ) ok hcn hmn (fun σ2 S2 o2 h2 h3 => ev_tr ok_law (kk σ2 S2 o2 h2 h3)))
      refine ⟨fun c33_7 => ?_, fun c33_7 => ?_⟩
      · exact ev_tr ok_law7 (lc_count hL hi6 (nrm_nrm σ) ok hcn hmn (fun σ2 S2 o2 h2 h3 => ev_tr ok_law (kk σ2 S2 o2 h2 h3)))
      refine ⟨fun c33_8 => ?_, fun c33_8 => ?_⟩
      · exact ev_tr ok_law8 (lc_taken hL hi6 (nrm_nrm σ) ok hcn hmn (fun σ2 S2 o2 h2 h3 => ev_tr ok_law (kk σ2 S2 o2 h2 h3)))
      refine ⟨fun c33_9 => ?_, fun c33_9 => ?_⟩
      · exact ev_tr ok_law9 (lc_fill hL hi6 (nrm_nrm σ) ok hcn hmn (fun σ2 S2 o2 h2 h3 => ev_tr ok_law (kk σ2 S2 o2 h2 h3)))
      refine ⟨fun c33_10 => ?_, fun c33_10 => ?_⟩
      · exact ev_tr ok_law10 (lc_next hL hi6 (nrm_nrm σ) ok hcn hmn (fun σ2 S2 o2 h2 h3 => ev_tr ok_law (kk σ2 S2 o2 h2 h3)))
      refine ⟨fun c33_11 => ?_, fun c33_11 => ?_⟩
      · exact ev_tr ok_law11 (lc_water hL hi6 (nrm_nrm σ) ok hcn hmn (fun σ2 S2 o2 h2 h3 => ev_tr ok_law (kk σ2 S2 o2 h2 h3)))
      refine ⟨fun c33_12 => ?_, fun c33_12 => ?_⟩
      · exact ev_tr ok_law12 (lc_spent hL hi6 (nrm_nrm σ) ok hcn hmn (fun σ2 S2 o2 h2 h3 => ev_tr ok_law (kk σ2 S2 o2 h2 h3)))
      refine ⟨fun c33_13 => ?_, fun c33_13 => ?_⟩
      · exact ev_tr ok_law13 (lc_leave hL hi6 (nrm_nrm σ) ok hcn hmn (fun σ2 S2 o2 h2 h3 => ev_tr ok_law (kk σ2 S2 o2 h2 h3)))
      refine ⟨fun c33_14 => ?_, fun c33_14 => ?_⟩
      · exact ev_tr ok_law14 (lc_undo hL hi6 (nrm_nrm σ) ok hcn hmn (fun σ2 S2 o2 h2 h3 => ev_tr ok_law (kk σ2 S2 o2 h2 h3)))
      refine ⟨fun c33_15 => ?_, fun c33_15 => ?_⟩
      · exact ev_tr ok_law15 (lc_plan hL hi6 (nrm_nrm σ) ok hcn hmn (fun σ2 S2 o2 h2 h3 => ev_tr ok_law (kk σ2 S2 o2 h2 h3)))
      refine ⟨fun c33_16 => ?_, fun c33_16 => ?_⟩
      · exact ev_tr ok_law16 (lc_drought hL hi6 (nrm_nrm σ) ok hcn hmn (fun σ2 S2 o2 h2 h3 => ev_tr ok_law (kk σ2 S2 o2 h2 h3)))
      refine ⟨fun c33_17 => ?_, fun c33_17 => ?_⟩
      · exact ev_tr ok_law17 (lc_waits hL hi6 (nrm_nrm σ) ok hcn hmn (fun σ2 S2 o2 h2 h3 => ev_tr ok_law (kk σ2 S2 o2 h2 h3)))
      refine ⟨fun c33_18 => ?_, fun c33_18 => ?_⟩
      · exact ev_tr ok_law18 (lc_line hL hi6 (nrm_nrm σ) ok hcn hmn (fun σ2 S2 o2 h2 h3 => ev_tr ok_law (kk σ2 S2 o2 h2 h3)))
      refine ⟨fun c33_19 => ?_, fun c33_19 => ?_⟩
      · exact ev_tr ok_law19 (lc_day hL hi6 (nrm_nrm σ) ok hcn hmn (fun σ2 S2 o2 h2 h3 => ev_tr ok_law (kk σ2 S2 o2 h2 h3)))
      refine ⟨fun c33_20 => ?_, fun c33_20 => ?_⟩
      · exact ev_tr ok_law20 (lc_freely hL hi6 (nrm_nrm σ) ok hcn hmn (fun σ2 S2 o2 h2 h3 => ev_tr ok_law (kk σ2 S2 o2 h2 h3)))
      refine ⟨fun c33_21 => ?_, fun c33_21 => ?_⟩
      · exact ev_tr ok_law21 (lc_tells hL hi6 (nrm_nrm σ) ok hcn hmn (fun σ2 S2 o2 h2 h3 => ev_tr ok_law (kk σ2 S2 o2 h2 h3)))
      refine ⟨fun c33_22 => ?_, fun c33_22 => ?_⟩
      · exact ev_tr ok_law22 (lc_film hL hi6 (nrm_nrm σ) ok hcn hmn (fun σ2 S2 o2 h2 h3 => ev_tr ok_law (kk σ2 S2 o2 h2 h3)))
      refine ⟨fun c33_23 => ?_, fun c33_23 => ?_⟩
      · exact ev_tr ok_law23 (lc_image hL hi6 (nrm_nrm σ) ok hcn hmn (fun σ2 S2 o2 h2 h3 => ev_tr ok_law (kk σ2 S2 o2 h2 h3)))
      refine ⟨fun c33_24 => ?_, fun c33_24 => ?_⟩
      · exact ev_tr ok_law24 (lc_back hL hi6 (nrm_nrm σ) ok hcn hmn (fun σ2 S2 o2 h2 h3 => ev_tr ok_law (kk σ2 S2 o2 h2 h3)))
      refine ⟨fun c33_25 => ?_, fun c33_25 => ?_⟩
      · exact ev_tr ok_law25 (lc_sheet hL hi6 (nrm_nrm σ) ok hcn hmn (fun σ2 S2 o2 h2 h3 => ev_tr ok_law (kk σ2 S2 o2 h2 h3)))
      refine ⟨fun c33_26 => ?_, fun c33_26 => ?_⟩
      · exact ev_tr ok_law26 (lc_put hL hi6 (nrm_nrm σ) ok hcn hmn (fun σ2 S2 o2 h2 h3 => ev_tr ok_law (kk σ2 S2 o2 h2 h3)))
      refine ⟨fun c33_27 => ?_, fun c33_27 => ?_⟩
      · exact ev_tr ok_law27 (lc_copy hL hi6 (nrm_nrm σ) ok hcn hmn (fun σ2 S2 o2 h2 h3 => ev_tr ok_law (kk σ2 S2 o2 h2 h3)))
      refine ⟨fun c33_28 => ?_, fun c33_28 => ?_⟩
      · exact ev_tr ok_law28 (lc_load hL hi6 (nrm_nrm σ) ok hcn hmn (fun σ2 S2 o2 h2 h3 => ev_tr ok_law (kk σ2 S2 o2 h2 h3)))
      show xEv _ _ _ 1049 ([some (.ref 99), some (.ref 0), some (.ref 57), some (.int (nI i))], [], (nrm σ))
      exact kk _ S ok hcn hmn
