set_option maxRecDepth 100000 in
theorem c_film0_lp (σ : xSg) (n : Nat) (hok : aOk (atC σ) n) (hn : σ 1 0 = nI n) (D : Nat → shD) (m8 : Nat) (hm8 : m8 ≤ 8) : ∀ (m i : Nat) (w : Int32) (σ1 : xSg), i + m = m8 → xFr (scC ++ scS) σ σ1 → shC σ1 (updD D 0 (0, m8, fun j => if j < i then nI (s_ct (atC σ) (tkC σ) (laneL n (σ 1 1) (σ 7) 0) (laneL n (σ 1 1) (σ 7) 1) j) else 0)) → laneL n w (σ 7) 0 = (s_it (atC σ) (tkC σ) (laneL n (σ 1 1) (σ 7) 0) (laneL n (σ 1 1) (σ 7) 1) i).1 → laneL n w (σ 7) 1 = (s_it (atC σ) (tkC σ) (laneL n (σ 1 1) (σ 7) 0) (laneL n (σ 1 1) (σ 7) 1) i).2 → xEv (.inl 5) M_X5_film (fun r σ2 => r = some (.int (nI m8)) ∧ shC σ2 (updD D 0 (0, m8, fun j => if j < m8 then nI (s_ct (atC σ) (tkC σ) (laneL n (σ 1 1) (σ 7) 0) (laneL n (σ 1 1) (σ 7) 1) j) else 0)) ∧ xFr (scC ++ scS) σ σ2) 42 ([some (.ref 0), some (.int ((0 : Int32))), some (.int (nI m8)), some (.int (w)), some (.int (nI i)), none], [], σ1) := by
  intro m
  induction m with
  | zero =>
    intro i w σ1 hi hfr hS hl0 hl1
    refine ev_br 2 [] ((nI m8) ≤ (nI i)) 90 48 ([some (.ref 0), some (.int ((0 : Int32))), some (.int (nI m8)), some (.int (w)), some (.int (nI i)), none], [], σ1) rfl ?_ (fun c45 => ?_) (fun c45 => ?_)
    · trivial
    · refine ev_blk 1 [] 91 ([some (.ref 0), some (.int ((0 : Int32))), some (.int (nI m8)), some (.int (w)), some (.int (nI i)), none], [.int (nI m8)], σ1) rfl ?_ ?_
      · trivial
      have e : i = m8 := by omega
      subst e
      exact ev_iret rfl rfl rfl ⟨rfl, hS, hfr⟩
    · exact absurd (show nI m8 ≤ nI i from nI_le (by omega) (by omega)) c45
  | succ m ih =>
    intro i w σ1 hi hfr hS hl0 hl1
    have h2 := hfr 2 (by decide)
    have hat : atC σ1 = atC σ := by unfold atC; rw [hfr 2 (by decide), hfr 3 (by decide), hfr 4 (by decide), hfr 5 (by decide), hfr 6 (by decide), hfr 7 (by decide), hfr 9 (by decide)]
    have htk : tkC σ1 = tkC σ := by unfold tkC; rw [hfr 10 (by decide)]
    have hok1 : aOk (atC σ1) n := by rw [hat]; exact hok
    have hn1 : σ1 1 0 = nI n := (congrFun (hfr 1 (by decide)) 0).trans hn
    have h7 : σ1 7 = σ 7 := hfr 7 (by decide)
    refine ev_br 2 [] ((nI m8) ≤ (nI i)) 90 48 ([some (.ref 0), some (.int ((0 : Int32))), some (.int (nI m8)), some (.int (w)), some (.int (nI i)), none], [], σ1) rfl ?_ (fun c45 => ?_) (fun c45 => ?_)
    · trivial
    · exact absurd c45 (nI_ge (by omega) (by omega))
    · refine ev_blk 4 [] 56 ([some (.ref 0), some (.int ((0 : Int32))), some (.int (nI m8)), some (.int (w)), some (.int (nI i)), none], [.ref 104, .int (w), .ref 26], σ1) rfl ?_ ?_
      · trivial
      refine ev_callV M_X2_byRule [.int (w), .ref 104] [] 26 rfl rfl ln_X5_157 k_X2_byRule rfl rfl rfl rfl rfl rfl (c_byRule104 σ1 n (List.range 10) _ hok1 hn1 ord_by) ?_
      rintro r σ2 ⟨inm, rfl, hb, hF, hf2⟩
      have hT : s_fill (atC σ1) (tkC σ1) ((List.range 10).filter (s_lnp n w (σ1 7) 0)) ((List.range 10).filter (s_lnp n w (σ1 7) 1)) = s_flw (atC σ) (tkC σ) n w := by rw [hat, htk, h7]; rfl
      rw [hT] at hb hF
      have hbc := bc_flw hok.1 hb
      have hwl := flw_len (a := atC σ) (tk := tkC σ) (n := n) (w := w) hok.1
      obtain ⟨e0, e1⟩ := s_flw_nx (a := atC σ) (tk := tkC σ) hok.1 hb
      have hct : s_ct (atC σ) (tkC σ) (laneL n (σ 1 1) (σ 7) 0) (laneL n (σ 1 1) (σ 7) 1) i = (s_went (s_flw (atC σ) (tkC σ) n w)).length := by unfold s_ct; rw [← hl0, ← hl1]; rfl
      have hS2 := hS 0 (by decide)
      have h0 : σ2 49 0 = 0 := (congrFun (hf2 49 (by decide)) 0).trans (hS2.2.1.trans (by simp [updD]))
      have h1 : σ2 49 1 = nI m8 := (congrFun (hf2 49 (by decide)) 1).trans (hS2.2.2.1.trans (by simp [updD]))
      show xEv _ _ _ 59 ([some (.ref 0), some (.int ((0 : Int32))), some (.int (nI m8)), some (.int (w)), some (.int (nI i)), none], [.int (inm)], σ2)
      refine ev_blk 13 [vp_in ((0 : Int32)) 4] 78 ([some (.ref 0), some (.int ((0 : Int32))), some (.int (nI m8)), some (.int (w &&& (inm ^^^ (-1 : Int32)))), some (.int (nI i)), some (.int (inm))], [.int (inm), .int (nI i), .ref 49], σ2) rfl ?_ ?_
      · exact (vp_in_nI (n := 0) (by decide) (by decide))
      refine ev_callS M_J6_bitCount_0f7a4 [.int (inm)] [.int (nI i), .ref 49] rfl rfl ln_X5_138 k_J6_bitCount_0f7a4 rfl rfl rfl (c_bitCount _ _) ?_
      refine pu_k ?_
      show xEv _ _ _ 81 ([some (.ref 0), some (.int ((0 : Int32))), some (.int (nI m8)), some (.int (w &&& (inm ^^^ (-1 : Int32)))), some (.int (nI i)), some (.int (inm))], [.int (bcI inm), .int (nI i), .ref 49], σ2)
      refine ev_callV M_X4_write [.int (nI i), .int (bcI inm)] [] 49 rfl rfl ln_X5_248 k_X4_write rfl rfl rfl rfl rfl rfl (c_shWrite0 σ2 m8 h1 (by omega) _ _) ?_
      rintro r σ3 ⟨rfl, hq⟩
      rw [h0, hbc, sbv, if_pos rfl, sb_small _ (by omega), ← hct] at hq
      have hq2 : σ3 = x_up σ2 50 (upd (σ2 50) i (nI (s_ct (atC σ) (tkC σ) (laneL n (σ 1 1) (σ 7) 0) (laneL n (σ 1 1) (σ 7) 1) i))) := by
        rcases hq with ⟨j, hj, ej, rfl⟩ | ⟨hno, _⟩
        · rw [show j = i from ((nI_eq (by omega) (by omega)).mp ej).symm]
        · exact absurd rfl (hno i (by omega))
      show xEv _ _ _ 84 ([some (.ref 0), some (.int ((0 : Int32))), some (.int (nI m8)), some (.int (w &&& (inm ^^^ (-1 : Int32)))), some (.int (nI i)), some (.int (inm))], [], σ3)
      refine ev_blk 2 [] 42 ([some (.ref 0), some (.int ((0 : Int32))), some (.int (nI m8)), some (.int (w &&& (inm ^^^ (-1 : Int32)))), some (.int ((nI i) + (1 : Int32))), some (.int (inm))], [], σ3) rfl ?_ ?_
      · trivial
      rw [nI_1]
      refine ev_drop 5 ?_
      refine ih (i + 1) _ σ3 (by omega) (fun c hc => ?_) (fun i2 hi2 => ?_) ?_ ?_
      · rw [hq2, x_up_ne (fun q => hc (by rw [q]; decide)), scC_f hf2 c (fun q => hc (List.mem_append_left _ q))]; exact hfr c hc
      · obtain ⟨a1, a2, a3, a4⟩ := hS i2 hi2
        have hs2 : ∀ c, 49 ≤ c → σ2 c = σ1 c := fun c h => hf2 c (by simp; omega)
        by_cases e : i2 = 0
        · subst e
          refine ⟨a1, ?_, ?_, fun j hj => ?_⟩
          · rw [hq2, x_up_ne (by decide), hs2 _ (by decide)]; exact a2
          · rw [hq2, x_up_ne (by decide), hs2 _ (by decide)]; exact a3
          · have a5 := a4 j hj
            simp only [updD, if_true] at a5 ⊢
            rw [hq2, show 50 + 2 * 0 = 50 from rfl, x_up_eq, hs2 _ (by decide)]
            by_cases hji : j = i
            · subst hji; rw [upd_eq, if_pos (by omega)]
            · rw [upd_ne hji, show (if j < i + 1 then nI (s_ct (atC σ) (tkC σ) (laneL n (σ 1 1) (σ 7) 0) (laneL n (σ 1 1) (σ 7) 1) j) else 0) = if j < i then nI (s_ct (atC σ) (tkC σ) (laneL n (σ 1 1) (σ 7) 0) (laneL n (σ 1 1) (σ 7) 1) j) else 0 by congr 1; exact propext ⟨fun z => by omega, fun z => by omega⟩]; exact a5
        · rw [hq2, x_up_ne (by omega), x_up_ne (by omega), hs2 _ (by omega), hs2 _ (by omega)]
          simp only [updD, if_neg e] at a1 a2 a3 a4 ⊢
          exact ⟨a1, a2, a3, a4⟩
      · rw [show laneL n (w &&& (inm ^^^ (-1 : Int32))) (σ 7) 0 = _ from e0]; show _ = (s_fill _ _ (s_it (atC σ) (tkC σ) (laneL n (σ 1 1) (σ 7) 0) (laneL n (σ 1 1) (σ 7) 1) i).1 (s_it (atC σ) (tkC σ) (laneL n (σ 1 1) (σ 7) 0) (laneL n (σ 1 1) (σ 7) 1) i).2).1; rw [← hl0, ← hl1]; rfl
      · rw [show laneL n (w &&& (inm ^^^ (-1 : Int32))) (σ 7) 1 = _ from e1]; show _ = (s_fill _ _ (s_it (atC σ) (tkC σ) (laneL n (σ 1 1) (σ 7) 0) (laneL n (σ 1 1) (σ 7) 1) i).1 (s_it (atC σ) (tkC σ) (laneL n (σ 1 1) (σ 7) 0) (laneL n (σ 1 1) (σ 7) 1) i).2).2.1; rw [← hl0, ← hl1]; rfl
set_option maxRecDepth 100000 in
theorem c_film1_lp (σ : xSg) (n : Nat) (hok : aOk (atC σ) n) (hn : σ 1 0 = nI n) (D : Nat → shD) (m8 : Nat) (hm8 : m8 ≤ 8) : ∀ (m i : Nat) (w : Int32) (σ1 : xSg), i + m = m8 → xFr (scC ++ scS) σ σ1 → shC σ1 (updD D 1 (0, m8, fun j => if j < i then nI (s_ct (atC σ) (tkC σ) (laneL n (σ 1 1) (σ 7) 0) (laneL n (σ 1 1) (σ 7) 1) j) else 0)) → laneL n w (σ 7) 0 = (s_it (atC σ) (tkC σ) (laneL n (σ 1 1) (σ 7) 0) (laneL n (σ 1 1) (σ 7) 1) i).1 → laneL n w (σ 7) 1 = (s_it (atC σ) (tkC σ) (laneL n (σ 1 1) (σ 7) 0) (laneL n (σ 1 1) (σ 7) 1) i).2 → xEv (.inl 5) M_X5_film (fun r σ2 => r = some (.int (nI m8)) ∧ shC σ2 (updD D 1 (0, m8, fun j => if j < m8 then nI (s_ct (atC σ) (tkC σ) (laneL n (σ 1 1) (σ 7) 0) (laneL n (σ 1 1) (σ 7) 1) j) else 0)) ∧ xFr (scC ++ scS) σ σ2) 42 ([some (.ref 0), some (.int ((1 : Int32))), some (.int (nI m8)), some (.int (w)), some (.int (nI i)), none], [], σ1) := by
  intro m
  induction m with
  | zero =>
    intro i w σ1 hi hfr hS hl0 hl1
    refine ev_br 2 [] ((nI m8) ≤ (nI i)) 90 48 ([some (.ref 0), some (.int ((1 : Int32))), some (.int (nI m8)), some (.int (w)), some (.int (nI i)), none], [], σ1) rfl ?_ (fun c45 => ?_) (fun c45 => ?_)
    · trivial
    · refine ev_blk 1 [] 91 ([some (.ref 0), some (.int ((1 : Int32))), some (.int (nI m8)), some (.int (w)), some (.int (nI i)), none], [.int (nI m8)], σ1) rfl ?_ ?_
      · trivial
      have e : i = m8 := by omega
      subst e
      exact ev_iret rfl rfl rfl ⟨rfl, hS, hfr⟩
    · exact absurd (show nI m8 ≤ nI i from nI_le (by omega) (by omega)) c45
  | succ m ih =>
    intro i w σ1 hi hfr hS hl0 hl1
    have h2 := hfr 2 (by decide)
    have hat : atC σ1 = atC σ := by unfold atC; rw [hfr 2 (by decide), hfr 3 (by decide), hfr 4 (by decide), hfr 5 (by decide), hfr 6 (by decide), hfr 7 (by decide), hfr 9 (by decide)]
    have htk : tkC σ1 = tkC σ := by unfold tkC; rw [hfr 10 (by decide)]
    have hok1 : aOk (atC σ1) n := by rw [hat]; exact hok
    have hn1 : σ1 1 0 = nI n := (congrFun (hfr 1 (by decide)) 0).trans hn
    have h7 : σ1 7 = σ 7 := hfr 7 (by decide)
    refine ev_br 2 [] ((nI m8) ≤ (nI i)) 90 48 ([some (.ref 0), some (.int ((1 : Int32))), some (.int (nI m8)), some (.int (w)), some (.int (nI i)), none], [], σ1) rfl ?_ (fun c45 => ?_) (fun c45 => ?_)
    · trivial
    · exact absurd c45 (nI_ge (by omega) (by omega))
    · refine ev_blk 4 [] 56 ([some (.ref 0), some (.int ((1 : Int32))), some (.int (nI m8)), some (.int (w)), some (.int (nI i)), none], [.ref 104, .int (w), .ref 26], σ1) rfl ?_ ?_
      · trivial
      refine ev_callV M_X2_byRule [.int (w), .ref 104] [] 26 rfl rfl ln_X5_157 k_X2_byRule rfl rfl rfl rfl rfl rfl (c_byRule104 σ1 n (List.range 10) _ hok1 hn1 ord_by) ?_
      rintro r σ2 ⟨inm, rfl, hb, hF, hf2⟩
      have hT : s_fill (atC σ1) (tkC σ1) ((List.range 10).filter (s_lnp n w (σ1 7) 0)) ((List.range 10).filter (s_lnp n w (σ1 7) 1)) = s_flw (atC σ) (tkC σ) n w := by rw [hat, htk, h7]; rfl
      rw [hT] at hb hF
      have hbc := bc_flw hok.1 hb
      have hwl := flw_len (a := atC σ) (tk := tkC σ) (n := n) (w := w) hok.1
      obtain ⟨e0, e1⟩ := s_flw_nx (a := atC σ) (tk := tkC σ) hok.1 hb
      have hct : s_ct (atC σ) (tkC σ) (laneL n (σ 1 1) (σ 7) 0) (laneL n (σ 1 1) (σ 7) 1) i = (s_went (s_flw (atC σ) (tkC σ) n w)).length := by unfold s_ct; rw [← hl0, ← hl1]; rfl
      have hS2 := hS 1 (by decide)
      have h0 : σ2 51 0 = 0 := (congrFun (hf2 51 (by decide)) 0).trans (hS2.2.1.trans (by simp [updD]))
      have h1 : σ2 51 1 = nI m8 := (congrFun (hf2 51 (by decide)) 1).trans (hS2.2.2.1.trans (by simp [updD]))
      show xEv _ _ _ 59 ([some (.ref 0), some (.int ((1 : Int32))), some (.int (nI m8)), some (.int (w)), some (.int (nI i)), none], [.int (inm)], σ2)
      refine ev_blk 13 [vp_in ((1 : Int32)) 4] 78 ([some (.ref 0), some (.int ((1 : Int32))), some (.int (nI m8)), some (.int (w &&& (inm ^^^ (-1 : Int32)))), some (.int (nI i)), some (.int (inm))], [.int (inm), .int (nI i), .ref 51], σ2) rfl ?_ ?_
      · exact (vp_in_nI (n := 1) (by decide) (by decide))
      refine ev_callS M_J6_bitCount_0f7a4 [.int (inm)] [.int (nI i), .ref 51] rfl rfl ln_X5_138 k_J6_bitCount_0f7a4 rfl rfl rfl (c_bitCount _ _) ?_
      refine pu_k ?_
      show xEv _ _ _ 81 ([some (.ref 0), some (.int ((1 : Int32))), some (.int (nI m8)), some (.int (w &&& (inm ^^^ (-1 : Int32)))), some (.int (nI i)), some (.int (inm))], [.int (bcI inm), .int (nI i), .ref 51], σ2)
      refine ev_callV M_X4_write [.int (nI i), .int (bcI inm)] [] 51 rfl rfl ln_X5_248 k_X4_write rfl rfl rfl rfl rfl rfl (c_shWrite1 σ2 m8 h1 (by omega) _ _) ?_
      rintro r σ3 ⟨rfl, hq⟩
      rw [h0, hbc, sbv, if_pos rfl, sb_small _ (by omega), ← hct] at hq
      have hq2 : σ3 = x_up σ2 52 (upd (σ2 52) i (nI (s_ct (atC σ) (tkC σ) (laneL n (σ 1 1) (σ 7) 0) (laneL n (σ 1 1) (σ 7) 1) i))) := by
        rcases hq with ⟨j, hj, ej, rfl⟩ | ⟨hno, _⟩
        · rw [show j = i from ((nI_eq (by omega) (by omega)).mp ej).symm]
        · exact absurd rfl (hno i (by omega))
      show xEv _ _ _ 84 ([some (.ref 0), some (.int ((1 : Int32))), some (.int (nI m8)), some (.int (w &&& (inm ^^^ (-1 : Int32)))), some (.int (nI i)), some (.int (inm))], [], σ3)
      refine ev_blk 2 [] 42 ([some (.ref 0), some (.int ((1 : Int32))), some (.int (nI m8)), some (.int (w &&& (inm ^^^ (-1 : Int32)))), some (.int ((nI i) + (1 : Int32))), some (.int (inm))], [], σ3) rfl ?_ ?_
      · trivial
      rw [nI_1]
      refine ev_drop 5 ?_
      refine ih (i + 1) _ σ3 (by omega) (fun c hc => ?_) (fun i2 hi2 => ?_) ?_ ?_
      · rw [hq2, x_up_ne (fun q => hc (by rw [q]; decide)), scC_f hf2 c (fun q => hc (List.mem_append_left _ q))]; exact hfr c hc
      · obtain ⟨a1, a2, a3, a4⟩ := hS i2 hi2
        have hs2 : ∀ c, 49 ≤ c → σ2 c = σ1 c := fun c h => hf2 c (by simp; omega)
        by_cases e : i2 = 1
        · subst e
          refine ⟨a1, ?_, ?_, fun j hj => ?_⟩
          · rw [hq2, x_up_ne (by decide), hs2 _ (by decide)]; exact a2
          · rw [hq2, x_up_ne (by decide), hs2 _ (by decide)]; exact a3
          · have a5 := a4 j hj
            simp only [updD, if_true] at a5 ⊢
            rw [hq2, show 50 + 2 * 1 = 52 from rfl, x_up_eq, hs2 _ (by decide)]
            by_cases hji : j = i
            · subst hji; rw [upd_eq, if_pos (by omega)]
            · rw [upd_ne hji, show (if j < i + 1 then nI (s_ct (atC σ) (tkC σ) (laneL n (σ 1 1) (σ 7) 0) (laneL n (σ 1 1) (σ 7) 1) j) else 0) = if j < i then nI (s_ct (atC σ) (tkC σ) (laneL n (σ 1 1) (σ 7) 0) (laneL n (σ 1 1) (σ 7) 1) j) else 0 by congr 1; exact propext ⟨fun z => by omega, fun z => by omega⟩]; exact a5
        · rw [hq2, x_up_ne (by omega), x_up_ne (by omega), hs2 _ (by omega), hs2 _ (by omega)]
          simp only [updD, if_neg e] at a1 a2 a3 a4 ⊢
          exact ⟨a1, a2, a3, a4⟩
      · rw [show laneL n (w &&& (inm ^^^ (-1 : Int32))) (σ 7) 0 = _ from e0]; show _ = (s_fill _ _ (s_it (atC σ) (tkC σ) (laneL n (σ 1 1) (σ 7) 0) (laneL n (σ 1 1) (σ 7) 1) i).1 (s_it (atC σ) (tkC σ) (laneL n (σ 1 1) (σ 7) 0) (laneL n (σ 1 1) (σ 7) 1) i).2).1; rw [← hl0, ← hl1]; rfl
      · rw [show laneL n (w &&& (inm ^^^ (-1 : Int32))) (σ 7) 1 = _ from e1]; show _ = (s_fill _ _ (s_it (atC σ) (tkC σ) (laneL n (σ 1 1) (σ 7) 0) (laneL n (σ 1 1) (σ 7) 1) i).1 (s_it (atC σ) (tkC σ) (laneL n (σ 1 1) (σ 7) 0) (laneL n (σ 1 1) (σ 7) 1) i).2).2.1; rw [← hl0, ← hl1]; rfl
set_option maxRecDepth 100000 in
theorem c_film2_lp (σ : xSg) (n : Nat) (hok : aOk (atC σ) n) (hn : σ 1 0 = nI n) (D : Nat → shD) (m8 : Nat) (hm8 : m8 ≤ 8) : ∀ (m i : Nat) (w : Int32) (σ1 : xSg), i + m = m8 → xFr (scC ++ scS) σ σ1 → shC σ1 (updD D 2 (0, m8, fun j => if j < i then nI (s_ct (atC σ) (tkC σ) (laneL n (σ 1 1) (σ 7) 0) (laneL n (σ 1 1) (σ 7) 1) j) else 0)) → laneL n w (σ 7) 0 = (s_it (atC σ) (tkC σ) (laneL n (σ 1 1) (σ 7) 0) (laneL n (σ 1 1) (σ 7) 1) i).1 → laneL n w (σ 7) 1 = (s_it (atC σ) (tkC σ) (laneL n (σ 1 1) (σ 7) 0) (laneL n (σ 1 1) (σ 7) 1) i).2 → xEv (.inl 5) M_X5_film (fun r σ2 => r = some (.int (nI m8)) ∧ shC σ2 (updD D 2 (0, m8, fun j => if j < m8 then nI (s_ct (atC σ) (tkC σ) (laneL n (σ 1 1) (σ 7) 0) (laneL n (σ 1 1) (σ 7) 1) j) else 0)) ∧ xFr (scC ++ scS) σ σ2) 42 ([some (.ref 0), some (.int ((2 : Int32))), some (.int (nI m8)), some (.int (w)), some (.int (nI i)), none], [], σ1) := by
  intro m
  induction m with
  | zero =>
    intro i w σ1 hi hfr hS hl0 hl1
    refine ev_br 2 [] ((nI m8) ≤ (nI i)) 90 48 ([some (.ref 0), some (.int ((2 : Int32))), some (.int (nI m8)), some (.int (w)), some (.int (nI i)), none], [], σ1) rfl ?_ (fun c45 => ?_) (fun c45 => ?_)
    · trivial
    · refine ev_blk 1 [] 91 ([some (.ref 0), some (.int ((2 : Int32))), some (.int (nI m8)), some (.int (w)), some (.int (nI i)), none], [.int (nI m8)], σ1) rfl ?_ ?_
      · trivial
      have e : i = m8 := by omega
      subst e
      exact ev_iret rfl rfl rfl ⟨rfl, hS, hfr⟩
    · exact absurd (show nI m8 ≤ nI i from nI_le (by omega) (by omega)) c45
  | succ m ih =>
    intro i w σ1 hi hfr hS hl0 hl1
    have h2 := hfr 2 (by decide)
    have hat : atC σ1 = atC σ := by unfold atC; rw [hfr 2 (by decide), hfr 3 (by decide), hfr 4 (by decide), hfr 5 (by decide), hfr 6 (by decide), hfr 7 (by decide), hfr 9 (by decide)]
    have htk : tkC σ1 = tkC σ := by unfold tkC; rw [hfr 10 (by decide)]
    have hok1 : aOk (atC σ1) n := by rw [hat]; exact hok
    have hn1 : σ1 1 0 = nI n := (congrFun (hfr 1 (by decide)) 0).trans hn
    have h7 : σ1 7 = σ 7 := hfr 7 (by decide)
    refine ev_br 2 [] ((nI m8) ≤ (nI i)) 90 48 ([some (.ref 0), some (.int ((2 : Int32))), some (.int (nI m8)), some (.int (w)), some (.int (nI i)), none], [], σ1) rfl ?_ (fun c45 => ?_) (fun c45 => ?_)
    · trivial
    · exact absurd c45 (nI_ge (by omega) (by omega))
    · refine ev_blk 4 [] 56 ([some (.ref 0), some (.int ((2 : Int32))), some (.int (nI m8)), some (.int (w)), some (.int (nI i)), none], [.ref 104, .int (w), .ref 26], σ1) rfl ?_ ?_
      · trivial
      refine ev_callV M_X2_byRule [.int (w), .ref 104] [] 26 rfl rfl ln_X5_157 k_X2_byRule rfl rfl rfl rfl rfl rfl (c_byRule104 σ1 n (List.range 10) _ hok1 hn1 ord_by) ?_
      rintro r σ2 ⟨inm, rfl, hb, hF, hf2⟩
      have hT : s_fill (atC σ1) (tkC σ1) ((List.range 10).filter (s_lnp n w (σ1 7) 0)) ((List.range 10).filter (s_lnp n w (σ1 7) 1)) = s_flw (atC σ) (tkC σ) n w := by rw [hat, htk, h7]; rfl
      rw [hT] at hb hF
      have hbc := bc_flw hok.1 hb
      have hwl := flw_len (a := atC σ) (tk := tkC σ) (n := n) (w := w) hok.1
      obtain ⟨e0, e1⟩ := s_flw_nx (a := atC σ) (tk := tkC σ) hok.1 hb
      have hct : s_ct (atC σ) (tkC σ) (laneL n (σ 1 1) (σ 7) 0) (laneL n (σ 1 1) (σ 7) 1) i = (s_went (s_flw (atC σ) (tkC σ) n w)).length := by unfold s_ct; rw [← hl0, ← hl1]; rfl
      have hS2 := hS 2 (by decide)
      have h0 : σ2 53 0 = 0 := (congrFun (hf2 53 (by decide)) 0).trans (hS2.2.1.trans (by simp [updD]))
      have h1 : σ2 53 1 = nI m8 := (congrFun (hf2 53 (by decide)) 1).trans (hS2.2.2.1.trans (by simp [updD]))
      show xEv _ _ _ 59 ([some (.ref 0), some (.int ((2 : Int32))), some (.int (nI m8)), some (.int (w)), some (.int (nI i)), none], [.int (inm)], σ2)
      refine ev_blk 13 [vp_in ((2 : Int32)) 4] 78 ([some (.ref 0), some (.int ((2 : Int32))), some (.int (nI m8)), some (.int (w &&& (inm ^^^ (-1 : Int32)))), some (.int (nI i)), some (.int (inm))], [.int (inm), .int (nI i), .ref 53], σ2) rfl ?_ ?_
      · exact (vp_in_nI (n := 2) (by decide) (by decide))
      refine ev_callS M_J6_bitCount_0f7a4 [.int (inm)] [.int (nI i), .ref 53] rfl rfl ln_X5_138 k_J6_bitCount_0f7a4 rfl rfl rfl (c_bitCount _ _) ?_
      refine pu_k ?_
      show xEv _ _ _ 81 ([some (.ref 0), some (.int ((2 : Int32))), some (.int (nI m8)), some (.int (w &&& (inm ^^^ (-1 : Int32)))), some (.int (nI i)), some (.int (inm))], [.int (bcI inm), .int (nI i), .ref 53], σ2)
      refine ev_callV M_X4_write [.int (nI i), .int (bcI inm)] [] 53 rfl rfl ln_X5_248 k_X4_write rfl rfl rfl rfl rfl rfl (c_shWrite2 σ2 m8 h1 (by omega) _ _) ?_
      rintro r σ3 ⟨rfl, hq⟩
      rw [h0, hbc, sbv, if_pos rfl, sb_small _ (by omega), ← hct] at hq
      have hq2 : σ3 = x_up σ2 54 (upd (σ2 54) i (nI (s_ct (atC σ) (tkC σ) (laneL n (σ 1 1) (σ 7) 0) (laneL n (σ 1 1) (σ 7) 1) i))) := by
        rcases hq with ⟨j, hj, ej, rfl⟩ | ⟨hno, _⟩
        · rw [show j = i from ((nI_eq (by omega) (by omega)).mp ej).symm]
        · exact absurd rfl (hno i (by omega))
      show xEv _ _ _ 84 ([some (.ref 0), some (.int ((2 : Int32))), some (.int (nI m8)), some (.int (w &&& (inm ^^^ (-1 : Int32)))), some (.int (nI i)), some (.int (inm))], [], σ3)
      refine ev_blk 2 [] 42 ([some (.ref 0), some (.int ((2 : Int32))), some (.int (nI m8)), some (.int (w &&& (inm ^^^ (-1 : Int32)))), some (.int ((nI i) + (1 : Int32))), some (.int (inm))], [], σ3) rfl ?_ ?_
      · trivial
      rw [nI_1]
      refine ev_drop 5 ?_
      refine ih (i + 1) _ σ3 (by omega) (fun c hc => ?_) (fun i2 hi2 => ?_) ?_ ?_
      · rw [hq2, x_up_ne (fun q => hc (by rw [q]; decide)), scC_f hf2 c (fun q => hc (List.mem_append_left _ q))]; exact hfr c hc
      · obtain ⟨a1, a2, a3, a4⟩ := hS i2 hi2
        have hs2 : ∀ c, 49 ≤ c → σ2 c = σ1 c := fun c h => hf2 c (by simp; omega)
        by_cases e : i2 = 2
        · subst e
          refine ⟨a1, ?_, ?_, fun j hj => ?_⟩
          · rw [hq2, x_up_ne (by decide), hs2 _ (by decide)]; exact a2
          · rw [hq2, x_up_ne (by decide), hs2 _ (by decide)]; exact a3
          · have a5 := a4 j hj
            simp only [updD, if_true] at a5 ⊢
            rw [hq2, show 50 + 2 * 2 = 54 from rfl, x_up_eq, hs2 _ (by decide)]
            by_cases hji : j = i
            · subst hji; rw [upd_eq, if_pos (by omega)]
            · rw [upd_ne hji, show (if j < i + 1 then nI (s_ct (atC σ) (tkC σ) (laneL n (σ 1 1) (σ 7) 0) (laneL n (σ 1 1) (σ 7) 1) j) else 0) = if j < i then nI (s_ct (atC σ) (tkC σ) (laneL n (σ 1 1) (σ 7) 0) (laneL n (σ 1 1) (σ 7) 1) j) else 0 by congr 1; exact propext ⟨fun z => by omega, fun z => by omega⟩]; exact a5
        · rw [hq2, x_up_ne (by omega), x_up_ne (by omega), hs2 _ (by omega), hs2 _ (by omega)]
          simp only [updD, if_neg e] at a1 a2 a3 a4 ⊢
          exact ⟨a1, a2, a3, a4⟩
      · rw [show laneL n (w &&& (inm ^^^ (-1 : Int32))) (σ 7) 0 = _ from e0]; show _ = (s_fill _ _ (s_it (atC σ) (tkC σ) (laneL n (σ 1 1) (σ 7) 0) (laneL n (σ 1 1) (σ 7) 1) i).1 (s_it (atC σ) (tkC σ) (laneL n (σ 1 1) (σ 7) 0) (laneL n (σ 1 1) (σ 7) 1) i).2).1; rw [← hl0, ← hl1]; rfl
      · rw [show laneL n (w &&& (inm ^^^ (-1 : Int32))) (σ 7) 1 = _ from e1]; show _ = (s_fill _ _ (s_it (atC σ) (tkC σ) (laneL n (σ 1 1) (σ 7) 0) (laneL n (σ 1 1) (σ 7) 1) i).1 (s_it (atC σ) (tkC σ) (laneL n (σ 1 1) (σ 7) 0) (laneL n (σ 1 1) (σ 7) 1) i).2).2.1; rw [← hl0, ← hl1]; rfl
set_option maxRecDepth 100000 in
theorem c_film3_lp (σ : xSg) (n : Nat) (hok : aOk (atC σ) n) (hn : σ 1 0 = nI n) (D : Nat → shD) (m8 : Nat) (hm8 : m8 ≤ 8) : ∀ (m i : Nat) (w : Int32) (σ1 : xSg), i + m = m8 → xFr (scC ++ scS) σ σ1 → shC σ1 (updD D 3 (0, m8, fun j => if j < i then nI (s_ct (atC σ) (tkC σ) (laneL n (σ 1 1) (σ 7) 0) (laneL n (σ 1 1) (σ 7) 1) j) else 0)) → laneL n w (σ 7) 0 = (s_it (atC σ) (tkC σ) (laneL n (σ 1 1) (σ 7) 0) (laneL n (σ 1 1) (σ 7) 1) i).1 → laneL n w (σ 7) 1 = (s_it (atC σ) (tkC σ) (laneL n (σ 1 1) (σ 7) 0) (laneL n (σ 1 1) (σ 7) 1) i).2 → xEv (.inl 5) M_X5_film (fun r σ2 => r = some (.int (nI m8)) ∧ shC σ2 (updD D 3 (0, m8, fun j => if j < m8 then nI (s_ct (atC σ) (tkC σ) (laneL n (σ 1 1) (σ 7) 0) (laneL n (σ 1 1) (σ 7) 1) j) else 0)) ∧ xFr (scC ++ scS) σ σ2) 42 ([some (.ref 0), some (.int ((3 : Int32))), some (.int (nI m8)), some (.int (w)), some (.int (nI i)), none], [], σ1) := by
  intro m
  induction m with
  | zero =>
    intro i w σ1 hi hfr hS hl0 hl1
    refine ev_br 2 [] ((nI m8) ≤ (nI i)) 90 48 ([some (.ref 0), some (.int ((3 : Int32))), some (.int (nI m8)), some (.int (w)), some (.int (nI i)), none], [], σ1) rfl ?_ (fun c45 => ?_) (fun c45 => ?_)
    · trivial
    · refine ev_blk 1 [] 91 ([some (.ref 0), some (.int ((3 : Int32))), some (.int (nI m8)), some (.int (w)), some (.int (nI i)), none], [.int (nI m8)], σ1) rfl ?_ ?_
      · trivial
      have e : i = m8 := by omega
      subst e
      exact ev_iret rfl rfl rfl ⟨rfl, hS, hfr⟩
    · exact absurd (show nI m8 ≤ nI i from nI_le (by omega) (by omega)) c45
  | succ m ih =>
    intro i w σ1 hi hfr hS hl0 hl1
    have h2 := hfr 2 (by decide)
    have hat : atC σ1 = atC σ := by unfold atC; rw [hfr 2 (by decide), hfr 3 (by decide), hfr 4 (by decide), hfr 5 (by decide), hfr 6 (by decide), hfr 7 (by decide), hfr 9 (by decide)]
    have htk : tkC σ1 = tkC σ := by unfold tkC; rw [hfr 10 (by decide)]
    have hok1 : aOk (atC σ1) n := by rw [hat]; exact hok
    have hn1 : σ1 1 0 = nI n := (congrFun (hfr 1 (by decide)) 0).trans hn
    have h7 : σ1 7 = σ 7 := hfr 7 (by decide)
    refine ev_br 2 [] ((nI m8) ≤ (nI i)) 90 48 ([some (.ref 0), some (.int ((3 : Int32))), some (.int (nI m8)), some (.int (w)), some (.int (nI i)), none], [], σ1) rfl ?_ (fun c45 => ?_) (fun c45 => ?_)
    · trivial
    · exact absurd c45 (nI_ge (by omega) (by omega))
    · refine ev_blk 4 [] 56 ([some (.ref 0), some (.int ((3 : Int32))), some (.int (nI m8)), some (.int (w)), some (.int (nI i)), none], [.ref 104, .int (w), .ref 26], σ1) rfl ?_ ?_
      · trivial
      refine ev_callV M_X2_byRule [.int (w), .ref 104] [] 26 rfl rfl ln_X5_157 k_X2_byRule rfl rfl rfl rfl rfl rfl (c_byRule104 σ1 n (List.range 10) _ hok1 hn1 ord_by) ?_
      rintro r σ2 ⟨inm, rfl, hb, hF, hf2⟩
      have hT : s_fill (atC σ1) (tkC σ1) ((List.range 10).filter (s_lnp n w (σ1 7) 0)) ((List.range 10).filter (s_lnp n w (σ1 7) 1)) = s_flw (atC σ) (tkC σ) n w := by rw [hat, htk, h7]; rfl
      rw [hT] at hb hF
      have hbc := bc_flw hok.1 hb
      have hwl := flw_len (a := atC σ) (tk := tkC σ) (n := n) (w := w) hok.1
      obtain ⟨e0, e1⟩ := s_flw_nx (a := atC σ) (tk := tkC σ) hok.1 hb
      have hct : s_ct (atC σ) (tkC σ) (laneL n (σ 1 1) (σ 7) 0) (laneL n (σ 1 1) (σ 7) 1) i = (s_went (s_flw (atC σ) (tkC σ) n w)).length := by unfold s_ct; rw [← hl0, ← hl1]; rfl
      have hS2 := hS 3 (by decide)
      have h0 : σ2 55 0 = 0 := (congrFun (hf2 55 (by decide)) 0).trans (hS2.2.1.trans (by simp [updD]))
      have h1 : σ2 55 1 = nI m8 := (congrFun (hf2 55 (by decide)) 1).trans (hS2.2.2.1.trans (by simp [updD]))
      show xEv _ _ _ 59 ([some (.ref 0), some (.int ((3 : Int32))), some (.int (nI m8)), some (.int (w)), some (.int (nI i)), none], [.int (inm)], σ2)
      refine ev_blk 13 [vp_in ((3 : Int32)) 4] 78 ([some (.ref 0), some (.int ((3 : Int32))), some (.int (nI m8)), some (.int (w &&& (inm ^^^ (-1 : Int32)))), some (.int (nI i)), some (.int (inm))], [.int (inm), .int (nI i), .ref 55], σ2) rfl ?_ ?_
      · exact (vp_in_nI (n := 3) (by decide) (by decide))
      refine ev_callS M_J6_bitCount_0f7a4 [.int (inm)] [.int (nI i), .ref 55] rfl rfl ln_X5_138 k_J6_bitCount_0f7a4 rfl rfl rfl (c_bitCount _ _) ?_
      refine pu_k ?_
      show xEv _ _ _ 81 ([some (.ref 0), some (.int ((3 : Int32))), some (.int (nI m8)), some (.int (w &&& (inm ^^^ (-1 : Int32)))), some (.int (nI i)), some (.int (inm))], [.int (bcI inm), .int (nI i), .ref 55], σ2)
      refine ev_callV M_X4_write [.int (nI i), .int (bcI inm)] [] 55 rfl rfl ln_X5_248 k_X4_write rfl rfl rfl rfl rfl rfl (c_shWrite3 σ2 m8 h1 (by omega) _ _) ?_
      rintro r σ3 ⟨rfl, hq⟩
      rw [h0, hbc, sbv, if_pos rfl, sb_small _ (by omega), ← hct] at hq
      have hq2 : σ3 = x_up σ2 56 (upd (σ2 56) i (nI (s_ct (atC σ) (tkC σ) (laneL n (σ 1 1) (σ 7) 0) (laneL n (σ 1 1) (σ 7) 1) i))) := by
        rcases hq with ⟨j, hj, ej, rfl⟩ | ⟨hno, _⟩
        · rw [show j = i from ((nI_eq (by omega) (by omega)).mp ej).symm]
        · exact absurd rfl (hno i (by omega))
      show xEv _ _ _ 84 ([some (.ref 0), some (.int ((3 : Int32))), some (.int (nI m8)), some (.int (w &&& (inm ^^^ (-1 : Int32)))), some (.int (nI i)), some (.int (inm))], [], σ3)
      refine ev_blk 2 [] 42 ([some (.ref 0), some (.int ((3 : Int32))), some (.int (nI m8)), some (.int (w &&& (inm ^^^ (-1 : Int32)))), some (.int ((nI i) + (1 : Int32))), some (.int (inm))], [], σ3) rfl ?_ ?_
      · trivial
      rw [nI_1]
      refine ev_drop 5 ?_
      refine ih (i + 1) _ σ3 (by omega) (fun c hc => ?_) (fun i2 hi2 => ?_) ?_ ?_
      · rw [hq2, x_up_ne (fun q => hc (by rw [q]; decide)), scC_f hf2 c (fun q => hc (List.mem_append_left _ q))]; exact hfr c hc
      · obtain ⟨a1, a2, a3, a4⟩ := hS i2 hi2
        have hs2 : ∀ c, 49 ≤ c → σ2 c = σ1 c := fun c h => hf2 c (by simp; omega)
        by_cases e : i2 = 3
        · subst e
          refine ⟨a1, ?_, ?_, fun j hj => ?_⟩
          · rw [hq2, x_up_ne (by decide), hs2 _ (by decide)]; exact a2
          · rw [hq2, x_up_ne (by decide), hs2 _ (by decide)]; exact a3
          · have a5 := a4 j hj
            simp only [updD, if_true] at a5 ⊢
            rw [hq2, show 50 + 2 * 3 = 56 from rfl, x_up_eq, hs2 _ (by decide)]
            by_cases hji : j = i
            · subst hji; rw [upd_eq, if_pos (by omega)]
            · rw [upd_ne hji, show (if j < i + 1 then nI (s_ct (atC σ) (tkC σ) (laneL n (σ 1 1) (σ 7) 0) (laneL n (σ 1 1) (σ 7) 1) j) else 0) = if j < i then nI (s_ct (atC σ) (tkC σ) (laneL n (σ 1 1) (σ 7) 0) (laneL n (σ 1 1) (σ 7) 1) j) else 0 by congr 1; exact propext ⟨fun z => by omega, fun z => by omega⟩]; exact a5
        · rw [hq2, x_up_ne (by omega), x_up_ne (by omega), hs2 _ (by omega), hs2 _ (by omega)]
          simp only [updD, if_neg e] at a1 a2 a3 a4 ⊢
          exact ⟨a1, a2, a3, a4⟩
      · rw [show laneL n (w &&& (inm ^^^ (-1 : Int32))) (σ 7) 0 = _ from e0]; show _ = (s_fill _ _ (s_it (atC σ) (tkC σ) (laneL n (σ 1 1) (σ 7) 0) (laneL n (σ 1 1) (σ 7) 1) i).1 (s_it (atC σ) (tkC σ) (laneL n (σ 1 1) (σ 7) 0) (laneL n (σ 1 1) (σ 7) 1) i).2).1; rw [← hl0, ← hl1]; rfl
      · rw [show laneL n (w &&& (inm ^^^ (-1 : Int32))) (σ 7) 1 = _ from e1]; show _ = (s_fill _ _ (s_it (atC σ) (tkC σ) (laneL n (σ 1 1) (σ 7) 0) (laneL n (σ 1 1) (σ 7) 1) i).1 (s_it (atC σ) (tkC σ) (laneL n (σ 1 1) (σ 7) 0) (laneL n (σ 1 1) (σ 7) 1) i).2).2.1; rw [← hl0, ← hl1]; rfl
set_option maxRecDepth 100000 in
theorem c_film (σ : xSg) (n : Nat) (hok : aOk (atC σ) n) (hn : σ 1 0 = nI n) (D : Nat → shD) (hD : shC σ D) (s n8 : Int32) : xCtr M_X5_film [.ref 0, .int (s), .int (n8)] σ (shPQ (scC ++ scS) σ (s_flm (atC σ) (tkC σ) (laneL n (σ 1 1) (σ 7) 0) (laneL n (σ 1 1) (σ 7) 1) D s n8)) := by
  refine ctr_ev ok_X5_film (by decide +kernel) rfl rfl rfl ?_
  show xEv (.inl 5) M_X5_film _ 0 ([some (.ref 0), some (.int (s)), some (.int (n8)), none, none, none], [], σ)
  rcases pk_ix s (n := 4) (by decide) with hb | hb | ⟨W, hW, rfl⟩
  · have hbad : ¬ iN 4 s := fun q => q.1 hb
    refine ev_blk 1 [] 1 ([some (.ref 0), some (.int (s)), some (.int (n8)), none, none, none], [.int (s)], σ) rfl ?_ ?_
    · trivial
    refine ev_callS M_X5_isSheet [.int (s)] [] rfl rfl ln_X5_229 k_X5_isSheet rfl rfl rfl (c_isSheet _ _) ?_
    refine pu_k ?_
    show xEv _ _ _ 4 ([some (.ref 0), some (.int (s)), some (.int (n8)), none, none, none], [.int (zi (¬ s < 0 ∧ ¬ (4 : Int32) ≤ (s)))], σ)
    refine ev_br 0 [] ((zi (¬ s < 0 ∧ ¬ (4 : Int32) ≤ (s))) = 0) 17 7 ([some (.ref 0), some (.int (s)), some (.int (n8)), none, none, none], [], σ) rfl ?_ (fun c4 => ?_) (fun c4 => ?_)
    · trivial
    · replace c4 := zi_0.mp c4
      refine ev_blk 1 [] 19 ([some (.ref 0), some (.int (s)), some (.int (n8)), none, none, none], [.int ((-2 : Int32))], σ) rfl ?_ ?_
      · trivial
      have e : s_flm (atC σ) (tkC σ) (laneL n (σ 1 1) (σ 7) 0) (laneL n (σ 1 1) (σ 7) 1) D s n8 = (-2, D) := by rw [s_flm, if_pos hbad]
      rw [e]
      exact ev_iret rfl rfl rfl ⟨rfl, hD, xFr.rf⟩
    · exact absurd (zi_1.mp c4) hbad
  · have hbad : ¬ iN 4 s := fun q => q.2 hb
    refine ev_blk 1 [] 1 ([some (.ref 0), some (.int (s)), some (.int (n8)), none, none, none], [.int (s)], σ) rfl ?_ ?_
    · trivial
    refine ev_callS M_X5_isSheet [.int (s)] [] rfl rfl ln_X5_229 k_X5_isSheet rfl rfl rfl (c_isSheet _ _) ?_
    refine pu_k ?_
    show xEv _ _ _ 4 ([some (.ref 0), some (.int (s)), some (.int (n8)), none, none, none], [.int (zi (¬ s < 0 ∧ ¬ (4 : Int32) ≤ (s)))], σ)
    refine ev_br 0 [] ((zi (¬ s < 0 ∧ ¬ (4 : Int32) ≤ (s))) = 0) 17 7 ([some (.ref 0), some (.int (s)), some (.int (n8)), none, none, none], [], σ) rfl ?_ (fun c4 => ?_) (fun c4 => ?_)
    · trivial
    · replace c4 := zi_0.mp c4
      refine ev_blk 1 [] 19 ([some (.ref 0), some (.int (s)), some (.int (n8)), none, none, none], [.int ((-2 : Int32))], σ) rfl ?_ ?_
      · trivial
      have e : s_flm (atC σ) (tkC σ) (laneL n (σ 1 1) (σ 7) 0) (laneL n (σ 1 1) (σ 7) 1) D s n8 = (-2, D) := by rw [s_flm, if_pos hbad]
      rw [e]
      exact ev_iret rfl rfl rfl ⟨rfl, hD, xFr.rf⟩
    · exact absurd (zi_1.mp c4) hbad
  · rcases (show W = 0 ∨ W = 1 ∨ W = 2 ∨ W = 3 by omega) with rfl | rfl | rfl | rfl
    · have hg : iN 4 (nI 0) := iN_nI (by decide) (by decide)
      have hc : (nI 0).toNatClampNeg = 0 := rfl
      show xEv _ _ _ 0 ([some (.ref 0), some (.int ((0 : Int32))), some (.int (n8)), none, none, none], [], σ)
      refine ev_blk 1 [] 1 ([some (.ref 0), some (.int ((0 : Int32))), some (.int (n8)), none, none, none], [.int ((0 : Int32))], σ) rfl ?_ ?_
      · trivial
      refine ev_callS M_X5_isSheet [.int ((0 : Int32))] [] rfl rfl ln_X5_229 k_X5_isSheet rfl rfl rfl (c_isSheet _ _) ?_
      refine pu_k ?_
      rw [zi_t (show ¬ ((0 : Int32)) < 0 ∧ ¬ (4 : Int32) ≤ ((0 : Int32)) by decide)]
      show xEv _ _ _ 4 ([some (.ref 0), some (.int ((0 : Int32))), some (.int (n8)), none, none, none], [.int ((1 : Int32))], σ)
      refine ev_br 0 [] ((1 : Int32) = 0) 17 7 ([some (.ref 0), some (.int ((0 : Int32))), some (.int (n8)), none, none, none], [], σ) rfl ?_ (fun c4 => ?_) (fun c4 => ?_)
      · trivial
      · exact absurd c4 (by decide)
      · refine ev_br 1 [] (n8 < 0) 17 11 ([some (.ref 0), some (.int ((0 : Int32))), some (.int (n8)), none, none, none], [], σ) rfl ?_ (fun c8 => ?_) (fun c8 => ?_)
        · trivial
        · refine ev_blk 1 [] 19 ([some (.ref 0), some (.int ((0 : Int32))), some (.int (n8)), none, none, none], [.int ((-2 : Int32))], σ) rfl ?_ ?_
          · trivial
          have e : s_flm (atC σ) (tkC σ) (laneL n (σ 1 1) (σ 7) 0) (laneL n (σ 1 1) (σ 7) 1) D (nI 0) n8 = (-2, D) := by rw [s_flm, if_neg (fun q => q hg), if_pos (Or.inl c8)]
          rw [e]
          exact ev_iret rfl rfl rfl ⟨rfl, hD, xFr.rf⟩
        · refine ev_br 2 [] (n8 ≤ (8 : Int32)) 20 17 ([some (.ref 0), some (.int ((0 : Int32))), some (.int (n8)), none, none, none], [], σ) rfl ?_ (fun c14 => ?_) (fun c14 => ?_)
          · trivial
          · refine ev_blk 6 [vp_in ((0 : Int32)) 4] 28 ([some (.ref 0), some (.int ((0 : Int32))), some (.int (n8)), none, none, none], [.int (n8), .int ((0 : Int32)), .ref 49], σ) rfl ?_ ?_
            · exact (vp_in_nI (n := 0) (by decide) (by decide))
            refine ev_callV M_X4_become [.int ((0 : Int32)), .int (n8)] [] 49 rfl rfl ln_X5_245 k_X4_become rfl rfl rfl rfl rfl rfl (c_shBecome0 _ _ _) ?_
            rintro r σ' ⟨rfl, hq1, hq2, hq3⟩
            show xEv _ _ _ 31 ([some (.ref 0), some (.int ((0 : Int32))), some (.int (n8)), none, none, none], [], σ')
            refine ev_blk 6 [] 42 ([some (.ref 0), some (.int ((0 : Int32))), some (.int (n8)), some (.int ((σ' 1 1))), some (.int ((0 : Int32))), none], [], σ') rfl ?_ ?_
            · trivial
            have h8 : ¬ 8 < n8 := Int32.not_lt.mpr c14
            obtain ⟨m8, hm, rfl⟩ := nI_of c8
            have hm8 : m8 ≤ 8 := by have := mt (fun z => nI_lt (a := 8) (b := m8) z (by omega)) h8; omega
            have hmc : (nI m8).toNatClampNeg = m8 := nI_clamp hm
            have e : s_flm (atC σ) (tkC σ) (laneL n (σ 1 1) (σ 7) 0) (laneL n (σ 1 1) (σ 7) 1) D (nI 0) (nI m8) = (nI m8, updD D 0 (0, m8, fun j => if j < m8 then nI (s_ct (atC σ) (tkC σ) (laneL n (σ 1 1) (σ 7) 0) (laneL n (σ 1 1) (σ 7) 1) j) else 0)) := by rw [s_flm, if_neg (fun q => q hg), if_neg (by rintro (q | q); exact c8 q; exact h8 q), hc, hmc]
            rw [e]
            have hbz : σ' 1 1 = σ 1 1 := congrFun (hq1 1 (by decide) (by decide)) 1
            rw [hbz]
            refine c_film0_lp σ n hok hn D m8 hm8 m8 0 (σ 1 1) σ' (by omega) (fun c hc => hq1 c (fun z => hc (by rw [z]; decide)) (fun z => hc (by rw [z]; decide))) ?_ rfl rfl
            refine shC_put (W := 0) hD ⟨Or.inr (Or.inl rfl), by show m8 ≤ 40; omega⟩ (fun c _ _ a b => hq1 c a b) (by rw [hq2]; rfl) (by rw [hq2]; show x_mx 0 (x_mn (nI m8) 40) = _; exact x_mxn (by omega)) (fun j hj => by dsimp only; rw [if_neg (Nat.not_lt_zero j)]; exact hq3 j hj)
          · refine ev_blk 1 [] 19 ([some (.ref 0), some (.int ((0 : Int32))), some (.int (n8)), none, none, none], [.int ((-2 : Int32))], σ) rfl ?_ ?_
            · trivial
            have e : s_flm (atC σ) (tkC σ) (laneL n (σ 1 1) (σ 7) 0) (laneL n (σ 1 1) (σ 7) 1) D (nI 0) n8 = (-2, D) := by rw [s_flm, if_neg (fun q => q hg), if_pos (Or.inr (Int32.not_le.mp c14))]
            rw [e]
            exact ev_iret rfl rfl rfl ⟨rfl, hD, xFr.rf⟩
    · have hg : iN 4 (nI 1) := iN_nI (by decide) (by decide)
      have hc : (nI 1).toNatClampNeg = 1 := rfl
      show xEv _ _ _ 0 ([some (.ref 0), some (.int ((1 : Int32))), some (.int (n8)), none, none, none], [], σ)
      refine ev_blk 1 [] 1 ([some (.ref 0), some (.int ((1 : Int32))), some (.int (n8)), none, none, none], [.int ((1 : Int32))], σ) rfl ?_ ?_
      · trivial
      refine ev_callS M_X5_isSheet [.int ((1 : Int32))] [] rfl rfl ln_X5_229 k_X5_isSheet rfl rfl rfl (c_isSheet _ _) ?_
      refine pu_k ?_
      rw [zi_t (show ¬ ((1 : Int32)) < 0 ∧ ¬ (4 : Int32) ≤ ((1 : Int32)) by decide)]
      show xEv _ _ _ 4 ([some (.ref 0), some (.int ((1 : Int32))), some (.int (n8)), none, none, none], [.int ((1 : Int32))], σ)
      refine ev_br 0 [] ((1 : Int32) = 0) 17 7 ([some (.ref 0), some (.int ((1 : Int32))), some (.int (n8)), none, none, none], [], σ) rfl ?_ (fun c4 => ?_) (fun c4 => ?_)
      · trivial
      · exact absurd c4 (by decide)
      · refine ev_br 1 [] (n8 < 0) 17 11 ([some (.ref 0), some (.int ((1 : Int32))), some (.int (n8)), none, none, none], [], σ) rfl ?_ (fun c8 => ?_) (fun c8 => ?_)
        · trivial
        · refine ev_blk 1 [] 19 ([some (.ref 0), some (.int ((1 : Int32))), some (.int (n8)), none, none, none], [.int ((-2 : Int32))], σ) rfl ?_ ?_
          · trivial
          have e : s_flm (atC σ) (tkC σ) (laneL n (σ 1 1) (σ 7) 0) (laneL n (σ 1 1) (σ 7) 1) D (nI 1) n8 = (-2, D) := by rw [s_flm, if_neg (fun q => q hg), if_pos (Or.inl c8)]
          rw [e]
          exact ev_iret rfl rfl rfl ⟨rfl, hD, xFr.rf⟩
        · refine ev_br 2 [] (n8 ≤ (8 : Int32)) 20 17 ([some (.ref 0), some (.int ((1 : Int32))), some (.int (n8)), none, none, none], [], σ) rfl ?_ (fun c14 => ?_) (fun c14 => ?_)
          · trivial
          · refine ev_blk 6 [vp_in ((1 : Int32)) 4] 28 ([some (.ref 0), some (.int ((1 : Int32))), some (.int (n8)), none, none, none], [.int (n8), .int ((0 : Int32)), .ref 51], σ) rfl ?_ ?_
            · exact (vp_in_nI (n := 1) (by decide) (by decide))
            refine ev_callV M_X4_become [.int ((0 : Int32)), .int (n8)] [] 51 rfl rfl ln_X5_245 k_X4_become rfl rfl rfl rfl rfl rfl (c_shBecome1 _ _ _) ?_
            rintro r σ' ⟨rfl, hq1, hq2, hq3⟩
            show xEv _ _ _ 31 ([some (.ref 0), some (.int ((1 : Int32))), some (.int (n8)), none, none, none], [], σ')
            refine ev_blk 6 [] 42 ([some (.ref 0), some (.int ((1 : Int32))), some (.int (n8)), some (.int ((σ' 1 1))), some (.int ((0 : Int32))), none], [], σ') rfl ?_ ?_
            · trivial
            have h8 : ¬ 8 < n8 := Int32.not_lt.mpr c14
            obtain ⟨m8, hm, rfl⟩ := nI_of c8
            have hm8 : m8 ≤ 8 := by have := mt (fun z => nI_lt (a := 8) (b := m8) z (by omega)) h8; omega
            have hmc : (nI m8).toNatClampNeg = m8 := nI_clamp hm
            have e : s_flm (atC σ) (tkC σ) (laneL n (σ 1 1) (σ 7) 0) (laneL n (σ 1 1) (σ 7) 1) D (nI 1) (nI m8) = (nI m8, updD D 1 (0, m8, fun j => if j < m8 then nI (s_ct (atC σ) (tkC σ) (laneL n (σ 1 1) (σ 7) 0) (laneL n (σ 1 1) (σ 7) 1) j) else 0)) := by rw [s_flm, if_neg (fun q => q hg), if_neg (by rintro (q | q); exact c8 q; exact h8 q), hc, hmc]
            rw [e]
            have hbz : σ' 1 1 = σ 1 1 := congrFun (hq1 1 (by decide) (by decide)) 1
            rw [hbz]
            refine c_film1_lp σ n hok hn D m8 hm8 m8 0 (σ 1 1) σ' (by omega) (fun c hc => hq1 c (fun z => hc (by rw [z]; decide)) (fun z => hc (by rw [z]; decide))) ?_ rfl rfl
            refine shC_put (W := 1) hD ⟨Or.inr (Or.inl rfl), by show m8 ≤ 40; omega⟩ (fun c _ _ a b => hq1 c a b) (by rw [hq2]; rfl) (by rw [hq2]; show x_mx 0 (x_mn (nI m8) 40) = _; exact x_mxn (by omega)) (fun j hj => by dsimp only; rw [if_neg (Nat.not_lt_zero j)]; exact hq3 j hj)
          · refine ev_blk 1 [] 19 ([some (.ref 0), some (.int ((1 : Int32))), some (.int (n8)), none, none, none], [.int ((-2 : Int32))], σ) rfl ?_ ?_
            · trivial
            have e : s_flm (atC σ) (tkC σ) (laneL n (σ 1 1) (σ 7) 0) (laneL n (σ 1 1) (σ 7) 1) D (nI 1) n8 = (-2, D) := by rw [s_flm, if_neg (fun q => q hg), if_pos (Or.inr (Int32.not_le.mp c14))]
            rw [e]
            exact ev_iret rfl rfl rfl ⟨rfl, hD, xFr.rf⟩
    · have hg : iN 4 (nI 2) := iN_nI (by decide) (by decide)
      have hc : (nI 2).toNatClampNeg = 2 := rfl
      show xEv _ _ _ 0 ([some (.ref 0), some (.int ((2 : Int32))), some (.int (n8)), none, none, none], [], σ)
      refine ev_blk 1 [] 1 ([some (.ref 0), some (.int ((2 : Int32))), some (.int (n8)), none, none, none], [.int ((2 : Int32))], σ) rfl ?_ ?_
      · trivial
      refine ev_callS M_X5_isSheet [.int ((2 : Int32))] [] rfl rfl ln_X5_229 k_X5_isSheet rfl rfl rfl (c_isSheet _ _) ?_
      refine pu_k ?_
      rw [zi_t (show ¬ ((2 : Int32)) < 0 ∧ ¬ (4 : Int32) ≤ ((2 : Int32)) by decide)]
      show xEv _ _ _ 4 ([some (.ref 0), some (.int ((2 : Int32))), some (.int (n8)), none, none, none], [.int ((1 : Int32))], σ)
      refine ev_br 0 [] ((1 : Int32) = 0) 17 7 ([some (.ref 0), some (.int ((2 : Int32))), some (.int (n8)), none, none, none], [], σ) rfl ?_ (fun c4 => ?_) (fun c4 => ?_)
      · trivial
      · exact absurd c4 (by decide)
      · refine ev_br 1 [] (n8 < 0) 17 11 ([some (.ref 0), some (.int ((2 : Int32))), some (.int (n8)), none, none, none], [], σ) rfl ?_ (fun c8 => ?_) (fun c8 => ?_)
        · trivial
        · refine ev_blk 1 [] 19 ([some (.ref 0), some (.int ((2 : Int32))), some (.int (n8)), none, none, none], [.int ((-2 : Int32))], σ) rfl ?_ ?_
          · trivial
          have e : s_flm (atC σ) (tkC σ) (laneL n (σ 1 1) (σ 7) 0) (laneL n (σ 1 1) (σ 7) 1) D (nI 2) n8 = (-2, D) := by rw [s_flm, if_neg (fun q => q hg), if_pos (Or.inl c8)]
          rw [e]
          exact ev_iret rfl rfl rfl ⟨rfl, hD, xFr.rf⟩
        · refine ev_br 2 [] (n8 ≤ (8 : Int32)) 20 17 ([some (.ref 0), some (.int ((2 : Int32))), some (.int (n8)), none, none, none], [], σ) rfl ?_ (fun c14 => ?_) (fun c14 => ?_)
          · trivial
          · refine ev_blk 6 [vp_in ((2 : Int32)) 4] 28 ([some (.ref 0), some (.int ((2 : Int32))), some (.int (n8)), none, none, none], [.int (n8), .int ((0 : Int32)), .ref 53], σ) rfl ?_ ?_
            · exact (vp_in_nI (n := 2) (by decide) (by decide))
            refine ev_callV M_X4_become [.int ((0 : Int32)), .int (n8)] [] 53 rfl rfl ln_X5_245 k_X4_become rfl rfl rfl rfl rfl rfl (c_shBecome2 _ _ _) ?_
            rintro r σ' ⟨rfl, hq1, hq2, hq3⟩
            show xEv _ _ _ 31 ([some (.ref 0), some (.int ((2 : Int32))), some (.int (n8)), none, none, none], [], σ')
            refine ev_blk 6 [] 42 ([some (.ref 0), some (.int ((2 : Int32))), some (.int (n8)), some (.int ((σ' 1 1))), some (.int ((0 : Int32))), none], [], σ') rfl ?_ ?_
            · trivial
            have h8 : ¬ 8 < n8 := Int32.not_lt.mpr c14
            obtain ⟨m8, hm, rfl⟩ := nI_of c8
            have hm8 : m8 ≤ 8 := by have := mt (fun z => nI_lt (a := 8) (b := m8) z (by omega)) h8; omega
            have hmc : (nI m8).toNatClampNeg = m8 := nI_clamp hm
            have e : s_flm (atC σ) (tkC σ) (laneL n (σ 1 1) (σ 7) 0) (laneL n (σ 1 1) (σ 7) 1) D (nI 2) (nI m8) = (nI m8, updD D 2 (0, m8, fun j => if j < m8 then nI (s_ct (atC σ) (tkC σ) (laneL n (σ 1 1) (σ 7) 0) (laneL n (σ 1 1) (σ 7) 1) j) else 0)) := by rw [s_flm, if_neg (fun q => q hg), if_neg (by rintro (q | q); exact c8 q; exact h8 q), hc, hmc]
            rw [e]
            have hbz : σ' 1 1 = σ 1 1 := congrFun (hq1 1 (by decide) (by decide)) 1
            rw [hbz]
            refine c_film2_lp σ n hok hn D m8 hm8 m8 0 (σ 1 1) σ' (by omega) (fun c hc => hq1 c (fun z => hc (by rw [z]; decide)) (fun z => hc (by rw [z]; decide))) ?_ rfl rfl
            refine shC_put (W := 2) hD ⟨Or.inr (Or.inl rfl), by show m8 ≤ 40; omega⟩ (fun c _ _ a b => hq1 c a b) (by rw [hq2]; rfl) (by rw [hq2]; show x_mx 0 (x_mn (nI m8) 40) = _; exact x_mxn (by omega)) (fun j hj => by dsimp only; rw [if_neg (Nat.not_lt_zero j)]; exact hq3 j hj)
          · refine ev_blk 1 [] 19 ([some (.ref 0), some (.int ((2 : Int32))), some (.int (n8)), none, none, none], [.int ((-2 : Int32))], σ) rfl ?_ ?_
            · trivial
            have e : s_flm (atC σ) (tkC σ) (laneL n (σ 1 1) (σ 7) 0) (laneL n (σ 1 1) (σ 7) 1) D (nI 2) n8 = (-2, D) := by rw [s_flm, if_neg (fun q => q hg), if_pos (Or.inr (Int32.not_le.mp c14))]
            rw [e]
            exact ev_iret rfl rfl rfl ⟨rfl, hD, xFr.rf⟩
    · have hg : iN 4 (nI 3) := iN_nI (by decide) (by decide)
      have hc : (nI 3).toNatClampNeg = 3 := rfl
      show xEv _ _ _ 0 ([some (.ref 0), some (.int ((3 : Int32))), some (.int (n8)), none, none, none], [], σ)
      refine ev_blk 1 [] 1 ([some (.ref 0), some (.int ((3 : Int32))), some (.int (n8)), none, none, none], [.int ((3 : Int32))], σ) rfl ?_ ?_
      · trivial
      refine ev_callS M_X5_isSheet [.int ((3 : Int32))] [] rfl rfl ln_X5_229 k_X5_isSheet rfl rfl rfl (c_isSheet _ _) ?_
      refine pu_k ?_
      rw [zi_t (show ¬ ((3 : Int32)) < 0 ∧ ¬ (4 : Int32) ≤ ((3 : Int32)) by decide)]
      show xEv _ _ _ 4 ([some (.ref 0), some (.int ((3 : Int32))), some (.int (n8)), none, none, none], [.int ((1 : Int32))], σ)
      refine ev_br 0 [] ((1 : Int32) = 0) 17 7 ([some (.ref 0), some (.int ((3 : Int32))), some (.int (n8)), none, none, none], [], σ) rfl ?_ (fun c4 => ?_) (fun c4 => ?_)
      · trivial
      · exact absurd c4 (by decide)
      · refine ev_br 1 [] (n8 < 0) 17 11 ([some (.ref 0), some (.int ((3 : Int32))), some (.int (n8)), none, none, none], [], σ) rfl ?_ (fun c8 => ?_) (fun c8 => ?_)
        · trivial
        · refine ev_blk 1 [] 19 ([some (.ref 0), some (.int ((3 : Int32))), some (.int (n8)), none, none, none], [.int ((-2 : Int32))], σ) rfl ?_ ?_
          · trivial
          have e : s_flm (atC σ) (tkC σ) (laneL n (σ 1 1) (σ 7) 0) (laneL n (σ 1 1) (σ 7) 1) D (nI 3) n8 = (-2, D) := by rw [s_flm, if_neg (fun q => q hg), if_pos (Or.inl c8)]
          rw [e]
          exact ev_iret rfl rfl rfl ⟨rfl, hD, xFr.rf⟩
        · refine ev_br 2 [] (n8 ≤ (8 : Int32)) 20 17 ([some (.ref 0), some (.int ((3 : Int32))), some (.int (n8)), none, none, none], [], σ) rfl ?_ (fun c14 => ?_) (fun c14 => ?_)
          · trivial
          · refine ev_blk 6 [vp_in ((3 : Int32)) 4] 28 ([some (.ref 0), some (.int ((3 : Int32))), some (.int (n8)), none, none, none], [.int (n8), .int ((0 : Int32)), .ref 55], σ) rfl ?_ ?_
            · exact (vp_in_nI (n := 3) (by decide) (by decide))
            refine ev_callV M_X4_become [.int ((0 : Int32)), .int (n8)] [] 55 rfl rfl ln_X5_245 k_X4_become rfl rfl rfl rfl rfl rfl (c_shBecome3 _ _ _) ?_
            rintro r σ' ⟨rfl, hq1, hq2, hq3⟩
            show xEv _ _ _ 31 ([some (.ref 0), some (.int ((3 : Int32))), some (.int (n8)), none, none, none], [], σ')
            refine ev_blk 6 [] 42 ([some (.ref 0), some (.int ((3 : Int32))), some (.int (n8)), some (.int ((σ' 1 1))), some (.int ((0 : Int32))), none], [], σ') rfl ?_ ?_
            · trivial
            have h8 : ¬ 8 < n8 := Int32.not_lt.mpr c14
            obtain ⟨m8, hm, rfl⟩ := nI_of c8
            have hm8 : m8 ≤ 8 := by have := mt (fun z => nI_lt (a := 8) (b := m8) z (by omega)) h8; omega
            have hmc : (nI m8).toNatClampNeg = m8 := nI_clamp hm
            have e : s_flm (atC σ) (tkC σ) (laneL n (σ 1 1) (σ 7) 0) (laneL n (σ 1 1) (σ 7) 1) D (nI 3) (nI m8) = (nI m8, updD D 3 (0, m8, fun j => if j < m8 then nI (s_ct (atC σ) (tkC σ) (laneL n (σ 1 1) (σ 7) 0) (laneL n (σ 1 1) (σ 7) 1) j) else 0)) := by rw [s_flm, if_neg (fun q => q hg), if_neg (by rintro (q | q); exact c8 q; exact h8 q), hc, hmc]
            rw [e]
            have hbz : σ' 1 1 = σ 1 1 := congrFun (hq1 1 (by decide) (by decide)) 1
            rw [hbz]
            refine c_film3_lp σ n hok hn D m8 hm8 m8 0 (σ 1 1) σ' (by omega) (fun c hc => hq1 c (fun z => hc (by rw [z]; decide)) (fun z => hc (by rw [z]; decide))) ?_ rfl rfl
            refine shC_put (W := 3) hD ⟨Or.inr (Or.inl rfl), by show m8 ≤ 40; omega⟩ (fun c _ _ a b => hq1 c a b) (by rw [hq2]; rfl) (by rw [hq2]; show x_mx 0 (x_mn (nI m8) 40) = _; exact x_mxn (by omega)) (fun j hj => by dsimp only; rw [if_neg (Nat.not_lt_zero j)]; exact hq3 j hj)
          · refine ev_blk 1 [] 19 ([some (.ref 0), some (.int ((3 : Int32))), some (.int (n8)), none, none, none], [.int ((-2 : Int32))], σ) rfl ?_ ?_
            · trivial
            have e : s_flm (atC σ) (tkC σ) (laneL n (σ 1 1) (σ 7) 0) (laneL n (σ 1 1) (σ 7) 1) D (nI 3) n8 = (-2, D) := by rw [s_flm, if_neg (fun q => q hg), if_pos (Or.inr (Int32.not_le.mp c14))]
            rw [e]
            exact ev_iret rfl rfl rfl ⟨rfl, hD, xFr.rf⟩
