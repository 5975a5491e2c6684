set_option maxRecDepth 100000 in
theorem m_unlike_lp (σ : xSg) (n : Nat) (a : sAt) (tk : sTk) (ha : atM σ = a) (ht : tkM σ = tk) (W z : Nat) (hW : W < 4) (hz : σ 87 W = nI z) (hz40 : z ≤ 40) (V : Int32) : ∀ (m i : Nat) (A B : List Nat) (σ1 : xSg), i + m = z → mOk σ1 n A B → SR σ1 A B → xFm scM scP σ σ1 → s_unl a tk (fun i => σ 88 (40 * W + i)) m i A B = V → xEv (.inl 4) M_X6_unlike (fun r σ2 => r = some (.int V) ∧ xFm scM scP σ σ2) 6 ([some (.ref 57), some (.int (nI W)), some (.int (nI i))], [], σ1) := by
  have hWc : (nI W).toNatClampNeg = W := nI_clamp (by omega)
  have hin : vp_in (nI W) 4 := vp_in_nI hW (by decide)
  intro m
  induction m with
  | zero =>
    intro i A B σ1 hi hM1 hR1 hfr hV
    have hz1 : σ1 87 W = nI z := (congrFun (hfr.1 87 (by decide) (by decide)) W).trans hz
    refine ev_br 5 [vp_in (nI W) 4] (((σ1 87) (nI W).toNatClampNeg) ≤ (nI i)) 42 16 ([some (.ref 57), some (.int (nI W)), some (.int (nI i))], [], σ1) rfl ?_ (fun c13 => ?_) (fun c13 => ?_)
    · exact hin
    · rw [hWc] at c13
      refine ev_blk 1 [] 43 ([some (.ref 57), some (.int (nI W)), some (.int (nI i))], [.int ((-1 : Int32))], σ1) rfl ?_ ?_
      · trivial
      exact ev_iret rfl rfl rfl ⟨by rw [← hV]; rfl, hfr⟩
    · rw [hWc] at c13
      exact absurd (show σ1 87 W ≤ nI i by rw [hz1]; exact nI_le (by omega) (by omega)) c13
  | succ m ih =>
    intro i A B σ1 hi hM1 hR1 hfr hV
    have hz1 : σ1 87 W = nI z := (congrFun (hfr.1 87 (by decide) (by decide)) W).trans hz
    have ha1 : atM σ1 = a := (atM_fr hfr rfl).trans ha
    have ht1 : tkM σ1 = tk := (tkM_fr (hfr.1 69 (by decide) (by decide))).trans ht
    have hn10 := hM1.1.1
    have hix : ((40 : Int32) * (nI W)) + (nI i) = nI (40 * W + i) := by rw [n40, nI_add]
    have hxc : (((40 : Int32) * (nI W)) + (nI i)).toNatClampNeg = 40 * W + i := by rw [hix, nI_clamp (by omega)]
    refine ev_br 5 [vp_in (nI W) 4] (((σ1 87) (nI W).toNatClampNeg) ≤ (nI i)) 42 16 ([some (.ref 57), some (.int (nI W)), some (.int (nI i))], [], σ1) rfl ?_ (fun c13 => ?_) (fun c13 => ?_)
    · exact hin
    · rw [hWc] at c13
      exact absurd c13 (show ¬ σ1 87 W ≤ nI i by rw [hz1]; exact nI_ge (by omega) (by omega))
    · rw [hWc] at c13
      refine ev_blk 1 [] 17 ([some (.ref 57), some (.int (nI W)), some (.int (nI i))], [.ref 57], σ1) rfl ?_ ?_
      · trivial
      refine ev_callV M_X6_fills [] [] 57 rfl rfl ln_X6_172 k_X6_fills rfl rfl rfl rfl rfl rfl (m_fills σ1 n A B hM1.1 hM1.2.1 hR1 hM1.2.2.1 hM1.2.2.2.1 hM1.2.2.2.2.1) ?_
      rintro r σ2 ⟨rfl, hF, hR2, hf2⟩
      rw [ha1, ht1] at hF hR2 ⊢
      have hfr2 : xFm scM scP σ σ2 := hfr.tr (hf2.mono rfl rfl)
      have hl10 : (s_went (s_fill a tk A B)).length ≤ 10 := hF.1
      show xEv _ _ _ 20 ([some (.ref 57), some (.int (nI W)), some (.int (nI i))], [.int (nI (s_went (s_fill a tk A B)).length)], σ2)
      refine ev_br 8 [vp_in (((40 : Int32) * (nI W)) + (nI i)) 160] ((nI (s_went (s_fill a tk A B)).length) = ((σ2 88) (((40 : Int32) * (nI W)) + (nI i)).toNatClampNeg)) 36 34 ([some (.ref 57), some (.int (nI W)), some (.int (nI i))], [], σ2) rfl ?_ (fun c31 => ?_) (fun c31 => ?_)
      · rw [hix]; exact vp_in_nI (by omega) (by decide)
      · rw [hxc] at c31
        refine ev_blk 2 [] 6 ([some (.ref 57), some (.int (nI W)), some (.int ((nI i) + (1 : Int32)))], [], σ2) rfl ?_ ?_
        · trivial
        have e88 : σ2 88 = σ 88 := hfr2.1 88 (by decide) (by decide)
        rw [nI_1]
        refine ih (i + 1) _ _ σ2 (by omega) (mOk_nx (mOk_fr hM1 hf2 rfl)) hR2 hfr2 ?_
        rw [← hV]; conv => rhs; rw [s_unl]
        rw [if_pos (show σ 88 (40 * W + i) = nI (s_went (s_fill a tk A B)).length by rw [← e88]; exact c31.symm)]
      · rw [hxc] at c31
        refine ev_blk 1 [] 35 ([some (.ref 57), some (.int (nI W)), some (.int (nI i))], [.int (nI i)], σ2) rfl ?_ ?_
        · trivial
        have e88 : σ2 88 = σ 88 := hfr2.1 88 (by decide) (by decide)
        exact ev_iret rfl rfl rfl ⟨by rw [← hV, s_unl, if_neg (show ¬ σ 88 (40 * W + i) = nI (s_went (s_fill a tk A B)).length from fun q => c31 (by rw [e88]; exact q.symm))], hfr2⟩
set_option maxRecDepth 100000 in
theorem m_unlike (σ : xSg) (n : Nat) (A B : List Nat) (hM : mOk σ n A B) (hL : LR σ A B) (W z : Nat) (hW : W < 4) (hz : σ 87 W = nI z) (hz40 : z ≤ 40) : xCtr M_X6_unlike [.ref 57, .int (nI W)] σ (fun r σ2 => r = some (.int (s_unl (atM σ) (tkM σ) (fun i => σ 88 (40 * W + i)) z 0 A B)) ∧ xFm scM scP σ σ2) := by
  refine ctr_ev ok_X6_unlike (by decide +kernel) rfl rfl rfl ?_
  show xEv (.inl 4) M_X6_unlike _ 0 ([some (.ref 57), some (.int (nI W)), none], [], σ)
  refine ev_blk 1 [] 1 ([some (.ref 57), some (.int (nI W)), none], [.ref 57], σ) rfl ?_ ?_
  · trivial
  refine ev_callV M_X6_all [] [] 57 rfl rfl ln_X6_169 k_X6_all rfl rfl rfl rfl rfl rfl (m_all σ) ?_
  rintro r σ1 ⟨rfl, h74, h75, hf1⟩
  have hR1 := SR_all hL h74 h75
  have hM1 := mOk_fr hM hf1 rfl
  have ha1 := atM_fr hf1 rfl
  have ht1 : tkM σ1 = tkM σ := tkM_fr (hf1.1 69 (by decide) (by decide))
  show xEv _ _ _ 4 ([some (.ref 57), some (.int (nI W)), none], [], σ1)
  refine ev_blk 2 [] 6 ([some (.ref 57), some (.int (nI W)), some (.int ((0 : Int32)))], [], σ1) rfl ?_ ?_
  · trivial
  exact m_unlike_lp σ n _ _ rfl rfl W z hW hz hz40 _ z 0 A B σ1 (by omega) hM1 hR1 (hf1.mono rfl rfl) rfl
set_option maxRecDepth 100000 in
theorem m_tells_st (σ : xSg) (n : Nat) (A B : List Nat) (hM : mOk σ n A B) (hL : LR σ A B) (W z : Nat) (hW : W < 4) (hz : σ 87 W = nI z) (hz40 : z ≤ 40) (x0 : Int32) (wh V had : Int32) (hhad : had = σ 68 4) : ∀ (m v : Nat) (b : Int32) (σ1 : xSg), v + m = 5 → 0 ≤ v → xFm (68 :: scM) scP σ σ1 → (∀ i, i ≠ 4 → σ1 68 i = σ 68 i) → s_tri (fun v => s_unl (a_st (atM σ) (nI v)) (tkM σ) (fun i => σ 88 (40 * W + i)) z 0 A B) m v b = V → xEv (.inl 5) M_X6_tells (fun r σ2 => r = some (.int V) ∧ xFm scM scP σ σ2) 104 ([some (.ref 57), some (.int (nI W)), some (.int (x0)), some (.int (wh)), some (.int (b)), some (.int (had)), some (.int (nI v))], [], σ1) := by
  have hn10 := hM.1.1
  intro m
  induction m with
  | zero =>
    intro v b σ1 hv hlv hfr hrow hV
    refine ev_br 2 [] ((5 : Int32) ≤ (nI v)) 142 110 ([some (.ref 57), some (.int (nI W)), some (.int (x0)), some (.int (wh)), some (.int (b)), some (.int (had)), some (.int (nI v))], [], σ1) rfl ?_ (fun c107 => ?_) (fun c107 => ?_)
    · trivial
    · refine ev_blk 7 [vp_in ((4 : Int32)) 5] 279 ([some (.ref 57), some (.int (nI W)), some (.int (x0)), some (.int (wh)), some (.int (b)), some (.int (had)), some (.int (nI v))], [.int (b)], (x_up σ1 68 (upd (σ1 68) 4 (had)))) rfl ?_ ?_
      · exact vp_in_nI (n := 4) (by decide) (by decide)
      refine ev_iret rfl rfl rfl ⟨by rw [← hV]; rfl, ⟨fun c hc hn => ?_, fun i hi => ?_⟩⟩
      · by_cases hcr : c = 68
        · subst hcr; rw [x_up_eq]; exact upd_bk hrow hhad
        · rw [x_up_ne hcr]; exact hfr.1 c (fun q => by rcases List.mem_cons.mp q with q | q; exact hcr q; exact hc q) hn
      · rw [x_up_ne (by decide)]; exact hfr.2 i hi
    · exact absurd (show (5 : Int32) ≤ nI v from nI_le (a := 5) (by omega) (by omega)) c107
  | succ m ih =>
    intro v b σ1 hv hlv hfr hrow hV
    refine ev_br 2 [] ((5 : Int32) ≤ (nI v)) 142 110 ([some (.ref 57), some (.int (nI W)), some (.int (x0)), some (.int (wh)), some (.int (b)), some (.int (had)), some (.int (nI v))], [], σ1) rfl ?_ (fun c107 => ?_) (fun c107 => ?_)
    · trivial
    · exact absurd c107 (nI_ge (b := 5) (by omega) (by omega))
    · refine ev_blk 7 [vp_in ((4 : Int32)) 5] 120 ([some (.ref 57), some (.int (nI W)), some (.int (x0)), some (.int (wh)), some (.int (b)), some (.int (had)), some (.int (nI v))], [.int (nI W), .ref 57], (x_up σ1 68 (upd (σ1 68) 4 (nI v)))) rfl ?_ ?_
      · exact vp_in_nI (n := 4) (by decide) (by decide)
      have hc : ∀ c, c ∉ (68 :: scM) → c ≠ 57 → (x_up σ1 68 (upd (σ1 68) 4 (nI v))) c = σ c := fun c hc hn => by rw [x_up_ne (fun q => hc (by rw [q]; exact List.mem_cons_self))]; exact hfr.1 c hc hn
      have hat : atM (x_up σ1 68 (upd (σ1 68) 4 (nI v))) = a_st (atM σ) (nI v) := by unfold atM; rw [hc 58 (by decide) (by decide), hc 59 (by decide) (by decide), hc 60 (by decide) (by decide), hc 61 (by decide) (by decide), hc 62 (by decide) (by decide), hc 63 (by decide) (by decide), show (x_up σ1 68 (upd (σ1 68) 4 (nI v))) 68 = upd (σ 68) 4 (nI v) from (x_up_eq).trans (upd_ig hrow)]; rfl
      have htk : tkM (x_up σ1 68 (upd (σ1 68) 4 (nI v))) = tkM σ := tkM_fr (hc 69 (by decide) (by decide))
      have hM1 : mOk (x_up σ1 68 (upd (σ1 68) 4 (nI v))) n A B := by
        exact ⟨by rw [hat]; exact aOk_st hM.1 (by omega), by rw [hc 69 (by decide) (by decide)]; exact hM.2.1, hM.2.2⟩
      have hL1 : LR (x_up σ1 68 (upd (σ1 68) 4 (nI v))) A B := by unfold LR; rw [hc 66 (by decide) (by decide), hc 67 (by decide) (by decide)]; exact hL
      refine ev_callV M_X6_unlike [.int (nI W)] [] 57 rfl rfl ln_X6_206 k_X6_unlike rfl rfl rfl rfl rfl rfl (m_unlike (x_up σ1 68 (upd (σ1 68) 4 (nI v))) n A B hM1 hL1 W z hW ((congrFun (hc 87 (by decide) (by decide)) W).trans hz) hz40) ?_
      rintro r σ2 ⟨rfl, hf2⟩
      rw [hat, htk, hc 88 (by decide) (by decide)]
      show xEv _ _ _ 123 ([some (.ref 57), some (.int (nI W)), some (.int (x0)), some (.int (wh)), some (.int (b)), some (.int (had)), some (.int (nI v))], [.int (s_unl (a_st (atM σ) (nI v)) (tkM σ) (fun i => σ 88 (40 * W + i)) z 0 A B)], σ2)
      refine ev_br 1 [] (¬ (s_unl (a_st (atM σ) (nI v)) (tkM σ) (fun i => σ 88 (40 * W + i)) z 0 A B) = (-1 : Int32)) 136 127 ([some (.ref 57), some (.int (nI W)), some (.int (x0)), some (.int (wh)), some (.int (b)), some (.int (had)), some (.int (nI v))], [], σ2) rfl ?_ (fun c124 => ?_) (fun c124 => ?_)
      · trivial
      · refine ev_blk 2 [] 104 ([some (.ref 57), some (.int (nI W)), some (.int (x0)), some (.int (wh)), some (.int (b)), some (.int (had)), some (.int ((nI v) + (1 : Int32)))], [], σ2) rfl ?_ ?_
        · trivial
        rw [nI_1]
        refine ih (v + 1) _ σ2 (by omega) (by omega) ⟨fun c hc2 hn => (hf2.1 c (fun q => hc2 (List.mem_cons_of_mem _ q)) hn).trans (hc c hc2 hn), fun i hi => (hf2.2 i hi).trans ?_⟩ (fun i hi => ?_) ?_
        · rw [x_up_ne (by decide)]; exact hfr.2 i hi
        · rw [hf2.1 68 (by decide) (by decide), x_up_eq, upd_ne hi]; exact hrow i hi
        · rw [← hV]; conv => rhs; rw [s_tri]
          rw [if_neg c124]
      · refine ev_blk 8 [] 104 ([some (.ref 57), some (.int (nI W)), some (.int (x0)), some (.int (wh)), some (.int (b ||| ((1 : Int32) <<< ((nI v) &&& 31)))), some (.int (had)), some (.int ((nI v) + (1 : Int32)))], [], σ2) rfl ?_ ?_
        · trivial
        rw [nI_1]
        refine ih (v + 1) _ σ2 (by omega) (by omega) ⟨fun c hc2 hn => (hf2.1 c (fun q => hc2 (List.mem_cons_of_mem _ q)) hn).trans (hc c hc2 hn), fun i hi => (hf2.2 i hi).trans ?_⟩ (fun i hi => ?_) ?_
        · rw [x_up_ne (by decide)]; exact hfr.2 i hi
        · rw [hf2.1 68 (by decide) (by decide), x_up_eq, upd_ne hi]; exact hrow i hi
        · rw [← hV]; conv => rhs; rw [s_tri]
          rw [if_pos (Classical.byContradiction c124)]
set_option maxRecDepth 100000 in
theorem m_tells_kd (σ : xSg) (n : Nat) (A B : List Nat) (hM : mOk σ n A B) (hL : LR σ A B) (W z : Nat) (hW : W < 4) (hz : σ 87 W = nI z) (hz40 : z ≤ 40) (x : Nat) (hx : x < n) (wh V had : Int32) (hhad : had = σ 58 x) : ∀ (m v : Nat) (b : Int32) (σ1 : xSg), v + m = 6 → 0 ≤ v → xFm (58 :: scM) scP σ σ1 → (∀ i, i ≠ x → σ1 58 i = σ 58 i) → s_tri (fun v => s_unl (a_kd (atM σ) x (nI v)) (tkM σ) (fun i => σ 88 (40 * W + i)) z 0 A B) m v b = V → xEv (.inl 5) M_X6_tells (fun r σ2 => r = some (.int V) ∧ xFm scM scP σ σ2) 169 ([some (.ref 57), some (.int (nI W)), some (.int (nI x)), some (.int (wh)), some (.int (b)), some (.int (had)), some (.int (nI v))], [], σ1) := by
  have hn10 := hM.1.1
  have hpc : (nI x).toNatClampNeg = x := nI_clamp (by omega)
  intro m
  induction m with
  | zero =>
    intro v b σ1 hv hlv hfr hrow hV
    refine ev_br 2 [] ((6 : Int32) ≤ (nI v)) 208 176 ([some (.ref 57), some (.int (nI W)), some (.int (nI x)), some (.int (wh)), some (.int (b)), some (.int (had)), some (.int (nI v))], [], σ1) rfl ?_ (fun c173 => ?_) (fun c173 => ?_)
    · trivial
    · refine ev_blk 7 [vp_in (nI x) 10] 279 ([some (.ref 57), some (.int (nI W)), some (.int (nI x)), some (.int (wh)), some (.int (b)), some (.int (had)), some (.int (nI v))], [.int (b)], (x_up σ1 58 (upd (σ1 58) (nI x).toNatClampNeg (had)))) rfl ?_ ?_
      · exact vp_in_nI (by omega) (by decide)
      rw [hpc]
      refine ev_iret rfl rfl rfl ⟨by rw [← hV]; rfl, ⟨fun c hc hn => ?_, fun i hi => ?_⟩⟩
      · by_cases hcr : c = 58
        · subst hcr; rw [x_up_eq]; exact upd_bk hrow hhad
        · rw [x_up_ne hcr]; exact hfr.1 c (fun q => by rcases List.mem_cons.mp q with q | q; exact hcr q; exact hc q) hn
      · rw [x_up_ne (by decide)]; exact hfr.2 i hi
    · exact absurd (show (6 : Int32) ≤ nI v from nI_le (a := 6) (by omega) (by omega)) c173
  | succ m ih =>
    intro v b σ1 hv hlv hfr hrow hV
    refine ev_br 2 [] ((6 : Int32) ≤ (nI v)) 208 176 ([some (.ref 57), some (.int (nI W)), some (.int (nI x)), some (.int (wh)), some (.int (b)), some (.int (had)), some (.int (nI v))], [], σ1) rfl ?_ (fun c173 => ?_) (fun c173 => ?_)
    · trivial
    · exact absurd c173 (nI_ge (b := 6) (by omega) (by omega))
    · refine ev_blk 7 [vp_in (nI x) 10] 186 ([some (.ref 57), some (.int (nI W)), some (.int (nI x)), some (.int (wh)), some (.int (b)), some (.int (had)), some (.int (nI v))], [.int (nI W), .ref 57], (x_up σ1 58 (upd (σ1 58) (nI x).toNatClampNeg (nI v)))) rfl ?_ ?_
      · exact vp_in_nI (by omega) (by decide)
      rw [hpc]
      have hc : ∀ c, c ∉ (58 :: scM) → c ≠ 57 → (x_up σ1 58 (upd (σ1 58) x (nI v))) c = σ c := fun c hc hn => by rw [x_up_ne (fun q => hc (by rw [q]; exact List.mem_cons_self))]; exact hfr.1 c hc hn
      have hat : atM (x_up σ1 58 (upd (σ1 58) x (nI v))) = a_kd (atM σ) x (nI v) := by unfold atM; rw [show (x_up σ1 58 (upd (σ1 58) x (nI v))) 58 = upd (σ 58) x (nI v) from (x_up_eq).trans (upd_ig hrow), hc 59 (by decide) (by decide), hc 60 (by decide) (by decide), hc 61 (by decide) (by decide), hc 62 (by decide) (by decide), hc 63 (by decide) (by decide), hc 68 (by decide) (by decide)]; rfl
      have htk : tkM (x_up σ1 58 (upd (σ1 58) x (nI v))) = tkM σ := tkM_fr (hc 69 (by decide) (by decide))
      have hM1 : mOk (x_up σ1 58 (upd (σ1 58) x (nI v))) n A B := by
        exact ⟨by rw [hat]; exact aOk_kd hM.1 (by omega), by rw [hc 69 (by decide) (by decide)]; exact hM.2.1, hM.2.2⟩
      have hL1 : LR (x_up σ1 58 (upd (σ1 58) x (nI v))) A B := by unfold LR; rw [hc 66 (by decide) (by decide), hc 67 (by decide) (by decide)]; exact hL
      refine ev_callV M_X6_unlike [.int (nI W)] [] 57 rfl rfl ln_X6_206 k_X6_unlike rfl rfl rfl rfl rfl rfl (m_unlike (x_up σ1 58 (upd (σ1 58) x (nI v))) n A B hM1 hL1 W z hW ((congrFun (hc 87 (by decide) (by decide)) W).trans hz) hz40) ?_
      rintro r σ2 ⟨rfl, hf2⟩
      rw [hat, htk, hc 88 (by decide) (by decide)]
      show xEv _ _ _ 189 ([some (.ref 57), some (.int (nI W)), some (.int (nI x)), some (.int (wh)), some (.int (b)), some (.int (had)), some (.int (nI v))], [.int (s_unl (a_kd (atM σ) x (nI v)) (tkM σ) (fun i => σ 88 (40 * W + i)) z 0 A B)], σ2)
      refine ev_br 1 [] (¬ (s_unl (a_kd (atM σ) x (nI v)) (tkM σ) (fun i => σ 88 (40 * W + i)) z 0 A B) = (-1 : Int32)) 202 193 ([some (.ref 57), some (.int (nI W)), some (.int (nI x)), some (.int (wh)), some (.int (b)), some (.int (had)), some (.int (nI v))], [], σ2) rfl ?_ (fun c190 => ?_) (fun c190 => ?_)
      · trivial
      · refine ev_blk 2 [] 169 ([some (.ref 57), some (.int (nI W)), some (.int (nI x)), some (.int (wh)), some (.int (b)), some (.int (had)), some (.int ((nI v) + (1 : Int32)))], [], σ2) rfl ?_ ?_
        · trivial
        rw [nI_1]
        refine ih (v + 1) _ σ2 (by omega) (by omega) ⟨fun c hc2 hn => (hf2.1 c (fun q => hc2 (List.mem_cons_of_mem _ q)) hn).trans (hc c hc2 hn), fun i hi => (hf2.2 i hi).trans ?_⟩ (fun i hi => ?_) ?_
        · rw [x_up_ne (by decide)]; exact hfr.2 i hi
        · rw [hf2.1 58 (by decide) (by decide), x_up_eq, upd_ne hi]; exact hrow i hi
        · rw [← hV]; conv => rhs; rw [s_tri]
          rw [if_neg c190]
      · refine ev_blk 8 [] 169 ([some (.ref 57), some (.int (nI W)), some (.int (nI x)), some (.int (wh)), some (.int (b ||| ((1 : Int32) <<< ((nI v) &&& 31)))), some (.int (had)), some (.int ((nI v) + (1 : Int32)))], [], σ2) rfl ?_ ?_
        · trivial
        rw [nI_1]
        refine ih (v + 1) _ σ2 (by omega) (by omega) ⟨fun c hc2 hn => (hf2.1 c (fun q => hc2 (List.mem_cons_of_mem _ q)) hn).trans (hc c hc2 hn), fun i hi => (hf2.2 i hi).trans ?_⟩ (fun i hi => ?_) ?_
        · rw [x_up_ne (by decide)]; exact hfr.2 i hi
        · rw [hf2.1 58 (by decide) (by decide), x_up_eq, upd_ne hi]; exact hrow i hi
        · rw [← hV]; conv => rhs; rw [s_tri]
          rw [if_pos (Classical.byContradiction c190)]
set_option maxRecDepth 100000 in
theorem m_tells_ln (σ : xSg) (n : Nat) (A B : List Nat) (hM : mOk σ n A B) (hL : LR σ A B) (W z : Nat) (hW : W < 4) (hz : σ 87 W = nI z) (hz40 : z ≤ 40) (x : Nat) (hx : x < n) (wh V had : Int32) (hhad : had = σ 59 x) : ∀ (m v : Nat) (b : Int32) (σ1 : xSg), v + m = 10 → 1 ≤ v → xFm (59 :: scM) scP σ σ1 → (∀ i, i ≠ x → σ1 59 i = σ 59 i) → s_tri (fun v => s_unl (a_ln (atM σ) x (nI v)) (tkM σ) (fun i => σ 88 (40 * W + i)) z 0 A B) m v b = V → xEv (.inl 5) M_X6_tells (fun r σ2 => r = some (.int V) ∧ xFm scM scP σ σ2) 230 ([some (.ref 57), some (.int (nI W)), some (.int (nI x)), some (.int (wh)), some (.int (b)), some (.int (had)), some (.int (nI v))], [], σ1) := by
  have hn10 := hM.1.1
  have hpc : (nI x).toNatClampNeg = x := nI_clamp (by omega)
  intro m
  induction m with
  | zero =>
    intro v b σ1 hv hlv hfr hrow hV
    refine ev_br 2 [] ((10 : Int32) ≤ (nI v)) 269 237 ([some (.ref 57), some (.int (nI W)), some (.int (nI x)), some (.int (wh)), some (.int (b)), some (.int (had)), some (.int (nI v))], [], σ1) rfl ?_ (fun c234 => ?_) (fun c234 => ?_)
    · trivial
    · refine ev_blk 6 [vp_in (nI x) 10] 279 ([some (.ref 57), some (.int (nI W)), some (.int (nI x)), some (.int (wh)), some (.int (b)), some (.int (had)), some (.int (nI v))], [.int (b)], (x_up σ1 59 (upd (σ1 59) (nI x).toNatClampNeg (had)))) rfl ?_ ?_
      · exact vp_in_nI (by omega) (by decide)
      rw [hpc]
      refine ev_iret rfl rfl rfl ⟨by rw [← hV]; rfl, ⟨fun c hc hn => ?_, fun i hi => ?_⟩⟩
      · by_cases hcr : c = 59
        · subst hcr; rw [x_up_eq]; exact upd_bk hrow hhad
        · rw [x_up_ne hcr]; exact hfr.1 c (fun q => by rcases List.mem_cons.mp q with q | q; exact hcr q; exact hc q) hn
      · rw [x_up_ne (by decide)]; exact hfr.2 i hi
    · exact absurd (show (10 : Int32) ≤ nI v from nI_le (a := 10) (by omega) (by omega)) c234
  | succ m ih =>
    intro v b σ1 hv hlv hfr hrow hV
    refine ev_br 2 [] ((10 : Int32) ≤ (nI v)) 269 237 ([some (.ref 57), some (.int (nI W)), some (.int (nI x)), some (.int (wh)), some (.int (b)), some (.int (had)), some (.int (nI v))], [], σ1) rfl ?_ (fun c234 => ?_) (fun c234 => ?_)
    · trivial
    · exact absurd c234 (nI_ge (b := 10) (by omega) (by omega))
    · refine ev_blk 7 [vp_in (nI x) 10] 247 ([some (.ref 57), some (.int (nI W)), some (.int (nI x)), some (.int (wh)), some (.int (b)), some (.int (had)), some (.int (nI v))], [.int (nI W), .ref 57], (x_up σ1 59 (upd (σ1 59) (nI x).toNatClampNeg (nI v)))) rfl ?_ ?_
      · exact vp_in_nI (by omega) (by decide)
      rw [hpc]
      have hc : ∀ c, c ∉ (59 :: scM) → c ≠ 57 → (x_up σ1 59 (upd (σ1 59) x (nI v))) c = σ c := fun c hc hn => by rw [x_up_ne (fun q => hc (by rw [q]; exact List.mem_cons_self))]; exact hfr.1 c hc hn
      have hat : atM (x_up σ1 59 (upd (σ1 59) x (nI v))) = a_ln (atM σ) x (nI v) := by unfold atM; rw [hc 58 (by decide) (by decide), show (x_up σ1 59 (upd (σ1 59) x (nI v))) 59 = upd (σ 59) x (nI v) from (x_up_eq).trans (upd_ig hrow), hc 60 (by decide) (by decide), hc 61 (by decide) (by decide), hc 62 (by decide) (by decide), hc 63 (by decide) (by decide), hc 68 (by decide) (by decide)]; rfl
      have htk : tkM (x_up σ1 59 (upd (σ1 59) x (nI v))) = tkM σ := tkM_fr (hc 69 (by decide) (by decide))
      have hM1 : mOk (x_up σ1 59 (upd (σ1 59) x (nI v))) n A B := by
        exact ⟨by rw [hat]; exact aOk_ln hM.1 (by omega) (by omega), by rw [hc 69 (by decide) (by decide)]; exact hM.2.1, hM.2.2⟩
      have hL1 : LR (x_up σ1 59 (upd (σ1 59) x (nI v))) A B := by unfold LR; rw [hc 66 (by decide) (by decide), hc 67 (by decide) (by decide)]; exact hL
      refine ev_callV M_X6_unlike [.int (nI W)] [] 57 rfl rfl ln_X6_206 k_X6_unlike rfl rfl rfl rfl rfl rfl (m_unlike (x_up σ1 59 (upd (σ1 59) x (nI v))) n A B hM1 hL1 W z hW ((congrFun (hc 87 (by decide) (by decide)) W).trans hz) hz40) ?_
      rintro r σ2 ⟨rfl, hf2⟩
      rw [hat, htk, hc 88 (by decide) (by decide)]
      show xEv _ _ _ 250 ([some (.ref 57), some (.int (nI W)), some (.int (nI x)), some (.int (wh)), some (.int (b)), some (.int (had)), some (.int (nI v))], [.int (s_unl (a_ln (atM σ) x (nI v)) (tkM σ) (fun i => σ 88 (40 * W + i)) z 0 A B)], σ2)
      refine ev_br 1 [] (¬ (s_unl (a_ln (atM σ) x (nI v)) (tkM σ) (fun i => σ 88 (40 * W + i)) z 0 A B) = (-1 : Int32)) 263 254 ([some (.ref 57), some (.int (nI W)), some (.int (nI x)), some (.int (wh)), some (.int (b)), some (.int (had)), some (.int (nI v))], [], σ2) rfl ?_ (fun c251 => ?_) (fun c251 => ?_)
      · trivial
      · refine ev_blk 2 [] 230 ([some (.ref 57), some (.int (nI W)), some (.int (nI x)), some (.int (wh)), some (.int (b)), some (.int (had)), some (.int ((nI v) + (1 : Int32)))], [], σ2) rfl ?_ ?_
        · trivial
        rw [nI_1]
        refine ih (v + 1) _ σ2 (by omega) (by omega) ⟨fun c hc2 hn => (hf2.1 c (fun q => hc2 (List.mem_cons_of_mem _ q)) hn).trans (hc c hc2 hn), fun i hi => (hf2.2 i hi).trans ?_⟩ (fun i hi => ?_) ?_
        · rw [x_up_ne (by decide)]; exact hfr.2 i hi
        · rw [hf2.1 59 (by decide) (by decide), x_up_eq, upd_ne hi]; exact hrow i hi
        · rw [← hV]; conv => rhs; rw [s_tri]
          rw [if_neg c251]
      · refine ev_blk 8 [] 230 ([some (.ref 57), some (.int (nI W)), some (.int (nI x)), some (.int (wh)), some (.int (b ||| ((1 : Int32) <<< ((nI v) &&& 31)))), some (.int (had)), some (.int ((nI v) + (1 : Int32)))], [], σ2) rfl ?_ ?_
        · trivial
        rw [nI_1]
        refine ih (v + 1) _ σ2 (by omega) (by omega) ⟨fun c hc2 hn => (hf2.1 c (fun q => hc2 (List.mem_cons_of_mem _ q)) hn).trans (hc c hc2 hn), fun i hi => (hf2.2 i hi).trans ?_⟩ (fun i hi => ?_) ?_
        · rw [x_up_ne (by decide)]; exact hfr.2 i hi
        · rw [hf2.1 59 (by decide) (by decide), x_up_eq, upd_ne hi]; exact hrow i hi
        · rw [← hV]; conv => rhs; rw [s_tri]
          rw [if_pos (Classical.byContradiction c251)]
theorem st_0 {w g : Int32} {j : Nat} : s_st w g j = 0 ↔ bt w j = true := by
  unfold s_st
  cases bt w j <;> cases bt g j <;> decide
theorem st_0f {w g : Int32} {j : Nat} : ¬ s_st w g j = 0 ↔ bt w j = false := by
  rw [st_0]
  cases bt w j <;> simp
theorem wh_2 {wh : Int32} : (¬ wh < 2) ↔ 1 < wh := by
  rw [Int32.lt_iff_toInt_lt, Int32.lt_iff_toInt_lt, show ((2 : Int32)).toInt = 2 by decide, show ((1 : Int32)).toInt = 1 by decide]
  omega
set_option maxRecDepth 100000 in
theorem m_tells (σ : xSg) (n : Nat) (A B : List Nat) (hM : mOk σ n A B) (hL : LR σ A B) (hn : σ 57 0 = nI n) (w g : Int32) (hst : ∀ j, j < n → σ 64 j = s_st w g j) (D : Nat → shD) (hD : shM σ D) (s x wh : Int32) : xCtr M_X6_tells [.ref 57, .int (s), .int (x), .int (wh)] σ (fun r σ2 => r = some (.int (s_tel n w (atM σ) (tkM σ) A B D s x wh)) ∧ xFm scM scP σ σ2) := by
  refine ctr_ev ok_X6_tells (by decide +kernel) rfl rfl rfl ?_
  show xEv (.inl 5) M_X6_tells _ 0 ([some (.ref 57), some (.int (s)), some (.int (x)), some (.int (wh)), none, none, none], [], σ)
  have hn10 := hM.1.1
  refine ev_blk 1 [] 1 ([some (.ref 57), some (.int (s)), some (.int (x)), some (.int (wh)), none, none, none], [.int (s)], σ) rfl ?_ ?_
  · trivial
  refine ev_callS M_X6_isSheet [.int (s)] [] rfl rfl ln_X6_203 k_X6_isSheet rfl rfl rfl (m_isSheet _ _) ?_
  refine pu_k ?_
  show xEv _ _ _ 4 ([some (.ref 57), some (.int (s)), some (.int (x)), some (.int (wh)), none, none, none], [.int (zi (¬ s < 0 ∧ ¬ (3 : Int32) < s))], σ)
  refine ev_br 0 [] ((zi (¬ s < 0 ∧ ¬ (3 : Int32) < s)) = 0) 29 7 ([some (.ref 57), some (.int (s)), some (.int (x)), some (.int (wh)), none, none, none], [], σ) rfl ?_ (fun c4 => ?_) (fun c4 => ?_)
  · trivial
  · replace c4 := zi_0.mp c4
    refine ev_blk 1 [] 31 ([some (.ref 57), some (.int (s)), some (.int (x)), some (.int (wh)), none, none, none], [.int ((-2 : Int32))], σ) rfl ?_ ?_
    · trivial
    exact ev_iret rfl rfl rfl ⟨by rw [s_tel, if_pos (fun q => c4 (iN4.mpr q))], xFm.rf⟩
  · replace c4 := zi_1.mp c4
    refine ev_blk 3 [] 10 ([some (.ref 57), some (.int (s)), some (.int (x)), some (.int (wh)), none, none, none], [.int ((3 : Int32)), .int ((0 : Int32)), .int (wh)], σ) rfl ?_ ?_
    · trivial
    refine ev_callS M_X6_within [.int (wh), .int ((0 : Int32)), .int ((3 : Int32))] [] rfl rfl ln_X6_110 k_X6_within rfl rfl rfl (m_within _ _ _ _) ?_
    refine pu_k ?_
    show xEv _ _ _ 13 ([some (.ref 57), some (.int (s)), some (.int (x)), some (.int (wh)), none, none, none], [.int (zi (¬ wh < (0 : Int32) ∧ ¬ (3 : Int32) < wh))], σ)
    refine ev_br 0 [] ((zi (¬ wh < (0 : Int32) ∧ ¬ (3 : Int32) < wh)) = 0) 29 16 ([some (.ref 57), some (.int (s)), some (.int (x)), some (.int (wh)), none, none, none], [], σ) rfl ?_ (fun c13 => ?_) (fun c13 => ?_)
    · trivial
    · replace c13 := zi_0.mp c13
      refine ev_blk 1 [] 31 ([some (.ref 57), some (.int (s)), some (.int (x)), some (.int (wh)), none, none, none], [.int ((-2 : Int32))], σ) rfl ?_ ?_
      · trivial
      exact ev_iret rfl rfl rfl ⟨by rw [s_tel, if_neg (fun q => q (iN4.mp c4)), if_pos (Classical.byContradiction (fun q => c13 ⟨fun z => q (Or.inl z), fun z => q (Or.inr z)⟩))], xFm.rf⟩
    · replace c13 := zi_1.mp c13
      refine ev_br 2 [] (wh ≤ (1 : Int32)) 32 21 ([some (.ref 57), some (.int (s)), some (.int (x)), some (.int (wh)), none, none, none], [], σ) rfl ?_ (fun c18 => ?_) (fun c18 => ?_)
      · trivial
      · have hs := iN4.mp c4
        obtain ⟨W, hW, _, rfl⟩ := iN_of hs
        have hWc : (nI W).toNatClampNeg = W := nI_clamp (by omega)
        have hin : vp_in (nI W) 4 := vp_in_nI hW (by decide)
        obtain ⟨ho, h0, h1, hi⟩ := hD W hW
        have w2 : wh < 2 := Classical.byContradiction (fun q => absurd (wh_2.mp q) (Int32.not_lt.mpr c18))
        refine ev_br 2 [] (wh ≤ (1 : Int32)) 49 37 ([some (.ref 57), some (.int (nI W)), some (.int (x)), some (.int (wh)), none, none, none], [], σ) rfl ?_ (fun c34 => ?_) (fun c34 => ?_)
        · trivial
        · refine ev_br 4 [vp_in (nI W) 4] (¬ ((σ 86) (nI W).toNatClampNeg) = 0) 61 58 ([some (.ref 57), some (.int (nI W)), some (.int (x)), some (.int (wh)), none, none, none], [], σ) rfl ?_ (fun c55 => ?_) (fun c55 => ?_)
          · exact hin
          · rw [hWc] at c55
            refine ev_br 5 [vp_in (nI W) 4] (((σ 87) (nI W).toNatClampNeg) ≤ (8 : Int32)) 75 72 ([some (.ref 57), some (.int (nI W)), some (.int (x)), some (.int (wh)), none, none, none], [], σ) rfl ?_ (fun c69 => ?_) (fun c69 => ?_)
            · exact hin
            · rw [hWc] at c69
              refine ev_br 1 [] (¬ wh = 0) 85 79 ([some (.ref 57), some (.int (nI W)), some (.int (x)), some (.int (wh)), none, none, none], [], σ) rfl ?_ (fun c76 => ?_) (fun c76 => ?_)
              · trivial
              · refine ev_br 4 [] (¬ wh = (1 : Int32)) 153 93 ([some (.ref 57), some (.int (nI W)), some (.int (x)), some (.int (wh)), some (.int ((0 : Int32))), none, none], [], σ) rfl ?_ (fun c90 => ?_) (fun c90 => ?_)
                · trivial
                · exfalso
                  obtain ⟨j, hj, rfl⟩ := nI_of c13.1
                  have : j < 2 := (nI_ltI (b := 2) hj (by decide)).mp w2
                  rcases (show j = 0 ∨ j = 1 by omega) with rfl | rfl
                  · exact c76 rfl
                  · exact c90 rfl
                · refine ev_blk 7 [vp_in ((4 : Int32)) 5] 104 ([some (.ref 57), some (.int (nI W)), some (.int (x)), some (.int (wh)), some (.int ((0 : Int32))), some (.int ((σ 68) 4)), some (.int ((0 : Int32)))], [], σ) rfl ?_ ?_
                  · exact vp_in_nI (n := 4) (by decide) (by decide)
                  refine ev_post ?_ (m_tells_st σ n A B hM hL W _ hW h1 ho.2 x wh _ _ rfl 5 0 0 σ (by omega) (by omega) ⟨fun _ _ _ => rfl, fun _ _ => rfl⟩ (fun _ _ => rfl) rfl)
                  rintro r σ2 ⟨rfl, hf2⟩
                  refine ⟨?_, hf2⟩
                  rw [s_tel, if_neg (fun q => q hs), if_neg (by rintro (q | q); exact c13.1 q; exact c13.2 q), if_neg (fun q => q.1 w2), if_neg (fun q => q.1 w2), hWc, if_neg (fun q => c55 (h0.trans ((so_p1 ho.1).1.mpr q))), if_neg (fun q => absurd (show σ 87 W ≤ 8 from c69) (by rw [h1]; exact Int32.not_le.mpr (nI_lt (a := 8) q (by have := ho.2; omega)))), if_neg c76, if_pos (Classical.byContradiction c90)]
                  exact congrArg (fun z => some (Value.int z)) (s_tri_c (fun v _ _ => s_unl_c (fun j _ hj => hi j (by have := ho.2; omega))))
              · refine ev_blk 2 [] 81 ([some (.ref 57), some (.int (nI W)), some (.int (x)), some (.int (wh)), none, none, none], [.int (nI W), .ref 57], σ) rfl ?_ ?_
                · trivial
                refine ev_callV M_X6_unlike [.int (nI W)] [] 57 rfl rfl ln_X6_206 k_X6_unlike rfl rfl rfl rfl rfl rfl (m_unlike σ n A B hM hL W _ hW h1 ho.2) ?_
                rintro r σ2 ⟨rfl, hf2⟩
                refine ev_iret rfl rfl rfl ⟨?_, hf2⟩
                rw [s_tel, if_neg (fun q => q hs), if_neg (by rintro (q | q); exact c13.1 q; exact c13.2 q), if_neg (fun q => q.1 w2), if_neg (fun q => q.1 w2), hWc, if_neg (fun q => c55 (h0.trans ((so_p1 ho.1).1.mpr q))), if_neg (fun q => absurd (show σ 87 W ≤ 8 from c69) (by rw [h1]; exact Int32.not_le.mpr (nI_lt (a := 8) q (by have := ho.2; omega)))), if_pos (Classical.byContradiction c76)]
                exact congrArg (fun z => some (Value.int z)) (s_unl_c (fun j _ hj => hi j (by have := ho.2; omega)))
            · rw [hWc] at c69
              refine ev_blk 1 [] 74 ([some (.ref 57), some (.int (nI W)), some (.int (x)), some (.int (wh)), none, none, none], [.int ((-2 : Int32))], σ) rfl ?_ ?_
              · trivial
              exact ev_iret rfl rfl rfl ⟨by rw [s_tel, if_neg (fun q => q hs), if_neg (by rintro (q | q); exact c13.1 q; exact c13.2 q), if_neg (fun q => q.1 w2), if_neg (fun q => q.1 w2), hWc, if_neg (fun q => c55 (h0.trans ((so_p1 ho.1).1.mpr q))), if_pos (by have := mt (fun z => nI_le (a := (D W).2.1) (b := 8) z (by omega)) (by rw [← h1]; exact c69); omega)], xFm.rf⟩
          · rw [hWc] at c55
            refine ev_blk 1 [] 60 ([some (.ref 57), some (.int (nI W)), some (.int (x)), some (.int (wh)), none, none, none], [.int ((-11 : Int32))], σ) rfl ?_ ?_
            · trivial
            exact ev_iret rfl rfl rfl ⟨by rw [s_tel, if_neg (fun q => q hs), if_neg (by rintro (q | q); exact c13.1 q; exact c13.2 q), if_neg (fun q => q.1 w2), if_neg (fun q => q.1 w2), hWc, if_pos ((so_p1 ho.1).1.mp (h0.symm.trans (Classical.byContradiction c55)))], xFm.rf⟩
        · exact absurd (wh_2.mpr (Int32.not_le.mp c34)) (fun q => q w2)
      · refine ev_blk 2 [] 23 ([some (.ref 57), some (.int (s)), some (.int (x)), some (.int (wh)), none, none, none], [.int (x), .ref 57], σ) rfl ?_ ?_
        · trivial
        refine ev_callV M_X6_isShip [.int (x)] [] 57 rfl rfl ln_X6_136 k_X6_isShip rfl rfl rfl rfl rfl rfl (m_isShip _ _) ?_
        refine pu_k ?_
        show xEv _ _ _ 26 ([some (.ref 57), some (.int (s)), some (.int (x)), some (.int (wh)), none, none, none], [.int (zi (¬ x < 0 ∧ ¬ σ 57 0 - 1 < x))], σ)
        refine ev_br 0 [] (¬ (zi (¬ x < 0 ∧ ¬ σ 57 0 - 1 < x)) = 0) 32 29 ([some (.ref 57), some (.int (s)), some (.int (x)), some (.int (wh)), none, none, none], [], σ) rfl ?_ (fun c26 => ?_) (fun c26 => ?_)
        · trivial
        · replace c26 := zi_1.mp c26
          have hs := iN4.mp c4
          obtain ⟨W, hW, _, rfl⟩ := iN_of hs
          have hWc : (nI W).toNatClampNeg = W := nI_clamp (by omega)
          have hin : vp_in (nI W) 4 := vp_in_nI hW (by decide)
          obtain ⟨ho, h0, h1, hi⟩ := hD W hW
          have hx := (show iN n x from (by rw [hn] at c26; exact (mSh hn10).mp c26))
          obtain ⟨j, hj, hj31, rfl⟩ := iN_of hx
          have hjc : (nI j).toNatClampNeg = j := nI_clamp hj31
          have hinj : vp_in (nI j) 10 := vp_in_nI (by omega) (by decide)
          have w2 := wh_2.mpr (Int32.not_le.mp c18)
          refine ev_br 2 [] (wh ≤ (1 : Int32)) 49 37 ([some (.ref 57), some (.int (nI W)), some (.int (nI j)), some (.int (wh)), none, none, none], [], σ) rfl ?_ (fun c34 => ?_) (fun c34 => ?_)
          · trivial
          · exact absurd (show (1 : Int32) < wh from wh_2.mp w2) (Int32.not_lt.mpr c34)
          · refine ev_br 4 [vp_in (nI j) 10] (((σ 64) (nI j).toNatClampNeg) = 0) 49 46 ([some (.ref 57), some (.int (nI W)), some (.int (nI j)), some (.int (wh)), none, none, none], [], σ) rfl ?_ (fun c43 => ?_) (fun c43 => ?_)
            · exact hinj
            · rw [hjc] at c43
              refine ev_br 4 [vp_in (nI W) 4] (¬ ((σ 86) (nI W).toNatClampNeg) = 0) 61 58 ([some (.ref 57), some (.int (nI W)), some (.int (nI j)), some (.int (wh)), none, none, none], [], σ) rfl ?_ (fun c55 => ?_) (fun c55 => ?_)
              · exact hin
              · rw [hWc] at c55
                refine ev_br 5 [vp_in (nI W) 4] (((σ 87) (nI W).toNatClampNeg) ≤ (8 : Int32)) 75 72 ([some (.ref 57), some (.int (nI W)), some (.int (nI j)), some (.int (wh)), none, none, none], [], σ) rfl ?_ (fun c69 => ?_) (fun c69 => ?_)
                · exact hin
                · rw [hWc] at c69
                  refine ev_br 1 [] (¬ wh = 0) 85 79 ([some (.ref 57), some (.int (nI W)), some (.int (nI j)), some (.int (wh)), none, none, none], [], σ) rfl ?_ (fun c76 => ?_) (fun c76 => ?_)
                  · trivial
                  · refine ev_br 4 [] (¬ wh = (1 : Int32)) 153 93 ([some (.ref 57), some (.int (nI W)), some (.int (nI j)), some (.int (wh)), some (.int ((0 : Int32))), none, none], [], σ) rfl ?_ (fun c90 => ?_) (fun c90 => ?_)
                    · trivial
                    · refine ev_br 2 [] (¬ wh = (2 : Int32)) 219 158 ([some (.ref 57), some (.int (nI W)), some (.int (nI j)), some (.int (wh)), some (.int ((0 : Int32))), none, none], [], σ) rfl ?_ (fun c155 => ?_) (fun c155 => ?_)
                      · trivial
                      · refine ev_blk 7 [vp_in (nI j) 10] 230 ([some (.ref 57), some (.int (nI W)), some (.int (nI j)), some (.int (wh)), some (.int ((0 : Int32))), some (.int ((σ 59) (nI j).toNatClampNeg)), some (.int ((1 : Int32)))], [], σ) rfl ?_ ?_
                        · exact hinj
                        rw [hjc]
                        refine ev_post ?_ (m_tells_ln σ n A B hM hL W _ hW h1 ho.2 j hj wh _ _ rfl 9 1 0 σ (by omega) (by omega) ⟨fun _ _ _ => rfl, fun _ _ => rfl⟩ (fun _ _ => rfl) rfl)
                        rintro r σ2 ⟨rfl, hf2⟩
                        refine ⟨?_, hf2⟩
                        rw [s_tel, if_neg (fun q => q hs), if_neg (by rintro (q | q); exact c13.1 q; exact c13.2 q), if_neg (fun q => q.2 hx), if_neg (fun q => absurd q.2 (by rw [hjc, st_0.mp ((hst j hj).symm.trans c43)]; decide)), hWc, if_neg (fun q => c55 (h0.trans ((so_p1 ho.1).1.mpr q))), if_neg (fun q => absurd (show σ 87 W ≤ 8 from c69) (by rw [h1]; exact Int32.not_le.mpr (nI_lt (a := 8) q (by have := ho.2; omega)))), if_neg c76, if_neg c90, if_neg c155, hjc]
                        exact congrArg (fun z => some (Value.int z)) (s_tri_c (fun v _ _ => s_unl_c (fun j _ hj => hi j (by have := ho.2; omega))))
                      · refine ev_blk 7 [vp_in (nI j) 10] 169 ([some (.ref 57), some (.int (nI W)), some (.int (nI j)), some (.int (wh)), some (.int ((0 : Int32))), some (.int ((σ 58) (nI j).toNatClampNeg)), some (.int ((0 : Int32)))], [], σ) rfl ?_ ?_
                        · exact hinj
                        rw [hjc]
                        refine ev_post ?_ (m_tells_kd σ n A B hM hL W _ hW h1 ho.2 j hj wh _ _ rfl 6 0 0 σ (by omega) (by omega) ⟨fun _ _ _ => rfl, fun _ _ => rfl⟩ (fun _ _ => rfl) rfl)
                        rintro r σ2 ⟨rfl, hf2⟩
                        refine ⟨?_, hf2⟩
                        rw [s_tel, if_neg (fun q => q hs), if_neg (by rintro (q | q); exact c13.1 q; exact c13.2 q), if_neg (fun q => q.2 hx), if_neg (fun q => absurd q.2 (by rw [hjc, st_0.mp ((hst j hj).symm.trans c43)]; decide)), hWc, if_neg (fun q => c55 (h0.trans ((so_p1 ho.1).1.mpr q))), if_neg (fun q => absurd (show σ 87 W ≤ 8 from c69) (by rw [h1]; exact Int32.not_le.mpr (nI_lt (a := 8) q (by have := ho.2; omega)))), if_neg c76, if_neg c90, if_pos (Classical.byContradiction c155), hjc]
                        exact congrArg (fun z => some (Value.int z)) (s_tri_c (fun v _ _ => s_unl_c (fun j _ hj => hi j (by have := ho.2; omega))))
                    · exact absurd (show wh < 2 by rw [Classical.byContradiction c90]; decide) w2
                  · exact absurd (show wh < 2 by rw [Classical.byContradiction c76]; decide) w2
                · rw [hWc] at c69
                  refine ev_blk 1 [] 74 ([some (.ref 57), some (.int (nI W)), some (.int (nI j)), some (.int (wh)), none, none, none], [.int ((-2 : Int32))], σ) rfl ?_ ?_
                  · trivial
                  exact ev_iret rfl rfl rfl ⟨by rw [s_tel, if_neg (fun q => q hs), if_neg (by rintro (q | q); exact c13.1 q; exact c13.2 q), if_neg (fun q => q.2 hx), if_neg (fun q => absurd q.2 (by rw [hjc, st_0.mp ((hst j hj).symm.trans c43)]; decide)), hWc, if_neg (fun q => c55 (h0.trans ((so_p1 ho.1).1.mpr q))), if_pos (by have := mt (fun z => nI_le (a := (D W).2.1) (b := 8) z (by omega)) (by rw [← h1]; exact c69); omega)], xFm.rf⟩
              · rw [hWc] at c55
                refine ev_blk 1 [] 60 ([some (.ref 57), some (.int (nI W)), some (.int (nI j)), some (.int (wh)), none, none, none], [.int ((-11 : Int32))], σ) rfl ?_ ?_
                · trivial
                exact ev_iret rfl rfl rfl ⟨by rw [s_tel, if_neg (fun q => q hs), if_neg (by rintro (q | q); exact c13.1 q; exact c13.2 q), if_neg (fun q => q.2 hx), if_neg (fun q => absurd q.2 (by rw [hjc, st_0.mp ((hst j hj).symm.trans c43)]; decide)), hWc, if_pos ((so_p1 ho.1).1.mp (h0.symm.trans (Classical.byContradiction c55)))], xFm.rf⟩
            · rw [hjc] at c43
              refine ev_blk 1 [] 48 ([some (.ref 57), some (.int (nI W)), some (.int (nI j)), some (.int (wh)), none, none, none], [.int ((-3 : Int32))], σ) rfl ?_ ?_
              · trivial
              exact ev_iret rfl rfl rfl ⟨by rw [s_tel, if_neg (fun q => q hs), if_neg (by rintro (q | q); exact c13.1 q; exact c13.2 q), if_neg (fun q => q.2 hx), if_pos ⟨w2, by rw [hjc]; exact st_0f.mp (by rw [← hst j hj]; exact c43)⟩], xFm.rf⟩
        · replace c26 := zi_n.mp c26
          refine ev_blk 1 [] 31 ([some (.ref 57), some (.int (s)), some (.int (x)), some (.int (wh)), none, none, none], [.int ((-2 : Int32))], σ) rfl ?_ ?_
          · trivial
          exact ev_iret rfl rfl rfl ⟨by rw [s_tel, if_neg (fun q => q (iN4.mp c4)), if_neg (by rintro (q | q); exact c13.1 q; exact c13.2 q), if_pos ⟨wh_2.mpr (Int32.not_le.mp c18), fun q => c26 (by rw [hn]; exact (mSh hn10).mpr q)⟩], xFm.rf⟩
