theorem mx_mono {σ σ1 : xSg} (h : xFm [74, 75, 76, 77, 78, 79] [23] σ σ1) : xFm (scM ++ [86, 87, 88]) scP σ σ1 := h.mono rfl rfl
set_option maxRecDepth 100000 in
theorem m_film_lp (σ : xSg) (n : Nat) (A B : List Nat) (hM : mOk σ n A B) (hL : LR σ A B) (D : Nat → shD) (hD : shM σ D) (W m8 : Nat) (hW : W < 4) (hm8 : m8 ≤ 8) : ∀ (m i : Nat) (σ1 : xSg), i + m = 40 → mOk σ1 n (s_it (atM σ) (tkM σ) A B (if i ≤ m8 then i else m8)).1 (s_it (atM σ) (tkM σ) A B (if i ≤ m8 then i else m8)).2 → SR σ1 (s_it (atM σ) (tkM σ) A B (if i ≤ m8 then i else m8)).1 (s_it (atM σ) (tkM σ) A B (if i ≤ m8 then i else m8)).2 → xFm (scM ++ [86, 87, 88]) scP σ σ1 → (∀ k, k < 4 → σ1 86 k = if k = W then 1 else σ 86 k) → (∀ k, k < 4 → σ1 87 k = if k = W then nI m8 else σ 87 k) → (∀ j, j < i → σ1 88 (40 * W + j) = if j < m8 then nI (s_ct (atM σ) (tkM σ) A B j) else 0) → (∀ k, (k < 40 * W ∨ 40 * W + 40 ≤ k) → σ1 88 k = σ 88 k) → xEv (.inl 4) M_X6_film (shPM (scM ++ [86, 87, 88]) scP σ (nI m8, updD D W (0, m8, fun j => if j < m8 then nI (s_ct (atM σ) (tkM σ) A B j) else 0))) 40 ([some (.ref 57), some (.int (nI W)), some (.int (nI m8)), some (.int (nI i))], [], σ1) := by
  intro m
  induction m with
  | zero =>
    intro i σ1 hi hM1 hR1 hfr h86 h87 hit hout
    refine ev_br 2 [] ((40 : Int32) ≤ (nI i)) 76 46 ([some (.ref 57), some (.int (nI W)), some (.int (nI m8)), some (.int (nI i))], [], σ1) rfl ?_ (fun c43 => ?_) (fun c43 => ?_)
    · trivial
    · refine ev_blk 1 [] 77 ([some (.ref 57), some (.int (nI W)), some (.int (nI m8)), some (.int (nI i))], [.int (nI m8)], σ1) rfl ?_ ?_
      · trivial
      exact ev_iret rfl rfl rfl ⟨rfl, shM_put (W := W) hD ⟨Or.inr (Or.inl rfl), by show m8 ≤ 40; omega⟩ h86 h87 (fun j hj => hit j (by omega)) hout, hfr⟩
    · exact absurd (show (40 : Int32) ≤ nI i from nI_le (a := 40) (by omega) (by omega)) c43
  | succ m ih =>
    intro i σ1 hi hM1 hR1 hfr h86 h87 hit hout
    have hix : ((40 : Int32) * (nI W)) + (nI i) = nI (40 * W + i) := by rw [n40, nI_add]
    have hxc : (((40 : Int32) * (nI W)) + (nI i)).toNatClampNeg = 40 * W + i := by rw [hix, nI_clamp (by omega)]
    have ha1 : atM σ1 = atM σ := by unfold atM; rw [hfr.1 58 (by decide) (by decide), hfr.1 59 (by decide) (by decide), hfr.1 60 (by decide) (by decide), hfr.1 61 (by decide) (by decide), hfr.1 62 (by decide) (by decide), hfr.1 63 (by decide) (by decide), hfr.1 68 (by decide) (by decide)]
    have ht1 : tkM σ1 = tkM σ := tkM_fr (hfr.1 69 (by decide) (by decide))
    refine ev_br 2 [] ((40 : Int32) ≤ (nI i)) 76 46 ([some (.ref 57), some (.int (nI W)), some (.int (nI m8)), some (.int (nI i))], [], σ1) rfl ?_ (fun c43 => ?_) (fun c43 => ?_)
    · trivial
    · exact absurd c43 (nI_ge (b := 40) (by omega) (by decide))
    · refine ev_br 9 [] ((nI m8) ≤ (nI i)) 68 61 ([some (.ref 57), some (.int (nI W)), some (.int (nI m8)), some (.int (nI i))], [.int (((40 : Int32) * (nI W)) + (nI i)), .ref 88], σ1) rfl ?_ (fun c58 => ?_) (fun c58 => ?_)
      · trivial
      · refine ev_blk 4 [vp_in (((40 : Int32) * (nI W)) + (nI i)) 160] 40 ([some (.ref 57), some (.int (nI W)), some (.int (nI m8)), some (.int ((nI i) + (1 : Int32)))], [], (x_up σ1 88 (upd (σ1 88) (((40 : Int32) * (nI W)) + (nI i)).toNatClampNeg ((0 : Int32))))) rfl ?_ ?_
        · rw [hix]; exact vp_in_nI (by omega) (by decide)
        rw [hxc]
        rw [nI_1]
        have him : m8 ≤ i := (nI_leI (by omega) (by omega)).mp c58
        have hup : ∀ c, c ≠ 88 → (x_up σ1 88 (upd (σ1 88) (40 * W + i) (0))) c = σ1 c := fun c hc => x_up_ne hc
        have hfr3 : xFm (scM ++ [86, 87, 88]) scP σ (x_up σ1 88 (upd (σ1 88) (40 * W + i) (0))) := ⟨fun c hc hn => (hup c (fun z => hc (by rw [z]; decide))).trans (hfr.1 c hc hn), fun k hk => (congrFun (hup 57 (by decide)) k).trans (hfr.2 k hk)⟩
        have hMf : ∀ (A2 B2 : List Nat), mOk σ1 n A2 B2 → mOk (x_up σ1 88 (upd (σ1 88) (40 * W + i) (0))) n A2 B2 := fun A2 B2 h => mOk_fr (S := [88]) (P := []) h ⟨fun c hc hn => hup c (by simpa using hc), fun k _ => congrFun (hup 57 (by decide)) k⟩ rfl
        have ei : (if i + 1 ≤ m8 then i + 1 else m8) = (if i ≤ m8 then i else m8) := by
          by_cases q : i ≤ m8
          · rw [if_neg (by omega), if_pos q]; omega
          · rw [if_neg (by omega), if_neg q]
        refine ih (i + 1) _ (by omega) ?_ ?_ hfr3 (fun k hk => ?_) (fun k hk => ?_) (fun j hj => ?_) (fun k hk => ?_)
        · rw [ei]; exact hMf _ _ hM1
        · rw [ei]; exact SR_fr hR1 (hup 74 (by decide)) (hup 75 (by decide))
        · rw [hup 86 (by decide)]; exact h86 k hk
        · rw [hup 87 (by decide)]; exact h87 k hk
        · rw [x_up_eq]
          by_cases hji : j = i
          · rw [hji, upd_eq, if_neg (by omega)]
          · rw [upd_ne (by omega)]; exact hit j (by omega)
        · rw [x_up_eq, upd_ne (by omega)]; exact hout k hk
      · refine ev_blk 1 [] 62 ([some (.ref 57), some (.int (nI W)), some (.int (nI m8)), some (.int (nI i))], [.ref 57, .int (((40 : Int32) * (nI W)) + (nI i)), .ref 88], σ1) rfl ?_ ?_
        · trivial
        have him : i < m8 := (nI_ltI (by omega) (by omega)).mp (Int32.not_le.mp c58)
        rw [if_pos (by omega)] at hM1 hR1
        refine ev_callV M_X6_fills [] [.int (((40 : Int32) * (nI W)) + (nI i)), .ref 88] 57 rfl rfl ln_X6_172 k_X6_fills rfl rfl rfl rfl rfl rfl (m_fills σ1 n _ _ hM1.1 hM1.2.1 hR1 hM1.2.2.1 hM1.2.2.2.1 hM1.2.2.2.2.1) ?_
        rintro r σ2 ⟨rfl, hF, hR2, hf2⟩
        rw [ha1, ht1] at hR2 ⊢
        have hM2 := mOk_nx (a := atM σ) (tk := tkM σ) (mOk_fr hM1 hf2 rfl)
        have e88 : σ2 88 = σ1 88 := hf2.1 88 (by decide) (by decide)
        show xEv _ _ _ 65 ([some (.ref 57), some (.int (nI W)), some (.int (nI m8)), some (.int (nI i))], [.int (nI (s_ct (atM σ) (tkM σ) A B i)), .int (((40 : Int32) * (nI W)) + (nI i)), .ref 88], σ2)
        refine ev_blk 4 [vp_in (((40 : Int32) * (nI W)) + (nI i)) 160] 40 ([some (.ref 57), some (.int (nI W)), some (.int (nI m8)), some (.int ((nI i) + (1 : Int32)))], [], (x_up σ2 88 (upd (σ2 88) (((40 : Int32) * (nI W)) + (nI i)).toNatClampNeg (nI (s_ct (atM σ) (tkM σ) A B i))))) rfl ?_ ?_
        · rw [hix]; exact vp_in_nI (by omega) (by decide)
        rw [hxc]
        rw [nI_1]
        have hup : ∀ c, c ≠ 88 → (x_up σ2 88 (upd (σ2 88) (40 * W + i) (nI (s_ct (atM σ) (tkM σ) A B i)))) c = σ2 c := fun c hc => x_up_ne hc
        have hfr3 : xFm (scM ++ [86, 87, 88]) scP σ (x_up σ2 88 (upd (σ2 88) (40 * W + i) (nI (s_ct (atM σ) (tkM σ) A B i)))) := ⟨fun c hc hn => (hup c (fun z => hc (by rw [z]; decide))).trans ((hfr.tr (mx_mono hf2)).1 c hc hn), fun k hk => (congrFun (hup 57 (by decide)) k).trans ((hfr.tr (mx_mono hf2)).2 k hk)⟩
        have hMf : ∀ (A2 B2 : List Nat), mOk σ2 n A2 B2 → mOk (x_up σ2 88 (upd (σ2 88) (40 * W + i) (nI (s_ct (atM σ) (tkM σ) A B i)))) n A2 B2 := fun A2 B2 h => mOk_fr (S := [88]) (P := []) h ⟨fun c hc hn => hup c (by simpa using hc), fun k _ => congrFun (hup 57 (by decide)) k⟩ rfl
        refine ih (i + 1) _ (by omega) ?_ ?_ hfr3 (fun k hk => ?_) (fun k hk => ?_) (fun j hj => ?_) (fun k hk => ?_)
        · rw [if_pos (by omega)]; exact hMf _ _ hM2
        · rw [if_pos (by omega)]; exact SR_fr hR2 (hup 74 (by decide)) (hup 75 (by decide))
        · rw [hup 86 (by decide), hf2.1 86 (by decide) (by decide)]; exact h86 k hk
        · rw [hup 87 (by decide), hf2.1 87 (by decide) (by decide)]; exact h87 k hk
        · rw [x_up_eq]
          by_cases hji : j = i
          · rw [hji, upd_eq, if_pos him]
          · rw [upd_ne (by omega), e88]; exact hit j (by omega)
        · rw [x_up_eq, upd_ne (by omega), e88]; exact hout k hk
set_option maxRecDepth 100000 in
theorem m_film (σ : xSg) (n : Nat) (A B : List Nat) (hM : mOk σ n A B) (hL : LR σ A B) (D : Nat → shD) (hD : shM σ D) (s n8 : Int32) : xCtr M_X6_film [.ref 57, .int (s), .int (n8)] σ (shPM (scM ++ [86, 87, 88]) scP σ (s_flm (atM σ) (tkM σ) A B D s n8)) := by
  refine ctr_ev ok_X6_film (by decide +kernel) rfl rfl rfl ?_
  show xEv (.inl 4) M_X6_film _ 0 ([some (.ref 57), some (.int (s)), some (.int (n8)), none], [], σ)
  refine ev_blk 1 [] 1 ([some (.ref 57), some (.int (s)), some (.int (n8)), none], [.int (s)], σ) rfl ?_ ?_
  · trivial
  refine ev_callS M_X6_isSheet [.int (s)] [] rfl rfl ln_X6_203 k_X6_isSheet rfl rfl rfl (m_isSheet _ _) ?_
  refine pu_k ?_
  show xEv _ _ _ 4 ([some (.ref 57), some (.int (s)), some (.int (n8)), none], [.int (zi (¬ s < 0 ∧ ¬ (3 : Int32) < s))], σ)
  refine ev_br 0 [] ((zi (¬ s < 0 ∧ ¬ (3 : Int32) < s)) = 0) 17 7 ([some (.ref 57), some (.int (s)), some (.int (n8)), none], [], σ) rfl ?_ (fun c4 => ?_) (fun c4 => ?_)
  · trivial
  · replace c4 := zi_0.mp c4
    refine ev_blk 1 [] 19 ([some (.ref 57), some (.int (s)), some (.int (n8)), none], [.int ((-2 : Int32))], σ) rfl ?_ ?_
    · trivial
    have e : s_flm (atM σ) (tkM σ) A B D s n8 = (-2, D) := by rw [s_flm, if_pos (fun q => c4 (iN4.mpr q))]
    rw [e]
    exact ev_iret rfl rfl rfl ⟨rfl, hD, xFm.rf⟩
  · replace c4 := zi_1.mp c4
    refine ev_blk 3 [] 11 ([some (.ref 57), some (.int (s)), some (.int (n8)), none], [.int ((8 : Int32)), .int ((0 : Int32)), .int (n8)], σ) rfl ?_ ?_
    · trivial
    refine ev_callS M_X6_within [.int (n8), .int ((0 : Int32)), .int ((8 : Int32))] [] rfl rfl ln_X6_110 k_X6_within rfl rfl rfl (m_within _ _ _ _) ?_
    refine pu_k ?_
    show xEv _ _ _ 14 ([some (.ref 57), some (.int (s)), some (.int (n8)), none], [.int (zi (¬ n8 < (0 : Int32) ∧ ¬ (8 : Int32) < n8))], σ)
    refine ev_br 0 [] (¬ (zi (¬ n8 < (0 : Int32) ∧ ¬ (8 : Int32) < n8)) = 0) 20 17 ([some (.ref 57), some (.int (s)), some (.int (n8)), none], [], σ) rfl ?_ (fun c14 => ?_) (fun c14 => ?_)
    · trivial
    · replace c14 := zi_1.mp c14
      have hs := iN4.mp c4
      obtain ⟨W, hW, _, rfl⟩ := iN_of hs
      have hWc : (nI W).toNatClampNeg = W := nI_clamp (by omega)
      have hin : vp_in (nI W) 4 := vp_in_nI hW (by decide)
      obtain ⟨m8, hm, rfl⟩ := nI_of c14.1
      have hm8 : m8 ≤ 8 := by have := mt (fun z => nI_lt (a := 8) (b := m8) z (by omega)) c14.2; omega
      have hmc : (nI m8).toNatClampNeg = m8 := nI_clamp hm
      have e : s_flm (atM σ) (tkM σ) A B D (nI W) (nI m8) = (nI m8, updD D W (0, m8, fun j => if j < m8 then nI (s_ct (atM σ) (tkM σ) A B j) else 0)) := by rw [s_flm, if_neg (fun q => q hs), if_neg (by rintro (q | q); exact c14.1 q; exact c14.2 q), hWc, hmc]
      rw [e]
      refine ev_blk 1 [] 21 ([some (.ref 57), some (.int (nI W)), some (.int (nI m8)), none], [.ref 57], σ) rfl ?_ ?_
      · trivial
      refine ev_callV M_X6_all [] [] 57 rfl rfl ln_X6_169 k_X6_all rfl rfl rfl rfl rfl rfl (m_all σ) ?_
      rintro r σ1 ⟨rfl, h74, h75, hf1⟩
      have hR1 := SR_all hL h74 h75
      have hM1 := mOk_fr hM hf1 rfl
      have ha1 := atM_fr hf1 rfl
      have ht1 : tkM σ1 = tkM σ := tkM_fr (hf1.1 69 (by decide) (by decide))
      show xEv _ _ _ 24 ([some (.ref 57), some (.int (nI W)), some (.int (nI m8)), none], [], σ1)
      refine ev_blk 12 [vp_in (nI W) 4, vp_in (nI W) 4] 40 ([some (.ref 57), some (.int (nI W)), some (.int (nI m8)), some (.int ((0 : Int32)))], [], (x_up (x_up σ1 86 (upd (σ1 86) (nI W).toNatClampNeg ((1 : Int32)))) 87 (upd (σ1 87) (nI W).toNatClampNeg (nI m8)))) rfl ?_ ?_
      · exact ⟨hin, hin⟩
      rw [hWc]
      have hup : ∀ c, c ≠ 86 → c ≠ 87 → (x_up (x_up σ1 86 (upd (σ1 86) W ((1 : Int32)))) 87 (upd (σ1 87) W (nI m8))) c = σ1 c := fun c h1 h2 => by simp [x_up, h1, h2]
      refine m_film_lp σ n A B hM hL D hD W m8 hW hm8 40 0 _ (by omega) ?_ ?_ ⟨fun c hc hn => (hup c (fun z => hc (by rw [z]; decide)) (fun z => hc (by rw [z]; decide))).trans (hf1.1 c (fun z => hc (by revert z; simp only [List.mem_cons, List.not_mem_nil, or_false]; rintro (rfl | rfl) <;> decide)) hn), fun k hk => (congrFun (hup 57 (by decide) (by decide)) k).trans (hf1.2 k (by simp))⟩ (fun k hk => ?_) (fun k hk => ?_) (fun j hj => absurd hj (Nat.not_lt_zero j)) (fun k hk => ?_)
      · rw [if_pos (Nat.zero_le _)]; exact mOk_fr (S := [86, 87]) (P := []) hM1 ⟨fun c hc hn => hup c (fun z => hc (by rw [z]; decide)) (fun z => hc (by rw [z]; decide)), fun k _ => congrFun (hup 57 (by decide) (by decide)) k⟩ rfl
      · rw [if_pos (Nat.zero_le _)]; exact SR_fr hR1 (hup 74 (by decide) (by decide)) (hup 75 (by decide) (by decide))
      · by_cases q : k = W
        · simp [x_up, upd, q]
        · simp [x_up, upd, q, hf1.1 86 (by decide) (by decide)]
      · by_cases q : k = W
        · simp [x_up, upd, q]
        · simp [x_up, upd, q, hf1.1 87 (by decide) (by decide)]
      · rw [hup 88 (by decide) (by decide), hf1.1 88 (by decide) (by decide)]
    · replace c14 := zi_n.mp c14
      refine ev_blk 1 [] 19 ([some (.ref 57), some (.int (s)), some (.int (n8)), none], [.int ((-2 : Int32))], σ) rfl ?_ ?_
      · trivial
      have e : s_flm (atM σ) (tkM σ) A B D s n8 = (-2, D) := by rw [s_flm, if_neg (fun q => q (iN4.mp c4)), if_pos (Classical.byContradiction (fun q => c14 ⟨fun z => q (Or.inl z), fun z => q (Or.inr z)⟩))]
      rw [e]
      exact ev_iret rfl rfl rfl ⟨rfl, hD, xFm.rf⟩
