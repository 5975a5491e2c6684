def s_fnd (f : Nat → Int32) (wa : Int32) : Nat → Nat → Int32 → Option (Nat × Int32)
  | 0, _, _ => none
  | m + 1, d, us => if s_alw f d (us + wa) = true then some (d, us) else s_fnd f wa m (d + 1) 0
theorem s_day_fnd {f : Nat → Int32} {wa : Int32} : ∀ (m d : Nat), s_day f wa m d = match s_fnd f wa m d 0 with
    | none => -1
    | some q => nI q.1
  | 0, _ => rfl
  | m + 1, d => by
    unfold s_day s_fnd
    rw [Int32.zero_add]
    by_cases h : s_alw f d wa = true
    · rw [if_pos h, if_pos h]
    · rw [if_neg h, if_neg h]
      exact s_day_fnd m (d + 1)
theorem s_fnd_0 {f : Nat → Int32} {wa : Int32} : ∀ {m d : Nat} {q : Nat × Int32}, s_fnd f wa m d 0 = some q → q.2 = 0 ∧ d ≤ q.1 ∧ q.1 < d + m
  | 0, _, _, h => by cases h
  | m + 1, d, q, h => by
    unfold s_fnd at h
    split at h
    · cases h; exact ⟨rfl, Nat.le_refl _, by omega⟩
    · obtain ⟨a, b, c⟩ := s_fnd_0 h
      exact ⟨a, by omega, by omega⟩
theorem s_dnx_fnd {f : Nat → Int32} {wa us : Int32} {m d : Nat} (hd : d + (m + 1) = 200) : s_dnx f d us wa = match s_fnd f wa (m + 1) d us with
    | none => -1
    | some q => nI q.1 := by
  unfold s_dnx s_fnd
  by_cases h : s_alw f d (us + wa) = true
  · rw [if_pos h, if_pos h]
  · rw [if_neg h, if_neg h, show 199 - d = m by omega]
    exact s_day_fnd m (d + 1)
theorem s_fnd_us {f : Nat → Int32} {wa us : Int32} {m d : Nat} {q : Nat × Int32} (h : s_fnd f wa (m + 1) d us = some q) : q.2 + wa = (if q.1 = d then us + wa else wa) ∧ q.1 < d + (m + 1) := by
  unfold s_fnd at h
  split at h
  · cases h; exact ⟨by rw [if_pos rfl], by omega⟩
  · obtain ⟨a, b, c⟩ := s_fnd_0 h
    exact ⟨by rw [if_neg (by omega), a, Int32.zero_add], by omega⟩
set_option maxRecDepth 100000 in
theorem m_drought_in (σ1 : xSg) (f : Nat → Int32) (hf : ∀ i, i < 100 → σ1 70 i = f i + 1) (wa la : Int32) (Q : Option Value → xSg → Prop) (V : Option (Nat × Int32)) (kN : ∀ us : Int32, V = none → xEv (.inl 4) M_X6_drought Q 59 ([some (.ref 57), some (.int (nI 200)), some (.int (us)), some (.int (la)), some (.int (wa))], [], σ1)) (kS : ∀ (d : Nat) (us : Int32), V = some (d, us) → d < 200 → xEv (.inl 4) M_X6_drought Q 59 ([some (.ref 57), some (.int (nI d)), some (.int (us)), some (.int (la)), some (.int (wa))], [], σ1)) : ∀ (m d : Nat) (us : Int32), d + m = 200 → s_fnd f wa m d us = V → xEv (.inl 4) M_X6_drought Q 23 ([some (.ref 57), some (.int (nI d)), some (.int (us)), some (.int (la)), some (.int (wa))], [], σ1) := by
  intro m
  induction m with
  | zero =>
    intro d us hd hV
    refine ev_br 2 [] ((200 : Int32) ≤ (nI d)) 59 30 ([some (.ref 57), some (.int (nI d)), some (.int (us)), some (.int (la)), some (.int (wa))], [], σ1) rfl ?_ (fun c27 => ?_) (fun c27 => ?_)
    · trivial
    · have e : d = 200 := by omega
      subst e
      exact kN us hV.symm
    · exact absurd (show (200 : Int32) ≤ nI d from nI_le (a := 200) (by omega) (by omega)) c27
  | succ m ih =>
    intro d us hd hV
    refine ev_br 2 [] ((200 : Int32) ≤ (nI d)) 59 30 ([some (.ref 57), some (.int (nI d)), some (.int (us)), some (.int (la)), some (.int (wa))], [], σ1) rfl ?_ (fun c27 => ?_) (fun c27 => ?_)
    · trivial
    · exact absurd c27 (nI_ge (b := 200) (by omega) (by decide))
    · refine ev_blk 2 [] 32 ([some (.ref 57), some (.int (nI d)), some (.int (us)), some (.int (la)), some (.int (wa))], [.int (nI d), .ref 57], σ1) rfl ?_ ?_
      · trivial
      refine ev_callV M_X6_mayOf [.int (nI d)] [] 57 rfl rfl ln_X6_129 k_X6_mayOf rfl rfl rfl rfl rfl rfl (m_mayOf σ1 f hf d (by omega)) ?_
      refine pu_k ?_
      show xEv _ _ _ 35 ([some (.ref 57), some (.int (nI d)), some (.int (us)), some (.int (la)), some (.int (wa))], [.int (s_bnd f d)], σ1)
      refine ev_br 1 [] ((s_bnd f d) = (-1 : Int32)) 59 39 ([some (.ref 57), some (.int (nI d)), some (.int (us)), some (.int (la)), some (.int (wa))], [], σ1) rfl ?_ (fun c36 => ?_) (fun c36 => ?_)
      · trivial
      · exact kS d us (by rw [← hV, s_fnd, if_pos (show s_alw f d (us + wa) = true from decide_eq_true (Or.inl c36))]) (by omega)
      · refine ev_blk 5 [] 45 ([some (.ref 57), some (.int (nI d)), some (.int (us)), some (.int (la)), some (.int (wa))], [.int (nI d), .ref 57, .int (us + wa)], σ1) rfl ?_ ?_
        · trivial
        refine ev_callV M_X6_mayOf [.int (nI d)] [.int (us + wa)] 57 rfl rfl ln_X6_129 k_X6_mayOf rfl rfl rfl rfl rfl rfl (m_mayOf σ1 f hf d (by omega)) ?_
        refine pu_k ?_
        show xEv _ _ _ 48 ([some (.ref 57), some (.int (nI d)), some (.int (us)), some (.int (la)), some (.int (wa))], [.int (s_bnd f d), .int (us + wa)], σ1)
        refine ev_br 0 [] ((us + wa) ≤ (s_bnd f d)) 59 51 ([some (.ref 57), some (.int (nI d)), some (.int (us)), some (.int (la)), some (.int (wa))], [], σ1) rfl ?_ (fun c48 => ?_) (fun c48 => ?_)
        · trivial
        · exact kS d us (by rw [← hV, s_fnd, if_pos (show s_alw f d (us + wa) = true from decide_eq_true (Or.inr (Int32.not_lt.mpr c48)))]) (by omega)
        · refine ev_blk 4 [] 23 ([some (.ref 57), some (.int ((nI d) + (1 : Int32))), some (.int ((0 : Int32))), some (.int (la)), some (.int (wa))], [], σ1) rfl ?_ ?_
          · trivial
          rw [nI_1]
          exact ih (d + 1) 0 (by omega) (by rw [← hV, s_fnd, if_neg (show ¬ s_alw f d (us + wa) = true from fun q => by rcases of_decide_eq_true q with q | q; exact c36 q; exact q (Int32.not_le.mp c48))])
set_option maxRecDepth 100000 in
theorem m_drought_lp (σ : xSg) (n : Nat) (a : sAt) (tk : sTk) (ha : atM σ = a) (ht : tkM σ = tk) (f : Nat → Int32) (hf0 : ∀ i, i < 100 → σ 70 i = f i + 1) (V : Int32) : ∀ (m d : Nat) (us la : Int32) (A B : List Nat) (σ1 : xSg), A.length + B.length ≤ m → d < 200 → mOk σ1 n A B → SR σ1 A B → xFm scM scP σ σ1 → s_dr a tk f m A B d us la = V → xEv (.inl 4) M_X6_drought (fun r σ2 => r = some (.int V) ∧ xFm scM scP σ σ2) 10 ([some (.ref 57), some (.int (nI d)), some (.int (us)), some (.int (la)), none], [], σ1) := by
  intro m
  induction m with
  | zero =>
    intro d us la A B σ1 hm hd hM1 hR1 hfr hV
    have ha1 : atM σ1 = a := (atM_fr hfr rfl).trans ha
    have ht1 : tkM σ1 = tk := (tkM_fr (hfr.1 69 (by decide) (by decide))).trans ht
    have hn10 := hM1.1.1
    have hw0 : s_went (s_fill a tk A B) = [] := Classical.byContradiction (fun q => by have := mOk_less (a := a) (tk := tk) hM1 q; omega)
    refine ev_blk 1 [] 11 ([some (.ref 57), some (.int (nI d)), some (.int (us)), some (.int (la)), none], [.ref 57], σ1) rfl ?_ ?_
    · trivial
    refine ev_callV M_X6_fills [] [] 57 rfl rfl ln_X6_172 k_X6_fills rfl rfl rfl rfl rfl rfl (m_fills σ1 n A B hM1.1 hM1.2.1 hR1 hM1.2.2.1 hM1.2.2.2.1 hM1.2.2.2.2.1) ?_
    rintro r σ2 ⟨rfl, hF, hR2, hf2⟩
    rw [ha1, ht1] at hF hR2 ⊢
    have hfr2 : xFm scM scP σ σ2 := hfr.tr (hf2.mono rfl rfl)
    have hl10 : (s_went (s_fill a tk A B)).length ≤ 10 := hF.1
    show xEv _ _ _ 14 ([some (.ref 57), some (.int (nI d)), some (.int (us)), some (.int (la)), none], [.int (nI (s_went (s_fill a tk A B)).length)], σ2)
    refine ev_br 0 [] ((nI (s_went (s_fill a tk A B)).length) ≤ 0) 78 17 ([some (.ref 57), some (.int (nI d)), some (.int (us)), some (.int (la)), none], [], σ2) rfl ?_ (fun c14 => ?_) (fun c14 => ?_)
    · trivial
    · refine ev_blk 1 [] 79 ([some (.ref 57), some (.int (nI d)), some (.int (us)), some (.int (la)), none], [.int (la)], σ2) rfl ?_ ?_
      · trivial
      exact ev_iret rfl rfl rfl ⟨by rw [← hV]; rfl, hfr2⟩
    · exact absurd (by rw [hw0]; decide) c14
  | succ m ih =>
    intro d us la A B σ1 hm hd hM1 hR1 hfr hV
    have ha1 : atM σ1 = a := (atM_fr hfr rfl).trans ha
    have ht1 : tkM σ1 = tk := (tkM_fr (hfr.1 69 (by decide) (by decide))).trans ht
    have hn10 := hM1.1.1
    refine ev_blk 1 [] 11 ([some (.ref 57), some (.int (nI d)), some (.int (us)), some (.int (la)), none], [.ref 57], σ1) rfl ?_ ?_
    · trivial
    refine ev_callV M_X6_fills [] [] 57 rfl rfl ln_X6_172 k_X6_fills rfl rfl rfl rfl rfl rfl (m_fills σ1 n A B hM1.1 hM1.2.1 hR1 hM1.2.2.1 hM1.2.2.2.1 hM1.2.2.2.2.1) ?_
    rintro r σ2 ⟨rfl, hF, hR2, hf2⟩
    rw [ha1, ht1] at hF hR2 ⊢
    have hfr2 : xFm scM scP σ σ2 := hfr.tr (hf2.mono rfl rfl)
    have hl10 : (s_went (s_fill a tk A B)).length ≤ 10 := hF.1
    show xEv _ _ _ 14 ([some (.ref 57), some (.int (nI d)), some (.int (us)), some (.int (la)), none], [.int (nI (s_went (s_fill a tk A B)).length)], σ2)
    refine ev_br 0 [] ((nI (s_went (s_fill a tk A B)).length) ≤ 0) 78 17 ([some (.ref 57), some (.int (nI d)), some (.int (us)), some (.int (la)), none], [], σ2) rfl ?_ (fun c14 => ?_) (fun c14 => ?_)
    · trivial
    · refine ev_blk 1 [] 79 ([some (.ref 57), some (.int (nI d)), some (.int (us)), some (.int (la)), none], [.int (la)], σ2) rfl ?_ ?_
      · trivial
      have hw0 : s_went (s_fill a tk A B) = [] := by
        cases hww : s_went (s_fill a tk A B) with
        | nil => rfl
        | cons q t => rw [hww] at c14 hl10; exact absurd c14 (nI_nle (by simp) (by omega))
      exact ev_iret rfl rfl rfl ⟨by rw [← hV, s_dr, hw0], hfr2⟩
    · refine ev_blk 1 [] 18 ([some (.ref 57), some (.int (nI d)), some (.int (us)), some (.int (la)), none], [.ref 57], σ2) rfl ?_ ?_
      · trivial
      refine ev_callV M_X6_spends [] [] 57 rfl rfl ln_X6_178 k_X6_spends rfl rfl rfl rfl rfl rfl (m_spends σ2 _ hF (mOk_went hM1)) ?_
      refine pu_k ?_
      show xEv _ _ _ 21 ([some (.ref 57), some (.int (nI d)), some (.int (us)), some (.int (la)), none], [.int (s_spend (atM σ2) (s_fill a tk A B).2.2.2.2.2.2)], σ2)
      refine ev_blk 1 [] 23 ([some (.ref 57), some (.int (nI d)), some (.int (us)), some (.int (la)), some (.int (s_spend (atM σ2) (s_fill a tk A B).2.2.2.2.2.2))], [], σ2) rfl ?_ ?_
      · trivial
      have ha2 : atM σ2 = a := (atM_fr hf2 rfl).trans ha1
      rw [ha2]
      have hwn : ∃ q t, s_went (s_fill a tk A B) = q :: t := by
        cases hww : s_went (s_fill a tk A B) with
        | nil => rw [hww] at c14; exact absurd (show nI 0 ≤ 0 by decide) c14
        | cons q t => exact ⟨q, t, rfl⟩
      have hwn2 : s_went (s_fill a tk A B) ≠ [] := by obtain ⟨q, t, e⟩ := hwn; rw [e]; simp
      have hlt := mOk_less hM1 hwn2
      have hf2b : ∀ i, i < 100 → σ2 70 i = f i + 1 := fun i hi => by rw [hfr2.1 70 (by decide) (by decide)]; exact hf0 i hi
      have hdx := s_dnx_fnd (f := f) (wa := (s_spend a (s_went (s_fill a tk A B)))) (us := us) (m := 199 - d) (d := d) (by omega)
      have hst : s_dr a tk f (m + 1) A B d us la = if s_dnx f d us (s_spend a (s_went (s_fill a tk A B))) = -1 then -1 else s_dr a tk f m (s_fill a tk A B).1 (s_fill a tk A B).2.1 (s_dnx f d us (s_spend a (s_went (s_fill a tk A B)))).toNatClampNeg (if s_dnx f d us (s_spend a (s_went (s_fill a tk A B))) = nI d then us + (s_spend a (s_went (s_fill a tk A B))) else (s_spend a (s_went (s_fill a tk A B)))) (s_dnx f d us (s_spend a (s_went (s_fill a tk A B)))) := by
        obtain ⟨q, t, e⟩ := hwn
        rw [s_dr, e]
      rw [hst] at hV
      refine m_drought_in σ2 f hf2b (s_spend a (s_went (s_fill a tk A B))) la _ (s_fnd f (s_spend a (s_went (s_fill a tk A B))) (199 - d + 1) d us) (fun us2 eN => ?_) (fun d2 us2 eS hd2 => ?_) (199 - d + 1) d us (by omega) rfl
      · refine ev_br 2 [] (¬ (nI 200) = (200 : Int32)) 68 66 ([some (.ref 57), some (.int (nI 200)), some (.int (us2)), some (.int (la)), some (.int ((s_spend a (s_went (s_fill a tk A B)))))], [], σ2) rfl ?_ (fun c63 => ?_) (fun c63 => ?_)
        · trivial
        · exact absurd rfl c63
        · refine ev_blk 1 [] 67 ([some (.ref 57), some (.int (nI 200)), some (.int (us2)), some (.int (la)), some (.int ((s_spend a (s_went (s_fill a tk A B)))))], [.int ((-1 : Int32))], σ2) rfl ?_ ?_
          · trivial
          exact ev_iret rfl rfl rfl ⟨by rw [← hV, hdx, eN, if_pos rfl], hfr2⟩
      · refine ev_br 2 [] (¬ (nI d2) = (200 : Int32)) 68 66 ([some (.ref 57), some (.int (nI d2)), some (.int (us2)), some (.int (la)), some (.int ((s_spend a (s_went (s_fill a tk A B)))))], [], σ2) rfl ?_ (fun c63 => ?_) (fun c63 => ?_)
        · trivial
        · refine ev_blk 7 [] 10 ([some (.ref 57), some (.int (nI d2)), some (.int (us2 + (s_spend a (s_went (s_fill a tk A B))))), some (.int (nI d2)), some (.int ((s_spend a (s_went (s_fill a tk A B)))))], [], σ2) rfl ?_ ?_
          · trivial
          refine ev_drop 4 ?_
          have hus : us2 + (s_spend a (s_went (s_fill a tk A B))) = (if d2 = d then us + (s_spend a (s_went (s_fill a tk A B))) else (s_spend a (s_went (s_fill a tk A B)))) := (s_fnd_us eS).1
          have hdd : s_dnx f d us (s_spend a (s_went (s_fill a tk A B))) = nI d2 := by rw [hdx, eS]
          rw [hdd, if_neg (nI_m1 (by omega)), nI_clamp (by omega)] at hV
          refine ih d2 _ _ _ _ σ2 (by omega) hd2 (mOk_nx (mOk_fr hM1 hf2 rfl)) hR2 hfr2 ?_
          rw [← hV]
          congr 1
          rw [hus]
          by_cases q : d2 = d
          · rw [if_pos q, if_pos (by rw [q])]
          · rw [if_neg q, if_neg (fun z => q ((nI_eq (by omega) (by omega)).mp z))]
        · exact absurd (Classical.byContradiction c63) (fun z => absurd ((nI_eq (b := 200) (by omega) (by decide)).mp z) (by omega))
set_option maxRecDepth 100000 in
theorem m_drought (σ : xSg) (n : Nat) (A B : List Nat) (hM : mOk σ n A B) (hL : LR σ A B) (f : Nat → Int32) (hf0 : ∀ i, i < 100 → σ 70 i = f i + 1) : xCtr M_X6_drought [.ref 57] σ (fun r σ2 => r = some (.int (s_dr (atM σ) (tkM σ) f 10 A B 0 0 (-1))) ∧ xFm scM scP σ σ2) := by
  refine ctr_ev ok_X6_drought (by decide +kernel) rfl rfl rfl ?_
  show xEv (.inl 4) M_X6_drought _ 0 ([some (.ref 57), none, none, none, none], [], σ)
  refine ev_blk 1 [] 1 ([some (.ref 57), none, none, none, none], [.ref 57], σ) rfl ?_ ?_
  · trivial
  refine ev_callV M_X6_all [] [] 57 rfl rfl ln_X6_169 k_X6_all rfl rfl rfl rfl rfl rfl (m_all σ) ?_
  rintro r σ1 ⟨rfl, h74, h75, hf1⟩
  have hR1 := SR_all hL h74 h75
  have hM1 := mOk_fr hM hf1 rfl
  have ha1 := atM_fr hf1 rfl
  have ht1 : tkM σ1 = tkM σ := tkM_fr (hf1.1 69 (by decide) (by decide))
  show xEv _ _ _ 4 ([some (.ref 57), none, none, none, none], [], σ1)
  refine ev_blk 6 [] 10 ([some (.ref 57), some (.int ((0 : Int32))), some (.int ((0 : Int32))), some (.int ((-1 : Int32))), none], [], σ1) rfl ?_ ?_
  · trivial
  exact m_drought_lp σ n _ _ rfl rfl f hf0 _ 10 0 0 (-1) A B σ1 hM.2.2.2.2.1 (by decide) hM1 hR1 (hf1.mono rfl rfl) rfl
