def dP (σ : xSg) (D : Nat) (σ' : xSg) : Prop := σ' 57 16 = nI ((if D < 6 then D else 5) + 1) ∧ kpR σ (σ' 72) (43 * (if D < 6 then D else 5)) ∧ ∀ j, j < 43 * (if D < 6 then D else 5) → σ' 72 j = if D < 6 then σ 72 j else σ 72 (j + 43)
def flM (σ : xSg) (a : sAt) (T : sSt) (D l : Nat) : Option Value → xSg → Prop := fun r σ' => (s_went T = [] ∧ r = some (.int (-3)) ∧ xFm scM scP σ σ') ∨ (s_went T ≠ [] ∧ l = 40 ∧ r = some (.int (-4)) ∧ xFm scM scP σ σ') ∨ (s_went T ≠ [] ∧ l < 40 ∧ r = some (.int (nI (s_went T).length)) ∧
  (∀ j, j < 10 → σ' 64 j = if j ∈ (s_went T).map Prod.fst then 1 else σ 64 j) ∧ (∀ j, j < 10 → σ' 65 j = if j ∈ (s_went T).map Prod.fst then nI l else σ 65 j) ∧ σ' 71 = upd (σ 71) l (s_spend a (s_went T)) ∧ rowL (σ' 66) 0 T.1 ∧ rowL (σ' 66) 10 T.2.1 ∧ σ' 67 0 = nI T.1.length ∧ σ' 67 1 = nI T.2.1.length ∧ σ' 57 14 = nI (l + 1) ∧ dP σ D σ' ∧ xFm (scM ++ [64, 65, 66, 67, 71, 72]) (scP ++ [14, 16]) σ σ')
set_option maxRecDepth 100000 in
theorem m_fill_w (σ3 : xSg) (F : sFl) (hF : MR σ3 F) (hFn : ∀ q ∈ F.2, q.1 < 10) (l : Nat) (hl : σ3 57 14 = nI l) (Q : Option Value → xSg → Prop) (kK : ∀ σ4 : xSg, (∀ c, c ≠ 64 → c ≠ 65 → σ4 c = σ3 c) → (∀ j, j < 10 → σ4 64 j = if j ∈ (F.2.take F.2.length).map Prod.fst then 1 else σ3 64 j) → (∀ j, j < 10 → σ4 65 j = if j ∈ (F.2.take F.2.length).map Prod.fst then nI l else σ3 65 j) → xEv (.inl 4) M_X6_fill Q 73 ([some (.ref 57), none], [], σ4)) : ∀ (m k : Nat) (σ4 : xSg), k + m = F.2.length → (∀ c, c ≠ 64 → c ≠ 65 → σ4 c = σ3 c) → (∀ j, j < 10 → σ4 64 j = if j ∈ (F.2.take k).map Prod.fst then 1 else σ3 64 j) → (∀ j, j < 10 → σ4 65 j = if j ∈ (F.2.take k).map Prod.fst then nI l else σ3 65 j) → xEv (.inl 4) M_X6_fill Q 32 ([some (.ref 57), some (.int (nI k))], [], σ4) := by
  have hl10 := hF.1
  intro m
  induction m with
  | zero =>
    intro k σ4 hk hc h64 h65
    have h23 : σ4 57 23 = nI F.2.length := by rw [hc 57 (by decide) (by decide)]; exact hF.2.2.1
    refine ev_br 3 [] ((σ4 57 23) ≤ (nI k)) 73 40 ([some (.ref 57), some (.int (nI k))], [], σ4) rfl ?_ (fun c37 => ?_) (fun c37 => ?_)
    · trivial
    · have e : k = F.2.length := by omega
      subst e
      refine ev_drop 1 ?_
      exact kK σ4 hc h64 h65
    · exact absurd (show σ4 57 23 ≤ nI k by rw [h23]; exact nI_le (by omega) (by omega)) c37
  | succ m ih =>
    intro k σ4 hk hc h64 h65
    have h23 : σ4 57 23 = nI F.2.length := by rw [hc 57 (by decide) (by decide)]; exact hF.2.2.1
    have h14 : (σ4 57 14) = nI l := by rw [hc 57 (by decide) (by decide)]; exact hl
    have hkc : (nI k).toNatClampNeg = k := nI_clamp (by omega)
    obtain ⟨q, hq⟩ : ∃ q, F.2[k]? = some q := ⟨_, List.getElem?_eq_getElem (by omega)⟩
    have hq10 := hFn q (List.mem_of_getElem? hq)
    have e77 : σ4 77 = σ3 77 := hc 77 (by decide) (by decide)
    have hv : (σ4 77) (nI k).toNatClampNeg = nI q.1 := by rw [hkc, e77]; exact (hF.2.2.2 k q.1 q.2.1 q.2.2 hq).1
    have hvc : ((σ4 77) (nI k).toNatClampNeg).toNatClampNeg = q.1 := by rw [hv, nI_clamp (by omega)]
    have ht : (F.2.take (k + 1)).map Prod.fst = (F.2.take k).map Prod.fst ++ [q.1] := by rw [List.take_add_one, hq]; simp
    refine ev_br 3 [] ((σ4 57 23) ≤ (nI k)) 73 40 ([some (.ref 57), some (.int (nI k))], [], σ4) rfl ?_ (fun c37 => ?_) (fun c37 => ?_)
    · trivial
    · exact absurd c37 (show ¬ σ4 57 23 ≤ nI k by rw [h23]; exact nI_ge (by omega) (by omega))
    · refine ev_blk 19 [vp_in (nI k) 10, vp_in ((σ4 77) (nI k).toNatClampNeg) 10, vp_in (nI k) 10, vp_in ((σ4 77) (nI k).toNatClampNeg) 10] 32 ([some (.ref 57), some (.int ((nI k) + (1 : Int32)))], [], (x_up (x_up σ4 64 (upd (σ4 64) ((σ4 77) (nI k).toNatClampNeg).toNatClampNeg ((1 : Int32)))) 65 (upd (σ4 65) ((σ4 77) (nI k).toNatClampNeg).toNatClampNeg ((σ4 57 14))))) rfl ?_ ?_
      · exact ⟨(vp_in_nI (by omega) (by decide)), (by rw [hv]; exact vp_in_nI hq10 (by decide)), (vp_in_nI (by omega) (by decide)), (by rw [hv]; exact vp_in_nI hq10 (by decide))⟩
      rw [hvc]
      rw [nI_1, h14]
      refine ih (k + 1) _ (by omega) (fun c a b => by rw [x_up_ne b, x_up_ne a]; exact hc c a b) (fun j hj => ?_) (fun j hj => ?_)
      · rw [x_up_ne (by decide), x_up_eq]
        by_cases hj2 : j = q.1
        · rw [hj2, upd_eq, if_pos (by rw [ht]; simp)]
        · rw [upd_ne hj2, h64 j hj]
          by_cases hj3 : j ∈ (F.2.take k).map Prod.fst
          · rw [if_pos hj3, if_pos (by rw [ht]; exact List.mem_append_left _ hj3)]
          · rw [if_neg hj3, if_neg (by rw [ht]; intro z; rcases List.mem_append.mp z with z | z; exact hj3 z; exact hj2 (List.mem_singleton.mp z))]
      · rw [x_up_eq]
        by_cases hj2 : j = q.1
        · rw [hj2, upd_eq, if_pos (by rw [ht]; simp)]
        · rw [upd_ne hj2, h65 j hj]
          by_cases hj3 : j ∈ (F.2.take k).map Prod.fst
          · rw [if_pos hj3, if_pos (by rw [ht]; exact List.mem_append_left _ hj3)]
          · rw [if_neg hj3, if_neg (by rw [ht]; intro z; rcases List.mem_append.mp z with z | z; exact hj3 z; exact hj2 (List.mem_singleton.mp z))]
set_option maxRecDepth 100000 in
theorem m_fill_l (σ6 : xSg) (Q : Option Value → xSg → Prop) (kK : ∀ g : Nat → Int32, (∀ j, j < 20 → g j = σ6 74 j) → xEv (.inl 4) M_X6_fill Q 119 ([some (.ref 57), none], [], (x_up σ6 66 g))) : ∀ (m k : Nat) (g : Nat → Int32), k + m = 20 → (∀ j, j < k → g j = σ6 74 j) → xEv (.inl 4) M_X6_fill Q 95 ([some (.ref 57), some (.int (nI k))], [], (x_up σ6 66 g)) := by
  intro m
  induction m with
  | zero =>
    intro k g hk hg
    refine ev_br 2 [] ((20 : Int32) ≤ (nI k)) 119 101 ([some (.ref 57), some (.int (nI k))], [], (x_up σ6 66 g)) rfl ?_ (fun c98 => ?_) (fun c98 => ?_)
    · trivial
    · refine ev_drop 1 ?_
      exact kK g (fun j hj => hg j (by omega))
    · exact absurd (show (20 : Int32) ≤ nI k from nI_le (a := 20) (by omega) (by omega)) c98
  | succ m ih =>
    intro k g hk hg
    have hkc : (nI k).toNatClampNeg = k := nI_clamp (by omega)
    refine ev_br 2 [] ((20 : Int32) ≤ (nI k)) 119 101 ([some (.ref 57), some (.int (nI k))], [], (x_up σ6 66 g)) rfl ?_ (fun c98 => ?_) (fun c98 => ?_)
    · trivial
    · exact absurd c98 (nI_ge (b := 20) (by omega) (by decide))
    · refine ev_blk 10 [vp_in (nI k) 20, vp_in (nI k) 20] 95 ([some (.ref 57), some (.int ((nI k) + (1 : Int32)))], [], (x_up (x_up σ6 66 g) 66 (upd g (nI k).toNatClampNeg ((σ6 74) (nI k).toNatClampNeg)))) rfl ?_ ?_
      · exact ⟨(vp_in_nI (by omega) (by decide)), (vp_in_nI (by omega) (by decide))⟩
      rw [hkc]
      rw [nI_1, x_up_up]
      refine ih (k + 1) _ (by omega) (fun j hj => ?_)
      by_cases q : j = k
      · rw [q, upd_eq]
      · rw [upd_ne q]; exact hg j (by omega)
set_option maxRecDepth 100000 in
theorem m_fill (σ : xSg) (n : Nat) (A B : List Nat) (hM : mOk σ n A B) (hL : LR σ A B) (D l : Nat) (hD : σ 57 16 = nI D) (hD6 : D ≤ 6) (hl : σ 57 14 = nI l) (hl40 : l ≤ 40) : xCtr M_X6_fill [.ref 57] σ (flM σ (atM σ) (s_fill (atM σ) (tkM σ) A B) D l) := by
  refine ctr_ev ok_X6_fill (by decide +kernel) rfl rfl rfl ?_
  show xEv (.inl 4) M_X6_fill _ 0 ([some (.ref 57), none], [], σ)
  have hn10 := hM.1.1
  refine ev_blk 1 [] 1 ([some (.ref 57), none], [.ref 57], σ) rfl ?_ ?_
  · trivial
  refine ev_callV M_X6_all [] [] 57 rfl rfl ln_X6_169 k_X6_all rfl rfl rfl rfl rfl rfl (m_all σ) ?_
  rintro r σ1 ⟨rfl, h74, h75, hf1⟩
  have hR1 := SR_all hL h74 h75
  have hM1 := mOk_fr hM hf1 rfl
  have ha1 := atM_fr hf1 rfl
  have ht1 : tkM σ1 = tkM σ := tkM_fr (hf1.1 69 (by decide) (by decide))
  show xEv _ _ _ 4 ([some (.ref 57), none], [], σ1)
  refine ev_blk 1 [] 5 ([some (.ref 57), none], [.ref 57], σ1) rfl ?_ ?_
  · trivial
  refine ev_callV M_X6_fills [] [] 57 rfl rfl ln_X6_172 k_X6_fills rfl rfl rfl rfl rfl rfl (m_fills σ1 n A B hM1.1 hM1.2.1 hR1 hM1.2.2.1 hM1.2.2.2.1 hM1.2.2.2.2.1) ?_
  rintro r σ2 ⟨rfl, hF, hR2, hf2⟩
  rw [ha1, ht1] at hF hR2 ⊢
  have hfr : xFm scM scP σ σ2 := (hf1.mono rfl rfl).tr (hf2.mono rfl rfl)
  have hl10 : (s_went (s_fill (atM σ) (tkM σ) A B)).length ≤ 10 := hF.1
  have h14 : σ2 57 14 = nI l := (hfr.2 14 (by decide)).trans hl
  have h16 : σ2 57 16 = nI D := (hfr.2 16 (by decide)).trans hD
  show xEv _ _ _ 8 ([some (.ref 57), none], [.int (nI (s_went (s_fill (atM σ) (tkM σ) A B)).length)], σ2)
  refine ev_br 0 [] (¬ (nI (s_went (s_fill (atM σ) (tkM σ) A B)).length) = 0) 14 11 ([some (.ref 57), none], [], σ2) rfl ?_ (fun c8 => ?_) (fun c8 => ?_)
  · trivial
  · refine ev_br 3 [] (¬ (σ2 57 14) = (40 : Int32)) 26 23 ([some (.ref 57), none], [], σ2) rfl ?_ (fun c20 => ?_) (fun c20 => ?_)
    · trivial
    · refine ev_blk 1 [] 27 ([some (.ref 57), none], [.ref 57], σ2) rfl ?_ ?_
      · trivial
      refine ev_callV M_X6_keeps [] [] 57 rfl rfl ln_X6_175 k_X6_keeps rfl rfl rfl rfl rfl rfl (m_keeps σ2 D h16 hD6) ?_
      rintro r σ3 hk
      obtain rfl := hk.1
      have e3 : ∀ c, c ≠ 72 → c ≠ 57 → σ3 c = σ2 c := fun c a b => hk.2.2.1.1 c (by simpa using a) b
      have e37 : ∀ i, i ≠ 16 → σ3 57 i = σ2 57 i := fun i a => hk.2.2.1.2 i (by simpa using a)
      have hF3 : MR σ3 (s_fill (atM σ) (tkM σ) A B).2.2.2.2.2 := MR_fr hF hk.2.2.1 rfl rfl
      show xEv _ _ _ 30 ([some (.ref 57), none], [], σ3)
      refine ev_blk 2 [] 32 ([some (.ref 57), some (.int ((0 : Int32)))], [], σ3) rfl ?_ ?_
      · trivial
      have hwn : s_went (s_fill (atM σ) (tkM σ) A B) ≠ [] := fun z => c8 (by rw [z]; rfl)
      have hlt : l < 40 := by
        rcases Nat.lt_or_ge l 40 with z | z
        · exact z
        · exact absurd (h14.trans (by rw [show l = 40 by omega]; rfl)) c20
      refine m_fill_w σ3 (s_fill (atM σ) (tkM σ) A B).2.2.2.2.2 hF3 (fun q hq => mOk_went hM q hq) l (by rw [e37 14 (by decide)]; exact h14) _ (fun σ4 hc4 h64 h65 => ?_) (s_went (s_fill (atM σ) (tkM σ) A B)).length 0 σ3 (by rw [Nat.zero_add]; rfl) (fun _ _ _ => rfl) (fun j hj => by simp) (fun j hj => by simp)
      refine ev_blk 10 [] 89 ([some (.ref 57), none], [.ref 57, .int ((σ4 57 14)), .ref 71], (x_up σ4 57 (upd (σ4 57) 14 ((σ4 57 14) + (1 : Int32))))) rfl ?_ ?_
      · trivial
      have hF5 : MR ((x_up σ4 57 (upd (σ4 57) 14 ((σ4 57 14) + (1 : Int32))))) (s_fill (atM σ) (tkM σ) A B).2.2.2.2.2 := MR_fr (S := [64, 65]) (P := [14]) hF3 ⟨fun c hc hn => (x_up_ne hn).trans (hc4 c (fun z => hc (by rw [z]; decide)) (fun z => hc (by rw [z]; decide))), fun i hi => by rw [x_up_eq, upd_ne (fun z => hi (by rw [z]; decide)), hc4 57 (by decide) (by decide)]⟩ rfl rfl
      have ha5 : atM ((x_up σ4 57 (upd (σ4 57) 14 ((σ4 57 14) + (1 : Int32))))) = atM σ := by unfold atM; simp only [x_up_ne (show (58 : Nat) ≠ 57 by decide), x_up_ne (show (59 : Nat) ≠ 57 by decide), x_up_ne (show (60 : Nat) ≠ 57 by decide), x_up_ne (show (61 : Nat) ≠ 57 by decide), x_up_ne (show (62 : Nat) ≠ 57 by decide), x_up_ne (show (63 : Nat) ≠ 57 by decide), x_up_ne (show (68 : Nat) ≠ 57 by decide)]; rw [hc4 58 (by decide) (by decide), e3 58 (by decide) (by decide), hfr.1 58 (by decide) (by decide), hc4 59 (by decide) (by decide), e3 59 (by decide) (by decide), hfr.1 59 (by decide) (by decide), hc4 60 (by decide) (by decide), e3 60 (by decide) (by decide), hfr.1 60 (by decide) (by decide), hc4 61 (by decide) (by decide), e3 61 (by decide) (by decide), hfr.1 61 (by decide) (by decide), hc4 62 (by decide) (by decide), e3 62 (by decide) (by decide), hfr.1 62 (by decide) (by decide), hc4 63 (by decide) (by decide), e3 63 (by decide) (by decide), hfr.1 63 (by decide) (by decide), hc4 68 (by decide) (by decide), e3 68 (by decide) (by decide), hfr.1 68 (by decide) (by decide)]
      refine ev_callV M_X6_spends [] [.int ((σ4 57 14)), .ref 71] 57 rfl rfl ln_X6_178 k_X6_spends rfl rfl rfl rfl rfl rfl (m_spends _ (s_fill (atM σ) (tkM σ) A B).2.2.2.2.2 hF5 (fun q hq => mOk_went hM q hq)) ?_
      refine pu_k ?_
      rw [ha5]
      show xEv _ _ _ 92 ([some (.ref 57), none], [.int (s_spend (atM σ) (s_went (s_fill (atM σ) (tkM σ) A B))), .int ((σ4 57 14)), .ref 71], (x_up σ4 57 (upd (σ4 57) 14 ((σ4 57 14) + (1 : Int32)))))
      refine ev_blk 3 [vp_in ((σ4 57 14)) 40] 95 ([some (.ref 57), some (.int ((0 : Int32)))], [], (x_up (x_up σ4 57 (upd (σ4 57) 14 ((σ4 57 14) + (1 : Int32)))) 71 (upd (σ4 71) (σ4 57 14).toNatClampNeg (s_spend (atM σ) (s_went (s_fill (atM σ) (tkM σ) A B)))))) rfl ?_ ?_
      · rw [show (σ4 57 14) = nI l from by rw [hc4 57 (by decide) (by decide), e37 14 (by decide)]; exact h14]; exact vp_in_nI hlt (by decide)
      have hx66 := fun kK => m_fill_l (x_up (x_up σ4 57 (upd (σ4 57) 14 ((σ4 57 14) + (1 : Int32)))) 71 (upd (σ4 71) (σ4 57 14).toNatClampNeg (s_spend (atM σ) (s_went (s_fill (atM σ) (tkM σ) A B))))) (flM σ (atM σ) (s_fill (atM σ) (tkM σ) A B) D l) kK 20 0 ((x_up (x_up σ4 57 (upd (σ4 57) 14 ((σ4 57 14) + (1 : Int32)))) 71 (upd (σ4 71) (σ4 57 14).toNatClampNeg (s_spend (atM σ) (s_went (s_fill (atM σ) (tkM σ) A B))))) 66) (by omega) (fun j hj => absurd hj (Nat.not_lt_zero j))
      rw [x_up_self] at hx66
      refine hx66 (fun g hg => ?_)
      refine ev_blk 18 [vp_in ((0 : Int32)) 2, vp_in ((0 : Int32)) 2, vp_in ((1 : Int32)) 2, vp_in ((1 : Int32)) 2] 147 ([some (.ref 57), none], [.int (((x_up (x_up σ4 57 (upd (σ4 57) 14 ((σ4 57 14) + (1 : Int32)))) 71 (upd (σ4 71) (σ4 57 14).toNatClampNeg (s_spend (atM σ) (s_went (s_fill (atM σ) (tkM σ) A B))))) 57 23))], (x_up (x_up (x_up (x_up (x_up σ4 57 (upd (σ4 57) 14 ((σ4 57 14) + (1 : Int32)))) 71 (upd (σ4 71) (σ4 57 14).toNatClampNeg (s_spend (atM σ) (s_went (s_fill (atM σ) (tkM σ) A B))))) 66 g) 67 (upd ((x_up (x_up σ4 57 (upd (σ4 57) 14 ((σ4 57 14) + (1 : Int32)))) 71 (upd (σ4 71) (σ4 57 14).toNatClampNeg (s_spend (atM σ) (s_went (s_fill (atM σ) (tkM σ) A B))))) 67) 0 (((x_up (x_up σ4 57 (upd (σ4 57) 14 ((σ4 57 14) + (1 : Int32)))) 71 (upd (σ4 71) (σ4 57 14).toNatClampNeg (s_spend (atM σ) (s_went (s_fill (atM σ) (tkM σ) A B))))) 75) 0))) 67 (upd (upd ((x_up (x_up σ4 57 (upd (σ4 57) 14 ((σ4 57 14) + (1 : Int32)))) 71 (upd (σ4 71) (σ4 57 14).toNatClampNeg (s_spend (atM σ) (s_went (s_fill (atM σ) (tkM σ) A B))))) 67) 0 (((x_up (x_up σ4 57 (upd (σ4 57) 14 ((σ4 57 14) + (1 : Int32)))) 71 (upd (σ4 71) (σ4 57 14).toNatClampNeg (s_spend (atM σ) (s_went (s_fill (atM σ) (tkM σ) A B))))) 75) 0)) 1 (((x_up (x_up σ4 57 (upd (σ4 57) 14 ((σ4 57 14) + (1 : Int32)))) 71 (upd (σ4 71) (σ4 57 14).toNatClampNeg (s_spend (atM σ) (s_went (s_fill (atM σ) (tkM σ) A B))))) 75) 1)))) rfl ?_ ?_
      · exact ⟨(vp_in_nI (n := 0) (by decide) (by decide)), (vp_in_nI (n := 0) (by decide) (by decide)), (vp_in_nI (n := 1) (by decide) (by decide)), (vp_in_nI (n := 1) (by decide) (by decide))⟩
      have e14 : (σ4 57 14) = nI l := by rw [hc4 57 (by decide) (by decide), e37 14 (by decide)]; exact h14
      refine ev_iret rfl rfl rfl (Or.inr (Or.inr ⟨hwn, hlt, ?_, fun j hj => ?_, fun j hj => ?_, ?_, ?_, ?_, ?_, ?_, ?_, ⟨?_, ?_, fun j hj => ?_⟩, ⟨fun c hc hn => ?_, fun i hi => ?_⟩⟩))
      · exact congrArg (fun z => some (Value.int z)) ((congrFun (hc4 57 (by decide) (by decide)) 23).trans ((e37 23 (by decide)).trans hF.2.2.1))
      · simp only [x_up_ne (show (64 : Nat) ≠ 66 by decide), x_up_ne (show (64 : Nat) ≠ 67 by decide), x_up_ne (show (64 : Nat) ≠ 71 by decide), x_up_ne (show (64 : Nat) ≠ 57 by decide)]
        rw [h64 j hj, List.take_length, e3 64 (by decide) (by decide), hfr.1 64 (by decide) (by decide)]; rfl
      · simp only [x_up_ne (show (65 : Nat) ≠ 66 by decide), x_up_ne (show (65 : Nat) ≠ 67 by decide), x_up_ne (show (65 : Nat) ≠ 71 by decide), x_up_ne (show (65 : Nat) ≠ 57 by decide)]
        rw [h65 j hj, List.take_length, e3 65 (by decide) (by decide), hfr.1 65 (by decide) (by decide)]; rfl
      · rw [x_up_ne (by decide), x_up_ne (by decide), x_up_ne (by decide), x_up_eq, hc4 71 (by decide) (by decide), e3 71 (by decide) (by decide), hfr.1 71 (by decide) (by decide), e14, nI_clamp (by omega)]
      · intro i x hi
        have hil := (List.getElem?_eq_some_iff.mp hi).1
        have := hR2.1
        rw [x_up_ne (by decide), x_up_ne (by decide), x_up_eq, hg _ (by omega)]
        simp only [x_up_ne (show (74 : Nat) ≠ 71 by decide), x_up_ne (show (74 : Nat) ≠ 57 by decide)]
        rw [hc4 74 (by decide) (by decide), e3 74 (by decide) (by decide), Nat.zero_add]
        exact hR2.2.2.1 i x hi
      · intro i x hi
        have hil := (List.getElem?_eq_some_iff.mp hi).1
        have := hR2.2.1
        rw [x_up_ne (by decide), x_up_ne (by decide), x_up_eq, hg _ (by omega)]
        simp only [x_up_ne (show (74 : Nat) ≠ 71 by decide), x_up_ne (show (74 : Nat) ≠ 57 by decide)]
        rw [hc4 74 (by decide) (by decide), e3 74 (by decide) (by decide)]
        exact hR2.2.2.2.1 i x hi
      · rw [x_up_eq, upd_ne (by decide)]
        simp only [x_up_eq, upd_eq]
        simp only [x_up_ne (show (75 : Nat) ≠ 66 by decide), x_up_ne (show (75 : Nat) ≠ 67 by decide), x_up_ne (show (75 : Nat) ≠ 71 by decide), x_up_ne (show (75 : Nat) ≠ 57 by decide)]
        rw [hc4 75 (by decide) (by decide), e3 75 (by decide) (by decide)]
        exact hR2.2.2.2.2.1
      · rw [x_up_eq, upd_eq]
        simp only [x_up_ne (show (75 : Nat) ≠ 66 by decide), x_up_ne (show (75 : Nat) ≠ 67 by decide), x_up_ne (show (75 : Nat) ≠ 71 by decide), x_up_ne (show (75 : Nat) ≠ 57 by decide)]
        rw [hc4 75 (by decide) (by decide), e3 75 (by decide) (by decide)]
        exact hR2.2.2.2.2.2
      · rw [x_up_ne (by decide), x_up_ne (by decide), x_up_ne (by decide), x_up_ne (by decide), x_up_eq, upd_eq, e14, nI_1]
      · rw [x_up_ne (by decide), x_up_ne (by decide), x_up_ne (by decide), x_up_ne (by decide), x_up_eq, upd_ne (by decide), hc4 57 (by decide) (by decide)]; exact hk.2.1
      · have hh := hk.2.2.2.1
        have e72 : ((x_up (x_up (x_up (x_up (x_up σ4 57 (upd (σ4 57) 14 ((σ4 57 14) + (1 : Int32)))) 71 (upd (σ4 71) (σ4 57 14).toNatClampNeg (s_spend (atM σ) (s_went (s_fill (atM σ) (tkM σ) A B))))) 66 g) 67 (upd ((x_up (x_up σ4 57 (upd (σ4 57) 14 ((σ4 57 14) + (1 : Int32)))) 71 (upd (σ4 71) (σ4 57 14).toNatClampNeg (s_spend (atM σ) (s_went (s_fill (atM σ) (tkM σ) A B))))) 67) 0 (((x_up (x_up σ4 57 (upd (σ4 57) 14 ((σ4 57 14) + (1 : Int32)))) 71 (upd (σ4 71) (σ4 57 14).toNatClampNeg (s_spend (atM σ) (s_went (s_fill (atM σ) (tkM σ) A B))))) 75) 0))) 67 (upd (upd ((x_up (x_up σ4 57 (upd (σ4 57) 14 ((σ4 57 14) + (1 : Int32)))) 71 (upd (σ4 71) (σ4 57 14).toNatClampNeg (s_spend (atM σ) (s_went (s_fill (atM σ) (tkM σ) A B))))) 67) 0 (((x_up (x_up σ4 57 (upd (σ4 57) 14 ((σ4 57 14) + (1 : Int32)))) 71 (upd (σ4 71) (σ4 57 14).toNatClampNeg (s_spend (atM σ) (s_went (s_fill (atM σ) (tkM σ) A B))))) 75) 0)) 1 (((x_up (x_up σ4 57 (upd (σ4 57) 14 ((σ4 57 14) + (1 : Int32)))) 71 (upd (σ4 71) (σ4 57 14).toNatClampNeg (s_spend (atM σ) (s_went (s_fill (atM σ) (tkM σ) A B))))) 75) 1)))) 72 = σ3 72 := by rw [x_up_ne (by decide), x_up_ne (by decide), x_up_ne (by decide), x_up_ne (by decide), x_up_ne (by decide)]; exact hc4 72 (by decide) (by decide)
        rw [e72]
        unfold kpR at hh ⊢
        rw [hfr.1 64 (by decide) (by decide), hfr.1 65 (by decide) (by decide), hfr.1 66 (by decide) (by decide), hfr.1 67 (by decide) (by decide), hfr.2 14 (by decide)] at hh
        exact hh
      · have hh := hk.2.2.2.2 j hj
        rw [hfr.1 72 (by decide) (by decide)] at hh
        rw [x_up_ne (by decide), x_up_ne (by decide), x_up_ne (by decide), x_up_ne (by decide), x_up_ne (by decide), hc4 72 (by decide) (by decide)]; exact hh
      · have f : ∀ d, d ∈ (scM ++ [64, 65, 66, 67, 71, 72]) → c ≠ d := fun d hd z => hc (by rw [z]; exact hd)
        rw [x_up_ne (f 67 (by decide)), x_up_ne (f 67 (by decide)), x_up_ne (f 66 (by decide)), x_up_ne (f 71 (by decide)), x_up_ne hn, hc4 c (f 64 (by decide)) (f 65 (by decide)), e3 c (f 72 (by decide)) hn]
        exact hfr.1 c (fun z => hc (List.mem_append_left _ z)) hn
      · have f : ∀ d, d ∈ (scP ++ [14, 16]) → i ≠ d := fun d hd z => hi (by rw [z]; exact hd)
        rw [x_up_ne (by decide), x_up_ne (by decide), x_up_ne (by decide), x_up_ne (by decide), x_up_eq, upd_ne (f 14 (by decide)), hc4 57 (by decide) (by decide), e37 i (f 16 (by decide))]
        exact hfr.2 i (fun z => hi (List.mem_append_left _ z))
    · refine ev_blk 1 [] 25 ([some (.ref 57), none], [.int ((-4 : Int32))], σ2) rfl ?_ ?_
      · trivial
      have hwn : s_went (s_fill (atM σ) (tkM σ) A B) ≠ [] := fun z => c8 (by rw [z]; rfl)
      exact ev_iret rfl rfl rfl (Or.inr (Or.inl ⟨hwn, (nI_eq (b := 40) (by omega) (by decide)).mp (h14.symm.trans (Classical.byContradiction c20)), rfl, hfr⟩))
  · refine ev_blk 1 [] 13 ([some (.ref 57), none], [.int ((-3 : Int32))], σ2) rfl ?_ ?_
    · trivial
    have hw0 : s_went (s_fill (atM σ) (tkM σ) A B) = [] := by
      cases hww : s_went (s_fill (atM σ) (tkM σ) A B) with
      | nil => rfl
      | cons q t => rw [hww] at c8 hl10; exact absurd (Classical.byContradiction c8) (nI_ne0 (by simp) (by omega))
    exact ev_iret rfl rfl rfl (Or.inl ⟨hw0, rfl, hfr⟩)
