set_option maxRecDepth 100000 in
theorem m_fstate (σ : xSg) (n : Nat) (A B : List Nat) (hM : mOk σ n A B) (hL : LR σ A B) (i j : Nat) (hi : i ≤ A.length) (hj : j ≤ B.length) (hT : ∀ i2 j2, i2 ≤ A.length → j2 ≤ B.length → (i < i2 ∨ (i2 = i ∧ j < j2)) ∨ (i ≤ i2 ∧ j ≤ j2 ∧ 0 < (i2 - i) + (j2 - j)) → (i < i2 ∨ (i2 = i ∧ j < j2)) → fRw σ (11 * i2 + j2) ((s_T (atM σ) (tkM σ) A B) i2 j2)) (Q : Option Value → xSg → Prop) (kK : ∀ (x4 : Int32) (σ2 : xSg), fRw σ2 (11 * i + j) ((s_T (atM σ) (tkM σ) A B) i j) → fOt σ σ2 (11 * i + j) → xFm scM scP σ σ2 → xEv (.inl 4) M_X6_frees Q 306 ([some (.ref 57), some (.int (nI i)), some (.int (nI j)), some (.int (nI (11 * i + j))), some (.int (x4)), none, none, none, none, none], [], σ2)) : xEv (.inl 4) M_X6_frees Q 22 ([some (.ref 57), some (.int (nI i)), some (.int (nI j)), none, none, none, none, none, none, none], [], σ) := by
  have hn10 := hM.1.1
  have hlen := hM.2.2.2.2.1
  have e0 : (σ 67) 0 = nI A.length := hL.2.2.2.2.1
  have e1 : (σ 67) 1 = nI B.length := hL.2.2.2.2.2
  have htx : ((11 : Int32) * (nI i)) + (nI j) = nI (11 * i + j) := by rw [n11, nI_add]
  have hka : (nI (11 * i + j)).toNatClampNeg = (11 * i + j) := nI_clamp (by omega)
  have hia : vp_in (nI (11 * i + j)) 121 := vp_in_nI (by omega) (by decide)
  refine ev_br 11 [vp_in ((0 : Int32)) 2] (¬ (nI i) = ((σ 67) 0)) 53 39 ([some (.ref 57), some (.int (nI i)), some (.int (nI j)), some (.int (((11 : Int32) * (nI i)) + (nI j))), none, none, none, none, none, none], [], σ) rfl ?_ (fun c36 => ?_) (fun c36 => ?_)
  · exact (vp_in_nI (n := 0) (by decide) (by decide))
  · rw [htx]
    refine ev_br 6 [] ((0 : Int32) = 0) 70 66 ([some (.ref 57), some (.int (nI i)), some (.int (nI j)), some (.int (nI (11 * i + j))), some (.int ((0 : Int32))), none, none, none, none, none], [.int (nI (11 * i + j)), .ref 82], σ) rfl ?_ (fun c63 => ?_) (fun c63 => ?_)
    · trivial
    · refine ev_br 6 [vp_in (nI (11 * i + j)) 121] ((0 : Int32) = 0) 86 82 ([some (.ref 57), some (.int (nI i)), some (.int (nI j)), some (.int (nI (11 * i + j))), some (.int ((0 : Int32))), none, none, none, none, none], [.int (nI (11 * i + j)), .ref 83], (x_up σ 82 (upd (σ 82) (nI (11 * i + j)).toNatClampNeg ((-1 : Int32))))) rfl ?_ (fun c79 => ?_) (fun c79 => ?_)
      · exact hia
      · rw [hka]
        refine ev_br 6 [vp_in (nI (11 * i + j)) 121] ((0 : Int32) = 0) 102 98 ([some (.ref 57), some (.int (nI i)), some (.int (nI j)), some (.int (nI (11 * i + j))), some (.int ((0 : Int32))), none, none, none, none, none], [.int (nI (11 * i + j)), .ref 84], (x_up (x_up σ 82 (upd (σ 82) (11 * i + j) ((-1 : Int32)))) 83 (upd (σ 83) (nI (11 * i + j)).toNatClampNeg ((-1 : Int32))))) rfl ?_ (fun c95 => ?_) (fun c95 => ?_)
        · exact hia
        · rw [hka]
          refine ev_br 6 [vp_in (nI (11 * i + j)) 121] ((0 : Int32) = 0) 118 114 ([some (.ref 57), some (.int (nI i)), some (.int (nI j)), some (.int (nI (11 * i + j))), some (.int ((0 : Int32))), none, none, none, none, none], [.int (nI (11 * i + j)), .ref 85], (x_up (x_up (x_up σ 82 (upd (σ 82) (11 * i + j) ((-1 : Int32)))) 83 (upd (σ 83) (11 * i + j) ((-1 : Int32)))) 84 (upd (σ 84) (nI (11 * i + j)).toNatClampNeg ((-1 : Int32))))) rfl ?_ (fun c111 => ?_) (fun c111 => ?_)
          · exact hia
          · rw [hka]
            refine ev_blk 9 [vp_in (nI (11 * i + j)) 121, vp_in ((0 : Int32)) 2] 130 ([some (.ref 57), some (.int (nI i)), some (.int (nI j)), some (.int (nI (11 * i + j))), some (.int ((0 : Int32))), some (.int (((σ 67) 0) - (nI i))), none, none, none, none], [], (x_up (x_up (x_up (x_up σ 82 (upd (σ 82) (11 * i + j) ((-1 : Int32)))) 83 (upd (σ 83) (11 * i + j) ((-1 : Int32)))) 84 (upd (σ 84) (11 * i + j) ((-1 : Int32)))) 85 (upd (σ 85) (nI (11 * i + j)).toNatClampNeg ((-1 : Int32))))) rfl ?_ ?_
            · exact ⟨hia, (vp_in_nI (n := 0) (by decide) (by decide))⟩
            rw [hka]
            have hini : s_ini A B i j = (-1, -1, -1, -1) := by
              unfold s_ini
              rw [if_neg (fun q => c36 (by rw [e0, q.1]))]
            have hup : ∀ c, c ≠ 82 → c ≠ 83 → c ≠ 84 → c ≠ 85 → (x_up (x_up (x_up (x_up σ 82 (upd (σ 82) (11 * i + j) ((-1 : Int32)))) 83 (upd (σ 83) (11 * i + j) ((-1 : Int32)))) 84 (upd (σ 84) (11 * i + j) ((-1 : Int32)))) 85 (upd (σ 85) (11 * i + j) ((-1 : Int32)))) c = σ c := fun c h1 h2 h3 h4 => by simp [x_up, h1, h2, h3, h4]
            have hot0 : fOt σ (x_up (x_up (x_up (x_up σ 82 (upd (σ 82) (11 * i + j) ((-1 : Int32)))) 83 (upd (σ 83) (11 * i + j) ((-1 : Int32)))) 84 (upd (σ 84) (11 * i + j) ((-1 : Int32)))) 85 (upd (σ 85) (11 * i + j) ((-1 : Int32)))) (11 * i + j) := fun c hc x hx => by rcases hc with rfl | rfl | rfl | rfl <;> simp [x_up, upd, hx]
            have hfr0 : xFm [82, 83, 84, 85] [] σ (x_up (x_up (x_up (x_up σ 82 (upd (σ 82) (11 * i + j) ((-1 : Int32)))) 83 (upd (σ 83) (11 * i + j) ((-1 : Int32)))) 84 (upd (σ 84) (11 * i + j) ((-1 : Int32)))) 85 (upd (σ 85) (11 * i + j) ((-1 : Int32)))) := ⟨fun c hc hn => hup c (fun z => hc (by rw [z]; decide)) (fun z => hc (by rw [z]; decide)) (fun z => hc (by rw [z]; decide)) (fun z => hc (by rw [z]; decide)), fun k _ => congrFun (hup 57 (by decide) (by decide) (by decide) (by decide)) k⟩
            have hr0 : fRw (x_up (x_up (x_up (x_up σ 82 (upd (σ 82) (11 * i + j) ((-1 : Int32)))) 83 (upd (σ 83) (11 * i + j) ((-1 : Int32)))) 84 (upd (σ 84) (11 * i + j) ((-1 : Int32)))) 85 (upd (σ 85) (11 * i + j) ((-1 : Int32)))) (11 * i + j) (s_ini A B i j) := by rw [hini]; simp [fRw, x_up, upd]
            have ha0 : atM (x_up (x_up (x_up (x_up σ 82 (upd (σ 82) (11 * i + j) ((-1 : Int32)))) 83 (upd (σ 83) (11 * i + j) ((-1 : Int32)))) 84 (upd (σ 84) (11 * i + j) ((-1 : Int32)))) 85 (upd (σ 85) (11 * i + j) ((-1 : Int32)))) = atM σ := atM_fr hfr0 rfl
            have ht0 : tkM (x_up (x_up (x_up (x_up σ 82 (upd (σ 82) (11 * i + j) ((-1 : Int32)))) 83 (upd (σ 83) (11 * i + j) ((-1 : Int32)))) 84 (upd (σ 84) (11 * i + j) ((-1 : Int32)))) 85 (upd (σ 85) (11 * i + j) ((-1 : Int32)))) = tkM σ := tkM_fr (hup 69 (by decide) (by decide) (by decide) (by decide))
            have ela : nI A.length - nI i = s_dn (A.length - i + 1) := i_sub hi
            rw [e0, ela]
            refine m_frees_p (x_up (x_up (x_up (x_up σ 82 (upd (σ 82) (11 * i + j) ((-1 : Int32)))) 83 (upd (σ 83) (11 * i + j) ((-1 : Int32)))) 84 (upd (σ 84) (11 * i + j) ((-1 : Int32)))) 85 (upd (σ 85) (11 * i + j) ((-1 : Int32)))) n A B (mOk_fr hM hfr0 rfl) (LR_fr hL (hup 66 (by decide) (by decide) (by decide) (by decide)) (hup 67 (by decide) (by decide) (by decide) (by decide))) (s_T (atM σ) (tkM σ) A B) i j hi hj (fun p q hp hq z => ?_) Q (0 : Int32) _ (fun σ2 hr2 ho2 hf2 => ?_) (A.length - i + 1) _ _ (Nat.le_refl _) hr0 (fun _ _ _ _ => rfl) xFm.rf rfl
            · have := hT (i + p) (j + q) (by omega) (by omega) (Or.inr ⟨by omega, by omega, by omega⟩) (by omega)
              rw [hot0 82 (Or.inl rfl) _ (by omega), hot0 83 (Or.inr (Or.inl rfl)) _ (by omega)]
              exact ⟨this.1, this.2.1⟩
            · rw [ha0, ht0, show (List.flatMap (s_row (atM σ) (tkM σ) A B (s_T (atM σ) (tkM σ) A B) i j) (List.range' 0 (A.length - i + 1))).reverse.foldl sO (s_ini A B i j) = (s_T (atM σ) (tkM σ) A B) i j from (s_T_eqR hlen hi hj).symm] at hr2
              exact kK _ σ2 hr2 (hot0.tr ho2) ((hfr0.mono rfl rfl).tr hf2)
          · exact absurd (by decide) c111
        · exact absurd (by decide) c95
      · exact absurd (by decide) c79
    · exact absurd (by decide) c63
  · rw [htx]
    refine ev_br 5 [vp_in ((1 : Int32)) 2] (¬ (nI j) = ((σ 67) 1)) 53 49 ([some (.ref 57), some (.int (nI i)), some (.int (nI j)), some (.int (nI (11 * i + j))), none, none, none, none, none, none], [], σ) rfl ?_ (fun c46 => ?_) (fun c46 => ?_)
    · exact (vp_in_nI (n := 1) (by decide) (by decide))
    · refine ev_br 6 [] ((0 : Int32) = 0) 70 66 ([some (.ref 57), some (.int (nI i)), some (.int (nI j)), some (.int (nI (11 * i + j))), some (.int ((0 : Int32))), none, none, none, none, none], [.int (nI (11 * i + j)), .ref 82], σ) rfl ?_ (fun c63 => ?_) (fun c63 => ?_)
      · trivial
      · refine ev_br 6 [vp_in (nI (11 * i + j)) 121] ((0 : Int32) = 0) 86 82 ([some (.ref 57), some (.int (nI i)), some (.int (nI j)), some (.int (nI (11 * i + j))), some (.int ((0 : Int32))), none, none, none, none, none], [.int (nI (11 * i + j)), .ref 83], (x_up σ 82 (upd (σ 82) (nI (11 * i + j)).toNatClampNeg ((-1 : Int32))))) rfl ?_ (fun c79 => ?_) (fun c79 => ?_)
        · exact hia
        · rw [hka]
          refine ev_br 6 [vp_in (nI (11 * i + j)) 121] ((0 : Int32) = 0) 102 98 ([some (.ref 57), some (.int (nI i)), some (.int (nI j)), some (.int (nI (11 * i + j))), some (.int ((0 : Int32))), none, none, none, none, none], [.int (nI (11 * i + j)), .ref 84], (x_up (x_up σ 82 (upd (σ 82) (11 * i + j) ((-1 : Int32)))) 83 (upd (σ 83) (nI (11 * i + j)).toNatClampNeg ((-1 : Int32))))) rfl ?_ (fun c95 => ?_) (fun c95 => ?_)
          · exact hia
          · rw [hka]
            refine ev_br 6 [vp_in (nI (11 * i + j)) 121] ((0 : Int32) = 0) 118 114 ([some (.ref 57), some (.int (nI i)), some (.int (nI j)), some (.int (nI (11 * i + j))), some (.int ((0 : Int32))), none, none, none, none, none], [.int (nI (11 * i + j)), .ref 85], (x_up (x_up (x_up σ 82 (upd (σ 82) (11 * i + j) ((-1 : Int32)))) 83 (upd (σ 83) (11 * i + j) ((-1 : Int32)))) 84 (upd (σ 84) (nI (11 * i + j)).toNatClampNeg ((-1 : Int32))))) rfl ?_ (fun c111 => ?_) (fun c111 => ?_)
            · exact hia
            · rw [hka]
              refine ev_blk 9 [vp_in (nI (11 * i + j)) 121, vp_in ((0 : Int32)) 2] 130 ([some (.ref 57), some (.int (nI i)), some (.int (nI j)), some (.int (nI (11 * i + j))), some (.int ((0 : Int32))), some (.int (((σ 67) 0) - (nI i))), none, none, none, none], [], (x_up (x_up (x_up (x_up σ 82 (upd (σ 82) (11 * i + j) ((-1 : Int32)))) 83 (upd (σ 83) (11 * i + j) ((-1 : Int32)))) 84 (upd (σ 84) (11 * i + j) ((-1 : Int32)))) 85 (upd (σ 85) (nI (11 * i + j)).toNatClampNeg ((-1 : Int32))))) rfl ?_ ?_
              · exact ⟨hia, (vp_in_nI (n := 0) (by decide) (by decide))⟩
              rw [hka]
              have hini : s_ini A B i j = (-1, -1, -1, -1) := by
                unfold s_ini
                rw [if_neg (fun q => c46 (by rw [e1, q.2]))]
              have hup : ∀ c, c ≠ 82 → c ≠ 83 → c ≠ 84 → c ≠ 85 → (x_up (x_up (x_up (x_up σ 82 (upd (σ 82) (11 * i + j) ((-1 : Int32)))) 83 (upd (σ 83) (11 * i + j) ((-1 : Int32)))) 84 (upd (σ 84) (11 * i + j) ((-1 : Int32)))) 85 (upd (σ 85) (11 * i + j) ((-1 : Int32)))) c = σ c := fun c h1 h2 h3 h4 => by simp [x_up, h1, h2, h3, h4]
              have hot0 : fOt σ (x_up (x_up (x_up (x_up σ 82 (upd (σ 82) (11 * i + j) ((-1 : Int32)))) 83 (upd (σ 83) (11 * i + j) ((-1 : Int32)))) 84 (upd (σ 84) (11 * i + j) ((-1 : Int32)))) 85 (upd (σ 85) (11 * i + j) ((-1 : Int32)))) (11 * i + j) := fun c hc x hx => by rcases hc with rfl | rfl | rfl | rfl <;> simp [x_up, upd, hx]
              have hfr0 : xFm [82, 83, 84, 85] [] σ (x_up (x_up (x_up (x_up σ 82 (upd (σ 82) (11 * i + j) ((-1 : Int32)))) 83 (upd (σ 83) (11 * i + j) ((-1 : Int32)))) 84 (upd (σ 84) (11 * i + j) ((-1 : Int32)))) 85 (upd (σ 85) (11 * i + j) ((-1 : Int32)))) := ⟨fun c hc hn => hup c (fun z => hc (by rw [z]; decide)) (fun z => hc (by rw [z]; decide)) (fun z => hc (by rw [z]; decide)) (fun z => hc (by rw [z]; decide)), fun k _ => congrFun (hup 57 (by decide) (by decide) (by decide) (by decide)) k⟩
              have hr0 : fRw (x_up (x_up (x_up (x_up σ 82 (upd (σ 82) (11 * i + j) ((-1 : Int32)))) 83 (upd (σ 83) (11 * i + j) ((-1 : Int32)))) 84 (upd (σ 84) (11 * i + j) ((-1 : Int32)))) 85 (upd (σ 85) (11 * i + j) ((-1 : Int32)))) (11 * i + j) (s_ini A B i j) := by rw [hini]; simp [fRw, x_up, upd]
              have ha0 : atM (x_up (x_up (x_up (x_up σ 82 (upd (σ 82) (11 * i + j) ((-1 : Int32)))) 83 (upd (σ 83) (11 * i + j) ((-1 : Int32)))) 84 (upd (σ 84) (11 * i + j) ((-1 : Int32)))) 85 (upd (σ 85) (11 * i + j) ((-1 : Int32)))) = atM σ := atM_fr hfr0 rfl
              have ht0 : tkM (x_up (x_up (x_up (x_up σ 82 (upd (σ 82) (11 * i + j) ((-1 : Int32)))) 83 (upd (σ 83) (11 * i + j) ((-1 : Int32)))) 84 (upd (σ 84) (11 * i + j) ((-1 : Int32)))) 85 (upd (σ 85) (11 * i + j) ((-1 : Int32)))) = tkM σ := tkM_fr (hup 69 (by decide) (by decide) (by decide) (by decide))
              have ela : nI A.length - nI i = s_dn (A.length - i + 1) := i_sub hi
              rw [e0, ela]
              refine m_frees_p (x_up (x_up (x_up (x_up σ 82 (upd (σ 82) (11 * i + j) ((-1 : Int32)))) 83 (upd (σ 83) (11 * i + j) ((-1 : Int32)))) 84 (upd (σ 84) (11 * i + j) ((-1 : Int32)))) 85 (upd (σ 85) (11 * i + j) ((-1 : Int32)))) n A B (mOk_fr hM hfr0 rfl) (LR_fr hL (hup 66 (by decide) (by decide) (by decide) (by decide)) (hup 67 (by decide) (by decide) (by decide) (by decide))) (s_T (atM σ) (tkM σ) A B) i j hi hj (fun p q hp hq z => ?_) Q (0 : Int32) _ (fun σ2 hr2 ho2 hf2 => ?_) (A.length - i + 1) _ _ (Nat.le_refl _) hr0 (fun _ _ _ _ => rfl) xFm.rf rfl
              · have := hT (i + p) (j + q) (by omega) (by omega) (Or.inr ⟨by omega, by omega, by omega⟩) (by omega)
                rw [hot0 82 (Or.inl rfl) _ (by omega), hot0 83 (Or.inr (Or.inl rfl)) _ (by omega)]
                exact ⟨this.1, this.2.1⟩
              · rw [ha0, ht0, show (List.flatMap (s_row (atM σ) (tkM σ) A B (s_T (atM σ) (tkM σ) A B) i j) (List.range' 0 (A.length - i + 1))).reverse.foldl sO (s_ini A B i j) = (s_T (atM σ) (tkM σ) A B) i j from (s_T_eqR hlen hi hj).symm] at hr2
                exact kK _ σ2 hr2 (hot0.tr ho2) ((hfr0.mono rfl rfl).tr hf2)
            · exact absurd (by decide) c111
          · exact absurd (by decide) c95
        · exact absurd (by decide) c79
      · exact absurd (by decide) c63
    · refine ev_br 7 [] ((1 : Int32) = 0) 70 66 ([some (.ref 57), some (.int (nI i)), some (.int (nI j)), some (.int (nI (11 * i + j))), some (.int ((1 : Int32))), none, none, none, none, none], [.int (nI (11 * i + j)), .ref 82], σ) rfl ?_ (fun c63 => ?_) (fun c63 => ?_)
      · trivial
      · exact absurd c63 (by decide)
      · refine ev_br 7 [vp_in (nI (11 * i + j)) 121] ((1 : Int32) = 0) 86 82 ([some (.ref 57), some (.int (nI i)), some (.int (nI j)), some (.int (nI (11 * i + j))), some (.int ((1 : Int32))), none, none, none, none, none], [.int (nI (11 * i + j)), .ref 83], (x_up σ 82 (upd (σ 82) (nI (11 * i + j)).toNatClampNeg ((0 : Int32))))) rfl ?_ (fun c79 => ?_) (fun c79 => ?_)
        · exact hia
        · exact absurd c79 (by decide)
        · rw [hka]
          refine ev_br 7 [vp_in (nI (11 * i + j)) 121] ((1 : Int32) = 0) 102 98 ([some (.ref 57), some (.int (nI i)), some (.int (nI j)), some (.int (nI (11 * i + j))), some (.int ((1 : Int32))), none, none, none, none, none], [.int (nI (11 * i + j)), .ref 84], (x_up (x_up σ 82 (upd (σ 82) (11 * i + j) ((0 : Int32)))) 83 (upd (σ 83) (nI (11 * i + j)).toNatClampNeg ((0 : Int32))))) rfl ?_ (fun c95 => ?_) (fun c95 => ?_)
          · exact hia
          · exact absurd c95 (by decide)
          · rw [hka]
            refine ev_br 7 [vp_in (nI (11 * i + j)) 121] ((1 : Int32) = 0) 118 114 ([some (.ref 57), some (.int (nI i)), some (.int (nI j)), some (.int (nI (11 * i + j))), some (.int ((1 : Int32))), none, none, none, none, none], [.int (nI (11 * i + j)), .ref 85], (x_up (x_up (x_up σ 82 (upd (σ 82) (11 * i + j) ((0 : Int32)))) 83 (upd (σ 83) (11 * i + j) ((0 : Int32)))) 84 (upd (σ 84) (nI (11 * i + j)).toNatClampNeg ((0 : Int32))))) rfl ?_ (fun c111 => ?_) (fun c111 => ?_)
            · exact hia
            · exact absurd c111 (by decide)
            · rw [hka]
              refine ev_blk 10 [vp_in (nI (11 * i + j)) 121, vp_in ((0 : Int32)) 2] 130 ([some (.ref 57), some (.int (nI i)), some (.int (nI j)), some (.int (nI (11 * i + j))), some (.int ((1 : Int32))), some (.int (((σ 67) 0) - (nI i))), none, none, none, none], [], (x_up (x_up (x_up (x_up σ 82 (upd (σ 82) (11 * i + j) ((0 : Int32)))) 83 (upd (σ 83) (11 * i + j) ((0 : Int32)))) 84 (upd (σ 84) (11 * i + j) ((0 : Int32)))) 85 (upd (σ 85) (nI (11 * i + j)).toNatClampNeg ((0 : Int32))))) rfl ?_ ?_
              · exact ⟨hia, (vp_in_nI (n := 0) (by decide) (by decide))⟩
              rw [hka]
              have hini : s_ini A B i j = (0, 0, 0, 0) := by
                unfold s_ini
                rw [if_pos ⟨(nI_eq (by omega) (by omega)).mp ((Classical.byContradiction c36).trans e0), (nI_eq (by omega) (by omega)).mp ((Classical.byContradiction c46).trans e1)⟩]
              have hup : ∀ c, c ≠ 82 → c ≠ 83 → c ≠ 84 → c ≠ 85 → (x_up (x_up (x_up (x_up σ 82 (upd (σ 82) (11 * i + j) ((0 : Int32)))) 83 (upd (σ 83) (11 * i + j) ((0 : Int32)))) 84 (upd (σ 84) (11 * i + j) ((0 : Int32)))) 85 (upd (σ 85) (11 * i + j) ((0 : Int32)))) c = σ c := fun c h1 h2 h3 h4 => by simp [x_up, h1, h2, h3, h4]
              have hot0 : fOt σ (x_up (x_up (x_up (x_up σ 82 (upd (σ 82) (11 * i + j) ((0 : Int32)))) 83 (upd (σ 83) (11 * i + j) ((0 : Int32)))) 84 (upd (σ 84) (11 * i + j) ((0 : Int32)))) 85 (upd (σ 85) (11 * i + j) ((0 : Int32)))) (11 * i + j) := fun c hc x hx => by rcases hc with rfl | rfl | rfl | rfl <;> simp [x_up, upd, hx]
              have hfr0 : xFm [82, 83, 84, 85] [] σ (x_up (x_up (x_up (x_up σ 82 (upd (σ 82) (11 * i + j) ((0 : Int32)))) 83 (upd (σ 83) (11 * i + j) ((0 : Int32)))) 84 (upd (σ 84) (11 * i + j) ((0 : Int32)))) 85 (upd (σ 85) (11 * i + j) ((0 : Int32)))) := ⟨fun c hc hn => hup c (fun z => hc (by rw [z]; decide)) (fun z => hc (by rw [z]; decide)) (fun z => hc (by rw [z]; decide)) (fun z => hc (by rw [z]; decide)), fun k _ => congrFun (hup 57 (by decide) (by decide) (by decide) (by decide)) k⟩
              have hr0 : fRw (x_up (x_up (x_up (x_up σ 82 (upd (σ 82) (11 * i + j) ((0 : Int32)))) 83 (upd (σ 83) (11 * i + j) ((0 : Int32)))) 84 (upd (σ 84) (11 * i + j) ((0 : Int32)))) 85 (upd (σ 85) (11 * i + j) ((0 : Int32)))) (11 * i + j) (s_ini A B i j) := by rw [hini]; simp [fRw, x_up, upd]
              have ha0 : atM (x_up (x_up (x_up (x_up σ 82 (upd (σ 82) (11 * i + j) ((0 : Int32)))) 83 (upd (σ 83) (11 * i + j) ((0 : Int32)))) 84 (upd (σ 84) (11 * i + j) ((0 : Int32)))) 85 (upd (σ 85) (11 * i + j) ((0 : Int32)))) = atM σ := atM_fr hfr0 rfl
              have ht0 : tkM (x_up (x_up (x_up (x_up σ 82 (upd (σ 82) (11 * i + j) ((0 : Int32)))) 83 (upd (σ 83) (11 * i + j) ((0 : Int32)))) 84 (upd (σ 84) (11 * i + j) ((0 : Int32)))) 85 (upd (σ 85) (11 * i + j) ((0 : Int32)))) = tkM σ := tkM_fr (hup 69 (by decide) (by decide) (by decide) (by decide))
              have ela : nI A.length - nI i = s_dn (A.length - i + 1) := i_sub hi
              rw [e0, ela]
              refine m_frees_p (x_up (x_up (x_up (x_up σ 82 (upd (σ 82) (11 * i + j) ((0 : Int32)))) 83 (upd (σ 83) (11 * i + j) ((0 : Int32)))) 84 (upd (σ 84) (11 * i + j) ((0 : Int32)))) 85 (upd (σ 85) (11 * i + j) ((0 : Int32)))) n A B (mOk_fr hM hfr0 rfl) (LR_fr hL (hup 66 (by decide) (by decide) (by decide) (by decide)) (hup 67 (by decide) (by decide) (by decide) (by decide))) (s_T (atM σ) (tkM σ) A B) i j hi hj (fun p q hp hq z => ?_) Q (1 : Int32) _ (fun σ2 hr2 ho2 hf2 => ?_) (A.length - i + 1) _ _ (Nat.le_refl _) hr0 (fun _ _ _ _ => rfl) xFm.rf rfl
              · have := hT (i + p) (j + q) (by omega) (by omega) (Or.inr ⟨by omega, by omega, by omega⟩) (by omega)
                rw [hot0 82 (Or.inl rfl) _ (by omega), hot0 83 (Or.inr (Or.inl rfl)) _ (by omega)]
                exact ⟨this.1, this.2.1⟩
              · rw [ha0, ht0, show (List.flatMap (s_row (atM σ) (tkM σ) A B (s_T (atM σ) (tkM σ) A B) i j) (List.range' 0 (A.length - i + 1))).reverse.foldl sO (s_ini A B i j) = (s_T (atM σ) (tkM σ) A B) i j from (s_T_eqR hlen hi hj).symm] at hr2
                exact kK _ σ2 hr2 (hot0.tr ho2) ((hfr0.mono rfl rfl).tr hf2)
set_option maxRecDepth 100000 in
theorem m_frees_j (σ : xSg) (n : Nat) (A B : List Nat) (hM : mOk σ n A B) (hL : LR σ A B) (i : Nat) (hi : i ≤ A.length) (kK : ∀ σ1 : xSg, xFm scM scP σ σ1 → (∀ i2 j2, i2 ≤ A.length → j2 ≤ B.length → i ≤ i2 → fRw σ1 (11 * i2 + j2) ((s_T (atM σ) (tkM σ) A B) i2 j2)) → xEv (.inl 4) M_X6_frees (fun r σ2 => r = none ∧ fRw σ2 0 ((s_T (atM σ) (tkM σ) A B) 0 0) ∧ xFm scM scP σ σ2) 312 ([some (.ref 57), some (.int (nI i)), none, none, none, none, none, none, none, none], [], σ1)) : ∀ (c : Nat) (σ1 : xSg), c ≤ B.length + 1 → xFm scM scP σ σ1 → (∀ i2 j2, i2 ≤ A.length → j2 ≤ B.length → (i < i2 ∨ (i2 = i ∧ c ≤ j2)) → fRw σ1 (11 * i2 + j2) ((s_T (atM σ) (tkM σ) A B) i2 j2)) → xEv (.inl 4) M_X6_frees (fun r σ2 => r = none ∧ fRw σ2 0 ((s_T (atM σ) (tkM σ) A B) 0 0) ∧ xFm scM scP σ σ2) 18 ([some (.ref 57), some (.int (nI i)), some (.int (s_dn c)), none, none, none, none, none, none, none], [], σ1) := by
  have hlen := hM.2.2.2.2.1
  intro c
  induction c with
  | zero =>
    intro σ1 hc hfr hT
    refine ev_br 1 [] ((s_dn 0) < 0) 312 22 ([some (.ref 57), some (.int (nI i)), some (.int (s_dn 0)), none, none, none, none, none, none, none], [], σ1) rfl ?_ (fun c19 => ?_) (fun c19 => ?_)
    · trivial
    · refine ev_drop 2 ?_
      exact kK σ1 hfr (fun i2 j2 a b z => hT i2 j2 a b (by omega))
    · exact absurd (show s_dn 0 < 0 by decide) c19
  | succ c ih =>
    intro σ1 hc hfr hT
    show xEv _ _ _ 18 ([some (.ref 57), some (.int (nI i)), some (.int (nI c)), none, none, none, none, none, none, none], [], σ1)
    have ha1 : atM σ1 = atM σ := atM_fr hfr rfl
    have ht1 : tkM σ1 = tkM σ := tkM_fr (hfr.1 69 (by decide) (by decide))
    refine ev_br 1 [] ((nI c) < 0) 312 22 ([some (.ref 57), some (.int (nI i)), some (.int (nI c)), none, none, none, none, none, none, none], [], σ1) rfl ?_ (fun c19 => ?_) (fun c19 => ?_)
    · trivial
    · exact absurd c19 (nI_pos (by omega))
    · refine m_fstate σ1 n A B (mOk_fr hM hfr rfl) (LR_fr hL (hfr.1 66 (by decide) (by decide)) (hfr.1 67 (by decide) (by decide))) i c hi (by omega) (fun i2 j2 a b _ z => by rw [ha1, ht1]; exact hT i2 j2 a b (by omega)) _ (fun x4 σ2 hr2 ho2 hf2 => ?_)
      rw [ha1, ht1] at hr2
      refine ev_blk 2 [] 18 ([some (.ref 57), some (.int (nI i)), some (.int ((nI c) + (-1 : Int32))), some (.int (nI (11 * i + c))), some (.int (x4)), none, none, none, none, none], [], σ2) rfl ?_ ?_
      · trivial
      rw [s_dn_1 (by omega)]
      refine ev_drop 3 ?_
      refine ev_drop 4 ?_
      refine ih σ2 (by omega) (hfr.tr hf2) (fun i2 j2 a b z => ?_)
      by_cases e : i2 = i ∧ j2 = c
      · rw [e.1, e.2]; exact hr2
      · have h3 := hT i2 j2 a b (by omega)
        unfold fRw at h3 ⊢
        rw [ho2 82 (Or.inl rfl) _ (by omega), ho2 83 (Or.inr (Or.inl rfl)) _ (by omega), ho2 84 (Or.inr (Or.inr (Or.inl rfl))) _ (by omega), ho2 85 (Or.inr (Or.inr (Or.inr rfl))) _ (by omega)]
        exact h3
set_option maxRecDepth 100000 in
theorem m_frees_i (σ : xSg) (n : Nat) (A B : List Nat) (hM : mOk σ n A B) (hL : LR σ A B) : ∀ (k : Nat) (σ1 : xSg), k ≤ A.length + 1 → xFm scM scP σ σ1 → (∀ i2 j2, i2 ≤ A.length → j2 ≤ B.length → k ≤ i2 → fRw σ1 (11 * i2 + j2) ((s_T (atM σ) (tkM σ) A B) i2 j2)) → xEv (.inl 4) M_X6_frees (fun r σ2 => r = none ∧ fRw σ2 0 ((s_T (atM σ) (tkM σ) A B) 0 0) ∧ xFm scM scP σ σ2) 7 ([some (.ref 57), some (.int (s_dn k)), none, none, none, none, none, none, none, none], [], σ1) := by
  have hlen := hM.2.2.2.2.1
  intro k
  induction k with
  | zero =>
    intro σ1 hk hfr hT
    refine ev_br 1 [] ((s_dn 0) < 0) 318 11 ([some (.ref 57), some (.int (s_dn 0)), none, none, none, none, none, none, none, none], [], σ1) rfl ?_ (fun c8 => ?_) (fun c8 => ?_)
    · trivial
    · exact ev_vret rfl rfl ⟨rfl, hT 0 0 (Nat.zero_le _) (Nat.zero_le _) (Nat.zero_le _), hfr⟩
    · exact absurd (show s_dn 0 < 0 by decide) c8
  | succ k ih =>
    intro σ1 hk hfr hT
    show xEv _ _ _ 7 ([some (.ref 57), some (.int (nI k)), none, none, none, none, none, none, none, none], [], σ1)
    have e67 : (σ1 67) 1 = nI B.length := by rw [hfr.1 67 (by decide) (by decide)]; exact hL.2.2.2.2.2
    refine ev_br 1 [] ((nI k) < 0) 318 11 ([some (.ref 57), some (.int (nI k)), none, none, none, none, none, none, none, none], [], σ1) rfl ?_ (fun c8 => ?_) (fun c8 => ?_)
    · trivial
    · exact absurd c8 (nI_pos (by omega))
    · refine ev_blk 5 [vp_in ((1 : Int32)) 2] 18 ([some (.ref 57), some (.int (nI k)), some (.int ((σ1 67) 1)), none, none, none, none, none, none, none], [], σ1) rfl ?_ ?_
      · exact vp_in_nI (n := 1) (by decide) (by decide)
      rw [e67]
      refine m_frees_j σ n A B hM hL k (by omega) (fun σ2 hf2 hT2 => ?_) (B.length + 1) σ1 (Nat.le_refl _) hfr (fun i2 j2 a b z => hT i2 j2 a b (by omega))
      refine ev_blk 2 [] 7 ([some (.ref 57), some (.int ((nI k) + (-1 : Int32))), none, none, none, none, none, none, none, none], [], σ2) rfl ?_ ?_
      · trivial
      rw [s_dn_1 (by omega)]
      exact ih σ2 (by omega) hf2 hT2
set_option maxRecDepth 100000 in
theorem m_frees (σ : xSg) (n : Nat) (A B : List Nat) (hM : mOk σ n A B) (hL : LR σ A B) : xCtr M_X6_frees [.ref 57] σ (fun r σ2 => r = none ∧ fRw σ2 0 ((s_T (atM σ) (tkM σ) A B) 0 0) ∧ xFm scM scP σ σ2) := by
  refine ctr_ev ok_X6_frees (by decide +kernel) rfl rfl rfl ?_
  show xEv (.inl 4) M_X6_frees _ 0 ([some (.ref 57), none, none, none, none, none, none, none, none, none], [], σ)
  have e0 : (σ 67) 0 = nI A.length := hL.2.2.2.2.1
  refine ev_blk 5 [vp_in ((0 : Int32)) 2] 7 ([some (.ref 57), some (.int ((σ 67) 0)), none, none, none, none, none, none, none, none], [], σ) rfl ?_ ?_
  · exact vp_in_nI (n := 0) (by decide) (by decide)
  rw [e0]
  exact m_frees_i σ n A B hM hL (A.length + 1) σ (Nat.le_refl _) xFm.rf (fun i2 j2 a b z => absurd z (by omega))
set_option maxRecDepth 100000 in
theorem m_freely (σ : xSg) (n : Nat) (A B : List Nat) (hM : mOk σ n A B) (hL : LR σ A B) (wh : Int32) : xCtr M_X6_freely [.ref 57, .int (wh)] σ (fun r σ2 => r = some (.int (s_fre ((s_T (atM σ) (tkM σ) A B) 0 0) wh)) ∧ xFm scM scP σ σ2) := by
  refine ctr_ev ok_X6_freely (by decide +kernel) rfl rfl rfl ?_
  show xEv (.inl 5) M_X6_freely _ 0 ([some (.ref 57), some (.int (wh))], [], σ)
  refine ev_blk 3 [] 3 ([some (.ref 57), some (.int (wh))], [.int ((3 : Int32)), .int ((0 : Int32)), .int (wh)], σ) rfl ?_ ?_
  · trivial
  refine ev_callS M_X6_within [.int (wh), .int ((0 : Int32)), .int ((3 : Int32))] [] rfl rfl ln_X6_110 k_X6_within rfl rfl rfl (m_within _ _ _ _) ?_
  refine pu_k ?_
  show xEv _ _ _ 6 ([some (.ref 57), some (.int (wh))], [.int (zi (¬ wh < (0 : Int32) ∧ ¬ (3 : Int32) < wh))], σ)
  refine ev_br 0 [] (¬ (zi (¬ wh < (0 : Int32) ∧ ¬ (3 : Int32) < wh)) = 0) 12 9 ([some (.ref 57), some (.int (wh))], [], σ) rfl ?_ (fun c6 => ?_) (fun c6 => ?_)
  · trivial
  · replace c6 := zi_1.mp c6
    refine ev_blk 1 [] 13 ([some (.ref 57), some (.int (wh))], [.ref 57], σ) rfl ?_ ?_
    · trivial
    refine ev_callV M_X6_frees [] [] 57 rfl rfl ln_X6_200 k_X6_frees rfl rfl rfl rfl rfl rfl (m_frees σ n A B hM hL) ?_
    rintro r σ1 ⟨rfl, hr, hfr⟩
    obtain ⟨v1, v2, v3, v4⟩ := hr
    show xEv _ _ _ 16 ([some (.ref 57), some (.int (wh))], [], σ1)
    refine ev_br 1 [] (¬ wh = 0) 29 20 ([some (.ref 57), some (.int (wh))], [], σ1) rfl ?_ (fun c17 => ?_) (fun c17 => ?_)
    · trivial
    · refine ev_br 2 [] (¬ wh = (1 : Int32)) 43 34 ([some (.ref 57), some (.int (wh))], [], σ1) rfl ?_ (fun c31 => ?_) (fun c31 => ?_)
      · trivial
      · refine ev_br 2 [] (¬ wh = (2 : Int32)) 57 48 ([some (.ref 57), some (.int (wh))], [], σ1) rfl ?_ (fun c45 => ?_) (fun c45 => ?_)
        · trivial
        · refine ev_blk 4 [vp_in ((0 : Int32)) 121] 63 ([some (.ref 57), some (.int (wh))], [.int ((σ1 85) 0)], σ1) rfl ?_ ?_
          · exact vp_in_nI (n := 0) (by decide) (by decide)
          exact ev_iret rfl rfl rfl ⟨by rw [s_fre, if_neg (by rintro (q | q); exact c6.1 q; exact c6.2 q), if_neg c17, if_neg c31, if_neg c45, ← v4], hfr⟩
        · refine ev_blk 5 [vp_in ((0 : Int32)) 121] 63 ([some (.ref 57), some (.int (wh))], [.int ((σ1 84) 0)], σ1) rfl ?_ ?_
          · exact vp_in_nI (n := 0) (by decide) (by decide)
          exact ev_iret rfl rfl rfl ⟨by rw [s_fre, if_neg (by rintro (q | q); exact c6.1 q; exact c6.2 q), if_neg c17, if_neg c31, if_pos (Classical.byContradiction c45), ← v3], hfr⟩
      · refine ev_blk 5 [vp_in ((0 : Int32)) 121] 63 ([some (.ref 57), some (.int (wh))], [.int ((σ1 83) 0)], σ1) rfl ?_ ?_
        · exact vp_in_nI (n := 0) (by decide) (by decide)
        exact ev_iret rfl rfl rfl ⟨by rw [s_fre, if_neg (by rintro (q | q); exact c6.1 q; exact c6.2 q), if_neg c17, if_pos (Classical.byContradiction c31), ← v2], hfr⟩
    · refine ev_blk 5 [vp_in ((0 : Int32)) 121] 63 ([some (.ref 57), some (.int (wh))], [.int ((σ1 82) 0)], σ1) rfl ?_ ?_
      · exact vp_in_nI (n := 0) (by decide) (by decide)
      exact ev_iret rfl rfl rfl ⟨by rw [s_fre, if_neg (by rintro (q | q); exact c6.1 q; exact c6.2 q), if_pos (Classical.byContradiction c17), ← v1], hfr⟩
  · replace c6 := zi_n.mp c6
    refine ev_blk 1 [] 11 ([some (.ref 57), some (.int (wh))], [.int ((-2 : Int32))], σ) rfl ?_ ?_
    · trivial
    exact ev_iret rfl rfl rfl ⟨by rw [s_fre, if_pos (Classical.byContradiction (fun q => c6 ⟨fun z => q (Or.inl z), fun z => q (Or.inr z)⟩))], xFm.rf⟩
