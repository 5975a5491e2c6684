def fRw (σ : xSg) (k : Nat) (v : sV) : Prop := σ 82 k = v.1 ∧ σ 83 k = v.2.1 ∧ σ 84 k = v.2.2.1 ∧ σ 85 k = v.2.2.2
def fOt (σ σ1 : xSg) (k : Nat) : Prop := ∀ c, (c = 82 ∨ c = 83 ∨ c = 84 ∨ c = 85) → ∀ x, x ≠ k → σ1 c x = σ c x
theorem fOt.tr {σ σ1 σ2 : xSg} {k : Nat} (h1 : fOt σ σ1 k) (h2 : fOt σ1 σ2 k) : fOt σ σ2 k := fun c hc x hx => (h2 c hc x hx).trans (h1 c hc x hx)
theorem fRw_fr {σ σ1 : xSg} {k : Nat} {v : sV} (h : fRw σ k v) (h1 : σ1 82 = σ 82) (h2 : σ1 83 = σ 83) (h3 : σ1 84 = σ 84) (h4 : σ1 85 = σ 85) : fRw σ1 k v := by unfold fRw; rw [h1, h2, h3, h4]; exact h
theorem n11 (i : Nat) : (11 : Int32) * (nI i) = nI (11 * i) := (Int32.ofNat_mul 11 i).symm
theorem LR_fr {σ σ1 : xSg} {A B : List Nat} (h : LR σ A B) (h1 : σ1 66 = σ 66) (h2 : σ1 67 = σ 67) : LR σ1 A B := by unfold LR; rw [h1, h2]; exact h
set_option maxRecDepth 100000 in
theorem m_fbody (σ : xSg) (n : Nat) (A B : List Nat) (hM : mOk σ n A B) (hL : LR σ A B) (T : sTb) (i j : Nat) (hi : i ≤ A.length) (hj : j ≤ B.length) (Q : Option Value → xSg → Prop) (x4 : Int32) (p q : Nat) (hp : p ≤ A.length - i) (hq : q ≤ B.length - j) (σ1 : xSg) (hfr : xFm scM scP σ σ1) (acc : sV) (hacc : fRw σ1 (11 * i + j) acc) (hT : 0 < p + q → σ1 82 (11 * (i + p) + (j + q)) = (T (i + p) (j + q)).1 ∧ σ1 83 (11 * (i + p) + (j + q)) = (T (i + p) (j + q)).2.1) (kK : ∀ σ2 : xSg, fRw σ2 (11 * i + j) (sO acc (s_cnd (atM σ) (tkM σ) A B T i j p q)) → fOt σ1 σ2 (11 * i + j) → xFm scM scP σ1 σ2 → xEv (.inl 4) M_X6_frees Q 294 ([some (.ref 57), some (.int (nI i)), some (.int (nI j)), some (.int (nI (11 * i + j))), some (.int (x4)), some (.int (nI p)), some (.int (nI q)), none, none, none], [], σ2)) : xEv (.inl 4) M_X6_frees Q 150 ([some (.ref 57), some (.int (nI i)), some (.int (nI j)), some (.int (nI (11 * i + j))), some (.int (x4)), some (.int (nI p)), some (.int (nI q)), none, none, none], [], σ1) := by
  have hn10 := hM.1.1
  have hlen := hM.2.2.2.2.1
  have ha1 : atM σ1 = atM σ := atM_fr hfr rfl
  have ht1 : tkM σ1 = tkM σ := tkM_fr (hfr.1 69 (by decide) (by decide))
  have hM1 : mOk σ1 n A B := mOk_fr hM hfr rfl
  have hL1 : LR σ1 A B := LR_fr hL (hfr.1 66 (by decide) (by decide)) (hfr.1 67 (by decide) (by decide))
  have htx : (((11 : Int32) * ((nI i) + (nI p))) + (nI j)) + (nI q) = nI (11 * (i + p) + (j + q)) := by rw [nI_add, n11, nI_add, nI_add, Nat.add_assoc]
  have hkt : (nI (11 * (i + p) + (j + q))).toNatClampNeg = (11 * (i + p) + (j + q)) := nI_clamp (by omega)
  have hka : (nI (11 * i + j)).toNatClampNeg = (11 * i + j) := nI_clamp (by omega)
  have hit : vp_in (nI (11 * (i + p) + (j + q))) 121 := vp_in_nI (by omega) (by decide)
  have hia : vp_in (nI (11 * i + j)) 121 := vp_in_nI (by omega) (by decide)
  refine ev_blk 15 [] 171 ([some (.ref 57), some (.int (nI i)), some (.int (nI j)), some (.int (nI (11 * i + j))), some (.int (x4)), some (.int (nI p)), some (.int (nI q)), some (.int ((((11 : Int32) * ((nI i) + (nI p))) + (nI j)) + (nI q))), none, none], [.int (nI q), .int (nI j), .int (nI p), .int (nI i), .ref 57], σ1) rfl ?_ ?_
  · trivial
  rw [htx]
  refine ev_callV M_X6_canGo [.int (nI i), .int (nI p), .int (nI j), .int (nI q)] [] 57 rfl rfl ln_X6_196 k_X6_canGo rfl rfl rfl rfl rfl rfl (m_canGo σ1 n A B hM1 hL1 i p j q (by omega) (by omega)) ?_
  rintro r σ2 ⟨hf2, ⟨F, hX, rfl, hMR⟩ | ⟨hX, rfl⟩⟩
  · rw [ha1, ht1] at hX
    have e82 := hf2.1 82 (by decide) (by decide)
    have e83 := hf2.1 83 (by decide) (by decide)
    have e84 := hf2.1 84 (by decide) (by decide)
    have e85 := hf2.1 85 (by decide) (by decide)
    have hacc2 := fRw_fr hacc e82 e83 e84 e85
    have hot2 : fOt σ1 σ2 (11 * i + j) := fun c hc x _ => by rcases hc with rfl | rfl | rfl | rfl; rw [e82]; rw [e83]; rw [e84]; rw [e85]
    have hf2s : xFm scM scP σ1 σ2 := hf2.mono rfl rfl
    show xEv _ _ _ 174 ([some (.ref 57), some (.int (nI i)), some (.int (nI j)), some (.int (nI (11 * i + j))), some (.int (x4)), some (.int (nI p)), some (.int (nI q)), some (.int (nI (11 * (i + p) + (j + q)))), none, none], [.int (zi (0 < p + q))], σ2)
    refine ev_br 0 [] ((zi (0 < p + q)) = 0) 294 177 ([some (.ref 57), some (.int (nI i)), some (.int (nI j)), some (.int (nI (11 * i + j))), some (.int (x4)), some (.int (nI p)), some (.int (nI q)), some (.int (nI (11 * (i + p) + (j + q)))), none, none], [], σ2) rfl ?_ (fun c174 => ?_) (fun c174 => ?_)
    · trivial
    · replace c174 := zi_0.mp c174
      refine ev_drop 7 ?_
      refine ev_drop 8 ?_
      refine ev_drop 9 ?_
      have hc : (s_cnd (atM σ) (tkM σ) A B T i j p q) = none := by
        unfold s_cnd
        rw [hX]
        dsimp only
        rw [if_pos (Or.inl (by omega))]
      refine kK σ2 ?_ hot2 hf2s
      rw [hc]
      exact hacc2
    · replace c174 := zi_1.mp c174
      refine ev_br 5 [vp_in (nI (11 * (i + p) + (j + q))) 121] (¬ ((σ2 82) (nI (11 * (i + p) + (j + q))).toNatClampNeg) = (-1 : Int32)) 191 188 ([some (.ref 57), some (.int (nI i)), some (.int (nI j)), some (.int (nI (11 * i + j))), some (.int (x4)), some (.int (nI p)), some (.int (nI q)), some (.int (nI (11 * (i + p) + (j + q)))), none, none], [], σ2) rfl ?_ (fun c185 => ?_) (fun c185 => ?_)
      · exact hit
      · rw [hkt] at c185
        refine ev_blk 12 [vp_in (nI (11 * (i + p) + (j + q))) 121, vp_in (nI (11 * (i + p) + (j + q))) 121] 210 ([some (.ref 57), some (.int (nI i)), some (.int (nI j)), some (.int (nI (11 * i + j))), some (.int (x4)), some (.int (nI p)), some (.int (nI q)), some (.int (nI (11 * (i + p) + (j + q)))), some (.int (((σ2 82) (nI (11 * (i + p) + (j + q))).toNatClampNeg) + (1 : Int32))), none], [.ref 57, .int ((σ2 83) (nI (11 * (i + p) + (j + q))).toNatClampNeg)], σ2) rfl ?_ ?_
        · exact ⟨hit, hit⟩
        rw [hkt]
        have hFn : ∀ z ∈ F.2, z.1 < 10 := fun z hz => by
          rcases s_gos_in hX z hz with w | w
          · simp at w
          · rcases List.mem_append.mp w with w | w
            · have := hM.2.2.1 _ (List.mem_of_mem_drop (List.mem_of_mem_take w)); omega
            · have := hM.2.2.2.1 _ (List.mem_of_mem_drop (List.mem_of_mem_take w)); omega
        have ha2 : atM σ2 = atM σ := (atM_fr hf2 rfl).trans ha1
        refine ev_callV M_X6_spends [] [.int ((σ2 83) (11 * (i + p) + (j + q)))] 57 rfl rfl ln_X6_178 k_X6_spends rfl rfl rfl rfl rfl rfl (m_spends σ2 F hMR hFn) ?_
        refine pu_k ?_
        rw [ha2]
        show xEv _ _ _ 213 ([some (.ref 57), some (.int (nI i)), some (.int (nI j)), some (.int (nI (11 * i + j))), some (.int (x4)), some (.int (nI p)), some (.int (nI q)), some (.int (nI (11 * (i + p) + (j + q)))), some (.int (((σ2 82) (11 * (i + p) + (j + q))) + (1 : Int32))), none], [.int (s_spend (atM σ) F.2), .int ((σ2 83) (11 * (i + p) + (j + q)))], σ2)
        refine ev_br 7 [vp_in (nI (11 * i + j)) 121] (((σ2 82) (nI (11 * i + j)).toNatClampNeg) = (-1 : Int32)) 262 226 ([some (.ref 57), some (.int (nI i)), some (.int (nI j)), some (.int (nI (11 * i + j))), some (.int (x4)), some (.int (nI p)), some (.int (nI q)), some (.int (nI (11 * (i + p) + (j + q)))), some (.int (((σ2 82) (11 * (i + p) + (j + q))) + (1 : Int32))), some (.int (((σ2 83) (11 * (i + p) + (j + q))) + (s_spend (atM σ) F.2)))], [], σ2) rfl ?_ (fun c223 => ?_) (fun c223 => ?_)
        · exact hia
        · rw [hka] at c223
          refine ev_blk 20 [vp_in (nI (11 * i + j)) 121, vp_in (nI (11 * i + j)) 121, vp_in (nI (11 * i + j)) 121, vp_in (nI (11 * i + j)) 121] 294 ([some (.ref 57), some (.int (nI i)), some (.int (nI j)), some (.int (nI (11 * i + j))), some (.int (x4)), some (.int (nI p)), some (.int (nI q)), some (.int (nI (11 * (i + p) + (j + q)))), some (.int (((σ2 82) (11 * (i + p) + (j + q))) + (1 : Int32))), some (.int (((σ2 83) (11 * (i + p) + (j + q))) + (s_spend (atM σ) F.2)))], [], (x_up (x_up (x_up (x_up σ2 82 (upd (σ2 82) (nI (11 * i + j)).toNatClampNeg (((σ2 82) (11 * (i + p) + (j + q))) + (1 : Int32)))) 83 (upd (σ2 83) (nI (11 * i + j)).toNatClampNeg (((σ2 83) (11 * (i + p) + (j + q))) + (s_spend (atM σ) F.2)))) 84 (upd (σ2 84) (nI (11 * i + j)).toNatClampNeg (nI p))) 85 (upd (σ2 85) (nI (11 * i + j)).toNatClampNeg (nI q)))) rfl ?_ ?_
          · exact ⟨hia, hia, hia, hia⟩
          rw [hka]
          have h0 : 0 < p + q := c174
          obtain ⟨t1, t2⟩ := hT h0
          rw [← e82] at t1
          rw [← e83] at t2
          have hc : (s_cnd (atM σ) (tkM σ) A B T i j p q) = some ((T (i + p) (j + q)).1 + 1, (T (i + p) (j + q)).2.1 + s_spend (atM σ) F.2, nI p, nI q) := by
            unfold s_cnd
            rw [hX]
            dsimp only
            rw [if_neg (by rintro (z | z); omega; exact c185 (t1.trans z))]
          obtain ⟨a1, a2, a3, a4⟩ := hacc2
          refine ev_drop 7 ?_
          refine ev_drop 8 ?_
          refine ev_drop 9 ?_
          have hs : sS acc ((T (i + p) (j + q)).1 + 1, (T (i + p) (j + q)).2.1 + s_spend (atM σ) F.2, nI p, nI q) = ((T (i + p) (j + q)).1 + 1, (T (i + p) (j + q)).2.1 + s_spend (atM σ) F.2, nI p, nI q) := by unfold sS; rw [if_neg (fun z => z.1 (a1.symm.trans c223))]
          refine kK _ ?_ (hot2.tr (fun c hc x hx => ?_)) (hf2s.tr ⟨fun c hc hn => ?_, fun k hk => ?_⟩)
          · rw [hc]
            show fRw _ _ (sS acc _)
            rw [hs]
            refine ⟨?_, ?_, ?_, ?_⟩
            · simp [x_up, upd, t1]
            · simp [x_up, upd, t2]
            · simp [x_up, upd]
            · simp [x_up, upd]
          · rcases hc with rfl | rfl | rfl | rfl <;> simp [x_up, upd, hx]
          · have h82 : c ≠ 82 := fun z => hc (by rw [z]; decide)
            have h83 : c ≠ 83 := fun z => hc (by rw [z]; decide)
            have h84 : c ≠ 84 := fun z => hc (by rw [z]; decide)
            have h85 : c ≠ 85 := fun z => hc (by rw [z]; decide)
            simp [x_up, h82, h83, h84, h85]
          · simp [x_up]
        · rw [hka] at c223
          refine ev_br 5 [vp_in (nI (11 * i + j)) 121] (((σ2 82) (nI (11 * i + j)).toNatClampNeg) < (((σ2 82) (11 * (i + p) + (j + q))) + (1 : Int32))) 294 237 ([some (.ref 57), some (.int (nI i)), some (.int (nI j)), some (.int (nI (11 * i + j))), some (.int (x4)), some (.int (nI p)), some (.int (nI q)), some (.int (nI (11 * (i + p) + (j + q)))), some (.int (((σ2 82) (11 * (i + p) + (j + q))) + (1 : Int32))), some (.int (((σ2 83) (11 * (i + p) + (j + q))) + (s_spend (atM σ) F.2)))], [], σ2) rfl ?_ (fun c234 => ?_) (fun c234 => ?_)
          · exact hia
          · rw [hka] at c234
            have h0 : 0 < p + q := c174
            obtain ⟨t1, t2⟩ := hT h0
            rw [← e82] at t1
            rw [← e83] at t2
            have hc : (s_cnd (atM σ) (tkM σ) A B T i j p q) = some ((T (i + p) (j + q)).1 + 1, (T (i + p) (j + q)).2.1 + s_spend (atM σ) F.2, nI p, nI q) := by
              unfold s_cnd
              rw [hX]
              dsimp only
              rw [if_neg (by rintro (z | z); omega; exact c185 (t1.trans z))]
            obtain ⟨a1, a2, a3, a4⟩ := hacc2
            refine ev_drop 7 ?_
            refine ev_drop 8 ?_
            refine ev_drop 9 ?_
            have hs : sS acc ((T (i + p) (j + q)).1 + 1, (T (i + p) (j + q)).2.1 + s_spend (atM σ) F.2, nI p, nI q) = acc := by unfold sS; rw [if_pos ⟨fun z => c223 (a1.trans z), Or.inl (by rw [← t1, ← a1]; exact c234)⟩]
            refine kK σ2 ?_ hot2 hf2s
            rw [hc]
            show fRw σ2 _ (sS acc _)
            rw [hs]
            exact ⟨a1, a2, a3, a4⟩
          · rw [hka] at c234
            refine ev_br 5 [vp_in (nI (11 * i + j)) 121] (¬ (((σ2 82) (11 * (i + p) + (j + q))) + (1 : Int32)) = ((σ2 82) (nI (11 * i + j)).toNatClampNeg)) 262 248 ([some (.ref 57), some (.int (nI i)), some (.int (nI j)), some (.int (nI (11 * i + j))), some (.int (x4)), some (.int (nI p)), some (.int (nI q)), some (.int (nI (11 * (i + p) + (j + q)))), some (.int (((σ2 82) (11 * (i + p) + (j + q))) + (1 : Int32))), some (.int (((σ2 83) (11 * (i + p) + (j + q))) + (s_spend (atM σ) F.2)))], [], σ2) rfl ?_ (fun c245 => ?_) (fun c245 => ?_)
            · exact hia
            · rw [hka] at c245
              refine ev_blk 20 [vp_in (nI (11 * i + j)) 121, vp_in (nI (11 * i + j)) 121, vp_in (nI (11 * i + j)) 121, vp_in (nI (11 * i + j)) 121] 294 ([some (.ref 57), some (.int (nI i)), some (.int (nI j)), some (.int (nI (11 * i + j))), some (.int (x4)), some (.int (nI p)), some (.int (nI q)), some (.int (nI (11 * (i + p) + (j + q)))), some (.int (((σ2 82) (11 * (i + p) + (j + q))) + (1 : Int32))), some (.int (((σ2 83) (11 * (i + p) + (j + q))) + (s_spend (atM σ) F.2)))], [], (x_up (x_up (x_up (x_up σ2 82 (upd (σ2 82) (nI (11 * i + j)).toNatClampNeg (((σ2 82) (11 * (i + p) + (j + q))) + (1 : Int32)))) 83 (upd (σ2 83) (nI (11 * i + j)).toNatClampNeg (((σ2 83) (11 * (i + p) + (j + q))) + (s_spend (atM σ) F.2)))) 84 (upd (σ2 84) (nI (11 * i + j)).toNatClampNeg (nI p))) 85 (upd (σ2 85) (nI (11 * i + j)).toNatClampNeg (nI q)))) rfl ?_ ?_
              · exact ⟨hia, hia, hia, hia⟩
              rw [hka]
              have h0 : 0 < p + q := c174
              obtain ⟨t1, t2⟩ := hT h0
              rw [← e82] at t1
              rw [← e83] at t2
              have hc : (s_cnd (atM σ) (tkM σ) A B T i j p q) = some ((T (i + p) (j + q)).1 + 1, (T (i + p) (j + q)).2.1 + s_spend (atM σ) F.2, nI p, nI q) := by
                unfold s_cnd
                rw [hX]
                dsimp only
                rw [if_neg (by rintro (z | z); omega; exact c185 (t1.trans z))]
              obtain ⟨a1, a2, a3, a4⟩ := hacc2
              refine ev_drop 7 ?_
              refine ev_drop 8 ?_
              refine ev_drop 9 ?_
              have hs : sS acc ((T (i + p) (j + q)).1 + 1, (T (i + p) (j + q)).2.1 + s_spend (atM σ) F.2, nI p, nI q) = ((T (i + p) (j + q)).1 + 1, (T (i + p) (j + q)).2.1 + s_spend (atM σ) F.2, nI p, nI q) := by unfold sS; rw [if_neg (fun z => z.2.elim (fun y => c234 (by rw [t1, a1]; exact y)) (fun y => c245 (by rw [t1, a1]; exact y.1.symm)))]
              refine kK _ ?_ (hot2.tr (fun c hc x hx => ?_)) (hf2s.tr ⟨fun c hc hn => ?_, fun k hk => ?_⟩)
              · rw [hc]
                show fRw _ _ (sS acc _)
                rw [hs]
                refine ⟨?_, ?_, ?_, ?_⟩
                · simp [x_up, upd, t1]
                · simp [x_up, upd, t2]
                · simp [x_up, upd]
                · simp [x_up, upd]
              · rcases hc with rfl | rfl | rfl | rfl <;> simp [x_up, upd, hx]
              · have h82 : c ≠ 82 := fun z => hc (by rw [z]; decide)
                have h83 : c ≠ 83 := fun z => hc (by rw [z]; decide)
                have h84 : c ≠ 84 := fun z => hc (by rw [z]; decide)
                have h85 : c ≠ 85 := fun z => hc (by rw [z]; decide)
                simp [x_up, h82, h83, h84, h85]
              · simp [x_up]
            · rw [hka] at c245
              refine ev_br 5 [vp_in (nI (11 * i + j)) 121] ((((σ2 83) (11 * (i + p) + (j + q))) + (s_spend (atM σ) F.2)) < ((σ2 83) (nI (11 * i + j)).toNatClampNeg)) 262 259 ([some (.ref 57), some (.int (nI i)), some (.int (nI j)), some (.int (nI (11 * i + j))), some (.int (x4)), some (.int (nI p)), some (.int (nI q)), some (.int (nI (11 * (i + p) + (j + q)))), some (.int (((σ2 82) (11 * (i + p) + (j + q))) + (1 : Int32))), some (.int (((σ2 83) (11 * (i + p) + (j + q))) + (s_spend (atM σ) F.2)))], [], σ2) rfl ?_ (fun c256 => ?_) (fun c256 => ?_)
              · exact hia
              · rw [hka] at c256
                refine ev_blk 20 [vp_in (nI (11 * i + j)) 121, vp_in (nI (11 * i + j)) 121, vp_in (nI (11 * i + j)) 121, vp_in (nI (11 * i + j)) 121] 294 ([some (.ref 57), some (.int (nI i)), some (.int (nI j)), some (.int (nI (11 * i + j))), some (.int (x4)), some (.int (nI p)), some (.int (nI q)), some (.int (nI (11 * (i + p) + (j + q)))), some (.int (((σ2 82) (11 * (i + p) + (j + q))) + (1 : Int32))), some (.int (((σ2 83) (11 * (i + p) + (j + q))) + (s_spend (atM σ) F.2)))], [], (x_up (x_up (x_up (x_up σ2 82 (upd (σ2 82) (nI (11 * i + j)).toNatClampNeg (((σ2 82) (11 * (i + p) + (j + q))) + (1 : Int32)))) 83 (upd (σ2 83) (nI (11 * i + j)).toNatClampNeg (((σ2 83) (11 * (i + p) + (j + q))) + (s_spend (atM σ) F.2)))) 84 (upd (σ2 84) (nI (11 * i + j)).toNatClampNeg (nI p))) 85 (upd (σ2 85) (nI (11 * i + j)).toNatClampNeg (nI q)))) rfl ?_ ?_
                · exact ⟨hia, hia, hia, hia⟩
                rw [hka]
                have h0 : 0 < p + q := c174
                obtain ⟨t1, t2⟩ := hT h0
                rw [← e82] at t1
                rw [← e83] at t2
                have hc : (s_cnd (atM σ) (tkM σ) A B T i j p q) = some ((T (i + p) (j + q)).1 + 1, (T (i + p) (j + q)).2.1 + s_spend (atM σ) F.2, nI p, nI q) := by
                  unfold s_cnd
                  rw [hX]
                  dsimp only
                  rw [if_neg (by rintro (z | z); omega; exact c185 (t1.trans z))]
                obtain ⟨a1, a2, a3, a4⟩ := hacc2
                refine ev_drop 7 ?_
                refine ev_drop 8 ?_
                refine ev_drop 9 ?_
                have hs : sS acc ((T (i + p) (j + q)).1 + 1, (T (i + p) (j + q)).2.1 + s_spend (atM σ) F.2, nI p, nI q) = ((T (i + p) (j + q)).1 + 1, (T (i + p) (j + q)).2.1 + s_spend (atM σ) F.2, nI p, nI q) := by unfold sS; rw [if_neg (fun z => z.2.elim (fun y => c234 (by rw [t1, a1]; exact y)) (fun y => absurd c256 (Int32.not_lt.mpr (by rw [t2, a2]; exact y.2))))]
                refine kK _ ?_ (hot2.tr (fun c hc x hx => ?_)) (hf2s.tr ⟨fun c hc hn => ?_, fun k hk => ?_⟩)
                · rw [hc]
                  show fRw _ _ (sS acc _)
                  rw [hs]
                  refine ⟨?_, ?_, ?_, ?_⟩
                  · simp [x_up, upd, t1]
                  · simp [x_up, upd, t2]
                  · simp [x_up, upd]
                  · simp [x_up, upd]
                · rcases hc with rfl | rfl | rfl | rfl <;> simp [x_up, upd, hx]
                · have h82 : c ≠ 82 := fun z => hc (by rw [z]; decide)
                  have h83 : c ≠ 83 := fun z => hc (by rw [z]; decide)
                  have h84 : c ≠ 84 := fun z => hc (by rw [z]; decide)
                  have h85 : c ≠ 85 := fun z => hc (by rw [z]; decide)
                  simp [x_up, h82, h83, h84, h85]
                · simp [x_up]
              · rw [hka] at c256
                refine ev_blk 1 [] 294 ([some (.ref 57), some (.int (nI i)), some (.int (nI j)), some (.int (nI (11 * i + j))), some (.int (x4)), some (.int (nI p)), some (.int (nI q)), some (.int (nI (11 * (i + p) + (j + q)))), some (.int (((σ2 82) (11 * (i + p) + (j + q))) + (1 : Int32))), some (.int (((σ2 83) (11 * (i + p) + (j + q))) + (s_spend (atM σ) F.2)))], [], σ2) rfl ?_ ?_
                · trivial
                have h0 : 0 < p + q := c174
                obtain ⟨t1, t2⟩ := hT h0
                rw [← e82] at t1
                rw [← e83] at t2
                have hc : (s_cnd (atM σ) (tkM σ) A B T i j p q) = some ((T (i + p) (j + q)).1 + 1, (T (i + p) (j + q)).2.1 + s_spend (atM σ) F.2, nI p, nI q) := by
                  unfold s_cnd
                  rw [hX]
                  dsimp only
                  rw [if_neg (by rintro (z | z); omega; exact c185 (t1.trans z))]
                obtain ⟨a1, a2, a3, a4⟩ := hacc2
                refine ev_drop 7 ?_
                refine ev_drop 8 ?_
                refine ev_drop 9 ?_
                have hs : sS acc ((T (i + p) (j + q)).1 + 1, (T (i + p) (j + q)).2.1 + s_spend (atM σ) F.2, nI p, nI q) = acc := by unfold sS; rw [if_pos ⟨fun z => c223 (a1.trans z), Or.inr ⟨by rw [← t1, ← a1]; exact (Classical.byContradiction c245).symm, by rw [← t2, ← a2]; exact Int32.not_lt.mp c256⟩⟩]
                refine kK σ2 ?_ hot2 hf2s
                rw [hc]
                show fRw σ2 _ (sS acc _)
                rw [hs]
                exact ⟨a1, a2, a3, a4⟩
      · rw [hkt] at c185
        refine ev_blk 1 [] 294 ([some (.ref 57), some (.int (nI i)), some (.int (nI j)), some (.int (nI (11 * i + j))), some (.int (x4)), some (.int (nI p)), some (.int (nI q)), some (.int (nI (11 * (i + p) + (j + q)))), none, none], [], σ2) rfl ?_ ?_
        · trivial
        have h0 : 0 < p + q := c174
        obtain ⟨t1, t2⟩ := hT h0
        rw [← e82] at t1
        rw [← e83] at t2
        refine ev_drop 7 ?_
        refine ev_drop 8 ?_
        refine ev_drop 9 ?_
        have hc : (s_cnd (atM σ) (tkM σ) A B T i j p q) = none := by
          unfold s_cnd
          rw [hX]
          dsimp only
          rw [if_pos (Or.inr (t1.symm.trans (Classical.byContradiction c185)))]
        refine kK σ2 ?_ hot2 hf2s
        rw [hc]
        exact hacc2
  · rw [ha1, ht1] at hX
    have e82 := hf2.1 82 (by decide) (by decide)
    have e83 := hf2.1 83 (by decide) (by decide)
    have e84 := hf2.1 84 (by decide) (by decide)
    have e85 := hf2.1 85 (by decide) (by decide)
    have hacc2 := fRw_fr hacc e82 e83 e84 e85
    have hot2 : fOt σ1 σ2 (11 * i + j) := fun c hc x _ => by rcases hc with rfl | rfl | rfl | rfl; rw [e82]; rw [e83]; rw [e84]; rw [e85]
    have hf2s : xFm scM scP σ1 σ2 := hf2.mono rfl rfl
    show xEv _ _ _ 174 ([some (.ref 57), some (.int (nI i)), some (.int (nI j)), some (.int (nI (11 * i + j))), some (.int (x4)), some (.int (nI p)), some (.int (nI q)), some (.int (nI (11 * (i + p) + (j + q)))), none, none], [.int ((0 : Int32))], σ2)
    refine ev_br 0 [] ((0 : Int32) = 0) 294 177 ([some (.ref 57), some (.int (nI i)), some (.int (nI j)), some (.int (nI (11 * i + j))), some (.int (x4)), some (.int (nI p)), some (.int (nI q)), some (.int (nI (11 * (i + p) + (j + q)))), none, none], [], σ2) rfl ?_ (fun c174 => ?_) (fun c174 => ?_)
    · trivial
    · refine ev_drop 7 ?_
      refine ev_drop 8 ?_
      refine ev_drop 9 ?_
      have hc : (s_cnd (atM σ) (tkM σ) A B T i j p q) = none := by
        unfold s_cnd
        rw [hX]
      refine kK σ2 ?_ hot2 hf2s
      rw [hc]
      exact hacc2
    · exact absurd (by decide) c174
set_option maxRecDepth 100000 in
theorem m_frees_q (σ : xSg) (n : Nat) (A B : List Nat) (hM : mOk σ n A B) (hL : LR σ A B) (T : sTb) (i j : Nat) (hi : i ≤ A.length) (hj : j ≤ B.length) (hT : ∀ p q, p ≤ A.length - i → q ≤ B.length - j → 0 < p + q → σ 82 (11 * (i + p) + (j + q)) = (T (i + p) (j + q)).1 ∧ σ 83 (11 * (i + p) + (j + q)) = (T (i + p) (j + q)).2.1) (Q : Option Value → xSg → Prop) (x4 : Int32) (V : sV) (p : Nat) (hp : p ≤ A.length - i) (kK : ∀ σ2 : xSg, fRw σ2 (11 * i + j) V → fOt σ σ2 (11 * i + j) → xFm scM scP σ σ2 → xEv (.inl 4) M_X6_frees Q 300 ([some (.ref 57), some (.int (nI i)), some (.int (nI j)), some (.int (nI (11 * i + j))), some (.int (x4)), some (.int (nI p)), none, none, none, none], [], σ2)) : ∀ (k : Nat) (acc : sV) (σ1 : xSg), k ≤ B.length - j + 1 → fRw σ1 (11 * i + j) acc → fOt σ σ1 (11 * i + j) → xFm scM scP σ σ1 → (((List.range' 0 k).map (s_cnd (atM σ) (tkM σ) A B T i j p)).reverse).foldl sO acc = V → xEv (.inl 4) M_X6_frees Q 145 ([some (.ref 57), some (.int (nI i)), some (.int (nI j)), some (.int (nI (11 * i + j))), some (.int (x4)), some (.int (nI p)), some (.int (s_dn k)), none, none, none], [], σ1) := by
  have hlen := hM.2.2.2.2.1
  intro k
  induction k with
  | zero =>
    intro acc σ1 hk hacc hot hfr hV
    refine ev_br 1 [] ((s_dn 0) < 0) 300 150 ([some (.ref 57), some (.int (nI i)), some (.int (nI j)), some (.int (nI (11 * i + j))), some (.int (x4)), some (.int (nI p)), some (.int (s_dn 0)), none, none, none], [], σ1) rfl ?_ (fun c147 => ?_) (fun c147 => ?_)
    · trivial
    · refine ev_drop 6 ?_
      refine kK σ1 ?_ hot hfr
      rw [← hV]
      exact hacc
    · exact absurd (show s_dn 0 < 0 by decide) c147
  | succ k ih =>
    intro acc σ1 hk hacc hot hfr hV
    show xEv _ _ _ 145 ([some (.ref 57), some (.int (nI i)), some (.int (nI j)), some (.int (nI (11 * i + j))), some (.int (x4)), some (.int (nI p)), some (.int (nI k)), none, none, none], [], σ1)
    refine ev_br 1 [] ((nI k) < 0) 300 150 ([some (.ref 57), some (.int (nI i)), some (.int (nI j)), some (.int (nI (11 * i + j))), some (.int (x4)), some (.int (nI p)), some (.int (nI k)), none, none, none], [], σ1) rfl ?_ (fun c147 => ?_) (fun c147 => ?_)
    · trivial
    · exact absurd c147 (nI_pos (by omega))
    · refine m_fbody σ n A B hM hL T i j hi hj Q x4 p k hp (by omega) σ1 hfr acc hacc (fun z => ?_) (fun σ2 hr2 ho2 hf2 => ?_)
      · have := hT p k hp (by omega) z
        rw [hot 82 (Or.inl rfl) _ (by omega), hot 83 (Or.inr (Or.inl rfl)) _ (by omega)]
        exact this
      · refine ev_blk 2 [] 145 ([some (.ref 57), some (.int (nI i)), some (.int (nI j)), some (.int (nI (11 * i + j))), some (.int (x4)), some (.int (nI p)), some (.int ((nI k) + (-1 : Int32))), none, none, none], [], σ2) rfl ?_ ?_
        · trivial
        rw [s_dn_1 (by omega)]
        refine ih _ σ2 (by omega) hr2 (hot.tr ho2) (hfr.tr hf2) ?_
        rw [← hV]; conv => rhs; rw [show List.range' 0 (k + 1) = List.range' 0 k ++ [k] from by rw [List.range'_concat]; simp]
        rw [List.map_append, List.reverse_append]
        rfl
set_option maxRecDepth 100000 in
theorem m_frees_p (σ : xSg) (n : Nat) (A B : List Nat) (hM : mOk σ n A B) (hL : LR σ A B) (T : sTb) (i j : Nat) (hi : i ≤ A.length) (hj : j ≤ B.length) (hT : ∀ p q, p ≤ A.length - i → q ≤ B.length - j → 0 < p + q → σ 82 (11 * (i + p) + (j + q)) = (T (i + p) (j + q)).1 ∧ σ 83 (11 * (i + p) + (j + q)) = (T (i + p) (j + q)).2.1) (Q : Option Value → xSg → Prop) (x4 : Int32) (V : sV) (kK : ∀ σ2 : xSg, fRw σ2 (11 * i + j) V → fOt σ σ2 (11 * i + j) → xFm scM scP σ σ2 → xEv (.inl 4) M_X6_frees Q 306 ([some (.ref 57), some (.int (nI i)), some (.int (nI j)), some (.int (nI (11 * i + j))), some (.int (x4)), none, none, none, none, none], [], σ2)) : ∀ (k : Nat) (acc : sV) (σ1 : xSg), k ≤ A.length - i + 1 → fRw σ1 (11 * i + j) acc → fOt σ σ1 (11 * i + j) → xFm scM scP σ σ1 → (((List.range' 0 k).flatMap (s_row (atM σ) (tkM σ) A B T i j)).reverse).foldl sO acc = V → xEv (.inl 4) M_X6_frees Q 130 ([some (.ref 57), some (.int (nI i)), some (.int (nI j)), some (.int (nI (11 * i + j))), some (.int (x4)), some (.int (s_dn k)), none, none, none, none], [], σ1) := by
  have hlen := hM.2.2.2.2.1
  intro k
  induction k with
  | zero =>
    intro acc σ1 hk hacc hot hfr hV
    refine ev_br 1 [] ((s_dn 0) < 0) 306 135 ([some (.ref 57), some (.int (nI i)), some (.int (nI j)), some (.int (nI (11 * i + j))), some (.int (x4)), some (.int (s_dn 0)), none, none, none, none], [], σ1) rfl ?_ (fun c132 => ?_) (fun c132 => ?_)
    · trivial
    · refine ev_drop 5 ?_
      refine kK σ1 ?_ hot hfr
      rw [← hV]
      exact hacc
    · exact absurd (show s_dn 0 < 0 by decide) c132
  | succ k ih =>
    intro acc σ1 hk hacc hot hfr hV
    show xEv _ _ _ 130 ([some (.ref 57), some (.int (nI i)), some (.int (nI j)), some (.int (nI (11 * i + j))), some (.int (x4)), some (.int (nI k)), none, none, none, none], [], σ1)
    have e67 : (σ1 67) 1 = nI B.length := by rw [hfr.1 67 (by decide) (by decide)]; exact hL.2.2.2.2.2
    refine ev_br 1 [] ((nI k) < 0) 306 135 ([some (.ref 57), some (.int (nI i)), some (.int (nI j)), some (.int (nI (11 * i + j))), some (.int (x4)), some (.int (nI k)), none, none, none, none], [], σ1) rfl ?_ (fun c132 => ?_) (fun c132 => ?_)
    · trivial
    · exact absurd c132 (nI_pos (by omega))
    · refine ev_blk 7 [vp_in ((1 : Int32)) 2] 145 ([some (.ref 57), some (.int (nI i)), some (.int (nI j)), some (.int (nI (11 * i + j))), some (.int (x4)), some (.int (nI k)), some (.int (((σ1 67) 1) - (nI j))), none, none, none], [], σ1) rfl ?_ ?_
      · exact vp_in_nI (n := 1) (by decide) (by decide)
      rw [e67, i_sub (show j ≤ B.length from hj)]
      refine m_frees_q σ n A B hM hL T i j hi hj hT Q x4 _ k (by omega) (fun σ2 hr2 ho2 hf2 => ?_) (B.length - j + 1) acc σ1 (Nat.le_refl _) hacc hot hfr rfl
      refine ev_blk 2 [] 130 ([some (.ref 57), some (.int (nI i)), some (.int (nI j)), some (.int (nI (11 * i + j))), some (.int (x4)), some (.int ((nI k) + (-1 : Int32))), none, none, none, none], [], σ2) rfl ?_ ?_
      · trivial
      rw [s_dn_1 (by omega)]
      refine ih _ σ2 (by omega) hr2 ho2 hf2 ?_
      rw [← hV]; conv => rhs; rw [show List.range' 0 (k + 1) = List.range' 0 k ++ [k] from by rw [List.range'_concat]; simp]
      rw [List.flatMap_append, List.reverse_append, List.foldl_append, show List.flatMap (s_row (atM σ) (tkM σ) A B T i j) [k] = s_row (atM σ) (tkM σ) A B T i j k from by simp]
      rfl
