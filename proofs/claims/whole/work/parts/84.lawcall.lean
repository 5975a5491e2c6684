/-! the cases of the law: one call on both halves -/
theorem lw_in {L i d : Nat} (hL : L ≤ 3072) (hi : i + 6 ≤ L) (hd : d < 6) : vp_in (nI i + nI d) L := by
  rw [nI_add]
  exact vp_in_nI (by omega) (by omega)
set_option maxRecDepth 100000 in
theorem lc_ship {L : Nat} {xs : Nat → Int32} {Q : Option Value → xSg → Prop} (hL : L ≤ 3072) {i : Nat} (hi : i + 6 ≤ L) {τ : xSg} {S : zS} (hτ : nrm τ = τ) (ok : sOk S) (hc : CH0 τ S) (hm : RH0 τ S) (kk : ∀ (σ2 : xSg) (S2 : zS), sOk S2 → CH0 σ2 S2 → RH0 σ2 S2 → xEv (.inr (L, xs)) M_law0 Q 1049 ([some (.ref 99), some (.ref 0), some (.ref 57), some (.int (nI i))], [], σ2)) : xEv (.inr (L, xs)) M_law0 Q 164 ([some (.ref 99), some (.ref 0), some (.ref 57), some (.int (nI i))], [], τ) := by
  refine ev_blk 26 [vp_in ((nI i) + (1 : Int32)) L, vp_in ((nI i) + (2 : Int32)) L, vp_in ((nI i) + (3 : Int32)) L, vp_in ((nI i) + (4 : Int32)) L, vp_in ((nI i) + (5 : Int32)) L] 190 ([some (.ref 99), some (.ref 0), some (.ref 57), some (.int (nI i))], [.int (xs ((nI i) + (5 : Int32)).toNatClampNeg), .int (xs ((nI i) + (4 : Int32)).toNatClampNeg), .int (xs ((nI i) + (3 : Int32)).toNatClampNeg), .int (xs ((nI i) + (2 : Int32)).toNatClampNeg), .int (xs ((nI i) + (1 : Int32)).toNatClampNeg), .ref 0], τ) rfl ?_ ?_
  · exact ⟨lw_in hL hi (d := 1) (by decide), lw_in hL hi (d := 2) (by decide), lw_in hL hi (d := 3) (by decide), lw_in hL hi (d := 4) (by decide), lw_in hL hi (d := 5) (by decide)⟩
  refine ev_callV M_X5_ship [.int (xs ((nI i) + (1 : Int32)).toNatClampNeg), .int (xs ((nI i) + (2 : Int32)).toNatClampNeg), .int (xs ((nI i) + (3 : Int32)).toNatClampNeg), .int (xs ((nI i) + (4 : Int32)).toNatClampNeg), .int (xs ((nI i) + (5 : Int32)).toNatClampNeg)] [] 0 rfl rfl ln_RL_13 k_X5_ship rfl rfl rfl rfl rfl rfl (c_ship _ S.1.1 hc.1.1 ok.1.1.1 _ _ _ _ _) ?_
  intro r σ1 hq
  obtain ⟨rfl, hc1, fr1⟩ := kc_ship hc hq
  have hm1 := RH0_nrm ok (RH0_of hm fr1)
  have hτ1 : nrm (nrm σ1) = nrm σ1 := nrm_nrm σ1
  have ok2 : sOk (zShip S (xs ((nI i) + (1 : Int32)).toNatClampNeg) (xs ((nI i) + (2 : Int32)).toNatClampNeg) (xs ((nI i) + (3 : Int32)).toNatClampNeg) (xs ((nI i) + (4 : Int32)).toNatClampNeg) (xs ((nI i) + (5 : Int32)).toNatClampNeg)).2 := so_ship ok _ _ _ _ _
  have hc2 := CH0_nrm ok2 hc1
  refine ev_nrm ?_
  show xEv _ _ _ 193 ([some (.ref 99), some (.ref 0), some (.ref 57), some (.int (nI i))], [.int ((zShip S (xs ((nI i) + (1 : Int32)).toNatClampNeg) (xs ((nI i) + (2 : Int32)).toNatClampNeg) (xs ((nI i) + (3 : Int32)).toNatClampNeg) (xs ((nI i) + (4 : Int32)).toNatClampNeg) (xs ((nI i) + (5 : Int32)).toNatClampNeg)).1)], (nrm σ1))
  refine ev_blk 26 [vp_in ((nI i) + (1 : Int32)) L, vp_in ((nI i) + (2 : Int32)) L, vp_in ((nI i) + (3 : Int32)) L, vp_in ((nI i) + (4 : Int32)) L, vp_in ((nI i) + (5 : Int32)) L] 219 ([some (.ref 99), some (.ref 0), some (.ref 57), some (.int (nI i))], [.int (xs ((nI i) + (5 : Int32)).toNatClampNeg), .int (xs ((nI i) + (4 : Int32)).toNatClampNeg), .int (xs ((nI i) + (3 : Int32)).toNatClampNeg), .int (xs ((nI i) + (2 : Int32)).toNatClampNeg), .int (xs ((nI i) + (1 : Int32)).toNatClampNeg), .ref 57, .int ((zShip S (xs ((nI i) + (1 : Int32)).toNatClampNeg) (xs ((nI i) + (2 : Int32)).toNatClampNeg) (xs ((nI i) + (3 : Int32)).toNatClampNeg) (xs ((nI i) + (4 : Int32)).toNatClampNeg) (xs ((nI i) + (5 : Int32)).toNatClampNeg)).1)], (nrm σ1)) rfl ?_ ?_
  · exact ⟨lw_in hL hi (d := 1) (by decide), lw_in hL hi (d := 2) (by decide), lw_in hL hi (d := 3) (by decide), lw_in hL hi (d := 4) (by decide), lw_in hL hi (d := 5) (by decide)⟩
  refine ev_callV M_X6_ship [.int (xs ((nI i) + (1 : Int32)).toNatClampNeg), .int (xs ((nI i) + (2 : Int32)).toNatClampNeg), .int (xs ((nI i) + (3 : Int32)).toNatClampNeg), .int (xs ((nI i) + (4 : Int32)).toNatClampNeg), .int (xs ((nI i) + (5 : Int32)).toNatClampNeg)] [.int ((zShip S (xs ((nI i) + (1 : Int32)).toNatClampNeg) (xs ((nI i) + (2 : Int32)).toNatClampNeg) (xs ((nI i) + (3 : Int32)).toNatClampNeg) (xs ((nI i) + (4 : Int32)).toNatClampNeg) (xs ((nI i) + (5 : Int32)).toNatClampNeg)).1)] 57 rfl rfl ln_RL_17 k_X6_ship rfl rfl rfl rfl rfl rfl (m_ship _ S.1.1 hm1.1.1 ok.1.1.1 (lA S.1) (lB S.1) (rh_LR hm1) (ll_ab ok.1.1.1) _ _ _ _ _) ?_
  intro r σ2 hq
  obtain ⟨rfl, hm2, fr2⟩ := km_ship ok hm1 hq
  have hc3 := CH0_of hc2 fr2
  show xEv _ _ _ 222 ([some (.ref 99), some (.ref 0), some (.ref 57), some (.int (nI i))], [.int ((zShip S (xs ((nI i) + (1 : Int32)).toNatClampNeg) (xs ((nI i) + (2 : Int32)).toNatClampNeg) (xs ((nI i) + (3 : Int32)).toNatClampNeg) (xs ((nI i) + (4 : Int32)).toNatClampNeg) (xs ((nI i) + (5 : Int32)).toNatClampNeg)).1), .int ((zShip S (xs ((nI i) + (1 : Int32)).toNatClampNeg) (xs ((nI i) + (2 : Int32)).toNatClampNeg) (xs ((nI i) + (3 : Int32)).toNatClampNeg) (xs ((nI i) + (4 : Int32)).toNatClampNeg) (xs ((nI i) + (5 : Int32)).toNatClampNeg)).1)], σ2)
  refine ev_br 0 [] (((zShip S (xs ((nI i) + (1 : Int32)).toNatClampNeg) (xs ((nI i) + (2 : Int32)).toNatClampNeg) (xs ((nI i) + (3 : Int32)).toNatClampNeg) (xs ((nI i) + (4 : Int32)).toNatClampNeg) (xs ((nI i) + (5 : Int32)).toNatClampNeg)).1) = ((zShip S (xs ((nI i) + (1 : Int32)).toNatClampNeg) (xs ((nI i) + (2 : Int32)).toNatClampNeg) (xs ((nI i) + (3 : Int32)).toNatClampNeg) (xs ((nI i) + (4 : Int32)).toNatClampNeg) (xs ((nI i) + (5 : Int32)).toNatClampNeg)).1)) 1049 225 ([some (.ref 99), some (.ref 0), some (.ref 57), some (.int (nI i))], [], σ2) rfl ?_ (fun c222 => ?_) (fun c222 => ?_)
  · trivial
  · exact kk _ _ ok2 hc3 hm2
  · exact absurd rfl c222
set_option maxRecDepth 100000 in
theorem lc_set {L : Nat} {xs : Nat → Int32} {Q : Option Value → xSg → Prop} (hL : L ≤ 3072) {i : Nat} (hi : i + 6 ≤ L) {τ : xSg} {S : zS} (hτ : nrm τ = τ) (ok : sOk S) (hc : CH0 τ S) (hm : RH0 τ S) (kk : ∀ (σ2 : xSg) (S2 : zS), sOk S2 → CH0 σ2 S2 → RH0 σ2 S2 → xEv (.inr (L, xs)) M_law1 Q 1049 ([some (.ref 99), some (.ref 0), some (.ref 57), some (.int (nI i))], [], σ2)) : xEv (.inr (L, xs)) M_law1 Q 227 ([some (.ref 99), some (.ref 0), some (.ref 57), some (.int (nI i))], [], τ) := by
  refine ev_blk 11 [vp_in ((nI i) + (1 : Int32)) L, vp_in ((nI i) + (2 : Int32)) L] 238 ([some (.ref 99), some (.ref 0), some (.ref 57), some (.int (nI i))], [.int (xs ((nI i) + (2 : Int32)).toNatClampNeg), .int (xs ((nI i) + (1 : Int32)).toNatClampNeg), .ref 0], τ) rfl ?_ ?_
  · exact ⟨lw_in hL hi (d := 1) (by decide), lw_in hL hi (d := 2) (by decide)⟩
  refine ev_callV M_X5_set [.int (xs ((nI i) + (1 : Int32)).toNatClampNeg), .int (xs ((nI i) + (2 : Int32)).toNatClampNeg)] [] 0 rfl rfl ln_RL_18 k_X5_set rfl rfl rfl rfl rfl rfl (c_set _ _ _) ?_
  intro r σ1 hq
  obtain ⟨rfl, hc1, fr1⟩ := kc_set hτ ok hc hq
  have hm1 := RH0_nrm ok (RH0_of hm fr1)
  have hτ1 : nrm (nrm σ1) = nrm σ1 := nrm_nrm σ1
  have ok2 : sOk (zSet S (xs ((nI i) + (1 : Int32)).toNatClampNeg) (xs ((nI i) + (2 : Int32)).toNatClampNeg)).2 := so_set ok _ _
  have hc2 := CH0_nrm ok2 hc1
  refine ev_nrm ?_
  show xEv _ _ _ 241 ([some (.ref 99), some (.ref 0), some (.ref 57), some (.int (nI i))], [.int ((zSet S (xs ((nI i) + (1 : Int32)).toNatClampNeg) (xs ((nI i) + (2 : Int32)).toNatClampNeg)).1)], (nrm σ1))
  refine ev_blk 11 [vp_in ((nI i) + (1 : Int32)) L, vp_in ((nI i) + (2 : Int32)) L] 252 ([some (.ref 99), some (.ref 0), some (.ref 57), some (.int (nI i))], [.int (xs ((nI i) + (2 : Int32)).toNatClampNeg), .int (xs ((nI i) + (1 : Int32)).toNatClampNeg), .ref 57, .int ((zSet S (xs ((nI i) + (1 : Int32)).toNatClampNeg) (xs ((nI i) + (2 : Int32)).toNatClampNeg)).1)], (nrm σ1)) rfl ?_ ?_
  · exact ⟨lw_in hL hi (d := 1) (by decide), lw_in hL hi (d := 2) (by decide)⟩
  refine ev_callV M_X6_set [.int (xs ((nI i) + (1 : Int32)).toNatClampNeg), .int (xs ((nI i) + (2 : Int32)).toNatClampNeg)] [.int ((zSet S (xs ((nI i) + (1 : Int32)).toNatClampNeg) (xs ((nI i) + (2 : Int32)).toNatClampNeg)).1)] 57 rfl rfl ln_RL_22 k_X6_set rfl rfl rfl rfl rfl rfl (m_set _ _ _) ?_
  intro r σ2 hq
  obtain ⟨rfl, hm2, fr2⟩ := km_set hτ1 ok hm1 hq
  have hc3 := CH0_of hc2 fr2
  show xEv _ _ _ 255 ([some (.ref 99), some (.ref 0), some (.ref 57), some (.int (nI i))], [.int ((zSet S (xs ((nI i) + (1 : Int32)).toNatClampNeg) (xs ((nI i) + (2 : Int32)).toNatClampNeg)).1), .int ((zSet S (xs ((nI i) + (1 : Int32)).toNatClampNeg) (xs ((nI i) + (2 : Int32)).toNatClampNeg)).1)], σ2)
  refine ev_br 0 [] (((zSet S (xs ((nI i) + (1 : Int32)).toNatClampNeg) (xs ((nI i) + (2 : Int32)).toNatClampNeg)).1) = ((zSet S (xs ((nI i) + (1 : Int32)).toNatClampNeg) (xs ((nI i) + (2 : Int32)).toNatClampNeg)).1)) 1049 258 ([some (.ref 99), some (.ref 0), some (.ref 57), some (.int (nI i))], [], σ2) rfl ?_ (fun c255 => ?_) (fun c255 => ?_)
  · trivial
  · exact kk _ _ ok2 hc3 hm2
  · exact absurd rfl c255
set_option maxRecDepth 100000 in
theorem lc_bar {L : Nat} {xs : Nat → Int32} {Q : Option Value → xSg → Prop} (hL : L ≤ 3072) {i : Nat} (hi : i + 6 ≤ L) {τ : xSg} {S : zS} (hτ : nrm τ = τ) (ok : sOk S) (hc : CH0 τ S) (hm : RH0 τ S) (kk : ∀ (σ2 : xSg) (S2 : zS), sOk S2 → CH0 σ2 S2 → RH0 σ2 S2 → xEv (.inr (L, xs)) M_law2 Q 1049 ([some (.ref 99), some (.ref 0), some (.ref 57), some (.int (nI i))], [], σ2)) : xEv (.inr (L, xs)) M_law2 Q 260 ([some (.ref 99), some (.ref 0), some (.ref 57), some (.int (nI i))], [], τ) := by
  refine ev_br 16 [vp_in ((nI i) + (1 : Int32)) L, vp_in ((nI i) + (2 : Int32)) L, vp_in ((nI i) + (3 : Int32)) L] ((xs ((nI i) + (3 : Int32)).toNatClampNeg) = 0) 283 279 ([some (.ref 99), some (.ref 0), some (.ref 57), some (.int (nI i))], [.int (xs ((nI i) + (2 : Int32)).toNatClampNeg), .int (xs ((nI i) + (1 : Int32)).toNatClampNeg), .ref 0], τ) rfl ?_ (fun c276 => ?_) (fun c276 => ?_)
  · exact ⟨lw_in hL hi (d := 1) (by decide), lw_in hL hi (d := 2) (by decide), lw_in hL hi (d := 3) (by decide)⟩
  · refine ev_blk 1 [] 284 ([some (.ref 99), some (.ref 0), some (.ref 57), some (.int (nI i))], [.int ((0 : Int32)), .int (xs ((nI i) + (2 : Int32)).toNatClampNeg), .int (xs ((nI i) + (1 : Int32)).toNatClampNeg), .ref 0], τ) rfl ?_ ?_
    · trivial
    refine ev_callV M_X5_bar [.int (xs ((nI i) + (1 : Int32)).toNatClampNeg), .int (xs ((nI i) + (2 : Int32)).toNatClampNeg), .int ((0 : Int32))] [] 0 rfl rfl ln_RL_23 k_X5_bar rfl rfl rfl rfl rfl rfl (c_bar _ _ _ _) ?_
    intro r σ1 hq
    obtain ⟨rfl, hc1, fr1⟩ := kc_bar hc hq
    have hm1 := RH0_nrm ok (RH0_of hm fr1)
    have hτ1 : nrm (nrm σ1) = nrm σ1 := nrm_nrm σ1
    have ok2 : sOk (zBar S (xs ((nI i) + (1 : Int32)).toNatClampNeg) (xs ((nI i) + (2 : Int32)).toNatClampNeg) (0 : Int32)).2 := so_bar ok _ _ _
    have hc2 := CH0_nrm ok2 hc1
    refine ev_nrm ?_
    show xEv _ _ _ 287 ([some (.ref 99), some (.ref 0), some (.ref 57), some (.int (nI i))], [.int ((zBar S (xs ((nI i) + (1 : Int32)).toNatClampNeg) (xs ((nI i) + (2 : Int32)).toNatClampNeg) (0 : Int32)).1)], (nrm σ1))
    refine ev_br 16 [vp_in ((nI i) + (1 : Int32)) L, vp_in ((nI i) + (2 : Int32)) L, vp_in ((nI i) + (3 : Int32)) L] ((xs ((nI i) + (3 : Int32)).toNatClampNeg) = 0) 310 306 ([some (.ref 99), some (.ref 0), some (.ref 57), some (.int (nI i))], [.int (xs ((nI i) + (2 : Int32)).toNatClampNeg), .int (xs ((nI i) + (1 : Int32)).toNatClampNeg), .ref 57, .int ((zBar S (xs ((nI i) + (1 : Int32)).toNatClampNeg) (xs ((nI i) + (2 : Int32)).toNatClampNeg) (0 : Int32)).1)], (nrm σ1)) rfl ?_ (fun c303 => ?_) (fun c303 => ?_)
    · exact ⟨lw_in hL hi (d := 1) (by decide), lw_in hL hi (d := 2) (by decide), lw_in hL hi (d := 3) (by decide)⟩
    · refine ev_blk 1 [] 311 ([some (.ref 99), some (.ref 0), some (.ref 57), some (.int (nI i))], [.int ((0 : Int32)), .int (xs ((nI i) + (2 : Int32)).toNatClampNeg), .int (xs ((nI i) + (1 : Int32)).toNatClampNeg), .ref 57, .int ((zBar S (xs ((nI i) + (1 : Int32)).toNatClampNeg) (xs ((nI i) + (2 : Int32)).toNatClampNeg) (0 : Int32)).1)], (nrm σ1)) rfl ?_ ?_
      · trivial
      refine ev_callV M_X6_bar [.int (xs ((nI i) + (1 : Int32)).toNatClampNeg), .int (xs ((nI i) + (2 : Int32)).toNatClampNeg), .int ((0 : Int32))] [.int ((zBar S (xs ((nI i) + (1 : Int32)).toNatClampNeg) (xs ((nI i) + (2 : Int32)).toNatClampNeg) (0 : Int32)).1)] 57 rfl rfl ln_RL_27 k_X6_bar rfl rfl rfl rfl rfl rfl (m_bar _ _ _ _ (Or.inl rfl)) ?_
      intro r σ2 hq
      obtain ⟨rfl, hm2, fr2⟩ := km_bar hm1 (Or.inl rfl) hq
      have hc3 := CH0_of hc2 fr2
      show xEv _ _ _ 314 ([some (.ref 99), some (.ref 0), some (.ref 57), some (.int (nI i))], [.int ((zBar S (xs ((nI i) + (1 : Int32)).toNatClampNeg) (xs ((nI i) + (2 : Int32)).toNatClampNeg) (0 : Int32)).1), .int ((zBar S (xs ((nI i) + (1 : Int32)).toNatClampNeg) (xs ((nI i) + (2 : Int32)).toNatClampNeg) (0 : Int32)).1)], σ2)
      refine ev_br 0 [] (((zBar S (xs ((nI i) + (1 : Int32)).toNatClampNeg) (xs ((nI i) + (2 : Int32)).toNatClampNeg) (0 : Int32)).1) = ((zBar S (xs ((nI i) + (1 : Int32)).toNatClampNeg) (xs ((nI i) + (2 : Int32)).toNatClampNeg) (0 : Int32)).1)) 1049 317 ([some (.ref 99), some (.ref 0), some (.ref 57), some (.int (nI i))], [], σ2) rfl ?_ (fun c314 => ?_) (fun c314 => ?_)
      · trivial
      · exact kk _ _ ok2 hc3 hm2
      · exact absurd rfl c314
    · exact absurd c276 c303
  · refine ev_blk 2 [] 284 ([some (.ref 99), some (.ref 0), some (.ref 57), some (.int (nI i))], [.int ((1 : Int32)), .int (xs ((nI i) + (2 : Int32)).toNatClampNeg), .int (xs ((nI i) + (1 : Int32)).toNatClampNeg), .ref 0], τ) rfl ?_ ?_
    · trivial
    refine ev_callV M_X5_bar [.int (xs ((nI i) + (1 : Int32)).toNatClampNeg), .int (xs ((nI i) + (2 : Int32)).toNatClampNeg), .int ((1 : Int32))] [] 0 rfl rfl ln_RL_23 k_X5_bar rfl rfl rfl rfl rfl rfl (c_bar _ _ _ _) ?_
    intro r σ1 hq
    obtain ⟨rfl, hc1, fr1⟩ := kc_bar hc hq
    have hm1 := RH0_nrm ok (RH0_of hm fr1)
    have hτ1 : nrm (nrm σ1) = nrm σ1 := nrm_nrm σ1
    have ok2 : sOk (zBar S (xs ((nI i) + (1 : Int32)).toNatClampNeg) (xs ((nI i) + (2 : Int32)).toNatClampNeg) (1 : Int32)).2 := so_bar ok _ _ _
    have hc2 := CH0_nrm ok2 hc1
    refine ev_nrm ?_
    show xEv _ _ _ 287 ([some (.ref 99), some (.ref 0), some (.ref 57), some (.int (nI i))], [.int ((zBar S (xs ((nI i) + (1 : Int32)).toNatClampNeg) (xs ((nI i) + (2 : Int32)).toNatClampNeg) (1 : Int32)).1)], (nrm σ1))
    refine ev_br 16 [vp_in ((nI i) + (1 : Int32)) L, vp_in ((nI i) + (2 : Int32)) L, vp_in ((nI i) + (3 : Int32)) L] ((xs ((nI i) + (3 : Int32)).toNatClampNeg) = 0) 310 306 ([some (.ref 99), some (.ref 0), some (.ref 57), some (.int (nI i))], [.int (xs ((nI i) + (2 : Int32)).toNatClampNeg), .int (xs ((nI i) + (1 : Int32)).toNatClampNeg), .ref 57, .int ((zBar S (xs ((nI i) + (1 : Int32)).toNatClampNeg) (xs ((nI i) + (2 : Int32)).toNatClampNeg) (1 : Int32)).1)], (nrm σ1)) rfl ?_ (fun c303 => ?_) (fun c303 => ?_)
    · exact ⟨lw_in hL hi (d := 1) (by decide), lw_in hL hi (d := 2) (by decide), lw_in hL hi (d := 3) (by decide)⟩
    · exact absurd c303 c276
    · refine ev_blk 2 [] 311 ([some (.ref 99), some (.ref 0), some (.ref 57), some (.int (nI i))], [.int ((1 : Int32)), .int (xs ((nI i) + (2 : Int32)).toNatClampNeg), .int (xs ((nI i) + (1 : Int32)).toNatClampNeg), .ref 57, .int ((zBar S (xs ((nI i) + (1 : Int32)).toNatClampNeg) (xs ((nI i) + (2 : Int32)).toNatClampNeg) (1 : Int32)).1)], (nrm σ1)) rfl ?_ ?_
      · trivial
      refine ev_callV M_X6_bar [.int (xs ((nI i) + (1 : Int32)).toNatClampNeg), .int (xs ((nI i) + (2 : Int32)).toNatClampNeg), .int ((1 : Int32))] [.int ((zBar S (xs ((nI i) + (1 : Int32)).toNatClampNeg) (xs ((nI i) + (2 : Int32)).toNatClampNeg) (1 : Int32)).1)] 57 rfl rfl ln_RL_27 k_X6_bar rfl rfl rfl rfl rfl rfl (m_bar _ _ _ _ (Or.inr rfl)) ?_
      intro r σ2 hq
      obtain ⟨rfl, hm2, fr2⟩ := km_bar hm1 (Or.inr rfl) hq
      have hc3 := CH0_of hc2 fr2
      show xEv _ _ _ 314 ([some (.ref 99), some (.ref 0), some (.ref 57), some (.int (nI i))], [.int ((zBar S (xs ((nI i) + (1 : Int32)).toNatClampNeg) (xs ((nI i) + (2 : Int32)).toNatClampNeg) (1 : Int32)).1), .int ((zBar S (xs ((nI i) + (1 : Int32)).toNatClampNeg) (xs ((nI i) + (2 : Int32)).toNatClampNeg) (1 : Int32)).1)], σ2)
      refine ev_br 0 [] (((zBar S (xs ((nI i) + (1 : Int32)).toNatClampNeg) (xs ((nI i) + (2 : Int32)).toNatClampNeg) (1 : Int32)).1) = ((zBar S (xs ((nI i) + (1 : Int32)).toNatClampNeg) (xs ((nI i) + (2 : Int32)).toNatClampNeg) (1 : Int32)).1)) 1049 317 ([some (.ref 99), some (.ref 0), some (.ref 57), some (.int (nI i))], [], σ2) rfl ?_ (fun c314 => ?_) (fun c314 => ?_)
      · trivial
      · exact kk _ _ ok2 hc3 hm2
      · exact absurd rfl c314
set_option maxRecDepth 100000 in
theorem lc_cap {L : Nat} {xs : Nat → Int32} {Q : Option Value → xSg → Prop} (hL : L ≤ 3072) {i : Nat} (hi : i + 6 ≤ L) {τ : xSg} {S : zS} (hτ : nrm τ = τ) (ok : sOk S) (hc : CH0 τ S) (hm : RH0 τ S) (kk : ∀ (σ2 : xSg) (S2 : zS), sOk S2 → CH0 σ2 S2 → RH0 σ2 S2 → xEv (.inr (L, xs)) M_law3 Q 1049 ([some (.ref 99), some (.ref 0), some (.ref 57), some (.int (nI i))], [], σ2)) : xEv (.inr (L, xs)) M_law3 Q 319 ([some (.ref 99), some (.ref 0), some (.ref 57), some (.int (nI i))], [], τ) := by
  refine ev_blk 11 [vp_in ((nI i) + (1 : Int32)) L, vp_in ((nI i) + (2 : Int32)) L] 330 ([some (.ref 99), some (.ref 0), some (.ref 57), some (.int (nI i))], [.int (xs ((nI i) + (2 : Int32)).toNatClampNeg), .int (xs ((nI i) + (1 : Int32)).toNatClampNeg), .ref 0], τ) rfl ?_ ?_
  · exact ⟨lw_in hL hi (d := 1) (by decide), lw_in hL hi (d := 2) (by decide)⟩
  refine ev_callV M_X5_cap [.int (xs ((nI i) + (1 : Int32)).toNatClampNeg), .int (xs ((nI i) + (2 : Int32)).toNatClampNeg)] [] 0 rfl rfl ln_RL_28 k_X5_cap rfl rfl rfl rfl rfl rfl (c_cap _ _ _) ?_
  intro r σ1 hq
  obtain ⟨rfl, hc1, fr1⟩ := kc_cap hτ ok hc hq
  have hm1 := RH0_nrm ok (RH0_of hm fr1)
  have hτ1 : nrm (nrm σ1) = nrm σ1 := nrm_nrm σ1
  have ok2 : sOk (zCap S (xs ((nI i) + (1 : Int32)).toNatClampNeg) (xs ((nI i) + (2 : Int32)).toNatClampNeg)).2 := so_cap ok _ _
  have hc2 := CH0_nrm ok2 hc1
  refine ev_nrm ?_
  show xEv _ _ _ 333 ([some (.ref 99), some (.ref 0), some (.ref 57), some (.int (nI i))], [.int ((zCap S (xs ((nI i) + (1 : Int32)).toNatClampNeg) (xs ((nI i) + (2 : Int32)).toNatClampNeg)).1)], (nrm σ1))
  refine ev_blk 11 [vp_in ((nI i) + (1 : Int32)) L, vp_in ((nI i) + (2 : Int32)) L] 344 ([some (.ref 99), some (.ref 0), some (.ref 57), some (.int (nI i))], [.int (xs ((nI i) + (2 : Int32)).toNatClampNeg), .int (xs ((nI i) + (1 : Int32)).toNatClampNeg), .ref 57, .int ((zCap S (xs ((nI i) + (1 : Int32)).toNatClampNeg) (xs ((nI i) + (2 : Int32)).toNatClampNeg)).1)], (nrm σ1)) rfl ?_ ?_
  · exact ⟨lw_in hL hi (d := 1) (by decide), lw_in hL hi (d := 2) (by decide)⟩
  refine ev_callV M_X6_cap [.int (xs ((nI i) + (1 : Int32)).toNatClampNeg), .int (xs ((nI i) + (2 : Int32)).toNatClampNeg)] [.int ((zCap S (xs ((nI i) + (1 : Int32)).toNatClampNeg) (xs ((nI i) + (2 : Int32)).toNatClampNeg)).1)] 57 rfl rfl ln_RL_31 k_X6_cap rfl rfl rfl rfl rfl rfl (m_cap _ _ _) ?_
  intro r σ2 hq
  obtain ⟨rfl, hm2, fr2⟩ := km_capw hm1 hq
  have hc3 := CH0_of hc2 fr2
  show xEv _ _ _ 347 ([some (.ref 99), some (.ref 0), some (.ref 57), some (.int (nI i))], [.int ((zCap S (xs ((nI i) + (1 : Int32)).toNatClampNeg) (xs ((nI i) + (2 : Int32)).toNatClampNeg)).1), .int ((zCap S (xs ((nI i) + (1 : Int32)).toNatClampNeg) (xs ((nI i) + (2 : Int32)).toNatClampNeg)).1)], σ2)
  refine ev_br 0 [] (((zCap S (xs ((nI i) + (1 : Int32)).toNatClampNeg) (xs ((nI i) + (2 : Int32)).toNatClampNeg)).1) = ((zCap S (xs ((nI i) + (1 : Int32)).toNatClampNeg) (xs ((nI i) + (2 : Int32)).toNatClampNeg)).1)) 1049 350 ([some (.ref 99), some (.ref 0), some (.ref 57), some (.int (nI i))], [], σ2) rfl ?_ (fun c347 => ?_) (fun c347 => ?_)
  · trivial
  · exact kk _ _ ok2 hc3 hm2
  · exact absurd rfl c347
set_option maxRecDepth 100000 in
theorem lc_may {L : Nat} {xs : Nat → Int32} {Q : Option Value → xSg → Prop} (hL : L ≤ 3072) {i : Nat} (hi : i + 6 ≤ L) {τ : xSg} {S : zS} (hτ : nrm τ = τ) (ok : sOk S) (hc : CH0 τ S) (hm : RH0 τ S) (kk : ∀ (σ2 : xSg) (S2 : zS), sOk S2 → CH0 σ2 S2 → RH0 σ2 S2 → xEv (.inr (L, xs)) M_law4 Q 1049 ([some (.ref 99), some (.ref 0), some (.ref 57), some (.int (nI i))], [], σ2)) : xEv (.inr (L, xs)) M_law4 Q 352 ([some (.ref 99), some (.ref 0), some (.ref 57), some (.int (nI i))], [], τ) := by
  refine ev_blk 6 [vp_in ((nI i) + (1 : Int32)) L] 358 ([some (.ref 99), some (.ref 0), some (.ref 57), some (.int (nI i))], [.int (xs ((nI i) + (1 : Int32)).toNatClampNeg), .ref 0], τ) rfl ?_ ?_
  · exact lw_in hL hi (d := 1) (by decide)
  refine ev_callV M_X5_may [.int (xs ((nI i) + (1 : Int32)).toNatClampNeg)] [] 0 rfl rfl ln_RL_32 k_X5_may rfl rfl rfl rfl rfl rfl (c_may _ _) ?_
  intro r σ1 hq
  obtain ⟨rfl, hc1, fr1⟩ := kc_may hτ ok hc hq
  have hm1 := RH0_nrm ok (RH0_of hm fr1)
  have hτ1 : nrm (nrm σ1) = nrm σ1 := nrm_nrm σ1
  have hc2 := CH0_nrm ok hc1
  refine ev_nrm ?_
  show xEv _ _ _ 361 ([some (.ref 99), some (.ref 0), some (.ref 57), some (.int (nI i))], [.int (s_may (kC S.1) (xs ((nI i) + (1 : Int32)).toNatClampNeg))], (nrm σ1))
  refine ev_blk 6 [vp_in ((nI i) + (1 : Int32)) L] 367 ([some (.ref 99), some (.ref 0), some (.ref 57), some (.int (nI i))], [.int (xs ((nI i) + (1 : Int32)).toNatClampNeg), .ref 57, .int (s_may (kC S.1) (xs ((nI i) + (1 : Int32)).toNatClampNeg))], (nrm σ1)) rfl ?_ ?_
  · exact lw_in hL hi (d := 1) (by decide)
  refine ev_callV M_X6_may [.int (xs ((nI i) + (1 : Int32)).toNatClampNeg)] [.int (s_may (kC S.1) (xs ((nI i) + (1 : Int32)).toNatClampNeg))] 57 rfl rfl ln_RL_36 k_X6_may rfl rfl rfl rfl rfl rfl (m_may _ (kC S.1) (km_cap hm1) _) ?_
  intro r σ2 hq
  obtain ⟨rfl, hm2, fr2⟩ := km_may hm1 hq
  have hc3 := CH0_of hc2 fr2
  show xEv _ _ _ 370 ([some (.ref 99), some (.ref 0), some (.ref 57), some (.int (nI i))], [.int (s_may (kC S.1) (xs ((nI i) + (1 : Int32)).toNatClampNeg)), .int (s_may (kC S.1) (xs ((nI i) + (1 : Int32)).toNatClampNeg))], σ2)
  refine ev_br 0 [] ((s_may (kC S.1) (xs ((nI i) + (1 : Int32)).toNatClampNeg)) = (s_may (kC S.1) (xs ((nI i) + (1 : Int32)).toNatClampNeg))) 1049 373 ([some (.ref 99), some (.ref 0), some (.ref 57), some (.int (nI i))], [], σ2) rfl ?_ (fun c370 => ?_) (fun c370 => ?_)
  · trivial
  · exact kk _ S ok hc3 hm2
  · exact absurd rfl c370
set_option maxRecDepth 100000 in
theorem lc_told {L : Nat} {xs : Nat → Int32} {Q : Option Value → xSg → Prop} (hL : L ≤ 3072) {i : Nat} (hi : i + 6 ≤ L) {τ : xSg} {S : zS} (hτ : nrm τ = τ) (ok : sOk S) (hc : CH0 τ S) (hm : RH0 τ S) (kk : ∀ (σ2 : xSg) (S2 : zS), sOk S2 → CH0 σ2 S2 → RH0 σ2 S2 → xEv (.inr (L, xs)) M_law5 Q 1049 ([some (.ref 99), some (.ref 0), some (.ref 57), some (.int (nI i))], [], σ2)) : xEv (.inr (L, xs)) M_law5 Q 375 ([some (.ref 99), some (.ref 0), some (.ref 57), some (.int (nI i))], [], τ) := by
  refine ev_blk 11 [vp_in ((nI i) + (1 : Int32)) L, vp_in ((nI i) + (2 : Int32)) L] 386 ([some (.ref 99), some (.ref 0), some (.ref 57), some (.int (nI i))], [.int (xs ((nI i) + (2 : Int32)).toNatClampNeg), .int (xs ((nI i) + (1 : Int32)).toNatClampNeg), .ref 0], τ) rfl ?_ ?_
  · exact ⟨lw_in hL hi (d := 1) (by decide), lw_in hL hi (d := 2) (by decide)⟩
  refine ev_callV M_X5_told [.int (xs ((nI i) + (1 : Int32)).toNatClampNeg), .int (xs ((nI i) + (2 : Int32)).toNatClampNeg)] [] 0 rfl rfl ln_RL_37 k_X5_told rfl rfl rfl rfl rfl rfl (c_told _ S.1.1 hc.1.1 ok.1.1.1 _ _) ?_
  intro r σ1 hq
  obtain ⟨rfl, hc1, fr1⟩ := kc_told hτ ok hc hq
  have hm1 := RH0_nrm ok (RH0_of hm fr1)
  have hτ1 : nrm (nrm σ1) = nrm σ1 := nrm_nrm σ1
  have hc2 := CH0_nrm ok hc1
  refine ev_nrm ?_
  show xEv _ _ _ 389 ([some (.ref 99), some (.ref 0), some (.ref 57), some (.int (nI i))], [.int (s_tld S.1.1 (kA S.1) (s_st (cW S.1) (cG S.1)) (cB S.1) (xs ((nI i) + (1 : Int32)).toNatClampNeg) (xs ((nI i) + (2 : Int32)).toNatClampNeg))], (nrm σ1))
  refine ev_blk 11 [vp_in ((nI i) + (1 : Int32)) L, vp_in ((nI i) + (2 : Int32)) L] 400 ([some (.ref 99), some (.ref 0), some (.ref 57), some (.int (nI i))], [.int (xs ((nI i) + (2 : Int32)).toNatClampNeg), .int (xs ((nI i) + (1 : Int32)).toNatClampNeg), .ref 57, .int (s_tld S.1.1 (kA S.1) (s_st (cW S.1) (cG S.1)) (cB S.1) (xs ((nI i) + (1 : Int32)).toNatClampNeg) (xs ((nI i) + (2 : Int32)).toNatClampNeg))], (nrm σ1)) rfl ?_ ?_
  · exact ⟨lw_in hL hi (d := 1) (by decide), lw_in hL hi (d := 2) (by decide)⟩
  refine ev_callV M_X6_told [.int (xs ((nI i) + (1 : Int32)).toNatClampNeg), .int (xs ((nI i) + (2 : Int32)).toNatClampNeg)] [.int (s_tld S.1.1 (kA S.1) (s_st (cW S.1) (cG S.1)) (cB S.1) (xs ((nI i) + (1 : Int32)).toNatClampNeg) (xs ((nI i) + (2 : Int32)).toNatClampNeg))] 57 rfl rfl ln_RL_40 k_X6_told rfl rfl rfl rfl rfl rfl (m_told _ S.1.1 hm1.1.1 ok.1.1.1 _ _) ?_
  intro r σ2 hq
  obtain ⟨rfl, hm2, fr2⟩ := km_told hτ1 ok hm1 hq
  have hc3 := CH0_of hc2 fr2
  show xEv _ _ _ 403 ([some (.ref 99), some (.ref 0), some (.ref 57), some (.int (nI i))], [.int (s_tld S.1.1 (kA S.1) (s_st (cW S.1) (cG S.1)) (cB S.1) (xs ((nI i) + (1 : Int32)).toNatClampNeg) (xs ((nI i) + (2 : Int32)).toNatClampNeg)), .int (s_tld S.1.1 (kA S.1) (s_st (cW S.1) (cG S.1)) (cB S.1) (xs ((nI i) + (1 : Int32)).toNatClampNeg) (xs ((nI i) + (2 : Int32)).toNatClampNeg))], σ2)
  refine ev_br 0 [] ((s_tld S.1.1 (kA S.1) (s_st (cW S.1) (cG S.1)) (cB S.1) (xs ((nI i) + (1 : Int32)).toNatClampNeg) (xs ((nI i) + (2 : Int32)).toNatClampNeg)) = (s_tld S.1.1 (kA S.1) (s_st (cW S.1) (cG S.1)) (cB S.1) (xs ((nI i) + (1 : Int32)).toNatClampNeg) (xs ((nI i) + (2 : Int32)).toNatClampNeg))) 1049 406 ([some (.ref 99), some (.ref 0), some (.ref 57), some (.int (nI i))], [], σ2) rfl ?_ (fun c403 => ?_) (fun c403 => ?_)
  · trivial
  · exact kk _ S ok hc3 hm2
  · exact absurd rfl c403
set_option maxRecDepth 100000 in
theorem lc_lane {L : Nat} {xs : Nat → Int32} {Q : Option Value → xSg → Prop} (hL : L ≤ 3072) {i : Nat} (hi : i + 6 ≤ L) {τ : xSg} {S : zS} (hτ : nrm τ = τ) (ok : sOk S) (hc : CH0 τ S) (hm : RH0 τ S) (kk : ∀ (σ2 : xSg) (S2 : zS), sOk S2 → CH0 σ2 S2 → RH0 σ2 S2 → xEv (.inr (L, xs)) M_law6 Q 1049 ([some (.ref 99), some (.ref 0), some (.ref 57), some (.int (nI i))], [], σ2)) : xEv (.inr (L, xs)) M_law6 Q 408 ([some (.ref 99), some (.ref 0), some (.ref 57), some (.int (nI i))], [], τ) := by
  refine ev_blk 11 [vp_in ((nI i) + (1 : Int32)) L, vp_in ((nI i) + (2 : Int32)) L] 419 ([some (.ref 99), some (.ref 0), some (.ref 57), some (.int (nI i))], [.int (xs ((nI i) + (2 : Int32)).toNatClampNeg), .int (xs ((nI i) + (1 : Int32)).toNatClampNeg), .ref 0], τ) rfl ?_ ?_
  · exact ⟨lw_in hL hi (d := 1) (by decide), lw_in hL hi (d := 2) (by decide)⟩
  refine ev_callV M_X5_lane [.int (xs ((nI i) + (1 : Int32)).toNatClampNeg), .int (xs ((nI i) + (2 : Int32)).toNatClampNeg)] [] 0 rfl rfl ln_RL_41 k_X5_lane rfl rfl rfl rfl rfl rfl (c_lane _ S.1.1 hc.1.1 ok.1.1.1 _ _) ?_
  intro r σ1 hq
  obtain ⟨rfl, hc1, fr1⟩ := kc_lane hτ ok hc hq
  have hm1 := RH0_nrm ok (RH0_of hm fr1)
  have hτ1 : nrm (nrm σ1) = nrm σ1 := nrm_nrm σ1
  have hc2 := CH0_nrm ok hc1
  refine ev_nrm ?_
  show xEv _ _ _ 422 ([some (.ref 99), some (.ref 0), some (.ref 57), some (.int (nI i))], [.int (s_lane (lA S.1) (lB S.1) (xs ((nI i) + (1 : Int32)).toNatClampNeg) (xs ((nI i) + (2 : Int32)).toNatClampNeg))], (nrm σ1))
  refine ev_blk 11 [vp_in ((nI i) + (1 : Int32)) L, vp_in ((nI i) + (2 : Int32)) L] 433 ([some (.ref 99), some (.ref 0), some (.ref 57), some (.int (nI i))], [.int (xs ((nI i) + (2 : Int32)).toNatClampNeg), .int (xs ((nI i) + (1 : Int32)).toNatClampNeg), .ref 57, .int (s_lane (lA S.1) (lB S.1) (xs ((nI i) + (1 : Int32)).toNatClampNeg) (xs ((nI i) + (2 : Int32)).toNatClampNeg))], (nrm σ1)) rfl ?_ ?_
  · exact ⟨lw_in hL hi (d := 1) (by decide), lw_in hL hi (d := 2) (by decide)⟩
  refine ev_callV M_X6_lane [.int (xs ((nI i) + (1 : Int32)).toNatClampNeg), .int (xs ((nI i) + (2 : Int32)).toNatClampNeg)] [.int (s_lane (lA S.1) (lB S.1) (xs ((nI i) + (1 : Int32)).toNatClampNeg) (xs ((nI i) + (2 : Int32)).toNatClampNeg))] 57 rfl rfl ln_RL_44 k_X6_lane rfl rfl rfl rfl rfl rfl (m_lane _ (lA S.1) (lB S.1) (rh_LR hm1) _ _) ?_
  intro r σ2 hq
  obtain ⟨rfl, hm2, fr2⟩ := km_lane hm1 hq
  have hc3 := CH0_of hc2 fr2
  show xEv _ _ _ 436 ([some (.ref 99), some (.ref 0), some (.ref 57), some (.int (nI i))], [.int (s_lane (lA S.1) (lB S.1) (xs ((nI i) + (1 : Int32)).toNatClampNeg) (xs ((nI i) + (2 : Int32)).toNatClampNeg)), .int (s_lane (lA S.1) (lB S.1) (xs ((nI i) + (1 : Int32)).toNatClampNeg) (xs ((nI i) + (2 : Int32)).toNatClampNeg))], σ2)
  refine ev_br 0 [] ((s_lane (lA S.1) (lB S.1) (xs ((nI i) + (1 : Int32)).toNatClampNeg) (xs ((nI i) + (2 : Int32)).toNatClampNeg)) = (s_lane (lA S.1) (lB S.1) (xs ((nI i) + (1 : Int32)).toNatClampNeg) (xs ((nI i) + (2 : Int32)).toNatClampNeg))) 1049 439 ([some (.ref 99), some (.ref 0), some (.ref 57), some (.int (nI i))], [], σ2) rfl ?_ (fun c436 => ?_) (fun c436 => ?_)
  · trivial
  · exact kk _ S ok hc3 hm2
  · exact absurd rfl c436
set_option maxRecDepth 100000 in
theorem lc_count {L : Nat} {xs : Nat → Int32} {Q : Option Value → xSg → Prop} (hL : L ≤ 3072) {i : Nat} (hi : i + 6 ≤ L) {τ : xSg} {S : zS} (hτ : nrm τ = τ) (ok : sOk S) (hc : CH0 τ S) (hm : RH0 τ S) (kk : ∀ (σ2 : xSg) (S2 : zS), sOk S2 → CH0 σ2 S2 → RH0 σ2 S2 → xEv (.inr (L, xs)) M_law7 Q 1049 ([some (.ref 99), some (.ref 0), some (.ref 57), some (.int (nI i))], [], σ2)) : xEv (.inr (L, xs)) M_law7 Q 441 ([some (.ref 99), some (.ref 0), some (.ref 57), some (.int (nI i))], [], τ) := by
  refine ev_blk 6 [vp_in ((nI i) + (1 : Int32)) L] 447 ([some (.ref 99), some (.ref 0), some (.ref 57), some (.int (nI i))], [.int (xs ((nI i) + (1 : Int32)).toNatClampNeg), .ref 0], τ) rfl ?_ ?_
  · exact lw_in hL hi (d := 1) (by decide)
  refine ev_callV M_X5_count [.int (xs ((nI i) + (1 : Int32)).toNatClampNeg)] [] 0 rfl rfl ln_RL_45 k_X5_count rfl rfl rfl rfl rfl rfl (c_count _ (s_long (kA S.1)) (s_rows (kA S.1)) (by have := (s_long_ok ok.1.1).2.2; omega) (s_rows_ok ok.1.1).2.2 (c_long hτ ok hc).1 (c_long hτ ok hc).2 _) ?_
  intro r σ1 hq
  obtain ⟨rfl, hc1, fr1⟩ := kc_count hτ ok hc hq
  have hm1 := RH0_nrm ok (RH0_of hm fr1)
  have hτ1 : nrm (nrm σ1) = nrm σ1 := nrm_nrm σ1
  have hc2 := CH0_nrm ok hc1
  refine ev_nrm ?_
  show xEv _ _ _ 450 ([some (.ref 99), some (.ref 0), some (.ref 57), some (.int (nI i))], [.int (zCnt S (xs ((nI i) + (1 : Int32)).toNatClampNeg))], (nrm σ1))
  refine ev_blk 6 [vp_in ((nI i) + (1 : Int32)) L] 456 ([some (.ref 99), some (.ref 0), some (.ref 57), some (.int (nI i))], [.int (xs ((nI i) + (1 : Int32)).toNatClampNeg), .ref 57, .int (zCnt S (xs ((nI i) + (1 : Int32)).toNatClampNeg))], (nrm σ1)) rfl ?_ ?_
  · exact lw_in hL hi (d := 1) (by decide)
  refine ev_callV M_X6_count [.int (xs ((nI i) + (1 : Int32)).toNatClampNeg)] [.int (zCnt S (xs ((nI i) + (1 : Int32)).toNatClampNeg))] 57 rfl rfl ln_RL_48 k_X6_count rfl rfl rfl rfl rfl rfl (m_count _ (s_long (kA S.1)) (s_rows (kA S.1)) (by have := (s_long_ok ok.1.1).2.2; omega) (s_rows_ok ok.1.1).2.2 (m_long hτ1 ok hm1).1 (m_long hτ1 ok hm1).2 _) ?_
  intro r σ2 hq
  obtain ⟨rfl, hm2, fr2⟩ := km_count hτ1 ok hm1 hq
  have hc3 := CH0_of hc2 fr2
  show xEv _ _ _ 459 ([some (.ref 99), some (.ref 0), some (.ref 57), some (.int (nI i))], [.int (zCnt S (xs ((nI i) + (1 : Int32)).toNatClampNeg)), .int (zCnt S (xs ((nI i) + (1 : Int32)).toNatClampNeg))], σ2)
  refine ev_br 0 [] ((zCnt S (xs ((nI i) + (1 : Int32)).toNatClampNeg)) = (zCnt S (xs ((nI i) + (1 : Int32)).toNatClampNeg))) 1049 462 ([some (.ref 99), some (.ref 0), some (.ref 57), some (.int (nI i))], [], σ2) rfl ?_ (fun c459 => ?_) (fun c459 => ?_)
  · trivial
  · exact kk _ S ok hc3 hm2
  · exact absurd rfl c459
set_option maxRecDepth 100000 in
theorem lc_taken {L : Nat} {xs : Nat → Int32} {Q : Option Value → xSg → Prop} (hL : L ≤ 3072) {i : Nat} (hi : i + 6 ≤ L) {τ : xSg} {S : zS} (hτ : nrm τ = τ) (ok : sOk S) (hc : CH0 τ S) (hm : RH0 τ S) (kk : ∀ (σ2 : xSg) (S2 : zS), sOk S2 → CH0 σ2 S2 → RH0 σ2 S2 → xEv (.inr (L, xs)) M_law8 Q 1049 ([some (.ref 99), some (.ref 0), some (.ref 57), some (.int (nI i))], [], σ2)) : xEv (.inr (L, xs)) M_law8 Q 464 ([some (.ref 99), some (.ref 0), some (.ref 57), some (.int (nI i))], [], τ) := by
  refine ev_blk 11 [vp_in ((nI i) + (1 : Int32)) L, vp_in ((nI i) + (2 : Int32)) L] 475 ([some (.ref 99), some (.ref 0), some (.ref 57), some (.int (nI i))], [.int (xs ((nI i) + (2 : Int32)).toNatClampNeg), .int (xs ((nI i) + (1 : Int32)).toNatClampNeg), .ref 0], τ) rfl ?_ ?_
  · exact ⟨lw_in hL hi (d := 1) (by decide), lw_in hL hi (d := 2) (by decide)⟩
  refine ev_callV M_X5_taken [.int (xs ((nI i) + (1 : Int32)).toNatClampNeg), .int (xs ((nI i) + (2 : Int32)).toNatClampNeg)] [] 0 rfl rfl ln_RL_49 k_X5_taken rfl rfl rfl rfl rfl rfl (c_taken _ S.1.1 (c_ok hτ ok hc) hc.1.1 _ _) ?_
  intro r σ1 hq
  obtain ⟨rfl, hc1, fr1⟩ := kc_taken hτ ok hc hq
  have hm1 := RH0_nrm ok (RH0_of hm fr1)
  have hτ1 : nrm (nrm σ1) = nrm σ1 := nrm_nrm σ1
  have hc2 := CH0_nrm ok hc1
  refine ev_nrm ?_
  show xEv _ _ _ 478 ([some (.ref 99), some (.ref 0), some (.ref 57), some (.int (nI i))], [.int (s_tak S.1.1 (kA S.1) (xs ((nI i) + (1 : Int32)).toNatClampNeg) (xs ((nI i) + (2 : Int32)).toNatClampNeg))], (nrm σ1))
  refine ev_blk 11 [vp_in ((nI i) + (1 : Int32)) L, vp_in ((nI i) + (2 : Int32)) L] 489 ([some (.ref 99), some (.ref 0), some (.ref 57), some (.int (nI i))], [.int (xs ((nI i) + (2 : Int32)).toNatClampNeg), .int (xs ((nI i) + (1 : Int32)).toNatClampNeg), .ref 57, .int (s_tak S.1.1 (kA S.1) (xs ((nI i) + (1 : Int32)).toNatClampNeg) (xs ((nI i) + (2 : Int32)).toNatClampNeg))], (nrm σ1)) rfl ?_ ?_
  · exact ⟨lw_in hL hi (d := 1) (by decide), lw_in hL hi (d := 2) (by decide)⟩
  refine ev_callV M_X6_taken [.int (xs ((nI i) + (1 : Int32)).toNatClampNeg), .int (xs ((nI i) + (2 : Int32)).toNatClampNeg)] [.int (s_tak S.1.1 (kA S.1) (xs ((nI i) + (1 : Int32)).toNatClampNeg) (xs ((nI i) + (2 : Int32)).toNatClampNeg))] 57 rfl rfl ln_RL_52 k_X6_taken rfl rfl rfl rfl rfl rfl (m_taken _ S.1.1 hm1.1.1 ok.1.1.1 _ _) ?_
  intro r σ2 hq
  obtain ⟨rfl, hm2, fr2⟩ := km_taken hτ1 ok hm1 hq
  have hc3 := CH0_of hc2 fr2
  show xEv _ _ _ 492 ([some (.ref 99), some (.ref 0), some (.ref 57), some (.int (nI i))], [.int (s_tak S.1.1 (kA S.1) (xs ((nI i) + (1 : Int32)).toNatClampNeg) (xs ((nI i) + (2 : Int32)).toNatClampNeg)), .int (s_tak S.1.1 (kA S.1) (xs ((nI i) + (1 : Int32)).toNatClampNeg) (xs ((nI i) + (2 : Int32)).toNatClampNeg))], σ2)
  refine ev_br 0 [] ((s_tak S.1.1 (kA S.1) (xs ((nI i) + (1 : Int32)).toNatClampNeg) (xs ((nI i) + (2 : Int32)).toNatClampNeg)) = (s_tak S.1.1 (kA S.1) (xs ((nI i) + (1 : Int32)).toNatClampNeg) (xs ((nI i) + (2 : Int32)).toNatClampNeg))) 1049 495 ([some (.ref 99), some (.ref 0), some (.ref 57), some (.int (nI i))], [], σ2) rfl ?_ (fun c492 => ?_) (fun c492 => ?_)
  · trivial
  · exact kk _ S ok hc3 hm2
  · exact absurd rfl c492
set_option maxRecDepth 100000 in
theorem lc_fill {L : Nat} {xs : Nat → Int32} {Q : Option Value → xSg → Prop} (hL : L ≤ 3072) {i : Nat} (hi : i + 6 ≤ L) {τ : xSg} {S : zS} (hτ : nrm τ = τ) (ok : sOk S) (hc : CH0 τ S) (hm : RH0 τ S) (kk : ∀ (σ2 : xSg) (S2 : zS), sOk S2 → CH0 σ2 S2 → RH0 σ2 S2 → xEv (.inr (L, xs)) M_law9 Q 1049 ([some (.ref 99), some (.ref 0), some (.ref 57), some (.int (nI i))], [], σ2)) : xEv (.inr (L, xs)) M_law9 Q 497 ([some (.ref 99), some (.ref 0), some (.ref 57), some (.int (nI i))], [], τ) := by
  refine ev_blk 1 [] 498 ([some (.ref 99), some (.ref 0), some (.ref 57), some (.int (nI i))], [.ref 0], τ) rfl ?_ ?_
  · trivial
  refine ev_callV M_X5_fill [] [] 0 rfl rfl ln_RL_53 k_X5_fill rfl rfl rfl rfl rfl rfl (c_fillP _ S.1.1 (c_ok hτ ok hc) hc.1.1 _ _ hc.2.2.2.1 ok.2.2.2 hc.1.2.2.2.1 ok.1.2.2.1.2.2.2.2.2) ?_
  intro r σ1 hq
  obtain ⟨rfl, hc1, fr1⟩ := kc_fill hτ ok hc hq
  have hm1 := RH0_nrm ok (RH0_of hm fr1)
  have hτ1 : nrm (nrm σ1) = nrm σ1 := nrm_nrm σ1
  have ok2 : sOk (zFl S).2 := so_fill ok
  have hc2 := CH0_nrm ok2 hc1
  refine ev_nrm ?_
  show xEv _ _ _ 501 ([some (.ref 99), some (.ref 0), some (.ref 57), some (.int (nI i))], [.int ((zFl S).1)], (nrm σ1))
  refine ev_blk 1 [] 502 ([some (.ref 99), some (.ref 0), some (.ref 57), some (.int (nI i))], [.ref 57, .int ((zFl S).1)], (nrm σ1)) rfl ?_ ?_
  · trivial
  refine ev_callV M_X6_fill [] [.int ((zFl S).1)] 57 rfl rfl ln_RL_57 k_X6_fill rfl rfl rfl rfl rfl rfl (m_fill _ S.1.1 (lA S.1) (lB S.1) (rh_mOk hτ1 ok hm1) (rh_LR hm1) _ _ hm1.2.2.2.1 ok.2.2.2 hm1.1.2.2.2.2.2.2.2.2.2.2.2 ok.1.2.2.1.2.2.2.2.2) ?_
  intro r σ2 hq
  obtain ⟨rfl, hm2, fr2⟩ := km_fill hτ1 ok hm1 hq
  have hc3 := CH0_of hc2 fr2
  show xEv _ _ _ 505 ([some (.ref 99), some (.ref 0), some (.ref 57), some (.int (nI i))], [.int ((zFl S).1), .int ((zFl S).1)], σ2)
  refine ev_br 0 [] (((zFl S).1) = ((zFl S).1)) 1049 508 ([some (.ref 99), some (.ref 0), some (.ref 57), some (.int (nI i))], [], σ2) rfl ?_ (fun c505 => ?_) (fun c505 => ?_)
  · trivial
  · exact kk _ _ ok2 hc3 hm2
  · exact absurd rfl c505
set_option maxRecDepth 100000 in
theorem lc_next {L : Nat} {xs : Nat → Int32} {Q : Option Value → xSg → Prop} (hL : L ≤ 3072) {i : Nat} (hi : i + 6 ≤ L) {τ : xSg} {S : zS} (hτ : nrm τ = τ) (ok : sOk S) (hc : CH0 τ S) (hm : RH0 τ S) (kk : ∀ (σ2 : xSg) (S2 : zS), sOk S2 → CH0 σ2 S2 → RH0 σ2 S2 → xEv (.inr (L, xs)) M_law10 Q 1049 ([some (.ref 99), some (.ref 0), some (.ref 57), some (.int (nI i))], [], σ2)) : xEv (.inr (L, xs)) M_law10 Q 510 ([some (.ref 99), some (.ref 0), some (.ref 57), some (.int (nI i))], [], τ) := by
  refine ev_blk 11 [vp_in ((nI i) + (1 : Int32)) L, vp_in ((nI i) + (2 : Int32)) L] 521 ([some (.ref 99), some (.ref 0), some (.ref 57), some (.int (nI i))], [.int (xs ((nI i) + (2 : Int32)).toNatClampNeg), .int (xs ((nI i) + (1 : Int32)).toNatClampNeg), .ref 0], τ) rfl ?_ ?_
  · exact ⟨lw_in hL hi (d := 1) (by decide), lw_in hL hi (d := 2) (by decide)⟩
  refine ev_callV M_X5_next [.int (xs ((nI i) + (1 : Int32)).toNatClampNeg), .int (xs ((nI i) + (2 : Int32)).toNatClampNeg)] [] 0 rfl rfl ln_RL_58 k_X5_next rfl rfl rfl rfl rfl rfl (c_nextP _ S.1.1 (c_ok hτ ok hc) hc.1.1 _ _) ?_
  intro r σ1 hq
  obtain ⟨rfl, hc1, fr1⟩ := kc_next hτ ok hc hq
  have hm1 := RH0_nrm ok (RH0_of hm fr1)
  have hτ1 : nrm (nrm σ1) = nrm σ1 := nrm_nrm σ1
  have hc2 := CH0_nrm ok hc1
  refine ev_nrm ?_
  show xEv _ _ _ 524 ([some (.ref 99), some (.ref 0), some (.ref 57), some (.int (nI i))], [.int (s_nxt (s_went (zF S)) (xs ((nI i) + (1 : Int32)).toNatClampNeg) (xs ((nI i) + (2 : Int32)).toNatClampNeg))], (nrm σ1))
  refine ev_blk 11 [vp_in ((nI i) + (1 : Int32)) L, vp_in ((nI i) + (2 : Int32)) L] 535 ([some (.ref 99), some (.ref 0), some (.ref 57), some (.int (nI i))], [.int (xs ((nI i) + (2 : Int32)).toNatClampNeg), .int (xs ((nI i) + (1 : Int32)).toNatClampNeg), .ref 57, .int (s_nxt (s_went (zF S)) (xs ((nI i) + (1 : Int32)).toNatClampNeg) (xs ((nI i) + (2 : Int32)).toNatClampNeg))], (nrm σ1)) rfl ?_ ?_
  · exact ⟨lw_in hL hi (d := 1) (by decide), lw_in hL hi (d := 2) (by decide)⟩
  refine ev_callV M_X6_next [.int (xs ((nI i) + (1 : Int32)).toNatClampNeg), .int (xs ((nI i) + (2 : Int32)).toNatClampNeg)] [.int (s_nxt (s_went (zF S)) (xs ((nI i) + (1 : Int32)).toNatClampNeg) (xs ((nI i) + (2 : Int32)).toNatClampNeg))] 57 rfl rfl ln_RL_61 k_X6_next rfl rfl rfl rfl rfl rfl (m_nextP _ S.1.1 (lA S.1) (lB S.1) (rh_mOk hτ1 ok hm1) (rh_LR hm1) _ _) ?_
  intro r σ2 hq
  obtain ⟨rfl, hm2, fr2⟩ := km_next hτ1 ok hm1 hq
  have hc3 := CH0_of hc2 fr2
  show xEv _ _ _ 538 ([some (.ref 99), some (.ref 0), some (.ref 57), some (.int (nI i))], [.int (s_nxt (s_went (zF S)) (xs ((nI i) + (1 : Int32)).toNatClampNeg) (xs ((nI i) + (2 : Int32)).toNatClampNeg)), .int (s_nxt (s_went (zF S)) (xs ((nI i) + (1 : Int32)).toNatClampNeg) (xs ((nI i) + (2 : Int32)).toNatClampNeg))], σ2)
  refine ev_br 0 [] ((s_nxt (s_went (zF S)) (xs ((nI i) + (1 : Int32)).toNatClampNeg) (xs ((nI i) + (2 : Int32)).toNatClampNeg)) = (s_nxt (s_went (zF S)) (xs ((nI i) + (1 : Int32)).toNatClampNeg) (xs ((nI i) + (2 : Int32)).toNatClampNeg))) 1049 541 ([some (.ref 99), some (.ref 0), some (.ref 57), some (.int (nI i))], [], σ2) rfl ?_ (fun c538 => ?_) (fun c538 => ?_)
  · trivial
  · exact kk _ S ok hc3 hm2
  · exact absurd rfl c538
set_option maxRecDepth 100000 in
theorem lc_water {L : Nat} {xs : Nat → Int32} {Q : Option Value → xSg → Prop} (hL : L ≤ 3072) {i : Nat} (hi : i + 6 ≤ L) {τ : xSg} {S : zS} (hτ : nrm τ = τ) (ok : sOk S) (hc : CH0 τ S) (hm : RH0 τ S) (kk : ∀ (σ2 : xSg) (S2 : zS), sOk S2 → CH0 σ2 S2 → RH0 σ2 S2 → xEv (.inr (L, xs)) M_law11 Q 1049 ([some (.ref 99), some (.ref 0), some (.ref 57), some (.int (nI i))], [], σ2)) : xEv (.inr (L, xs)) M_law11 Q 543 ([some (.ref 99), some (.ref 0), some (.ref 57), some (.int (nI i))], [], τ) := by
  refine ev_blk 1 [] 544 ([some (.ref 99), some (.ref 0), some (.ref 57), some (.int (nI i))], [.ref 0], τ) rfl ?_ ?_
  · trivial
  refine ev_callV M_X5_water [] [] 0 rfl rfl ln_RL_62 k_X5_water rfl rfl rfl rfl rfl rfl (c_waterP _ S.1.1 (c_ok hτ ok hc) hc.1.1) ?_
  intro r σ1 hq
  obtain ⟨rfl, hc1, fr1⟩ := kc_water hτ ok hc hq
  have hm1 := RH0_nrm ok (RH0_of hm fr1)
  have hτ1 : nrm (nrm σ1) = nrm σ1 := nrm_nrm σ1
  have hc2 := CH0_nrm ok hc1
  refine ev_nrm ?_
  show xEv _ _ _ 547 ([some (.ref 99), some (.ref 0), some (.ref 57), some (.int (nI i))], [.long (s_wat (kA S.1) (s_went (zF S)))], (nrm σ1))
  refine ev_blk 1 [] 548 ([some (.ref 99), some (.ref 0), some (.ref 57), some (.int (nI i))], [.ref 57, .long (s_wat (kA S.1) (s_went (zF S)))], (nrm σ1)) rfl ?_ ?_
  · trivial
  refine ev_callV M_X6_water [] [.long (s_wat (kA S.1) (s_went (zF S)))] 57 rfl rfl ln_RL_66 k_X6_water rfl rfl rfl rfl rfl rfl (m_waterP _ S.1.1 (lA S.1) (lB S.1) (rh_mOk hτ1 ok hm1) (rh_LR hm1)) ?_
  intro r σ2 hq
  obtain ⟨rfl, hm2, fr2⟩ := km_water hτ1 ok hm1 hq
  have hc3 := CH0_of hc2 fr2
  show xEv _ _ _ 551 ([some (.ref 99), some (.ref 0), some (.ref 57), some (.int (nI i))], [.long (s_wat (kA S.1) (s_went (zF S))), .long (s_wat (kA S.1) (s_went (zF S)))], σ2)
  refine ev_br 1 [] ((lg_cmp (s_wat (kA S.1) (s_went (zF S))) (s_wat (kA S.1) (s_went (zF S)))) = 0) 1049 555 ([some (.ref 99), some (.ref 0), some (.ref 57), some (.int (nI i))], [], σ2) rfl ?_ (fun c552 => ?_) (fun c552 => ?_)
  · trivial
  · exact kk _ S ok hc3 hm2
  · exact absurd ((lg_cmp_eq _ _).mpr rfl) c552
set_option maxRecDepth 100000 in
theorem lc_spent {L : Nat} {xs : Nat → Int32} {Q : Option Value → xSg → Prop} (hL : L ≤ 3072) {i : Nat} (hi : i + 6 ≤ L) {τ : xSg} {S : zS} (hτ : nrm τ = τ) (ok : sOk S) (hc : CH0 τ S) (hm : RH0 τ S) (kk : ∀ (σ2 : xSg) (S2 : zS), sOk S2 → CH0 σ2 S2 → RH0 σ2 S2 → xEv (.inr (L, xs)) M_law12 Q 1049 ([some (.ref 99), some (.ref 0), some (.ref 57), some (.int (nI i))], [], σ2)) : xEv (.inr (L, xs)) M_law12 Q 557 ([some (.ref 99), some (.ref 0), some (.ref 57), some (.int (nI i))], [], τ) := by
  refine ev_blk 6 [vp_in ((nI i) + (1 : Int32)) L] 563 ([some (.ref 99), some (.ref 0), some (.ref 57), some (.int (nI i))], [.int (xs ((nI i) + (1 : Int32)).toNatClampNeg), .ref 0], τ) rfl ?_ ?_
  · exact lw_in hL hi (d := 1) (by decide)
  refine ev_callV M_X5_spent [.int (xs ((nI i) + (1 : Int32)).toNatClampNeg)] [] 0 rfl rfl ln_RL_67 k_X5_spent rfl rfl rfl rfl rfl rfl (c_spent _ (kL S.1) (cL S.1) (ch_led ok hc) hc.1.2.2.2.1 _) ?_
  intro r σ1 hq
  obtain ⟨rfl, hc1, fr1⟩ := kc_spent hc hq
  have hm1 := RH0_nrm ok (RH0_of hm fr1)
  have hτ1 : nrm (nrm σ1) = nrm σ1 := nrm_nrm σ1
  have hc2 := CH0_nrm ok hc1
  refine ev_nrm ?_
  show xEv _ _ _ 566 ([some (.ref 99), some (.ref 0), some (.ref 57), some (.int (nI i))], [.long (s_spn (kL S.1) (cL S.1) (xs ((nI i) + (1 : Int32)).toNatClampNeg))], (nrm σ1))
  refine ev_blk 6 [vp_in ((nI i) + (1 : Int32)) L] 572 ([some (.ref 99), some (.ref 0), some (.ref 57), some (.int (nI i))], [.int (xs ((nI i) + (1 : Int32)).toNatClampNeg), .ref 57, .long (s_spn (kL S.1) (cL S.1) (xs ((nI i) + (1 : Int32)).toNatClampNeg))], (nrm σ1)) rfl ?_ ?_
  · exact lw_in hL hi (d := 1) (by decide)
  refine ev_callV M_X6_spent [.int (xs ((nI i) + (1 : Int32)).toNatClampNeg)] [.long (s_spn (kL S.1) (cL S.1) (xs ((nI i) + (1 : Int32)).toNatClampNeg))] 57 rfl rfl ln_RL_71 k_X6_spent rfl rfl rfl rfl rfl rfl (m_spent _ (kL S.1) (cL S.1) (rh_led ok hm1) hm1.1.2.2.2.2.2.2.2.2.2.2.2 _) ?_
  intro r σ2 hq
  obtain ⟨rfl, hm2, fr2⟩ := km_spent hm1 hq
  have hc3 := CH0_of hc2 fr2
  show xEv _ _ _ 575 ([some (.ref 99), some (.ref 0), some (.ref 57), some (.int (nI i))], [.long (s_spn (kL S.1) (cL S.1) (xs ((nI i) + (1 : Int32)).toNatClampNeg)), .long (s_spn (kL S.1) (cL S.1) (xs ((nI i) + (1 : Int32)).toNatClampNeg))], σ2)
  refine ev_br 1 [] ((lg_cmp (s_spn (kL S.1) (cL S.1) (xs ((nI i) + (1 : Int32)).toNatClampNeg)) (s_spn (kL S.1) (cL S.1) (xs ((nI i) + (1 : Int32)).toNatClampNeg))) = 0) 1049 579 ([some (.ref 99), some (.ref 0), some (.ref 57), some (.int (nI i))], [], σ2) rfl ?_ (fun c576 => ?_) (fun c576 => ?_)
  · trivial
  · exact kk _ S ok hc3 hm2
  · exact absurd ((lg_cmp_eq _ _).mpr rfl) c576
set_option maxRecDepth 100000 in
theorem lc_leave {L : Nat} {xs : Nat → Int32} {Q : Option Value → xSg → Prop} (hL : L ≤ 3072) {i : Nat} (hi : i + 6 ≤ L) {τ : xSg} {S : zS} (hτ : nrm τ = τ) (ok : sOk S) (hc : CH0 τ S) (hm : RH0 τ S) (kk : ∀ (σ2 : xSg) (S2 : zS), sOk S2 → CH0 σ2 S2 → RH0 σ2 S2 → xEv (.inr (L, xs)) M_law13 Q 1049 ([some (.ref 99), some (.ref 0), some (.ref 57), some (.int (nI i))], [], σ2)) : xEv (.inr (L, xs)) M_law13 Q 581 ([some (.ref 99), some (.ref 0), some (.ref 57), some (.int (nI i))], [], τ) := by
  refine ev_blk 6 [vp_in ((nI i) + (1 : Int32)) L] 587 ([some (.ref 99), some (.ref 0), some (.ref 57), some (.int (nI i))], [.int (xs ((nI i) + (1 : Int32)).toNatClampNeg), .ref 0], τ) rfl ?_ ?_
  · exact lw_in hL hi (d := 1) (by decide)
  refine ev_callV M_X5_leave [.int (xs ((nI i) + (1 : Int32)).toNatClampNeg)] [] 0 rfl rfl ln_RL_72 k_X5_leave rfl rfl rfl rfl rfl rfl (c_leave _ S.1.1 hc.1.1 ok.1.1.1 _ hc.2.2.2.1 ok.2.2.2 _) ?_
  intro r σ1 hq
  obtain ⟨rfl, hc1, fr1⟩ := kc_leave ok hc hq
  have hm1 := RH0_nrm ok (RH0_of hm fr1)
  have hτ1 : nrm (nrm σ1) = nrm σ1 := nrm_nrm σ1
  have ok2 : sOk (zLv S (xs ((nI i) + (1 : Int32)).toNatClampNeg)).2 := so_leave ok _
  have hc2 := CH0_nrm ok2 hc1
  refine ev_nrm ?_
  show xEv _ _ _ 590 ([some (.ref 99), some (.ref 0), some (.ref 57), some (.int (nI i))], [.int ((zLv S (xs ((nI i) + (1 : Int32)).toNatClampNeg)).1)], (nrm σ1))
  refine ev_blk 6 [vp_in ((nI i) + (1 : Int32)) L] 596 ([some (.ref 99), some (.ref 0), some (.ref 57), some (.int (nI i))], [.int (xs ((nI i) + (1 : Int32)).toNatClampNeg), .ref 57, .int ((zLv S (xs ((nI i) + (1 : Int32)).toNatClampNeg)).1)], (nrm σ1)) rfl ?_ ?_
  · exact lw_in hL hi (d := 1) (by decide)
  refine ev_callV M_X6_leave [.int (xs ((nI i) + (1 : Int32)).toNatClampNeg)] [.int ((zLv S (xs ((nI i) + (1 : Int32)).toNatClampNeg)).1)] 57 rfl rfl ln_RL_75 k_X6_leave rfl rfl rfl rfl rfl rfl (m_leave _ S.1.1 (lA S.1) (lB S.1) (rh_mOk hτ1 ok hm1) (rh_LR hm1) hm1.1.1 _ hm1.2.2.2.1 ok.2.2.2 (fun x hx => ((hm1.1.2.1.1 x (by have := (lnp_lt hx).1; have := ok.1.1.1; omega)).2.2.2.2.2).trans (lnp_lt hx).2.2) (fun x hx => ((hm1.1.2.1.1 x (by have := (lnp_lt hx).1; have := ok.1.1.1; omega)).2.2.2.2.2).trans (lnp_lt hx).2.2) _) ?_
  intro r σ2 hq
  obtain ⟨rfl, hm2, fr2⟩ := km_leave ok hm1 hq
  have hc3 := CH0_of hc2 fr2
  show xEv _ _ _ 599 ([some (.ref 99), some (.ref 0), some (.ref 57), some (.int (nI i))], [.int ((zLv S (xs ((nI i) + (1 : Int32)).toNatClampNeg)).1), .int ((zLv S (xs ((nI i) + (1 : Int32)).toNatClampNeg)).1)], σ2)
  refine ev_br 0 [] (((zLv S (xs ((nI i) + (1 : Int32)).toNatClampNeg)).1) = ((zLv S (xs ((nI i) + (1 : Int32)).toNatClampNeg)).1)) 1049 602 ([some (.ref 99), some (.ref 0), some (.ref 57), some (.int (nI i))], [], σ2) rfl ?_ (fun c599 => ?_) (fun c599 => ?_)
  · trivial
  · exact kk _ _ ok2 hc3 hm2
  · exact absurd rfl c599
set_option maxRecDepth 100000 in
theorem lc_undo {L : Nat} {xs : Nat → Int32} {Q : Option Value → xSg → Prop} (hL : L ≤ 3072) {i : Nat} (hi : i + 6 ≤ L) {τ : xSg} {S : zS} (hτ : nrm τ = τ) (ok : sOk S) (hc : CH0 τ S) (hm : RH0 τ S) (kk : ∀ (σ2 : xSg) (S2 : zS), sOk S2 → CH0 σ2 S2 → RH0 σ2 S2 → xEv (.inr (L, xs)) M_law14 Q 1049 ([some (.ref 99), some (.ref 0), some (.ref 57), some (.int (nI i))], [], σ2)) : xEv (.inr (L, xs)) M_law14 Q 604 ([some (.ref 99), some (.ref 0), some (.ref 57), some (.int (nI i))], [], τ) := by
  refine ev_blk 1 [] 605 ([some (.ref 99), some (.ref 0), some (.ref 57), some (.int (nI i))], [.ref 0], τ) rfl ?_ ?_
  · trivial
  refine ev_callV M_X5_undo [] [] 0 rfl rfl ln_RL_76 k_X5_undo rfl rfl rfl rfl rfl rfl (c_undo _ _ hc.2.2.2.1 ok.2.2.2) ?_
  intro r σ1 hq
  obtain ⟨rfl, hc1, fr1⟩ := kc_undo ok hc hq
  have hm1 := RH0_nrm ok (RH0_of hm fr1)
  have hτ1 : nrm (nrm σ1) = nrm σ1 := nrm_nrm σ1
  have ok2 : sOk (zUn S).2 := so_undo ok
  have hc2 := CH0_nrm ok2 hc1
  refine ev_nrm ?_
  show xEv _ _ _ 608 ([some (.ref 99), some (.ref 0), some (.ref 57), some (.int (nI i))], [.int ((zUn S).1)], (nrm σ1))
  refine ev_blk 1 [] 609 ([some (.ref 99), some (.ref 0), some (.ref 57), some (.int (nI i))], [.ref 57, .int ((zUn S).1)], (nrm σ1)) rfl ?_ ?_
  · trivial
  refine ev_callV M_X6_undo [] [.int ((zUn S).1)] 57 rfl rfl ln_RL_79 k_X6_undo rfl rfl rfl rfl rfl rfl (m_undo _ _ hm1.2.2.2.1 ok.2.2.2) ?_
  intro r σ2 hq
  obtain ⟨rfl, hm2, fr2⟩ := km_undo ok hm1 hq
  have hc3 := CH0_of hc2 fr2
  show xEv _ _ _ 612 ([some (.ref 99), some (.ref 0), some (.ref 57), some (.int (nI i))], [.int ((zUn S).1), .int ((zUn S).1)], σ2)
  refine ev_br 0 [] (((zUn S).1) = ((zUn S).1)) 1049 615 ([some (.ref 99), some (.ref 0), some (.ref 57), some (.int (nI i))], [], σ2) rfl ?_ (fun c612 => ?_) (fun c612 => ?_)
  · trivial
  · exact kk _ _ ok2 hc3 hm2
  · exact absurd rfl c612
set_option maxRecDepth 100000 in
theorem lc_plan {L : Nat} {xs : Nat → Int32} {Q : Option Value → xSg → Prop} (hL : L ≤ 3072) {i : Nat} (hi : i + 6 ≤ L) {τ : xSg} {S : zS} (hτ : nrm τ = τ) (ok : sOk S) (hc : CH0 τ S) (hm : RH0 τ S) (kk : ∀ (σ2 : xSg) (S2 : zS), sOk S2 → CH0 σ2 S2 → RH0 σ2 S2 → xEv (.inr (L, xs)) M_law15 Q 1049 ([some (.ref 99), some (.ref 0), some (.ref 57), some (.int (nI i))], [], σ2)) : xEv (.inr (L, xs)) M_law15 Q 617 ([some (.ref 99), some (.ref 0), some (.ref 57), some (.int (nI i))], [], τ) := by
  refine ev_blk 6 [vp_in ((nI i) + (1 : Int32)) L] 623 ([some (.ref 99), some (.ref 0), some (.ref 57), some (.int (nI i))], [.int (xs ((nI i) + (1 : Int32)).toNatClampNeg), .ref 0], τ) rfl ?_ ?_
  · exact lw_in hL hi (d := 1) (by decide)
  refine ev_callV M_X5_plan [.int (xs ((nI i) + (1 : Int32)).toNatClampNeg)] [] 0 rfl rfl ln_RL_80 k_X5_plan rfl rfl rfl rfl rfl rfl (c_planP _ S.1.1 (c_ok hτ ok hc) hc.1.1 (c_wn ok hc) _) ?_
  intro r σ1 hq
  obtain ⟨p1, hp1, rfl, hc1, fr1⟩ := kc_plan hτ ok hc hq
  have hm1 := RH0_nrm ok (RH0_of hm fr1)
  have hτ1 : nrm (nrm σ1) = nrm σ1 := nrm_nrm σ1
  have hc2 := CH0_nrm ok hc1
  refine ev_nrm ?_
  show xEv _ _ _ 626 ([some (.ref 99), some (.ref 0), some (.ref 57), some (.int (nI i))], [.int (p1)], (nrm σ1))
  refine ev_blk 6 [vp_in ((nI i) + (1 : Int32)) L] 632 ([some (.ref 99), some (.ref 0), some (.ref 57), some (.int (nI i))], [.int (xs ((nI i) + (1 : Int32)).toNatClampNeg), .ref 57, .int (p1)], (nrm σ1)) rfl ?_ ?_
  · exact lw_in hL hi (d := 1) (by decide)
  refine ev_callV M_X6_plan [.int (xs ((nI i) + (1 : Int32)).toNatClampNeg)] [.int (p1)] 57 rfl rfl ln_RL_83 k_X6_plan rfl rfl rfl rfl rfl rfl (m_planP _ S.1.1 (lA S.1) (lB S.1) (rh_mOk hτ1 ok hm1) (rh_LR hm1) _) ?_
  intro r σ2 hq
  obtain ⟨p2, hp2, rfl, hm2, fr2⟩ := km_plan hτ1 ok hm1 hq
  have hc3 := CH0_of hc2 fr2
  show xEv _ _ _ 635 ([some (.ref 99), some (.ref 0), some (.ref 57), some (.int (nI i))], [.int (p2), .int (p1)], σ2)
  refine ev_br 0 [] (p1 = p2) 1049 638 ([some (.ref 99), some (.ref 0), some (.ref 57), some (.int (nI i))], [], σ2) rfl ?_ (fun c635 => ?_) (fun c635 => ?_)
  · trivial
  · exact kk _ S ok hc3 hm2
  · exact absurd (plV_eq hp1 hp2) c635
set_option maxRecDepth 100000 in
theorem lc_drought {L : Nat} {xs : Nat → Int32} {Q : Option Value → xSg → Prop} (hL : L ≤ 3072) {i : Nat} (hi : i + 6 ≤ L) {τ : xSg} {S : zS} (hτ : nrm τ = τ) (ok : sOk S) (hc : CH0 τ S) (hm : RH0 τ S) (kk : ∀ (σ2 : xSg) (S2 : zS), sOk S2 → CH0 σ2 S2 → RH0 σ2 S2 → xEv (.inr (L, xs)) M_law16 Q 1049 ([some (.ref 99), some (.ref 0), some (.ref 57), some (.int (nI i))], [], σ2)) : xEv (.inr (L, xs)) M_law16 Q 640 ([some (.ref 99), some (.ref 0), some (.ref 57), some (.int (nI i))], [], τ) := by
  refine ev_blk 1 [] 641 ([some (.ref 99), some (.ref 0), some (.ref 57), some (.int (nI i))], [.ref 0], τ) rfl ?_ ?_
  · trivial
  refine ev_callV M_X5_drought [] [] 0 rfl rfl ln_RL_84 k_X5_drought rfl rfl rfl rfl rfl rfl (c_droughtP _ S.1.1 (c_ok hτ ok hc) hc.1.1) ?_
  intro r σ1 hq
  obtain ⟨rfl, hc1, fr1⟩ := kc_drought hτ ok hc hq
  have hm1 := RH0_nrm ok (RH0_of hm fr1)
  have hτ1 : nrm (nrm σ1) = nrm σ1 := nrm_nrm σ1
  have hc2 := CH0_nrm ok hc1
  refine ev_nrm ?_
  show xEv _ _ _ 644 ([some (.ref 99), some (.ref 0), some (.ref 57), some (.int (nI i))], [.int (zDr S)], (nrm σ1))
  refine ev_blk 1 [] 645 ([some (.ref 99), some (.ref 0), some (.ref 57), some (.int (nI i))], [.ref 57, .int (zDr S)], (nrm σ1)) rfl ?_ ?_
  · trivial
  refine ev_callV M_X6_drought [] [.int (zDr S)] 57 rfl rfl ln_RL_87 k_X6_drought rfl rfl rfl rfl rfl rfl (m_drought _ S.1.1 (lA S.1) (lB S.1) (rh_mOk hτ1 ok hm1) (rh_LR hm1) (kC S.1) (km_cap hm1)) ?_
  intro r σ2 hq
  obtain ⟨rfl, hm2, fr2⟩ := km_drought hτ1 ok hm1 hq
  have hc3 := CH0_of hc2 fr2
  show xEv _ _ _ 648 ([some (.ref 99), some (.ref 0), some (.ref 57), some (.int (nI i))], [.int (zDr S), .int (zDr S)], σ2)
  refine ev_br 0 [] ((zDr S) = (zDr S)) 1049 651 ([some (.ref 99), some (.ref 0), some (.ref 57), some (.int (nI i))], [], σ2) rfl ?_ (fun c648 => ?_) (fun c648 => ?_)
  · trivial
  · exact kk _ S ok hc3 hm2
  · exact absurd rfl c648
set_option maxRecDepth 100000 in
theorem lc_waits {L : Nat} {xs : Nat → Int32} {Q : Option Value → xSg → Prop} (hL : L ≤ 3072) {i : Nat} (hi : i + 6 ≤ L) {τ : xSg} {S : zS} (hτ : nrm τ = τ) (ok : sOk S) (hc : CH0 τ S) (hm : RH0 τ S) (kk : ∀ (σ2 : xSg) (S2 : zS), sOk S2 → CH0 σ2 S2 → RH0 σ2 S2 → xEv (.inr (L, xs)) M_law17 Q 1049 ([some (.ref 99), some (.ref 0), some (.ref 57), some (.int (nI i))], [], σ2)) : xEv (.inr (L, xs)) M_law17 Q 653 ([some (.ref 99), some (.ref 0), some (.ref 57), some (.int (nI i))], [], τ) := by
  refine ev_blk 6 [vp_in ((nI i) + (1 : Int32)) L] 659 ([some (.ref 99), some (.ref 0), some (.ref 57), some (.int (nI i))], [.int (xs ((nI i) + (1 : Int32)).toNatClampNeg), .ref 0], τ) rfl ?_ ?_
  · exact lw_in hL hi (d := 1) (by decide)
  refine ev_callV M_X5_waits [.int (xs ((nI i) + (1 : Int32)).toNatClampNeg)] [] 0 rfl rfl ln_RL_88 k_X5_waits rfl rfl rfl rfl rfl rfl (c_waits _ S.1.1 (c_ok hτ ok hc) hc.1.1 (c_wn ok hc) _) ?_
  intro r σ1 hq
  obtain ⟨rfl, hc1, fr1⟩ := kc_waits hτ ok hc hq
  have hm1 := RH0_nrm ok (RH0_of hm fr1)
  have hτ1 : nrm (nrm σ1) = nrm σ1 := nrm_nrm σ1
  have hc2 := CH0_nrm ok hc1
  refine ev_nrm ?_
  show xEv _ _ _ 662 ([some (.ref 99), some (.ref 0), some (.ref 57), some (.int (nI i))], [.int (s_wts S.1.1 (cW S.1) (aCo (kA S.1)) (zAr S) (xs ((nI i) + (1 : Int32)).toNatClampNeg))], (nrm σ1))
  refine ev_blk 6 [vp_in ((nI i) + (1 : Int32)) L] 668 ([some (.ref 99), some (.ref 0), some (.ref 57), some (.int (nI i))], [.int (xs ((nI i) + (1 : Int32)).toNatClampNeg), .ref 57, .int (s_wts S.1.1 (cW S.1) (aCo (kA S.1)) (zAr S) (xs ((nI i) + (1 : Int32)).toNatClampNeg))], (nrm σ1)) rfl ?_ ?_
  · exact lw_in hL hi (d := 1) (by decide)
  refine ev_callV M_X6_waits [.int (xs ((nI i) + (1 : Int32)).toNatClampNeg)] [.int (s_wts S.1.1 (cW S.1) (aCo (kA S.1)) (zAr S) (xs ((nI i) + (1 : Int32)).toNatClampNeg))] 57 rfl rfl ln_RL_91 k_X6_waits rfl rfl rfl rfl rfl rfl (m_waits _ S.1.1 (lA S.1) (lB S.1) (rh_mOk hτ1 ok hm1) (rh_LR hm1) hm1.1.1 (cW S.1) (cG S.1) (m_st hm1) _) ?_
  intro r σ2 hq
  obtain ⟨rfl, hm2, fr2⟩ := km_waits hτ1 ok hm1 hq
  have hc3 := CH0_of hc2 fr2
  show xEv _ _ _ 671 ([some (.ref 99), some (.ref 0), some (.ref 57), some (.int (nI i))], [.int (s_wts S.1.1 (cW S.1) (aCo (kA S.1)) (zAr S) (xs ((nI i) + (1 : Int32)).toNatClampNeg)), .int (s_wts S.1.1 (cW S.1) (aCo (kA S.1)) (zAr S) (xs ((nI i) + (1 : Int32)).toNatClampNeg))], σ2)
  refine ev_br 0 [] ((s_wts S.1.1 (cW S.1) (aCo (kA S.1)) (zAr S) (xs ((nI i) + (1 : Int32)).toNatClampNeg)) = (s_wts S.1.1 (cW S.1) (aCo (kA S.1)) (zAr S) (xs ((nI i) + (1 : Int32)).toNatClampNeg))) 1049 674 ([some (.ref 99), some (.ref 0), some (.ref 57), some (.int (nI i))], [], σ2) rfl ?_ (fun c671 => ?_) (fun c671 => ?_)
  · trivial
  · exact kk _ S ok hc3 hm2
  · exact absurd rfl c671
set_option maxRecDepth 100000 in
theorem lc_line {L : Nat} {xs : Nat → Int32} {Q : Option Value → xSg → Prop} (hL : L ≤ 3072) {i : Nat} (hi : i + 6 ≤ L) {τ : xSg} {S : zS} (hτ : nrm τ = τ) (ok : sOk S) (hc : CH0 τ S) (hm : RH0 τ S) (kk : ∀ (σ2 : xSg) (S2 : zS), sOk S2 → CH0 σ2 S2 → RH0 σ2 S2 → xEv (.inr (L, xs)) M_law18 Q 1049 ([some (.ref 99), some (.ref 0), some (.ref 57), some (.int (nI i))], [], σ2)) : xEv (.inr (L, xs)) M_law18 Q 676 ([some (.ref 99), some (.ref 0), some (.ref 57), some (.int (nI i))], [], τ) := by
  refine ev_blk 6 [vp_in ((nI i) + (1 : Int32)) L] 682 ([some (.ref 99), some (.ref 0), some (.ref 57), some (.int (nI i))], [.int (xs ((nI i) + (1 : Int32)).toNatClampNeg), .ref 0], τ) rfl ?_ ?_
  · exact lw_in hL hi (d := 1) (by decide)
  refine ev_callV M_X5_line [.int (xs ((nI i) + (1 : Int32)).toNatClampNeg)] [] 0 rfl rfl ln_RL_92 k_X5_line rfl rfl rfl rfl rfl rfl (c_line _ S.1.1 (c_ok hτ ok hc) hc.1.1 (c_wn ok hc) _) ?_
  intro r σ1 hq
  obtain ⟨rfl, hc1, fr1⟩ := kc_line hτ ok hc hq
  have hm1 := RH0_nrm ok (RH0_of hm fr1)
  have hτ1 : nrm (nrm σ1) = nrm σ1 := nrm_nrm σ1
  have hc2 := CH0_nrm ok hc1
  refine ev_nrm ?_
  show xEv _ _ _ 685 ([some (.ref 99), some (.ref 0), some (.ref 57), some (.int (nI i))], [.int (s_lin (aCo (kA S.1)) (zAr S) (xs ((nI i) + (1 : Int32)).toNatClampNeg))], (nrm σ1))
  refine ev_blk 6 [vp_in ((nI i) + (1 : Int32)) L] 691 ([some (.ref 99), some (.ref 0), some (.ref 57), some (.int (nI i))], [.int (xs ((nI i) + (1 : Int32)).toNatClampNeg), .ref 57, .int (s_lin (aCo (kA S.1)) (zAr S) (xs ((nI i) + (1 : Int32)).toNatClampNeg))], (nrm σ1)) rfl ?_ ?_
  · exact lw_in hL hi (d := 1) (by decide)
  refine ev_callV M_X6_line [.int (xs ((nI i) + (1 : Int32)).toNatClampNeg)] [.int (s_lin (aCo (kA S.1)) (zAr S) (xs ((nI i) + (1 : Int32)).toNatClampNeg))] 57 rfl rfl ln_RL_95 k_X6_line rfl rfl rfl rfl rfl rfl (m_line _ S.1.1 (lA S.1) (lB S.1) (rh_mOk hτ1 ok hm1) (rh_LR hm1) hm1.1.1 _) ?_
  intro r σ2 hq
  obtain ⟨rfl, hm2, fr2⟩ := km_line hτ1 ok hm1 hq
  have hc3 := CH0_of hc2 fr2
  show xEv _ _ _ 694 ([some (.ref 99), some (.ref 0), some (.ref 57), some (.int (nI i))], [.int (s_lin (aCo (kA S.1)) (zAr S) (xs ((nI i) + (1 : Int32)).toNatClampNeg)), .int (s_lin (aCo (kA S.1)) (zAr S) (xs ((nI i) + (1 : Int32)).toNatClampNeg))], σ2)
  refine ev_br 0 [] ((s_lin (aCo (kA S.1)) (zAr S) (xs ((nI i) + (1 : Int32)).toNatClampNeg)) = (s_lin (aCo (kA S.1)) (zAr S) (xs ((nI i) + (1 : Int32)).toNatClampNeg))) 1049 697 ([some (.ref 99), some (.ref 0), some (.ref 57), some (.int (nI i))], [], σ2) rfl ?_ (fun c694 => ?_) (fun c694 => ?_)
  · trivial
  · exact kk _ S ok hc3 hm2
  · exact absurd rfl c694
set_option maxRecDepth 100000 in
theorem lc_day {L : Nat} {xs : Nat → Int32} {Q : Option Value → xSg → Prop} (hL : L ≤ 3072) {i : Nat} (hi : i + 6 ≤ L) {τ : xSg} {S : zS} (hτ : nrm τ = τ) (ok : sOk S) (hc : CH0 τ S) (hm : RH0 τ S) (kk : ∀ (σ2 : xSg) (S2 : zS), sOk S2 → CH0 σ2 S2 → RH0 σ2 S2 → xEv (.inr (L, xs)) M_law19 Q 1049 ([some (.ref 99), some (.ref 0), some (.ref 57), some (.int (nI i))], [], σ2)) : xEv (.inr (L, xs)) M_law19 Q 699 ([some (.ref 99), some (.ref 0), some (.ref 57), some (.int (nI i))], [], τ) := by
  refine ev_blk 6 [vp_in ((nI i) + (1 : Int32)) L] 705 ([some (.ref 99), some (.ref 0), some (.ref 57), some (.int (nI i))], [.int (xs ((nI i) + (1 : Int32)).toNatClampNeg), .ref 0], τ) rfl ?_ ?_
  · exact lw_in hL hi (d := 1) (by decide)
  refine ev_callV M_X5_day [.int (xs ((nI i) + (1 : Int32)).toNatClampNeg)] [] 0 rfl rfl ln_RL_96 k_X5_day rfl rfl rfl rfl rfl rfl (c_day _ S.1.1 (c_ok hτ ok hc) hc.1.1 (c_wn ok hc) _) ?_
  intro r σ1 hq
  obtain ⟨rfl, hc1, fr1⟩ := kc_day hτ ok hc hq
  have hm1 := RH0_nrm ok (RH0_of hm fr1)
  have hτ1 : nrm (nrm σ1) = nrm σ1 := nrm_nrm σ1
  have hc2 := CH0_nrm ok hc1
  refine ev_nrm ?_
  show xEv _ _ _ 708 ([some (.ref 99), some (.ref 0), some (.ref 57), some (.int (nI i))], [.int (s_dy (aCo (kA S.1)) (zAr S) (xs ((nI i) + (1 : Int32)).toNatClampNeg))], (nrm σ1))
  refine ev_blk 6 [vp_in ((nI i) + (1 : Int32)) L] 714 ([some (.ref 99), some (.ref 0), some (.ref 57), some (.int (nI i))], [.int (xs ((nI i) + (1 : Int32)).toNatClampNeg), .ref 57, .int (s_dy (aCo (kA S.1)) (zAr S) (xs ((nI i) + (1 : Int32)).toNatClampNeg))], (nrm σ1)) rfl ?_ ?_
  · exact lw_in hL hi (d := 1) (by decide)
  refine ev_callV M_X6_day [.int (xs ((nI i) + (1 : Int32)).toNatClampNeg)] [.int (s_dy (aCo (kA S.1)) (zAr S) (xs ((nI i) + (1 : Int32)).toNatClampNeg))] 57 rfl rfl ln_RL_99 k_X6_day rfl rfl rfl rfl rfl rfl (m_day _ S.1.1 (lA S.1) (lB S.1) (rh_mOk hτ1 ok hm1) (rh_LR hm1) hm1.1.1 _) ?_
  intro r σ2 hq
  obtain ⟨rfl, hm2, fr2⟩ := km_day hτ1 ok hm1 hq
  have hc3 := CH0_of hc2 fr2
  show xEv _ _ _ 717 ([some (.ref 99), some (.ref 0), some (.ref 57), some (.int (nI i))], [.int (s_dy (aCo (kA S.1)) (zAr S) (xs ((nI i) + (1 : Int32)).toNatClampNeg)), .int (s_dy (aCo (kA S.1)) (zAr S) (xs ((nI i) + (1 : Int32)).toNatClampNeg))], σ2)
  refine ev_br 0 [] ((s_dy (aCo (kA S.1)) (zAr S) (xs ((nI i) + (1 : Int32)).toNatClampNeg)) = (s_dy (aCo (kA S.1)) (zAr S) (xs ((nI i) + (1 : Int32)).toNatClampNeg))) 1049 720 ([some (.ref 99), some (.ref 0), some (.ref 57), some (.int (nI i))], [], σ2) rfl ?_ (fun c717 => ?_) (fun c717 => ?_)
  · trivial
  · exact kk _ S ok hc3 hm2
  · exact absurd rfl c717
set_option maxRecDepth 100000 in
theorem lc_freely {L : Nat} {xs : Nat → Int32} {Q : Option Value → xSg → Prop} (hL : L ≤ 3072) {i : Nat} (hi : i + 6 ≤ L) {τ : xSg} {S : zS} (hτ : nrm τ = τ) (ok : sOk S) (hc : CH0 τ S) (hm : RH0 τ S) (kk : ∀ (σ2 : xSg) (S2 : zS), sOk S2 → CH0 σ2 S2 → RH0 σ2 S2 → xEv (.inr (L, xs)) M_law20 Q 1049 ([some (.ref 99), some (.ref 0), some (.ref 57), some (.int (nI i))], [], σ2)) : xEv (.inr (L, xs)) M_law20 Q 722 ([some (.ref 99), some (.ref 0), some (.ref 57), some (.int (nI i))], [], τ) := by
  refine ev_blk 6 [vp_in ((nI i) + (1 : Int32)) L] 728 ([some (.ref 99), some (.ref 0), some (.ref 57), some (.int (nI i))], [.int (xs ((nI i) + (1 : Int32)).toNatClampNeg), .ref 0], τ) rfl ?_ ?_
  · exact lw_in hL hi (d := 1) (by decide)
  refine ev_callV M_X5_freely [.int (xs ((nI i) + (1 : Int32)).toNatClampNeg)] [] 0 rfl rfl ln_RL_100 k_X5_freely rfl rfl rfl rfl rfl rfl (c_freely _ S.1.1 (c_ok hτ ok hc) hc.1.1 _) ?_
  intro r σ1 hq
  obtain ⟨rfl, hc1, fr1⟩ := kc_freely hτ ok hc hq
  have hm1 := RH0_nrm ok (RH0_of hm fr1)
  have hτ1 : nrm (nrm σ1) = nrm σ1 := nrm_nrm σ1
  have hc2 := CH0_nrm ok hc1
  refine ev_nrm ?_
  show xEv _ _ _ 731 ([some (.ref 99), some (.ref 0), some (.ref 57), some (.int (nI i))], [.int (s_fre (zTb S) (xs ((nI i) + (1 : Int32)).toNatClampNeg))], (nrm σ1))
  refine ev_blk 6 [vp_in ((nI i) + (1 : Int32)) L] 737 ([some (.ref 99), some (.ref 0), some (.ref 57), some (.int (nI i))], [.int (xs ((nI i) + (1 : Int32)).toNatClampNeg), .ref 57, .int (s_fre (zTb S) (xs ((nI i) + (1 : Int32)).toNatClampNeg))], (nrm σ1)) rfl ?_ ?_
  · exact lw_in hL hi (d := 1) (by decide)
  refine ev_callV M_X6_freely [.int (xs ((nI i) + (1 : Int32)).toNatClampNeg)] [.int (s_fre (zTb S) (xs ((nI i) + (1 : Int32)).toNatClampNeg))] 57 rfl rfl ln_RL_103 k_X6_freely rfl rfl rfl rfl rfl rfl (m_freely _ S.1.1 (lA S.1) (lB S.1) (rh_mOk hτ1 ok hm1) (rh_LR hm1) _) ?_
  intro r σ2 hq
  obtain ⟨rfl, hm2, fr2⟩ := km_freely hτ1 ok hm1 hq
  have hc3 := CH0_of hc2 fr2
  show xEv _ _ _ 740 ([some (.ref 99), some (.ref 0), some (.ref 57), some (.int (nI i))], [.int (s_fre (zTb S) (xs ((nI i) + (1 : Int32)).toNatClampNeg)), .int (s_fre (zTb S) (xs ((nI i) + (1 : Int32)).toNatClampNeg))], σ2)
  refine ev_br 0 [] ((s_fre (zTb S) (xs ((nI i) + (1 : Int32)).toNatClampNeg)) = (s_fre (zTb S) (xs ((nI i) + (1 : Int32)).toNatClampNeg))) 1049 743 ([some (.ref 99), some (.ref 0), some (.ref 57), some (.int (nI i))], [], σ2) rfl ?_ (fun c740 => ?_) (fun c740 => ?_)
  · trivial
  · exact kk _ S ok hc3 hm2
  · exact absurd rfl c740
set_option maxRecDepth 100000 in
theorem lc_tells {L : Nat} {xs : Nat → Int32} {Q : Option Value → xSg → Prop} (hL : L ≤ 3072) {i : Nat} (hi : i + 6 ≤ L) {τ : xSg} {S : zS} (hτ : nrm τ = τ) (ok : sOk S) (hc : CH0 τ S) (hm : RH0 τ S) (kk : ∀ (σ2 : xSg) (S2 : zS), sOk S2 → CH0 σ2 S2 → RH0 σ2 S2 → xEv (.inr (L, xs)) M_law21 Q 1049 ([some (.ref 99), some (.ref 0), some (.ref 57), some (.int (nI i))], [], σ2)) : xEv (.inr (L, xs)) M_law21 Q 745 ([some (.ref 99), some (.ref 0), some (.ref 57), some (.int (nI i))], [], τ) := by
  refine ev_blk 16 [vp_in ((nI i) + (1 : Int32)) L, vp_in ((nI i) + (2 : Int32)) L, vp_in ((nI i) + (3 : Int32)) L] 761 ([some (.ref 99), some (.ref 0), some (.ref 57), some (.int (nI i))], [.int (xs ((nI i) + (3 : Int32)).toNatClampNeg), .int (xs ((nI i) + (2 : Int32)).toNatClampNeg), .int (xs ((nI i) + (1 : Int32)).toNatClampNeg), .ref 0], τ) rfl ?_ ?_
  · exact ⟨lw_in hL hi (d := 1) (by decide), lw_in hL hi (d := 2) (by decide), lw_in hL hi (d := 3) (by decide)⟩
  refine ev_callV M_X5_tells [.int (xs ((nI i) + (1 : Int32)).toNatClampNeg), .int (xs ((nI i) + (2 : Int32)).toNatClampNeg), .int (xs ((nI i) + (3 : Int32)).toNatClampNeg)] [] 0 rfl rfl ln_RL_104 k_X5_tells rfl rfl rfl rfl rfl rfl (c_tells _ S.1.1 (c_ok hτ ok hc) hc.1.1 S.2.2.2 hc.2.2.2.2.2 _ _ _) ?_
  intro r σ1 hq
  obtain ⟨rfl, hc1, fr1⟩ := kc_tells hτ ok hc hq
  have hm1 := RH0_nrm ok (RH0_of hm fr1)
  have hτ1 : nrm (nrm σ1) = nrm σ1 := nrm_nrm σ1
  have hc2 := CH0_nrm ok hc1
  refine ev_nrm ?_
  show xEv _ _ _ 764 ([some (.ref 99), some (.ref 0), some (.ref 57), some (.int (nI i))], [.int (zTl S (xs ((nI i) + (1 : Int32)).toNatClampNeg) (xs ((nI i) + (2 : Int32)).toNatClampNeg) (xs ((nI i) + (3 : Int32)).toNatClampNeg))], (nrm σ1))
  refine ev_blk 16 [vp_in ((nI i) + (1 : Int32)) L, vp_in ((nI i) + (2 : Int32)) L, vp_in ((nI i) + (3 : Int32)) L] 780 ([some (.ref 99), some (.ref 0), some (.ref 57), some (.int (nI i))], [.int (xs ((nI i) + (3 : Int32)).toNatClampNeg), .int (xs ((nI i) + (2 : Int32)).toNatClampNeg), .int (xs ((nI i) + (1 : Int32)).toNatClampNeg), .ref 57, .int (zTl S (xs ((nI i) + (1 : Int32)).toNatClampNeg) (xs ((nI i) + (2 : Int32)).toNatClampNeg) (xs ((nI i) + (3 : Int32)).toNatClampNeg))], (nrm σ1)) rfl ?_ ?_
  · exact ⟨lw_in hL hi (d := 1) (by decide), lw_in hL hi (d := 2) (by decide), lw_in hL hi (d := 3) (by decide)⟩
  refine ev_callV M_X6_tells [.int (xs ((nI i) + (1 : Int32)).toNatClampNeg), .int (xs ((nI i) + (2 : Int32)).toNatClampNeg), .int (xs ((nI i) + (3 : Int32)).toNatClampNeg)] [.int (zTl S (xs ((nI i) + (1 : Int32)).toNatClampNeg) (xs ((nI i) + (2 : Int32)).toNatClampNeg) (xs ((nI i) + (3 : Int32)).toNatClampNeg))] 57 rfl rfl ln_RL_108 k_X6_tells rfl rfl rfl rfl rfl rfl (m_tells _ S.1.1 (lA S.1) (lB S.1) (rh_mOk hτ1 ok hm1) (rh_LR hm1) hm1.1.1 (cW S.1) (cG S.1) (m_st hm1) S.2.2.2 hm1.2.2.2.2.2 _ _ _) ?_
  intro r σ2 hq
  obtain ⟨rfl, hm2, fr2⟩ := km_tells hτ1 ok hm1 hq
  have hc3 := CH0_of hc2 fr2
  show xEv _ _ _ 783 ([some (.ref 99), some (.ref 0), some (.ref 57), some (.int (nI i))], [.int (zTl S (xs ((nI i) + (1 : Int32)).toNatClampNeg) (xs ((nI i) + (2 : Int32)).toNatClampNeg) (xs ((nI i) + (3 : Int32)).toNatClampNeg)), .int (zTl S (xs ((nI i) + (1 : Int32)).toNatClampNeg) (xs ((nI i) + (2 : Int32)).toNatClampNeg) (xs ((nI i) + (3 : Int32)).toNatClampNeg))], σ2)
  refine ev_br 0 [] ((zTl S (xs ((nI i) + (1 : Int32)).toNatClampNeg) (xs ((nI i) + (2 : Int32)).toNatClampNeg) (xs ((nI i) + (3 : Int32)).toNatClampNeg)) = (zTl S (xs ((nI i) + (1 : Int32)).toNatClampNeg) (xs ((nI i) + (2 : Int32)).toNatClampNeg) (xs ((nI i) + (3 : Int32)).toNatClampNeg))) 1049 786 ([some (.ref 99), some (.ref 0), some (.ref 57), some (.int (nI i))], [], σ2) rfl ?_ (fun c783 => ?_) (fun c783 => ?_)
  · trivial
  · exact kk _ S ok hc3 hm2
  · exact absurd rfl c783
set_option maxRecDepth 100000 in
theorem lc_film {L : Nat} {xs : Nat → Int32} {Q : Option Value → xSg → Prop} (hL : L ≤ 3072) {i : Nat} (hi : i + 6 ≤ L) {τ : xSg} {S : zS} (hτ : nrm τ = τ) (ok : sOk S) (hc : CH0 τ S) (hm : RH0 τ S) (kk : ∀ (σ2 : xSg) (S2 : zS), sOk S2 → CH0 σ2 S2 → RH0 σ2 S2 → xEv (.inr (L, xs)) M_law22 Q 1049 ([some (.ref 99), some (.ref 0), some (.ref 57), some (.int (nI i))], [], σ2)) : xEv (.inr (L, xs)) M_law22 Q 788 ([some (.ref 99), some (.ref 0), some (.ref 57), some (.int (nI i))], [], τ) := by
  refine ev_blk 11 [vp_in ((nI i) + (1 : Int32)) L, vp_in ((nI i) + (2 : Int32)) L] 799 ([some (.ref 99), some (.ref 0), some (.ref 57), some (.int (nI i))], [.int (xs ((nI i) + (2 : Int32)).toNatClampNeg), .int (xs ((nI i) + (1 : Int32)).toNatClampNeg), .ref 0], τ) rfl ?_ ?_
  · exact ⟨lw_in hL hi (d := 1) (by decide), lw_in hL hi (d := 2) (by decide)⟩
  refine ev_callV M_X5_film [.int (xs ((nI i) + (1 : Int32)).toNatClampNeg), .int (xs ((nI i) + (2 : Int32)).toNatClampNeg)] [] 0 rfl rfl ln_RL_109 k_X5_film rfl rfl rfl rfl rfl rfl (c_film _ S.1.1 (c_ok hτ ok hc) hc.1.1 S.2.2.2 hc.2.2.2.2.2 _ _) ?_
  intro r σ1 hq
  obtain ⟨rfl, hc1, fr1⟩ := kc_film hτ ok hc hq
  have hm1 := RH0_nrm ok (RH0_of hm fr1)
  have hτ1 : nrm (nrm σ1) = nrm σ1 := nrm_nrm σ1
  have ok2 : sOk (zD S (zFlm S (xs ((nI i) + (1 : Int32)).toNatClampNeg) (xs ((nI i) + (2 : Int32)).toNatClampNeg))).2 := so_D ok _
  have hc2 := CH0_nrm ok2 hc1
  refine ev_nrm ?_
  show xEv _ _ _ 802 ([some (.ref 99), some (.ref 0), some (.ref 57), some (.int (nI i))], [.int ((zD S (zFlm S (xs ((nI i) + (1 : Int32)).toNatClampNeg) (xs ((nI i) + (2 : Int32)).toNatClampNeg))).1)], (nrm σ1))
  refine ev_blk 11 [vp_in ((nI i) + (1 : Int32)) L, vp_in ((nI i) + (2 : Int32)) L] 813 ([some (.ref 99), some (.ref 0), some (.ref 57), some (.int (nI i))], [.int (xs ((nI i) + (2 : Int32)).toNatClampNeg), .int (xs ((nI i) + (1 : Int32)).toNatClampNeg), .ref 57, .int ((zD S (zFlm S (xs ((nI i) + (1 : Int32)).toNatClampNeg) (xs ((nI i) + (2 : Int32)).toNatClampNeg))).1)], (nrm σ1)) rfl ?_ ?_
  · exact ⟨lw_in hL hi (d := 1) (by decide), lw_in hL hi (d := 2) (by decide)⟩
  refine ev_callV M_X6_film [.int (xs ((nI i) + (1 : Int32)).toNatClampNeg), .int (xs ((nI i) + (2 : Int32)).toNatClampNeg)] [.int ((zD S (zFlm S (xs ((nI i) + (1 : Int32)).toNatClampNeg) (xs ((nI i) + (2 : Int32)).toNatClampNeg))).1)] 57 rfl rfl ln_RL_112 k_X6_film rfl rfl rfl rfl rfl rfl (m_film _ S.1.1 (lA S.1) (lB S.1) (rh_mOk hτ1 ok hm1) (rh_LR hm1) S.2.2.2 hm1.2.2.2.2.2 _ _) ?_
  intro r σ2 hq
  obtain ⟨rfl, hm2, fr2⟩ := km_film hτ1 ok hm1 hq
  have hc3 := CH0_of hc2 fr2
  show xEv _ _ _ 816 ([some (.ref 99), some (.ref 0), some (.ref 57), some (.int (nI i))], [.int ((zD S (zFlm S (xs ((nI i) + (1 : Int32)).toNatClampNeg) (xs ((nI i) + (2 : Int32)).toNatClampNeg))).1), .int ((zD S (zFlm S (xs ((nI i) + (1 : Int32)).toNatClampNeg) (xs ((nI i) + (2 : Int32)).toNatClampNeg))).1)], σ2)
  refine ev_br 0 [] (((zD S (zFlm S (xs ((nI i) + (1 : Int32)).toNatClampNeg) (xs ((nI i) + (2 : Int32)).toNatClampNeg))).1) = ((zD S (zFlm S (xs ((nI i) + (1 : Int32)).toNatClampNeg) (xs ((nI i) + (2 : Int32)).toNatClampNeg))).1)) 1049 819 ([some (.ref 99), some (.ref 0), some (.ref 57), some (.int (nI i))], [], σ2) rfl ?_ (fun c816 => ?_) (fun c816 => ?_)
  · trivial
  · exact kk _ _ ok2 hc3 hm2
  · exact absurd rfl c816
set_option maxRecDepth 100000 in
theorem lc_image {L : Nat} {xs : Nat → Int32} {Q : Option Value → xSg → Prop} (hL : L ≤ 3072) {i : Nat} (hi : i + 6 ≤ L) {τ : xSg} {S : zS} (hτ : nrm τ = τ) (ok : sOk S) (hc : CH0 τ S) (hm : RH0 τ S) (kk : ∀ (σ2 : xSg) (S2 : zS), sOk S2 → CH0 σ2 S2 → RH0 σ2 S2 → xEv (.inr (L, xs)) M_law23 Q 1049 ([some (.ref 99), some (.ref 0), some (.ref 57), some (.int (nI i))], [], σ2)) : xEv (.inr (L, xs)) M_law23 Q 821 ([some (.ref 99), some (.ref 0), some (.ref 57), some (.int (nI i))], [], τ) := by
  refine ev_blk 1 [] 822 ([some (.ref 99), some (.ref 0), some (.ref 57), some (.int (nI i))], [.ref 0], τ) rfl ?_ ?_
  · trivial
  refine ev_callV M_X5_image [] [] 0 rfl rfl ln_RL_113 k_X5_image rfl rfl rfl rfl rfl rfl (c_image _) ?_
  intro r σ1 hq
  obtain ⟨rfl, hc1, fr1⟩ := kc_image ok hc hq
  have hm1 := RH0_nrm ok (RH0_of hm fr1)
  have hτ1 : nrm (nrm σ1) = nrm σ1 := nrm_nrm σ1
  have ok2 : sOk (zImg S).2 := so_image ok
  have hc2 := CH0_nrm ok2 hc1
  refine ev_nrm ?_
  show xEv _ _ _ 825 ([some (.ref 99), some (.ref 0), some (.ref 57), some (.int (nI i))], [.int ((zImg S).1)], (nrm σ1))
  refine ev_blk 1 [] 826 ([some (.ref 99), some (.ref 0), some (.ref 57), some (.int (nI i))], [.ref 57, .int ((zImg S).1)], (nrm σ1)) rfl ?_ ?_
  · trivial
  refine ev_callV M_X6_image [] [.int ((zImg S).1)] 57 rfl rfl ln_RL_116 k_X6_image rfl rfl rfl rfl rfl rfl (m_image _) ?_
  intro r σ2 hq
  obtain ⟨rfl, hm2, fr2⟩ := km_image ok hm1 hq
  have hc3 := CH0_of hc2 fr2
  show xEv _ _ _ 829 ([some (.ref 99), some (.ref 0), some (.ref 57), some (.int (nI i))], [.int ((zImg S).1), .int ((zImg S).1)], σ2)
  refine ev_br 0 [] (((zImg S).1) = ((zImg S).1)) 1049 832 ([some (.ref 99), some (.ref 0), some (.ref 57), some (.int (nI i))], [], σ2) rfl ?_ (fun c829 => ?_) (fun c829 => ?_)
  · trivial
  · exact kk _ _ ok2 hc3 hm2
  · exact absurd rfl c829
set_option maxRecDepth 100000 in
theorem lc_back {L : Nat} {xs : Nat → Int32} {Q : Option Value → xSg → Prop} (hL : L ≤ 3072) {i : Nat} (hi : i + 6 ≤ L) {τ : xSg} {S : zS} (hτ : nrm τ = τ) (ok : sOk S) (hc : CH0 τ S) (hm : RH0 τ S) (kk : ∀ (σ2 : xSg) (S2 : zS), sOk S2 → CH0 σ2 S2 → RH0 σ2 S2 → xEv (.inr (L, xs)) M_law24 Q 1049 ([some (.ref 99), some (.ref 0), some (.ref 57), some (.int (nI i))], [], σ2)) : xEv (.inr (L, xs)) M_law24 Q 834 ([some (.ref 99), some (.ref 0), some (.ref 57), some (.int (nI i))], [], τ) := by
  refine ev_blk 1 [] 835 ([some (.ref 99), some (.ref 0), some (.ref 57), some (.int (nI i))], [.ref 0], τ) rfl ?_ ?_
  · trivial
  refine ev_callV M_X5_back [] [] 0 rfl rfl ln_RL_117 k_X5_back rfl rfl rfl rfl rfl rfl (c_back _) ?_
  intro r σ1 hq
  obtain ⟨rfl, hc1, fr1⟩ := kc_back ok hc hq
  have hm1 := RH0_nrm ok (RH0_of hm fr1)
  have hτ1 : nrm (nrm σ1) = nrm σ1 := nrm_nrm σ1
  have ok2 : sOk (zBk S).2 := so_back ok
  have hc2 := CH0_nrm ok2 hc1
  refine ev_nrm ?_
  show xEv _ _ _ 838 ([some (.ref 99), some (.ref 0), some (.ref 57), some (.int (nI i))], [.int ((zBk S).1)], (nrm σ1))
  refine ev_blk 1 [] 839 ([some (.ref 99), some (.ref 0), some (.ref 57), some (.int (nI i))], [.ref 57, .int ((zBk S).1)], (nrm σ1)) rfl ?_ ?_
  · trivial
  refine ev_callV M_X6_back [] [.int ((zBk S).1)] 57 rfl rfl ln_RL_120 k_X6_back rfl rfl rfl rfl rfl rfl (m_back _) ?_
  intro r σ2 hq
  obtain ⟨rfl, hm2, fr2⟩ := km_back ok hm1 hq
  have hc3 := CH0_of hc2 fr2
  show xEv _ _ _ 842 ([some (.ref 99), some (.ref 0), some (.ref 57), some (.int (nI i))], [.int ((zBk S).1), .int ((zBk S).1)], σ2)
  refine ev_br 0 [] (((zBk S).1) = ((zBk S).1)) 1049 845 ([some (.ref 99), some (.ref 0), some (.ref 57), some (.int (nI i))], [], σ2) rfl ?_ (fun c842 => ?_) (fun c842 => ?_)
  · trivial
  · exact kk _ _ ok2 hc3 hm2
  · exact absurd rfl c842
set_option maxRecDepth 100000 in
theorem lc_sheet {L : Nat} {xs : Nat → Int32} {Q : Option Value → xSg → Prop} (hL : L ≤ 3072) {i : Nat} (hi : i + 6 ≤ L) {τ : xSg} {S : zS} (hτ : nrm τ = τ) (ok : sOk S) (hc : CH0 τ S) (hm : RH0 τ S) (kk : ∀ (σ2 : xSg) (S2 : zS), sOk S2 → CH0 σ2 S2 → RH0 σ2 S2 → xEv (.inr (L, xs)) M_law25 Q 1049 ([some (.ref 99), some (.ref 0), some (.ref 57), some (.int (nI i))], [], σ2)) : xEv (.inr (L, xs)) M_law25 Q 847 ([some (.ref 99), some (.ref 0), some (.ref 57), some (.int (nI i))], [], τ) := by
  refine ev_blk 16 [vp_in ((nI i) + (1 : Int32)) L, vp_in ((nI i) + (2 : Int32)) L, vp_in ((nI i) + (3 : Int32)) L] 863 ([some (.ref 99), some (.ref 0), some (.ref 57), some (.int (nI i))], [.int (xs ((nI i) + (3 : Int32)).toNatClampNeg), .int (xs ((nI i) + (2 : Int32)).toNatClampNeg), .int (xs ((nI i) + (1 : Int32)).toNatClampNeg), .ref 0], τ) rfl ?_ ?_
  · exact ⟨lw_in hL hi (d := 1) (by decide), lw_in hL hi (d := 2) (by decide), lw_in hL hi (d := 3) (by decide)⟩
  refine ev_callV M_X5_sheet [.int (xs ((nI i) + (1 : Int32)).toNatClampNeg), .int (xs ((nI i) + (2 : Int32)).toNatClampNeg), .int (xs ((nI i) + (3 : Int32)).toNatClampNeg)] [] 0 rfl rfl ln_RL_121 k_X5_sheet rfl rfl rfl rfl rfl rfl (c_sheet _ S.2.2.2 hc.2.2.2.2.2 _ _ _) ?_
  intro r σ1 hq
  obtain ⟨rfl, hc1, fr1⟩ := kc_sh hc hq
  have hm1 := RH0_nrm ok (RH0_of hm fr1)
  have hτ1 : nrm (nrm σ1) = nrm σ1 := nrm_nrm σ1
  have ok2 : sOk (zD S (s_sheet S.2.2.2 (xs ((nI i) + (1 : Int32)).toNatClampNeg) (xs ((nI i) + (2 : Int32)).toNatClampNeg) (xs ((nI i) + (3 : Int32)).toNatClampNeg))).2 := so_D ok _
  have hc2 := CH0_nrm ok2 hc1
  refine ev_nrm ?_
  show xEv _ _ _ 866 ([some (.ref 99), some (.ref 0), some (.ref 57), some (.int (nI i))], [.int ((zD S (s_sheet S.2.2.2 (xs ((nI i) + (1 : Int32)).toNatClampNeg) (xs ((nI i) + (2 : Int32)).toNatClampNeg) (xs ((nI i) + (3 : Int32)).toNatClampNeg))).1)], (nrm σ1))
  refine ev_blk 16 [vp_in ((nI i) + (1 : Int32)) L, vp_in ((nI i) + (2 : Int32)) L, vp_in ((nI i) + (3 : Int32)) L] 882 ([some (.ref 99), some (.ref 0), some (.ref 57), some (.int (nI i))], [.int (xs ((nI i) + (3 : Int32)).toNatClampNeg), .int (xs ((nI i) + (2 : Int32)).toNatClampNeg), .int (xs ((nI i) + (1 : Int32)).toNatClampNeg), .ref 57, .int ((zD S (s_sheet S.2.2.2 (xs ((nI i) + (1 : Int32)).toNatClampNeg) (xs ((nI i) + (2 : Int32)).toNatClampNeg) (xs ((nI i) + (3 : Int32)).toNatClampNeg))).1)], (nrm σ1)) rfl ?_ ?_
  · exact ⟨lw_in hL hi (d := 1) (by decide), lw_in hL hi (d := 2) (by decide), lw_in hL hi (d := 3) (by decide)⟩
  refine ev_callV M_X6_sheet [.int (xs ((nI i) + (1 : Int32)).toNatClampNeg), .int (xs ((nI i) + (2 : Int32)).toNatClampNeg), .int (xs ((nI i) + (3 : Int32)).toNatClampNeg)] [.int ((zD S (s_sheet S.2.2.2 (xs ((nI i) + (1 : Int32)).toNatClampNeg) (xs ((nI i) + (2 : Int32)).toNatClampNeg) (xs ((nI i) + (3 : Int32)).toNatClampNeg))).1)] 57 rfl rfl ln_RL_124 k_X6_sheet rfl rfl rfl rfl rfl rfl (m_sheet _ S.2.2.2 hm1.2.2.2.2.2 _ _ _) ?_
  intro r σ2 hq
  obtain ⟨rfl, hm2, fr2⟩ := km_sh hm1 hq
  have hc3 := CH0_of hc2 fr2
  show xEv _ _ _ 885 ([some (.ref 99), some (.ref 0), some (.ref 57), some (.int (nI i))], [.int ((zD S (s_sheet S.2.2.2 (xs ((nI i) + (1 : Int32)).toNatClampNeg) (xs ((nI i) + (2 : Int32)).toNatClampNeg) (xs ((nI i) + (3 : Int32)).toNatClampNeg))).1), .int ((zD S (s_sheet S.2.2.2 (xs ((nI i) + (1 : Int32)).toNatClampNeg) (xs ((nI i) + (2 : Int32)).toNatClampNeg) (xs ((nI i) + (3 : Int32)).toNatClampNeg))).1)], σ2)
  refine ev_br 0 [] (((zD S (s_sheet S.2.2.2 (xs ((nI i) + (1 : Int32)).toNatClampNeg) (xs ((nI i) + (2 : Int32)).toNatClampNeg) (xs ((nI i) + (3 : Int32)).toNatClampNeg))).1) = ((zD S (s_sheet S.2.2.2 (xs ((nI i) + (1 : Int32)).toNatClampNeg) (xs ((nI i) + (2 : Int32)).toNatClampNeg) (xs ((nI i) + (3 : Int32)).toNatClampNeg))).1)) 1049 888 ([some (.ref 99), some (.ref 0), some (.ref 57), some (.int (nI i))], [], σ2) rfl ?_ (fun c885 => ?_) (fun c885 => ?_)
  · trivial
  · exact kk _ _ ok2 hc3 hm2
  · exact absurd rfl c885
set_option maxRecDepth 100000 in
theorem lc_put {L : Nat} {xs : Nat → Int32} {Q : Option Value → xSg → Prop} (hL : L ≤ 3072) {i : Nat} (hi : i + 6 ≤ L) {τ : xSg} {S : zS} (hτ : nrm τ = τ) (ok : sOk S) (hc : CH0 τ S) (hm : RH0 τ S) (kk : ∀ (σ2 : xSg) (S2 : zS), sOk S2 → CH0 σ2 S2 → RH0 σ2 S2 → xEv (.inr (L, xs)) M_law26 Q 1049 ([some (.ref 99), some (.ref 0), some (.ref 57), some (.int (nI i))], [], σ2)) : xEv (.inr (L, xs)) M_law26 Q 890 ([some (.ref 99), some (.ref 0), some (.ref 57), some (.int (nI i))], [], τ) := by
  refine ev_blk 16 [vp_in ((nI i) + (1 : Int32)) L, vp_in ((nI i) + (2 : Int32)) L, vp_in ((nI i) + (3 : Int32)) L] 906 ([some (.ref 99), some (.ref 0), some (.ref 57), some (.int (nI i))], [.int (xs ((nI i) + (3 : Int32)).toNatClampNeg), .int (xs ((nI i) + (2 : Int32)).toNatClampNeg), .int (xs ((nI i) + (1 : Int32)).toNatClampNeg), .ref 0], τ) rfl ?_ ?_
  · exact ⟨lw_in hL hi (d := 1) (by decide), lw_in hL hi (d := 2) (by decide), lw_in hL hi (d := 3) (by decide)⟩
  refine ev_callV M_X5_put [.int (xs ((nI i) + (1 : Int32)).toNatClampNeg), .int (xs ((nI i) + (2 : Int32)).toNatClampNeg), .int (xs ((nI i) + (3 : Int32)).toNatClampNeg)] [] 0 rfl rfl ln_RL_125 k_X5_put rfl rfl rfl rfl rfl rfl (c_put _ S.2.2.2 hc.2.2.2.2.2 _ _ _) ?_
  intro r σ1 hq
  obtain ⟨rfl, hc1, fr1⟩ := kc_sh hc hq
  have hm1 := RH0_nrm ok (RH0_of hm fr1)
  have hτ1 : nrm (nrm σ1) = nrm σ1 := nrm_nrm σ1
  have ok2 : sOk (zD S (s_put S.2.2.2 (xs ((nI i) + (1 : Int32)).toNatClampNeg) (xs ((nI i) + (2 : Int32)).toNatClampNeg) (xs ((nI i) + (3 : Int32)).toNatClampNeg))).2 := so_D ok _
  have hc2 := CH0_nrm ok2 hc1
  refine ev_nrm ?_
  show xEv _ _ _ 909 ([some (.ref 99), some (.ref 0), some (.ref 57), some (.int (nI i))], [.int ((zD S (s_put S.2.2.2 (xs ((nI i) + (1 : Int32)).toNatClampNeg) (xs ((nI i) + (2 : Int32)).toNatClampNeg) (xs ((nI i) + (3 : Int32)).toNatClampNeg))).1)], (nrm σ1))
  refine ev_blk 16 [vp_in ((nI i) + (1 : Int32)) L, vp_in ((nI i) + (2 : Int32)) L, vp_in ((nI i) + (3 : Int32)) L] 925 ([some (.ref 99), some (.ref 0), some (.ref 57), some (.int (nI i))], [.int (xs ((nI i) + (3 : Int32)).toNatClampNeg), .int (xs ((nI i) + (2 : Int32)).toNatClampNeg), .int (xs ((nI i) + (1 : Int32)).toNatClampNeg), .ref 57, .int ((zD S (s_put S.2.2.2 (xs ((nI i) + (1 : Int32)).toNatClampNeg) (xs ((nI i) + (2 : Int32)).toNatClampNeg) (xs ((nI i) + (3 : Int32)).toNatClampNeg))).1)], (nrm σ1)) rfl ?_ ?_
  · exact ⟨lw_in hL hi (d := 1) (by decide), lw_in hL hi (d := 2) (by decide), lw_in hL hi (d := 3) (by decide)⟩
  refine ev_callV M_X6_put [.int (xs ((nI i) + (1 : Int32)).toNatClampNeg), .int (xs ((nI i) + (2 : Int32)).toNatClampNeg), .int (xs ((nI i) + (3 : Int32)).toNatClampNeg)] [.int ((zD S (s_put S.2.2.2 (xs ((nI i) + (1 : Int32)).toNatClampNeg) (xs ((nI i) + (2 : Int32)).toNatClampNeg) (xs ((nI i) + (3 : Int32)).toNatClampNeg))).1)] 57 rfl rfl ln_RL_128 k_X6_put rfl rfl rfl rfl rfl rfl (m_put _ S.2.2.2 hm1.2.2.2.2.2 _ _ _) ?_
  intro r σ2 hq
  obtain ⟨rfl, hm2, fr2⟩ := km_sh hm1 hq
  have hc3 := CH0_of hc2 fr2
  show xEv _ _ _ 928 ([some (.ref 99), some (.ref 0), some (.ref 57), some (.int (nI i))], [.int ((zD S (s_put S.2.2.2 (xs ((nI i) + (1 : Int32)).toNatClampNeg) (xs ((nI i) + (2 : Int32)).toNatClampNeg) (xs ((nI i) + (3 : Int32)).toNatClampNeg))).1), .int ((zD S (s_put S.2.2.2 (xs ((nI i) + (1 : Int32)).toNatClampNeg) (xs ((nI i) + (2 : Int32)).toNatClampNeg) (xs ((nI i) + (3 : Int32)).toNatClampNeg))).1)], σ2)
  refine ev_br 0 [] (((zD S (s_put S.2.2.2 (xs ((nI i) + (1 : Int32)).toNatClampNeg) (xs ((nI i) + (2 : Int32)).toNatClampNeg) (xs ((nI i) + (3 : Int32)).toNatClampNeg))).1) = ((zD S (s_put S.2.2.2 (xs ((nI i) + (1 : Int32)).toNatClampNeg) (xs ((nI i) + (2 : Int32)).toNatClampNeg) (xs ((nI i) + (3 : Int32)).toNatClampNeg))).1)) 1049 931 ([some (.ref 99), some (.ref 0), some (.ref 57), some (.int (nI i))], [], σ2) rfl ?_ (fun c928 => ?_) (fun c928 => ?_)
  · trivial
  · exact kk _ _ ok2 hc3 hm2
  · exact absurd rfl c928
set_option maxRecDepth 100000 in
theorem lc_copy {L : Nat} {xs : Nat → Int32} {Q : Option Value → xSg → Prop} (hL : L ≤ 3072) {i : Nat} (hi : i + 6 ≤ L) {τ : xSg} {S : zS} (hτ : nrm τ = τ) (ok : sOk S) (hc : CH0 τ S) (hm : RH0 τ S) (kk : ∀ (σ2 : xSg) (S2 : zS), sOk S2 → CH0 σ2 S2 → RH0 σ2 S2 → xEv (.inr (L, xs)) M_law27 Q 1049 ([some (.ref 99), some (.ref 0), some (.ref 57), some (.int (nI i))], [], σ2)) : xEv (.inr (L, xs)) M_law27 Q 933 ([some (.ref 99), some (.ref 0), some (.ref 57), some (.int (nI i))], [], τ) := by
  refine ev_blk 26 [vp_in ((nI i) + (1 : Int32)) L, vp_in ((nI i) + (2 : Int32)) L, vp_in ((nI i) + (3 : Int32)) L, vp_in ((nI i) + (4 : Int32)) L, vp_in ((nI i) + (5 : Int32)) L] 959 ([some (.ref 99), some (.ref 0), some (.ref 57), some (.int (nI i))], [.int (xs ((nI i) + (5 : Int32)).toNatClampNeg), .int (xs ((nI i) + (4 : Int32)).toNatClampNeg), .int (xs ((nI i) + (3 : Int32)).toNatClampNeg), .int (xs ((nI i) + (2 : Int32)).toNatClampNeg), .int (xs ((nI i) + (1 : Int32)).toNatClampNeg), .ref 0], τ) rfl ?_ ?_
  · exact ⟨lw_in hL hi (d := 1) (by decide), lw_in hL hi (d := 2) (by decide), lw_in hL hi (d := 3) (by decide), lw_in hL hi (d := 4) (by decide), lw_in hL hi (d := 5) (by decide)⟩
  refine ev_callV M_X5_copy [.int (xs ((nI i) + (1 : Int32)).toNatClampNeg), .int (xs ((nI i) + (2 : Int32)).toNatClampNeg), .int (xs ((nI i) + (3 : Int32)).toNatClampNeg), .int (xs ((nI i) + (4 : Int32)).toNatClampNeg), .int (xs ((nI i) + (5 : Int32)).toNatClampNeg)] [] 0 rfl rfl ln_RL_129 k_X5_copy rfl rfl rfl rfl rfl rfl (c_copy _ S.2.2.2 hc.2.2.2.2.2 _ _ _ _ _) ?_
  intro r σ1 hq
  obtain ⟨rfl, hc1, fr1⟩ := kc_sh hc hq
  have hm1 := RH0_nrm ok (RH0_of hm fr1)
  have hτ1 : nrm (nrm σ1) = nrm σ1 := nrm_nrm σ1
  have ok2 : sOk (zD S (s_cpy S.2.2.2 (xs ((nI i) + (1 : Int32)).toNatClampNeg) (xs ((nI i) + (2 : Int32)).toNatClampNeg) (xs ((nI i) + (3 : Int32)).toNatClampNeg) (xs ((nI i) + (4 : Int32)).toNatClampNeg) (xs ((nI i) + (5 : Int32)).toNatClampNeg))).2 := so_D ok _
  have hc2 := CH0_nrm ok2 hc1
  refine ev_nrm ?_
  show xEv _ _ _ 962 ([some (.ref 99), some (.ref 0), some (.ref 57), some (.int (nI i))], [.int ((zD S (s_cpy S.2.2.2 (xs ((nI i) + (1 : Int32)).toNatClampNeg) (xs ((nI i) + (2 : Int32)).toNatClampNeg) (xs ((nI i) + (3 : Int32)).toNatClampNeg) (xs ((nI i) + (4 : Int32)).toNatClampNeg) (xs ((nI i) + (5 : Int32)).toNatClampNeg))).1)], (nrm σ1))
  refine ev_blk 26 [vp_in ((nI i) + (1 : Int32)) L, vp_in ((nI i) + (2 : Int32)) L, vp_in ((nI i) + (3 : Int32)) L, vp_in ((nI i) + (4 : Int32)) L, vp_in ((nI i) + (5 : Int32)) L] 988 ([some (.ref 99), some (.ref 0), some (.ref 57), some (.int (nI i))], [.int (xs ((nI i) + (5 : Int32)).toNatClampNeg), .int (xs ((nI i) + (4 : Int32)).toNatClampNeg), .int (xs ((nI i) + (3 : Int32)).toNatClampNeg), .int (xs ((nI i) + (2 : Int32)).toNatClampNeg), .int (xs ((nI i) + (1 : Int32)).toNatClampNeg), .ref 57, .int ((zD S (s_cpy S.2.2.2 (xs ((nI i) + (1 : Int32)).toNatClampNeg) (xs ((nI i) + (2 : Int32)).toNatClampNeg) (xs ((nI i) + (3 : Int32)).toNatClampNeg) (xs ((nI i) + (4 : Int32)).toNatClampNeg) (xs ((nI i) + (5 : Int32)).toNatClampNeg))).1)], (nrm σ1)) rfl ?_ ?_
  · exact ⟨lw_in hL hi (d := 1) (by decide), lw_in hL hi (d := 2) (by decide), lw_in hL hi (d := 3) (by decide), lw_in hL hi (d := 4) (by decide), lw_in hL hi (d := 5) (by decide)⟩
  refine ev_callV M_X6_copy [.int (xs ((nI i) + (1 : Int32)).toNatClampNeg), .int (xs ((nI i) + (2 : Int32)).toNatClampNeg), .int (xs ((nI i) + (3 : Int32)).toNatClampNeg), .int (xs ((nI i) + (4 : Int32)).toNatClampNeg), .int (xs ((nI i) + (5 : Int32)).toNatClampNeg)] [.int ((zD S (s_cpy S.2.2.2 (xs ((nI i) + (1 : Int32)).toNatClampNeg) (xs ((nI i) + (2 : Int32)).toNatClampNeg) (xs ((nI i) + (3 : Int32)).toNatClampNeg) (xs ((nI i) + (4 : Int32)).toNatClampNeg) (xs ((nI i) + (5 : Int32)).toNatClampNeg))).1)] 57 rfl rfl ln_RL_132 k_X6_copy rfl rfl rfl rfl rfl rfl (m_copy _ S.2.2.2 hm1.2.2.2.2.2 _ _ _ _ _) ?_
  intro r σ2 hq
  obtain ⟨rfl, hm2, fr2⟩ := km_sh hm1 hq
  have hc3 := CH0_of hc2 fr2
  show xEv _ _ _ 991 ([some (.ref 99), some (.ref 0), some (.ref 57), some (.int (nI i))], [.int ((zD S (s_cpy S.2.2.2 (xs ((nI i) + (1 : Int32)).toNatClampNeg) (xs ((nI i) + (2 : Int32)).toNatClampNeg) (xs ((nI i) + (3 : Int32)).toNatClampNeg) (xs ((nI i) + (4 : Int32)).toNatClampNeg) (xs ((nI i) + (5 : Int32)).toNatClampNeg))).1), .int ((zD S (s_cpy S.2.2.2 (xs ((nI i) + (1 : Int32)).toNatClampNeg) (xs ((nI i) + (2 : Int32)).toNatClampNeg) (xs ((nI i) + (3 : Int32)).toNatClampNeg) (xs ((nI i) + (4 : Int32)).toNatClampNeg) (xs ((nI i) + (5 : Int32)).toNatClampNeg))).1)], σ2)
  refine ev_br 0 [] (((zD S (s_cpy S.2.2.2 (xs ((nI i) + (1 : Int32)).toNatClampNeg) (xs ((nI i) + (2 : Int32)).toNatClampNeg) (xs ((nI i) + (3 : Int32)).toNatClampNeg) (xs ((nI i) + (4 : Int32)).toNatClampNeg) (xs ((nI i) + (5 : Int32)).toNatClampNeg))).1) = ((zD S (s_cpy S.2.2.2 (xs ((nI i) + (1 : Int32)).toNatClampNeg) (xs ((nI i) + (2 : Int32)).toNatClampNeg) (xs ((nI i) + (3 : Int32)).toNatClampNeg) (xs ((nI i) + (4 : Int32)).toNatClampNeg) (xs ((nI i) + (5 : Int32)).toNatClampNeg))).1)) 1049 994 ([some (.ref 99), some (.ref 0), some (.ref 57), some (.int (nI i))], [], σ2) rfl ?_ (fun c991 => ?_) (fun c991 => ?_)
  · trivial
  · exact kk _ _ ok2 hc3 hm2
  · exact absurd rfl c991
set_option maxRecDepth 100000 in
theorem lc_load {L : Nat} {xs : Nat → Int32} {Q : Option Value → xSg → Prop} (hL : L ≤ 3072) {i : Nat} (hi : i + 6 ≤ L) {τ : xSg} {S : zS} (hτ : nrm τ = τ) (ok : sOk S) (hc : CH0 τ S) (hm : RH0 τ S) (kk : ∀ (σ2 : xSg) (S2 : zS), sOk S2 → CH0 σ2 S2 → RH0 σ2 S2 → xEv (.inr (L, xs)) M_law28 Q 1049 ([some (.ref 99), some (.ref 0), some (.ref 57), some (.int (nI i))], [], σ2)) : xEv (.inr (L, xs)) M_law28 Q 996 ([some (.ref 99), some (.ref 0), some (.ref 57), some (.int (nI i))], [], τ) := by
  refine ev_blk 21 [vp_in ((nI i) + (1 : Int32)) L, vp_in ((nI i) + (2 : Int32)) L, vp_in ((nI i) + (3 : Int32)) L, vp_in ((nI i) + (4 : Int32)) L] 1017 ([some (.ref 99), some (.ref 0), some (.ref 57), some (.int (nI i))], [.int (xs ((nI i) + (4 : Int32)).toNatClampNeg), .int (xs ((nI i) + (3 : Int32)).toNatClampNeg), .int (xs ((nI i) + (2 : Int32)).toNatClampNeg), .int (xs ((nI i) + (1 : Int32)).toNatClampNeg), .ref 0], τ) rfl ?_ ?_
  · exact ⟨lw_in hL hi (d := 1) (by decide), lw_in hL hi (d := 2) (by decide), lw_in hL hi (d := 3) (by decide), lw_in hL hi (d := 4) (by decide)⟩
  refine ev_callV M_X5_load [.int (xs ((nI i) + (1 : Int32)).toNatClampNeg), .int (xs ((nI i) + (2 : Int32)).toNatClampNeg), .int (xs ((nI i) + (3 : Int32)).toNatClampNeg), .int (xs ((nI i) + (4 : Int32)).toNatClampNeg)] [] 0 rfl rfl ln_RL_133 k_X5_load rfl rfl rfl rfl rfl rfl (zc_load _ S ok hc _ _ _ _) ?_
  intro r σ1 hq
  obtain ⟨rfl, hc1, fr1⟩ := hq
  have hm1 := RH0_nrm ok (RH0_of hm fr1)
  have hτ1 : nrm (nrm σ1) = nrm σ1 := nrm_nrm σ1
  have ok2 : sOk (zLd S (xs ((nI i) + (1 : Int32)).toNatClampNeg) (xs ((nI i) + (2 : Int32)).toNatClampNeg) (xs ((nI i) + (3 : Int32)).toNatClampNeg) (xs ((nI i) + (4 : Int32)).toNatClampNeg)).2 := so_load ok _ _ _ _
  have hc2 := CH0_nrm ok2 hc1
  refine ev_nrm ?_
  show xEv _ _ _ 1020 ([some (.ref 99), some (.ref 0), some (.ref 57), some (.int (nI i))], [.int ((zLd S (xs ((nI i) + (1 : Int32)).toNatClampNeg) (xs ((nI i) + (2 : Int32)).toNatClampNeg) (xs ((nI i) + (3 : Int32)).toNatClampNeg) (xs ((nI i) + (4 : Int32)).toNatClampNeg)).1)], (nrm σ1))
  refine ev_blk 21 [vp_in ((nI i) + (1 : Int32)) L, vp_in ((nI i) + (2 : Int32)) L, vp_in ((nI i) + (3 : Int32)) L, vp_in ((nI i) + (4 : Int32)) L] 1041 ([some (.ref 99), some (.ref 0), some (.ref 57), some (.int (nI i))], [.int (xs ((nI i) + (4 : Int32)).toNatClampNeg), .int (xs ((nI i) + (3 : Int32)).toNatClampNeg), .int (xs ((nI i) + (2 : Int32)).toNatClampNeg), .int (xs ((nI i) + (1 : Int32)).toNatClampNeg), .ref 57, .int ((zLd S (xs ((nI i) + (1 : Int32)).toNatClampNeg) (xs ((nI i) + (2 : Int32)).toNatClampNeg) (xs ((nI i) + (3 : Int32)).toNatClampNeg) (xs ((nI i) + (4 : Int32)).toNatClampNeg)).1)], (nrm σ1)) rfl ?_ ?_
  · exact ⟨lw_in hL hi (d := 1) (by decide), lw_in hL hi (d := 2) (by decide), lw_in hL hi (d := 3) (by decide), lw_in hL hi (d := 4) (by decide)⟩
  refine ev_callV M_X6_load [.int (xs ((nI i) + (1 : Int32)).toNatClampNeg), .int (xs ((nI i) + (2 : Int32)).toNatClampNeg), .int (xs ((nI i) + (3 : Int32)).toNatClampNeg), .int (xs ((nI i) + (4 : Int32)).toNatClampNeg)] [.int ((zLd S (xs ((nI i) + (1 : Int32)).toNatClampNeg) (xs ((nI i) + (2 : Int32)).toNatClampNeg) (xs ((nI i) + (3 : Int32)).toNatClampNeg) (xs ((nI i) + (4 : Int32)).toNatClampNeg)).1)] 57 rfl rfl ln_RL_137 k_X6_load rfl rfl rfl rfl rfl rfl (zm_load _ S ok hm1 _ _ _ _) ?_
  intro r σ2 hq
  obtain ⟨rfl, hm2, fr2⟩ := hq
  have hc3 := CH0_of hc2 fr2
  show xEv _ _ _ 1044 ([some (.ref 99), some (.ref 0), some (.ref 57), some (.int (nI i))], [.int ((zLd S (xs ((nI i) + (1 : Int32)).toNatClampNeg) (xs ((nI i) + (2 : Int32)).toNatClampNeg) (xs ((nI i) + (3 : Int32)).toNatClampNeg) (xs ((nI i) + (4 : Int32)).toNatClampNeg)).1), .int ((zLd S (xs ((nI i) + (1 : Int32)).toNatClampNeg) (xs ((nI i) + (2 : Int32)).toNatClampNeg) (xs ((nI i) + (3 : Int32)).toNatClampNeg) (xs ((nI i) + (4 : Int32)).toNatClampNeg)).1)], σ2)
  refine ev_br 0 [] (((zLd S (xs ((nI i) + (1 : Int32)).toNatClampNeg) (xs ((nI i) + (2 : Int32)).toNatClampNeg) (xs ((nI i) + (3 : Int32)).toNatClampNeg) (xs ((nI i) + (4 : Int32)).toNatClampNeg)).1) = ((zLd S (xs ((nI i) + (1 : Int32)).toNatClampNeg) (xs ((nI i) + (2 : Int32)).toNatClampNeg) (xs ((nI i) + (3 : Int32)).toNatClampNeg) (xs ((nI i) + (4 : Int32)).toNatClampNeg)).1)) 1049 1047 ([some (.ref 99), some (.ref 0), some (.ref 57), some (.int (nI i))], [], σ2) rfl ?_ (fun c1044 => ?_) (fun c1044 => ?_)
  · trivial
  · exact kk _ _ ok2 hc3 hm2
  · exact absurd rfl c1044
