def flQ (σ : xSg) (a : sAt) (W : List (Nat × Nat × Nat)) (D l : Nat) : Option Value → xSg → Prop := fun r σ' => ∃ inm σ1, (∀ j, j < 32 → bt inm j = decide (j ∈ W.map Prod.fst)) ∧ xFr scC σ σ1 ∧
  ((W = [] ∧ r = some (.int (-3)) ∧ σ' = σ1) ∨ (W ≠ [] ∧ l = 40 ∧ r = some (.int (-4)) ∧ σ' = σ1) ∨ (W ≠ [] ∧ l < 40 ∧ r = some (.int (bcI inm)) ∧ ∃ σ2, gbQ σ1 inm (s_spend a W) l none σ2 ∧ remQ σ2 D inm none σ'))
set_option maxRecDepth 100000 in
theorem c_fillP (σ : xSg) (n : Nat) (hok : aOk (atC σ) n) (hn : σ 1 0 = nI n) (D l : Nat) (hD : σ 0 4 = nI D) (hD6 : D ≤ 6) (hl : σ 1 13 = nI l) (hl40 : l ≤ 40) : xCtr M_X5_fill [.ref 0] σ (flQ σ (atC σ) (s_went (s_flw (atC σ) (tkC σ) n (σ 1 1))) D l) := by
  refine ctr_ev ok_X5_fill (by decide +kernel) rfl rfl rfl ?_
  show xEv (.inl 5) M_X5_fill _ 0 ([some (.ref 0), none], [], σ)
  refine ev_blk 6 [] 14 ([some (.ref 0), none], [.ref 104, .int ((σ 1 1)), .ref 26], σ) rfl ?_ ?_
  · trivial
  refine ev_callV M_X2_byRule [.int ((σ 1 1)), .ref 104] [] 26 rfl rfl ln_X5_157 k_X2_byRule rfl rfl rfl rfl rfl rfl (c_byRule104 σ n (List.range 10) _ hok hn ord_by) ?_
  rintro r σ1 ⟨inm, rfl, hb, hF, hfr⟩
  have hT : s_fill (atC σ) (tkC σ) ((List.range 10).filter (s_lnp n (σ 1 1) (σ 7) 0)) ((List.range 10).filter (s_lnp n (σ 1 1) (σ 7) 1)) = (s_flw (atC σ) (tkC σ) n (σ 1 1)) := rfl
  rw [hT] at hb hF
  show xEv _ _ _ 17 ([some (.ref 0), none], [.int (inm)], σ1)
  refine ev_br 2 [] (¬ inm = 0) 25 22 ([some (.ref 0), some (.int (inm))], [], σ1) rfl ?_ (fun c19 => ?_) (fun c19 => ?_)
  · trivial
  · refine ev_br 4 [] ((σ1 1 13) < (40 : Int32)) 40 37 ([some (.ref 0), some (.int (inm))], [], σ1) rfl ?_ (fun c34 => ?_) (fun c34 => ?_)
    · trivial
    · refine ev_blk 5 [] 49 ([some (.ref 0), some (.int (inm))], [.ref 26, .int (inm), .ref 1], σ1) rfl ?_ ?_
      · trivial
      refine ev_callV M_X2_spends [] [.int (inm), .ref 1] 26 rfl rfl ln_X5_161 k_X2_spends rfl rfl rfl rfl rfl rfl (c_spends26 σ1) ?_
      refine pu_k ?_
      show xEv _ _ _ 52 ([some (.ref 0), some (.int (inm))], [.int (x_mx 0 (σ1 9 0 * σ1 9 1 * σ1 9 2 - σ1 26 6)), .int (inm), .ref 1], σ1)
      have h13 : σ1 1 13 = nI l := by rw [hfr 1 (by decide)]; exact hl
      have hll : l < 40 := by have := mt (fun z => nI_le (a := 40) (b := l) z (by omega)) (Int32.not_le.mpr (by rw [h13] at c34; exact c34)); omega
      rw [c_spd (atC_fr hfr rfl) hF]
      refine ev_callV M_X3_goneBy [.int (inm), .int (s_spend (atC σ) (s_went (s_flw (atC σ) (tkC σ) n (σ 1 1))))] [] 1 rfl rfl ln_X5_164 k_X3_goneBy rfl rfl rfl rfl rfl rfl (c_goneBy σ1 _ _ l h13 hll) ?_
      rintro r σ2 hg
      obtain rfl := hg.1
      show xEv _ _ _ 55 ([some (.ref 0), some (.int (inm))], [], σ2)
      refine ev_blk 2 [] 57 ([some (.ref 0), some (.int (inm))], [.int (inm), .ref 0], σ2) rfl ?_ ?_
      · trivial
      have hD2 : σ2 0 4 = nI D := by rw [hg.2.1.2.1 4 (by simp), hfr 0 (by decide)]; exact hD
      refine ev_callV M_X5_remember [.int (inm)] [] 0 rfl rfl ln_X5_168 k_X5_remember rfl rfl rfl rfl rfl rfl (c_remember _ D hD2 hD6 _) ?_
      rintro r σ' hq
      obtain rfl := hq.1
      show xEv _ _ _ 60 ([some (.ref 0), some (.int (inm))], [], σ')
      refine ev_blk 1 [] 61 ([some (.ref 0), some (.int (inm))], [.int (inm)], σ') rfl ?_ ?_
      · trivial
      refine ev_callS M_J6_bitCount_0f7a4 [.int (inm)] [] rfl rfl ln_X5_138 k_J6_bitCount_0f7a4 rfl rfl rfl (c_bitCount _ _) ?_
      refine pu_k ?_
      show xEv _ _ _ 64 ([some (.ref 0), some (.int (inm))], [.int (bcI inm)], σ')
      have hz := in_zero hb (fun x hx => by have := (s_flw_in x hx).1; have := hok.1; omega)
      exact ev_iret rfl rfl rfl ⟨inm, σ1, hb, scC_f hfr, Or.inr (Or.inr ⟨fun q => c19 (hz.mpr q), hll, rfl, σ2, hg, hq⟩)⟩
    · refine ev_blk 1 [] 39 ([some (.ref 0), some (.int (inm))], [.int ((-4 : Int32))], σ1) rfl ?_ ?_
      · trivial
      have hz := in_zero hb (fun x hx => by have := (s_flw_in x hx).1; have := hok.1; omega)
      have h13 : σ1 1 13 = nI l := by rw [hfr 1 (by decide)]; exact hl
      exact ev_iret rfl rfl rfl ⟨inm, σ1, hb, scC_f hfr, Or.inr (Or.inl ⟨fun q => c19 (hz.mpr q), by have := mt (fun z => nI_lt (a := l) (b := 40) z (by decide)) (by rw [h13] at c34; exact c34); omega, rfl, rfl⟩)⟩
  · refine ev_blk 1 [] 24 ([some (.ref 0), some (.int (inm))], [.int ((-3 : Int32))], σ1) rfl ?_ ?_
    · trivial
    have hz := in_zero hb (fun x hx => by have := (s_flw_in x hx).1; have := hok.1; omega)
    exact ev_iret rfl rfl rfl ⟨inm, σ1, hb, scC_f hfr, Or.inl ⟨hz.mp (Classical.byContradiction c19), rfl, rfl⟩⟩
