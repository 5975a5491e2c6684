abbrev shD : Type := Int32 × Nat × (Nat → Int32)
def shOk (d : shD) : Prop := (d.1 = -1 ∨ d.1 = 0 ∨ d.1 = 1) ∧ d.2.1 ≤ 40
def shC (σ : xSg) (D : Nat → shD) : Prop := ∀ i, i < 4 → shOk (D i) ∧ σ (49 + 2 * i) 0 = (D i).1 ∧ σ (49 + 2 * i) 1 = nI (D i).2.1 ∧ ∀ j, j < 40 → σ (50 + 2 * i) j = (D i).2.2 j
def shM (σ : xSg) (D : Nat → shD) : Prop := ∀ i, i < 4 → shOk (D i) ∧ σ 86 i = (D i).1 + 1 ∧ σ 87 i = nI (D i).2.1 ∧ ∀ j, j < 40 → σ 88 (40 * i + j) = (D i).2.2 j
def updD (D : Nat → shD) (i : Nat) (d : shD) : Nat → shD := fun k => if k = i then d else D k
def scS : List Nat := [49, 50, 51, 52, 53, 54, 55, 56]
def shPQ (S : List Nat) (σ : xSg) (X : Int32 × (Nat → shD)) : Option Value → xSg → Prop := fun r σ' => r = some (.int X.1) ∧ shC σ' X.2 ∧ xFr S σ σ'
theorem shC_put {σ σ' : xSg} {D : Nat → shD} {W : Nat} {d : shD} (h : shC σ D) (ho : shOk d) (hf : ∀ c, 49 ≤ c → c ≤ 56 → c ≠ 49 + 2 * W → c ≠ 50 + 2 * W → σ' c = σ c) (h0 : σ' (49 + 2 * W) 0 = d.1) (h1 : σ' (49 + 2 * W) 1 = nI d.2.1) (hi : ∀ j, j < 40 → σ' (50 + 2 * W) j = d.2.2 j) : shC σ' (updD D W d) := by
  intro i hi4
  unfold updD
  by_cases e : i = W
  · subst e
    simp only [if_true]
    exact ⟨ho, h0, h1, hi⟩
  · simp only [if_neg e]
    obtain ⟨a, b, c, d⟩ := h i hi4
    rw [hf (49 + 2 * i) (by omega) (by omega) (by omega) (by omega), hf (50 + 2 * i) (by omega) (by omega) (by omega) (by omega)]
    exact ⟨a, b, c, d⟩
def s_sheet (D : Nat → shD) (s so n : Int32) : Int32 × (Nat → shD) := if ¬ iN 4 s then (-2, D) else if ¬ (so = -1 ∨ so = 0 ∨ so = 1) then (-2, D) else if so = -1 then (1, updD D s.toNatClampNeg (-1, 0, fun _ => 0)) else if 40 < n then (-2, D) else if n < 0 then (-14, D) else (1, updD D s.toNatClampNeg (so, n.toNatClampNeg, fun _ => 0))
def s_put (D : Nat → shD) (s i v : Int32) : Int32 × (Nat → shD) := if ¬ iN 4 s then (-2, D) else if (D s.toNatClampNeg).1 = -1 then (-11, D) else if ¬ iN (D s.toNatClampNeg).2.1 i then (-12, D) else (1, updD D s.toNatClampNeg ((D s.toNatClampNeg).1, (D s.toNatClampNeg).2.1, upd (D s.toNatClampNeg).2.2 i.toNatClampNeg (sbv (D s.toNatClampNeg).1 v)))
theorem x_mxn {m : Nat} (h : m ≤ 40) : x_mx 0 (x_mn (nI m) 40) = nI m := by
  unfold x_mx x_mn
  rw [if_neg (show ¬ (40 : Int32) < nI m from nI_nlt (a := 40) (b := m) (by omega) (by omega))]
  by_cases h0 : (0 : Int32) < nI m
  · rw [if_pos h0]
  · rw [if_neg h0]
    rcases Nat.eq_zero_or_pos m with q | q
    · subst q; rfl
    · exact absurd (nI_lt (a := 0) (b := m) q (by omega)) h0
theorem n_40 {n : Int32} (h1 : ¬ n < 0) (h2 : ¬ 40 < n) : ∃ m, m ≤ 40 ∧ n = nI m := by
  obtain ⟨m, hm, rfl⟩ := nI_of h1
  exact ⟨m, by have := mt (fun z => nI_lt (a := 40) (b := m) z (by omega)) h2; omega, rfl⟩
set_option maxRecDepth 100000 in
theorem c_sheet (σ : xSg) (D : Nat → shD) (hD : shC σ D) (s so n : Int32) : xCtr M_X5_sheet [.ref 0, .int (s), .int (so), .int (n)] σ (shPQ scS σ (s_sheet D s so n)) := by
  refine ctr_ev ok_X5_sheet (by decide +kernel) rfl rfl rfl ?_
  show xEv (.inl 2) M_X5_sheet _ 0 ([some (.ref 0), some (.int (s)), some (.int (so)), some (.int (n))], [], σ)
  rcases pk_ix s (n := 4) (by decide) with hb | hb | ⟨W, hW, rfl⟩
  · have hbad : ¬ iN 4 s := fun q => q.1 hb
    refine ev_blk 1 [] 1 ([some (.ref 0), some (.int (s)), some (.int (so)), some (.int (n))], [.int (s)], σ) rfl ?_ ?_
    · trivial
    refine ev_callS M_X5_isSheet [.int (s)] [] rfl rfl ln_X5_229 k_X5_isSheet rfl rfl rfl (c_isSheet _ _) ?_
    refine pu_k ?_
    show xEv _ _ _ 4 ([some (.ref 0), some (.int (s)), some (.int (so)), some (.int (n))], [.int (zi (¬ s < 0 ∧ ¬ (4 : Int32) ≤ (s)))], σ)
    refine ev_br 0 [] ((zi (¬ s < 0 ∧ ¬ (4 : Int32) ≤ (s))) = 0) 19 7 ([some (.ref 0), some (.int (s)), some (.int (so)), some (.int (n))], [], σ) rfl ?_ (fun c4 => ?_) (fun c4 => ?_)
    · trivial
    · replace c4 := zi_0.mp c4
      refine ev_blk 1 [] 21 ([some (.ref 0), some (.int (s)), some (.int (so)), some (.int (n))], [.int ((-2 : Int32))], σ) rfl ?_ ?_
      · trivial
      have e : s_sheet D s so n = (-2, D) := by rw [s_sheet, if_pos hbad]
      rw [e]
      exact ev_iret rfl rfl rfl ⟨rfl, hD, xFr.rf⟩
    · exact absurd (zi_1.mp c4) hbad
  · have hbad : ¬ iN 4 s := fun q => q.2 hb
    refine ev_blk 1 [] 1 ([some (.ref 0), some (.int (s)), some (.int (so)), some (.int (n))], [.int (s)], σ) rfl ?_ ?_
    · trivial
    refine ev_callS M_X5_isSheet [.int (s)] [] rfl rfl ln_X5_229 k_X5_isSheet rfl rfl rfl (c_isSheet _ _) ?_
    refine pu_k ?_
    show xEv _ _ _ 4 ([some (.ref 0), some (.int (s)), some (.int (so)), some (.int (n))], [.int (zi (¬ s < 0 ∧ ¬ (4 : Int32) ≤ (s)))], σ)
    refine ev_br 0 [] ((zi (¬ s < 0 ∧ ¬ (4 : Int32) ≤ (s))) = 0) 19 7 ([some (.ref 0), some (.int (s)), some (.int (so)), some (.int (n))], [], σ) rfl ?_ (fun c4 => ?_) (fun c4 => ?_)
    · trivial
    · replace c4 := zi_0.mp c4
      refine ev_blk 1 [] 21 ([some (.ref 0), some (.int (s)), some (.int (so)), some (.int (n))], [.int ((-2 : Int32))], σ) rfl ?_ ?_
      · trivial
      have e : s_sheet D s so n = (-2, D) := by rw [s_sheet, if_pos hbad]
      rw [e]
      exact ev_iret rfl rfl rfl ⟨rfl, hD, xFr.rf⟩
    · exact absurd (zi_1.mp c4) hbad
  · rcases (show W = 0 ∨ W = 1 ∨ W = 2 ∨ W = 3 by omega) with rfl | rfl | rfl | rfl
    · have hg : iN 4 (nI 0) := iN_nI (by decide) (by decide)
      have hc : (nI 0).toNatClampNeg = 0 := rfl
      show xEv _ _ _ 0 ([some (.ref 0), some (.int ((0 : Int32))), some (.int (so)), some (.int (n))], [], σ)
      refine ev_blk 1 [] 1 ([some (.ref 0), some (.int ((0 : Int32))), some (.int (so)), some (.int (n))], [.int ((0 : Int32))], σ) rfl ?_ ?_
      · trivial
      refine ev_callS M_X5_isSheet [.int ((0 : Int32))] [] rfl rfl ln_X5_229 k_X5_isSheet rfl rfl rfl (c_isSheet _ _) ?_
      refine pu_k ?_
      rw [zi_t (show ¬ ((0 : Int32)) < 0 ∧ ¬ (4 : Int32) ≤ ((0 : Int32)) by decide)]
      show xEv _ _ _ 4 ([some (.ref 0), some (.int ((0 : Int32))), some (.int (so)), some (.int (n))], [.int ((1 : Int32))], σ)
      refine ev_br 0 [] ((1 : Int32) = 0) 19 7 ([some (.ref 0), some (.int ((0 : Int32))), some (.int (so)), some (.int (n))], [], σ) rfl ?_ (fun c4 => ?_) (fun c4 => ?_)
      · trivial
      · exact absurd c4 (by decide)
      · refine ev_br 2 [] (so = (-1 : Int32)) 22 12 ([some (.ref 0), some (.int ((0 : Int32))), some (.int (so)), some (.int (n))], [], σ) rfl ?_ (fun c9 => ?_) (fun c9 => ?_)
        · trivial
        · refine ev_br 2 [] (¬ so = (-1 : Int32)) 40 27 ([some (.ref 0), some (.int ((0 : Int32))), some (.int (so)), some (.int (n))], [], σ) rfl ?_ (fun c24 => ?_) (fun c24 => ?_)
          · trivial
          · refine ev_br 2 [] (n ≤ (40 : Int32)) 49 46 ([some (.ref 0), some (.int ((0 : Int32))), some (.int (so)), some (.int (n))], [], σ) rfl ?_ (fun c43 => ?_) (fun c43 => ?_)
            · trivial
            · refine ev_br 1 [] (0 ≤ n) 56 53 ([some (.ref 0), some (.int ((0 : Int32))), some (.int (so)), some (.int (n))], [], σ) rfl ?_ (fun c50 => ?_) (fun c50 => ?_)
              · trivial
              · refine ev_blk 6 [vp_in ((0 : Int32)) 4] 64 ([some (.ref 0), some (.int ((0 : Int32))), some (.int (so)), some (.int (n))], [.int (n), .int (so), .ref 49], σ) rfl ?_ ?_
                · exact (vp_in_nI (n := 0) (by decide) (by decide))
                refine ev_callV M_X4_become [.int (so), .int (n)] [] 49 rfl rfl ln_X5_245 k_X4_become rfl rfl rfl rfl rfl rfl (c_shBecome0 _ _ _) ?_
                rintro r σ' ⟨rfl, hq1, hq2, hq3⟩
                show xEv _ _ _ 67 ([some (.ref 0), some (.int ((0 : Int32))), some (.int (so)), some (.int (n))], [], σ')
                refine ev_blk 1 [] 68 ([some (.ref 0), some (.int ((0 : Int32))), some (.int (so)), some (.int (n))], [.int ((1 : Int32))], σ') rfl ?_ ?_
                · trivial
                obtain ⟨m, hm, rfl⟩ := n_40 (Int32.not_lt.mpr c50) (Int32.not_lt.mpr c43)
                have e : s_sheet D (nI 0) so (nI m) = (1, updD D 0 (so, (nI m).toNatClampNeg, fun _ => 0)) := by rw [s_sheet, if_neg (fun q => q hg), if_neg (fun q => q (Or.inl c9)), if_neg c24, if_neg (Int32.not_lt.mpr c43), if_neg (Int32.not_lt.mpr c50), hc]
                rw [e]
                exact ev_iret rfl rfl rfl ⟨rfl, shC_put (W := 0) hD ⟨Or.inl c9, by show (nI m).toNatClampNeg ≤ 40; rw [nI_clamp (by omega)]; exact hm⟩ (fun c _ _ a b => hq1 c a b) (by rw [hq2]; rfl) (by rw [hq2]; show x_mx 0 (x_mn (nI m) 40) = _; rw [x_mxn hm]; show _ = nI (nI m).toNatClampNeg; rw [nI_clamp (by omega)]) hq3, fun c hc => hq1 c (fun z => hc (by rw [z]; decide)) (fun z => hc (by rw [z]; decide))⟩
              · refine ev_blk 1 [] 55 ([some (.ref 0), some (.int ((0 : Int32))), some (.int (so)), some (.int (n))], [.int ((-14 : Int32))], σ) rfl ?_ ?_
                · trivial
                have e : s_sheet D (nI 0) so n = (-14, D) := by rw [s_sheet, if_neg (fun q => q hg), if_neg (fun q => q (Or.inl c9)), if_neg c24, if_neg (Int32.not_lt.mpr c43), if_pos (Int32.not_le.mp c50)]
                rw [e]
                exact ev_iret rfl rfl rfl ⟨rfl, hD, xFr.rf⟩
            · refine ev_blk 1 [] 48 ([some (.ref 0), some (.int ((0 : Int32))), some (.int (so)), some (.int (n))], [.int ((-2 : Int32))], σ) rfl ?_ ?_
              · trivial
              have e : s_sheet D (nI 0) so n = (-2, D) := by rw [s_sheet, if_neg (fun q => q hg), if_neg (fun q => q (Or.inl c9)), if_neg c24, if_pos (Int32.not_le.mp c43)]
              rw [e]
              exact ev_iret rfl rfl rfl ⟨rfl, hD, xFr.rf⟩
          · refine ev_blk 6 [vp_in ((0 : Int32)) 4] 35 ([some (.ref 0), some (.int ((0 : Int32))), some (.int (so)), some (.int (n))], [.int ((0 : Int32)), .int ((-1 : Int32)), .ref 49], σ) rfl ?_ ?_
            · exact (vp_in_nI (n := 0) (by decide) (by decide))
            refine ev_callV M_X4_become [.int ((-1 : Int32)), .int ((0 : Int32))] [] 49 rfl rfl ln_X5_245 k_X4_become rfl rfl rfl rfl rfl rfl (c_shBecome0 _ _ _) ?_
            rintro r σ' ⟨rfl, hq1, hq2, hq3⟩
            show xEv _ _ _ 38 ([some (.ref 0), some (.int ((0 : Int32))), some (.int (so)), some (.int (n))], [], σ')
            refine ev_blk 1 [] 39 ([some (.ref 0), some (.int ((0 : Int32))), some (.int (so)), some (.int (n))], [.int ((1 : Int32))], σ') rfl ?_ ?_
            · trivial
            have c24 := Classical.byContradiction c24
            have e : s_sheet D (nI 0) so n = (1, updD D 0 (-1, 0, fun _ => 0)) := by rw [s_sheet, if_neg (fun q => q hg), if_neg (fun q => q (Or.inl c9)), if_pos c24, hc]
            rw [e]
            exact ev_iret rfl rfl rfl ⟨rfl, shC_put (W := 0) hD ⟨Or.inl rfl, by decide⟩ (fun c _ _ a b => hq1 c a b) (by rw [hq2]; rfl) (by rw [hq2]; rfl) hq3, fun c hc => hq1 c (fun z => hc (by rw [z]; decide)) (fun z => hc (by rw [z]; decide))⟩
        · refine ev_blk 1 [] 13 ([some (.ref 0), some (.int ((0 : Int32))), some (.int (so)), some (.int (n))], [.int (so)], σ) rfl ?_ ?_
          · trivial
          refine ev_callS M_X5_isSort [.int (so)] [] rfl rfl ln_X5_257 k_X5_isSort rfl rfl rfl (c_isSort _ _) ?_
          refine pu_k ?_
          show xEv _ _ _ 16 ([some (.ref 0), some (.int ((0 : Int32))), some (.int (so)), some (.int (n))], [.int (zi (so = 0 ∨ so = 1))], σ)
          refine ev_br 0 [] (¬ (zi (so = 0 ∨ so = 1)) = 0) 22 19 ([some (.ref 0), some (.int ((0 : Int32))), some (.int (so)), some (.int (n))], [], σ) rfl ?_ (fun c16 => ?_) (fun c16 => ?_)
          · trivial
          · replace c16 := zi_1.mp c16
            refine ev_br 2 [] (¬ so = (-1 : Int32)) 40 27 ([some (.ref 0), some (.int ((0 : Int32))), some (.int (so)), some (.int (n))], [], σ) rfl ?_ (fun c24 => ?_) (fun c24 => ?_)
            · trivial
            · refine ev_br 2 [] (n ≤ (40 : Int32)) 49 46 ([some (.ref 0), some (.int ((0 : Int32))), some (.int (so)), some (.int (n))], [], σ) rfl ?_ (fun c43 => ?_) (fun c43 => ?_)
              · trivial
              · refine ev_br 1 [] (0 ≤ n) 56 53 ([some (.ref 0), some (.int ((0 : Int32))), some (.int (so)), some (.int (n))], [], σ) rfl ?_ (fun c50 => ?_) (fun c50 => ?_)
                · trivial
                · refine ev_blk 6 [vp_in ((0 : Int32)) 4] 64 ([some (.ref 0), some (.int ((0 : Int32))), some (.int (so)), some (.int (n))], [.int (n), .int (so), .ref 49], σ) rfl ?_ ?_
                  · exact (vp_in_nI (n := 0) (by decide) (by decide))
                  refine ev_callV M_X4_become [.int (so), .int (n)] [] 49 rfl rfl ln_X5_245 k_X4_become rfl rfl rfl rfl rfl rfl (c_shBecome0 _ _ _) ?_
                  rintro r σ' ⟨rfl, hq1, hq2, hq3⟩
                  show xEv _ _ _ 67 ([some (.ref 0), some (.int ((0 : Int32))), some (.int (so)), some (.int (n))], [], σ')
                  refine ev_blk 1 [] 68 ([some (.ref 0), some (.int ((0 : Int32))), some (.int (so)), some (.int (n))], [.int ((1 : Int32))], σ') rfl ?_ ?_
                  · trivial
                  obtain ⟨m, hm, rfl⟩ := n_40 (Int32.not_lt.mpr c50) (Int32.not_lt.mpr c43)
                  have e : s_sheet D (nI 0) so (nI m) = (1, updD D 0 (so, (nI m).toNatClampNeg, fun _ => 0)) := by rw [s_sheet, if_neg (fun q => q hg), if_neg (fun q => q (Or.inr c16)), if_neg c24, if_neg (Int32.not_lt.mpr c43), if_neg (Int32.not_lt.mpr c50), hc]
                  rw [e]
                  exact ev_iret rfl rfl rfl ⟨rfl, shC_put (W := 0) hD ⟨Or.inr c16, by show (nI m).toNatClampNeg ≤ 40; rw [nI_clamp (by omega)]; exact hm⟩ (fun c _ _ a b => hq1 c a b) (by rw [hq2]; rfl) (by rw [hq2]; show x_mx 0 (x_mn (nI m) 40) = _; rw [x_mxn hm]; show _ = nI (nI m).toNatClampNeg; rw [nI_clamp (by omega)]) hq3, fun c hc => hq1 c (fun z => hc (by rw [z]; decide)) (fun z => hc (by rw [z]; decide))⟩
                · refine ev_blk 1 [] 55 ([some (.ref 0), some (.int ((0 : Int32))), some (.int (so)), some (.int (n))], [.int ((-14 : Int32))], σ) rfl ?_ ?_
                  · trivial
                  have e : s_sheet D (nI 0) so n = (-14, D) := by rw [s_sheet, if_neg (fun q => q hg), if_neg (fun q => q (Or.inr c16)), if_neg c24, if_neg (Int32.not_lt.mpr c43), if_pos (Int32.not_le.mp c50)]
                  rw [e]
                  exact ev_iret rfl rfl rfl ⟨rfl, hD, xFr.rf⟩
              · refine ev_blk 1 [] 48 ([some (.ref 0), some (.int ((0 : Int32))), some (.int (so)), some (.int (n))], [.int ((-2 : Int32))], σ) rfl ?_ ?_
                · trivial
                have e : s_sheet D (nI 0) so n = (-2, D) := by rw [s_sheet, if_neg (fun q => q hg), if_neg (fun q => q (Or.inr c16)), if_neg c24, if_pos (Int32.not_le.mp c43)]
                rw [e]
                exact ev_iret rfl rfl rfl ⟨rfl, hD, xFr.rf⟩
            · refine ev_blk 6 [vp_in ((0 : Int32)) 4] 35 ([some (.ref 0), some (.int ((0 : Int32))), some (.int (so)), some (.int (n))], [.int ((0 : Int32)), .int ((-1 : Int32)), .ref 49], σ) rfl ?_ ?_
              · exact (vp_in_nI (n := 0) (by decide) (by decide))
              refine ev_callV M_X4_become [.int ((-1 : Int32)), .int ((0 : Int32))] [] 49 rfl rfl ln_X5_245 k_X4_become rfl rfl rfl rfl rfl rfl (c_shBecome0 _ _ _) ?_
              rintro r σ' ⟨rfl, hq1, hq2, hq3⟩
              show xEv _ _ _ 38 ([some (.ref 0), some (.int ((0 : Int32))), some (.int (so)), some (.int (n))], [], σ')
              refine ev_blk 1 [] 39 ([some (.ref 0), some (.int ((0 : Int32))), some (.int (so)), some (.int (n))], [.int ((1 : Int32))], σ') rfl ?_ ?_
              · trivial
              have c24 := Classical.byContradiction c24
              have e : s_sheet D (nI 0) so n = (1, updD D 0 (-1, 0, fun _ => 0)) := by rw [s_sheet, if_neg (fun q => q hg), if_neg (fun q => q (Or.inr c16)), if_pos c24, hc]
              rw [e]
              exact ev_iret rfl rfl rfl ⟨rfl, shC_put (W := 0) hD ⟨Or.inl rfl, by decide⟩ (fun c _ _ a b => hq1 c a b) (by rw [hq2]; rfl) (by rw [hq2]; rfl) hq3, fun c hc => hq1 c (fun z => hc (by rw [z]; decide)) (fun z => hc (by rw [z]; decide))⟩
          · replace c16 := zi_n.mp c16
            refine ev_blk 1 [] 21 ([some (.ref 0), some (.int ((0 : Int32))), some (.int (so)), some (.int (n))], [.int ((-2 : Int32))], σ) rfl ?_ ?_
            · trivial
            have e : s_sheet D (nI 0) so n = (-2, D) := by rw [s_sheet, if_neg (fun q => q hg), if_pos (by rintro (q | q | q); exact c9 q; exact c16 (Or.inl q); exact c16 (Or.inr q))]
            rw [e]
            exact ev_iret rfl rfl rfl ⟨rfl, hD, xFr.rf⟩
    · have hg : iN 4 (nI 1) := iN_nI (by decide) (by decide)
      have hc : (nI 1).toNatClampNeg = 1 := rfl
      show xEv _ _ _ 0 ([some (.ref 0), some (.int ((1 : Int32))), some (.int (so)), some (.int (n))], [], σ)
      refine ev_blk 1 [] 1 ([some (.ref 0), some (.int ((1 : Int32))), some (.int (so)), some (.int (n))], [.int ((1 : Int32))], σ) rfl ?_ ?_
      · trivial
      refine ev_callS M_X5_isSheet [.int ((1 : Int32))] [] rfl rfl ln_X5_229 k_X5_isSheet rfl rfl rfl (c_isSheet _ _) ?_
      refine pu_k ?_
      rw [zi_t (show ¬ ((1 : Int32)) < 0 ∧ ¬ (4 : Int32) ≤ ((1 : Int32)) by decide)]
      show xEv _ _ _ 4 ([some (.ref 0), some (.int ((1 : Int32))), some (.int (so)), some (.int (n))], [.int ((1 : Int32))], σ)
      refine ev_br 0 [] ((1 : Int32) = 0) 19 7 ([some (.ref 0), some (.int ((1 : Int32))), some (.int (so)), some (.int (n))], [], σ) rfl ?_ (fun c4 => ?_) (fun c4 => ?_)
      · trivial
      · exact absurd c4 (by decide)
      · refine ev_br 2 [] (so = (-1 : Int32)) 22 12 ([some (.ref 0), some (.int ((1 : Int32))), some (.int (so)), some (.int (n))], [], σ) rfl ?_ (fun c9 => ?_) (fun c9 => ?_)
        · trivial
        · refine ev_br 2 [] (¬ so = (-1 : Int32)) 40 27 ([some (.ref 0), some (.int ((1 : Int32))), some (.int (so)), some (.int (n))], [], σ) rfl ?_ (fun c24 => ?_) (fun c24 => ?_)
          · trivial
          · refine ev_br 2 [] (n ≤ (40 : Int32)) 49 46 ([some (.ref 0), some (.int ((1 : Int32))), some (.int (so)), some (.int (n))], [], σ) rfl ?_ (fun c43 => ?_) (fun c43 => ?_)
            · trivial
            · refine ev_br 1 [] (0 ≤ n) 56 53 ([some (.ref 0), some (.int ((1 : Int32))), some (.int (so)), some (.int (n))], [], σ) rfl ?_ (fun c50 => ?_) (fun c50 => ?_)
              · trivial
              · refine ev_blk 6 [vp_in ((1 : Int32)) 4] 64 ([some (.ref 0), some (.int ((1 : Int32))), some (.int (so)), some (.int (n))], [.int (n), .int (so), .ref 51], σ) rfl ?_ ?_
                · exact (vp_in_nI (n := 1) (by decide) (by decide))
                refine ev_callV M_X4_become [.int (so), .int (n)] [] 51 rfl rfl ln_X5_245 k_X4_become rfl rfl rfl rfl rfl rfl (c_shBecome1 _ _ _) ?_
                rintro r σ' ⟨rfl, hq1, hq2, hq3⟩
                show xEv _ _ _ 67 ([some (.ref 0), some (.int ((1 : Int32))), some (.int (so)), some (.int (n))], [], σ')
                refine ev_blk 1 [] 68 ([some (.ref 0), some (.int ((1 : Int32))), some (.int (so)), some (.int (n))], [.int ((1 : Int32))], σ') rfl ?_ ?_
                · trivial
                obtain ⟨m, hm, rfl⟩ := n_40 (Int32.not_lt.mpr c50) (Int32.not_lt.mpr c43)
                have e : s_sheet D (nI 1) so (nI m) = (1, updD D 1 (so, (nI m).toNatClampNeg, fun _ => 0)) := by rw [s_sheet, if_neg (fun q => q hg), if_neg (fun q => q (Or.inl c9)), if_neg c24, if_neg (Int32.not_lt.mpr c43), if_neg (Int32.not_lt.mpr c50), hc]
                rw [e]
                exact ev_iret rfl rfl rfl ⟨rfl, shC_put (W := 1) hD ⟨Or.inl c9, by show (nI m).toNatClampNeg ≤ 40; rw [nI_clamp (by omega)]; exact hm⟩ (fun c _ _ a b => hq1 c a b) (by rw [hq2]; rfl) (by rw [hq2]; show x_mx 0 (x_mn (nI m) 40) = _; rw [x_mxn hm]; show _ = nI (nI m).toNatClampNeg; rw [nI_clamp (by omega)]) hq3, fun c hc => hq1 c (fun z => hc (by rw [z]; decide)) (fun z => hc (by rw [z]; decide))⟩
              · refine ev_blk 1 [] 55 ([some (.ref 0), some (.int ((1 : Int32))), some (.int (so)), some (.int (n))], [.int ((-14 : Int32))], σ) rfl ?_ ?_
                · trivial
                have e : s_sheet D (nI 1) so n = (-14, D) := by rw [s_sheet, if_neg (fun q => q hg), if_neg (fun q => q (Or.inl c9)), if_neg c24, if_neg (Int32.not_lt.mpr c43), if_pos (Int32.not_le.mp c50)]
                rw [e]
                exact ev_iret rfl rfl rfl ⟨rfl, hD, xFr.rf⟩
            · refine ev_blk 1 [] 48 ([some (.ref 0), some (.int ((1 : Int32))), some (.int (so)), some (.int (n))], [.int ((-2 : Int32))], σ) rfl ?_ ?_
              · trivial
              have e : s_sheet D (nI 1) so n = (-2, D) := by rw [s_sheet, if_neg (fun q => q hg), if_neg (fun q => q (Or.inl c9)), if_neg c24, if_pos (Int32.not_le.mp c43)]
              rw [e]
              exact ev_iret rfl rfl rfl ⟨rfl, hD, xFr.rf⟩
          · refine ev_blk 6 [vp_in ((1 : Int32)) 4] 35 ([some (.ref 0), some (.int ((1 : Int32))), some (.int (so)), some (.int (n))], [.int ((0 : Int32)), .int ((-1 : Int32)), .ref 51], σ) rfl ?_ ?_
            · exact (vp_in_nI (n := 1) (by decide) (by decide))
            refine ev_callV M_X4_become [.int ((-1 : Int32)), .int ((0 : Int32))] [] 51 rfl rfl ln_X5_245 k_X4_become rfl rfl rfl rfl rfl rfl (c_shBecome1 _ _ _) ?_
            rintro r σ' ⟨rfl, hq1, hq2, hq3⟩
            show xEv _ _ _ 38 ([some (.ref 0), some (.int ((1 : Int32))), some (.int (so)), some (.int (n))], [], σ')
            refine ev_blk 1 [] 39 ([some (.ref 0), some (.int ((1 : Int32))), some (.int (so)), some (.int (n))], [.int ((1 : Int32))], σ') rfl ?_ ?_
            · trivial
            have c24 := Classical.byContradiction c24
            have e : s_sheet D (nI 1) so n = (1, updD D 1 (-1, 0, fun _ => 0)) := by rw [s_sheet, if_neg (fun q => q hg), if_neg (fun q => q (Or.inl c9)), if_pos c24, hc]
            rw [e]
            exact ev_iret rfl rfl rfl ⟨rfl, shC_put (W := 1) hD ⟨Or.inl rfl, by decide⟩ (fun c _ _ a b => hq1 c a b) (by rw [hq2]; rfl) (by rw [hq2]; rfl) hq3, fun c hc => hq1 c (fun z => hc (by rw [z]; decide)) (fun z => hc (by rw [z]; decide))⟩
        · refine ev_blk 1 [] 13 ([some (.ref 0), some (.int ((1 : Int32))), some (.int (so)), some (.int (n))], [.int (so)], σ) rfl ?_ ?_
          · trivial
          refine ev_callS M_X5_isSort [.int (so)] [] rfl rfl ln_X5_257 k_X5_isSort rfl rfl rfl (c_isSort _ _) ?_
          refine pu_k ?_
          show xEv _ _ _ 16 ([some (.ref 0), some (.int ((1 : Int32))), some (.int (so)), some (.int (n))], [.int (zi (so = 0 ∨ so = 1))], σ)
          refine ev_br 0 [] (¬ (zi (so = 0 ∨ so = 1)) = 0) 22 19 ([some (.ref 0), some (.int ((1 : Int32))), some (.int (so)), some (.int (n))], [], σ) rfl ?_ (fun c16 => ?_) (fun c16 => ?_)
          · trivial
          · replace c16 := zi_1.mp c16
            refine ev_br 2 [] (¬ so = (-1 : Int32)) 40 27 ([some (.ref 0), some (.int ((1 : Int32))), some (.int (so)), some (.int (n))], [], σ) rfl ?_ (fun c24 => ?_) (fun c24 => ?_)
            · trivial
            · refine ev_br 2 [] (n ≤ (40 : Int32)) 49 46 ([some (.ref 0), some (.int ((1 : Int32))), some (.int (so)), some (.int (n))], [], σ) rfl ?_ (fun c43 => ?_) (fun c43 => ?_)
              · trivial
              · refine ev_br 1 [] (0 ≤ n) 56 53 ([some (.ref 0), some (.int ((1 : Int32))), some (.int (so)), some (.int (n))], [], σ) rfl ?_ (fun c50 => ?_) (fun c50 => ?_)
                · trivial
                · refine ev_blk 6 [vp_in ((1 : Int32)) 4] 64 ([some (.ref 0), some (.int ((1 : Int32))), some (.int (so)), some (.int (n))], [.int (n), .int (so), .ref 51], σ) rfl ?_ ?_
                  · exact (vp_in_nI (n := 1) (by decide) (by decide))
                  refine ev_callV M_X4_become [.int (so), .int (n)] [] 51 rfl rfl ln_X5_245 k_X4_become rfl rfl rfl rfl rfl rfl (c_shBecome1 _ _ _) ?_
                  rintro r σ' ⟨rfl, hq1, hq2, hq3⟩
                  show xEv _ _ _ 67 ([some (.ref 0), some (.int ((1 : Int32))), some (.int (so)), some (.int (n))], [], σ')
                  refine ev_blk 1 [] 68 ([some (.ref 0), some (.int ((1 : Int32))), some (.int (so)), some (.int (n))], [.int ((1 : Int32))], σ') rfl ?_ ?_
                  · trivial
                  obtain ⟨m, hm, rfl⟩ := n_40 (Int32.not_lt.mpr c50) (Int32.not_lt.mpr c43)
                  have e : s_sheet D (nI 1) so (nI m) = (1, updD D 1 (so, (nI m).toNatClampNeg, fun _ => 0)) := by rw [s_sheet, if_neg (fun q => q hg), if_neg (fun q => q (Or.inr c16)), if_neg c24, if_neg (Int32.not_lt.mpr c43), if_neg (Int32.not_lt.mpr c50), hc]
                  rw [e]
                  exact ev_iret rfl rfl rfl ⟨rfl, shC_put (W := 1) hD ⟨Or.inr c16, by show (nI m).toNatClampNeg ≤ 40; rw [nI_clamp (by omega)]; exact hm⟩ (fun c _ _ a b => hq1 c a b) (by rw [hq2]; rfl) (by rw [hq2]; show x_mx 0 (x_mn (nI m) 40) = _; rw [x_mxn hm]; show _ = nI (nI m).toNatClampNeg; rw [nI_clamp (by omega)]) hq3, fun c hc => hq1 c (fun z => hc (by rw [z]; decide)) (fun z => hc (by rw [z]; decide))⟩
                · refine ev_blk 1 [] 55 ([some (.ref 0), some (.int ((1 : Int32))), some (.int (so)), some (.int (n))], [.int ((-14 : Int32))], σ) rfl ?_ ?_
                  · trivial
                  have e : s_sheet D (nI 1) so n = (-14, D) := by rw [s_sheet, if_neg (fun q => q hg), if_neg (fun q => q (Or.inr c16)), if_neg c24, if_neg (Int32.not_lt.mpr c43), if_pos (Int32.not_le.mp c50)]
                  rw [e]
                  exact ev_iret rfl rfl rfl ⟨rfl, hD, xFr.rf⟩
              · refine ev_blk 1 [] 48 ([some (.ref 0), some (.int ((1 : Int32))), some (.int (so)), some (.int (n))], [.int ((-2 : Int32))], σ) rfl ?_ ?_
                · trivial
                have e : s_sheet D (nI 1) so n = (-2, D) := by rw [s_sheet, if_neg (fun q => q hg), if_neg (fun q => q (Or.inr c16)), if_neg c24, if_pos (Int32.not_le.mp c43)]
                rw [e]
                exact ev_iret rfl rfl rfl ⟨rfl, hD, xFr.rf⟩
            · refine ev_blk 6 [vp_in ((1 : Int32)) 4] 35 ([some (.ref 0), some (.int ((1 : Int32))), some (.int (so)), some (.int (n))], [.int ((0 : Int32)), .int ((-1 : Int32)), .ref 51], σ) rfl ?_ ?_
              · exact (vp_in_nI (n := 1) (by decide) (by decide))
              refine ev_callV M_X4_become [.int ((-1 : Int32)), .int ((0 : Int32))] [] 51 rfl rfl ln_X5_245 k_X4_become rfl rfl rfl rfl rfl rfl (c_shBecome1 _ _ _) ?_
              rintro r σ' ⟨rfl, hq1, hq2, hq3⟩
              show xEv _ _ _ 38 ([some (.ref 0), some (.int ((1 : Int32))), some (.int (so)), some (.int (n))], [], σ')
              refine ev_blk 1 [] 39 ([some (.ref 0), some (.int ((1 : Int32))), some (.int (so)), some (.int (n))], [.int ((1 : Int32))], σ') rfl ?_ ?_
              · trivial
              have c24 := Classical.byContradiction c24
              have e : s_sheet D (nI 1) so n = (1, updD D 1 (-1, 0, fun _ => 0)) := by rw [s_sheet, if_neg (fun q => q hg), if_neg (fun q => q (Or.inr c16)), if_pos c24, hc]
              rw [e]
              exact ev_iret rfl rfl rfl ⟨rfl, shC_put (W := 1) hD ⟨Or.inl rfl, by decide⟩ (fun c _ _ a b => hq1 c a b) (by rw [hq2]; rfl) (by rw [hq2]; rfl) hq3, fun c hc => hq1 c (fun z => hc (by rw [z]; decide)) (fun z => hc (by rw [z]; decide))⟩
          · replace c16 := zi_n.mp c16
            refine ev_blk 1 [] 21 ([some (.ref 0), some (.int ((1 : Int32))), some (.int (so)), some (.int (n))], [.int ((-2 : Int32))], σ) rfl ?_ ?_
            · trivial
            have e : s_sheet D (nI 1) so n = (-2, D) := by rw [s_sheet, if_neg (fun q => q hg), if_pos (by rintro (q | q | q); exact c9 q; exact c16 (Or.inl q); exact c16 (Or.inr q))]
            rw [e]
            exact ev_iret rfl rfl rfl ⟨rfl, hD, xFr.rf⟩
    · have hg : iN 4 (nI 2) := iN_nI (by decide) (by decide)
      have hc : (nI 2).toNatClampNeg = 2 := rfl
      show xEv _ _ _ 0 ([some (.ref 0), some (.int ((2 : Int32))), some (.int (so)), some (.int (n))], [], σ)
      refine ev_blk 1 [] 1 ([some (.ref 0), some (.int ((2 : Int32))), some (.int (so)), some (.int (n))], [.int ((2 : Int32))], σ) rfl ?_ ?_
      · trivial
      refine ev_callS M_X5_isSheet [.int ((2 : Int32))] [] rfl rfl ln_X5_229 k_X5_isSheet rfl rfl rfl (c_isSheet _ _) ?_
      refine pu_k ?_
      rw [zi_t (show ¬ ((2 : Int32)) < 0 ∧ ¬ (4 : Int32) ≤ ((2 : Int32)) by decide)]
      show xEv _ _ _ 4 ([some (.ref 0), some (.int ((2 : Int32))), some (.int (so)), some (.int (n))], [.int ((1 : Int32))], σ)
      refine ev_br 0 [] ((1 : Int32) = 0) 19 7 ([some (.ref 0), some (.int ((2 : Int32))), some (.int (so)), some (.int (n))], [], σ) rfl ?_ (fun c4 => ?_) (fun c4 => ?_)
      · trivial
      · exact absurd c4 (by decide)
      · refine ev_br 2 [] (so = (-1 : Int32)) 22 12 ([some (.ref 0), some (.int ((2 : Int32))), some (.int (so)), some (.int (n))], [], σ) rfl ?_ (fun c9 => ?_) (fun c9 => ?_)
        · trivial
        · refine ev_br 2 [] (¬ so = (-1 : Int32)) 40 27 ([some (.ref 0), some (.int ((2 : Int32))), some (.int (so)), some (.int (n))], [], σ) rfl ?_ (fun c24 => ?_) (fun c24 => ?_)
          · trivial
          · refine ev_br 2 [] (n ≤ (40 : Int32)) 49 46 ([some (.ref 0), some (.int ((2 : Int32))), some (.int (so)), some (.int (n))], [], σ) rfl ?_ (fun c43 => ?_) (fun c43 => ?_)
            · trivial
            · refine ev_br 1 [] (0 ≤ n) 56 53 ([some (.ref 0), some (.int ((2 : Int32))), some (.int (so)), some (.int (n))], [], σ) rfl ?_ (fun c50 => ?_) (fun c50 => ?_)
              · trivial
              · refine ev_blk 6 [vp_in ((2 : Int32)) 4] 64 ([some (.ref 0), some (.int ((2 : Int32))), some (.int (so)), some (.int (n))], [.int (n), .int (so), .ref 53], σ) rfl ?_ ?_
                · exact (vp_in_nI (n := 2) (by decide) (by decide))
                refine ev_callV M_X4_become [.int (so), .int (n)] [] 53 rfl rfl ln_X5_245 k_X4_become rfl rfl rfl rfl rfl rfl (c_shBecome2 _ _ _) ?_
                rintro r σ' ⟨rfl, hq1, hq2, hq3⟩
                show xEv _ _ _ 67 ([some (.ref 0), some (.int ((2 : Int32))), some (.int (so)), some (.int (n))], [], σ')
                refine ev_blk 1 [] 68 ([some (.ref 0), some (.int ((2 : Int32))), some (.int (so)), some (.int (n))], [.int ((1 : Int32))], σ') rfl ?_ ?_
                · trivial
                obtain ⟨m, hm, rfl⟩ := n_40 (Int32.not_lt.mpr c50) (Int32.not_lt.mpr c43)
                have e : s_sheet D (nI 2) so (nI m) = (1, updD D 2 (so, (nI m).toNatClampNeg, fun _ => 0)) := by rw [s_sheet, if_neg (fun q => q hg), if_neg (fun q => q (Or.inl c9)), if_neg c24, if_neg (Int32.not_lt.mpr c43), if_neg (Int32.not_lt.mpr c50), hc]
                rw [e]
                exact ev_iret rfl rfl rfl ⟨rfl, shC_put (W := 2) hD ⟨Or.inl c9, by show (nI m).toNatClampNeg ≤ 40; rw [nI_clamp (by omega)]; exact hm⟩ (fun c _ _ a b => hq1 c a b) (by rw [hq2]; rfl) (by rw [hq2]; show x_mx 0 (x_mn (nI m) 40) = _; rw [x_mxn hm]; show _ = nI (nI m).toNatClampNeg; rw [nI_clamp (by omega)]) hq3, fun c hc => hq1 c (fun z => hc (by rw [z]; decide)) (fun z => hc (by rw [z]; decide))⟩
              · refine ev_blk 1 [] 55 ([some (.ref 0), some (.int ((2 : Int32))), some (.int (so)), some (.int (n))], [.int ((-14 : Int32))], σ) rfl ?_ ?_
                · trivial
                have e : s_sheet D (nI 2) so n = (-14, D) := by rw [s_sheet, if_neg (fun q => q hg), if_neg (fun q => q (Or.inl c9)), if_neg c24, if_neg (Int32.not_lt.mpr c43), if_pos (Int32.not_le.mp c50)]
                rw [e]
                exact ev_iret rfl rfl rfl ⟨rfl, hD, xFr.rf⟩
            · refine ev_blk 1 [] 48 ([some (.ref 0), some (.int ((2 : Int32))), some (.int (so)), some (.int (n))], [.int ((-2 : Int32))], σ) rfl ?_ ?_
              · trivial
              have e : s_sheet D (nI 2) so n = (-2, D) := by rw [s_sheet, if_neg (fun q => q hg), if_neg (fun q => q (Or.inl c9)), if_neg c24, if_pos (Int32.not_le.mp c43)]
              rw [e]
              exact ev_iret rfl rfl rfl ⟨rfl, hD, xFr.rf⟩
          · refine ev_blk 6 [vp_in ((2 : Int32)) 4] 35 ([some (.ref 0), some (.int ((2 : Int32))), some (.int (so)), some (.int (n))], [.int ((0 : Int32)), .int ((-1 : Int32)), .ref 53], σ) rfl ?_ ?_
            · exact (vp_in_nI (n := 2) (by decide) (by decide))
            refine ev_callV M_X4_become [.int ((-1 : Int32)), .int ((0 : Int32))] [] 53 rfl rfl ln_X5_245 k_X4_become rfl rfl rfl rfl rfl rfl (c_shBecome2 _ _ _) ?_
            rintro r σ' ⟨rfl, hq1, hq2, hq3⟩
            show xEv _ _ _ 38 ([some (.ref 0), some (.int ((2 : Int32))), some (.int (so)), some (.int (n))], [], σ')
            refine ev_blk 1 [] 39 ([some (.ref 0), some (.int ((2 : Int32))), some (.int (so)), some (.int (n))], [.int ((1 : Int32))], σ') rfl ?_ ?_
            · trivial
            have c24 := Classical.byContradiction c24
            have e : s_sheet D (nI 2) so n = (1, updD D 2 (-1, 0, fun _ => 0)) := by rw [s_sheet, if_neg (fun q => q hg), if_neg (fun q => q (Or.inl c9)), if_pos c24, hc]
            rw [e]
            exact ev_iret rfl rfl rfl ⟨rfl, shC_put (W := 2) hD ⟨Or.inl rfl, by decide⟩ (fun c _ _ a b => hq1 c a b) (by rw [hq2]; rfl) (by rw [hq2]; rfl) hq3, fun c hc => hq1 c (fun z => hc (by rw [z]; decide)) (fun z => hc (by rw [z]; decide))⟩
        · refine ev_blk 1 [] 13 ([some (.ref 0), some (.int ((2 : Int32))), some (.int (so)), some (.int (n))], [.int (so)], σ) rfl ?_ ?_
          · trivial
          refine ev_callS M_X5_isSort [.int (so)] [] rfl rfl ln_X5_257 k_X5_isSort rfl rfl rfl (c_isSort _ _) ?_
          refine pu_k ?_
          show xEv _ _ _ 16 ([some (.ref 0), some (.int ((2 : Int32))), some (.int (so)), some (.int (n))], [.int (zi (so = 0 ∨ so = 1))], σ)
          refine ev_br 0 [] (¬ (zi (so = 0 ∨ so = 1)) = 0) 22 19 ([some (.ref 0), some (.int ((2 : Int32))), some (.int (so)), some (.int (n))], [], σ) rfl ?_ (fun c16 => ?_) (fun c16 => ?_)
          · trivial
          · replace c16 := zi_1.mp c16
            refine ev_br 2 [] (¬ so = (-1 : Int32)) 40 27 ([some (.ref 0), some (.int ((2 : Int32))), some (.int (so)), some (.int (n))], [], σ) rfl ?_ (fun c24 => ?_) (fun c24 => ?_)
            · trivial
            · refine ev_br 2 [] (n ≤ (40 : Int32)) 49 46 ([some (.ref 0), some (.int ((2 : Int32))), some (.int (so)), some (.int (n))], [], σ) rfl ?_ (fun c43 => ?_) (fun c43 => ?_)
              · trivial
              · refine ev_br 1 [] (0 ≤ n) 56 53 ([some (.ref 0), some (.int ((2 : Int32))), some (.int (so)), some (.int (n))], [], σ) rfl ?_ (fun c50 => ?_) (fun c50 => ?_)
                · trivial
                · refine ev_blk 6 [vp_in ((2 : Int32)) 4] 64 ([some (.ref 0), some (.int ((2 : Int32))), some (.int (so)), some (.int (n))], [.int (n), .int (so), .ref 53], σ) rfl ?_ ?_
                  · exact (vp_in_nI (n := 2) (by decide) (by decide))
                  refine ev_callV M_X4_become [.int (so), .int (n)] [] 53 rfl rfl ln_X5_245 k_X4_become rfl rfl rfl rfl rfl rfl (c_shBecome2 _ _ _) ?_
                  rintro r σ' ⟨rfl, hq1, hq2, hq3⟩
                  show xEv _ _ _ 67 ([some (.ref 0), some (.int ((2 : Int32))), some (.int (so)), some (.int (n))], [], σ')
                  refine ev_blk 1 [] 68 ([some (.ref 0), some (.int ((2 : Int32))), some (.int (so)), some (.int (n))], [.int ((1 : Int32))], σ') rfl ?_ ?_
                  · trivial
                  obtain ⟨m, hm, rfl⟩ := n_40 (Int32.not_lt.mpr c50) (Int32.not_lt.mpr c43)
                  have e : s_sheet D (nI 2) so (nI m) = (1, updD D 2 (so, (nI m).toNatClampNeg, fun _ => 0)) := by rw [s_sheet, if_neg (fun q => q hg), if_neg (fun q => q (Or.inr c16)), if_neg c24, if_neg (Int32.not_lt.mpr c43), if_neg (Int32.not_lt.mpr c50), hc]
                  rw [e]
                  exact ev_iret rfl rfl rfl ⟨rfl, shC_put (W := 2) hD ⟨Or.inr c16, by show (nI m).toNatClampNeg ≤ 40; rw [nI_clamp (by omega)]; exact hm⟩ (fun c _ _ a b => hq1 c a b) (by rw [hq2]; rfl) (by rw [hq2]; show x_mx 0 (x_mn (nI m) 40) = _; rw [x_mxn hm]; show _ = nI (nI m).toNatClampNeg; rw [nI_clamp (by omega)]) hq3, fun c hc => hq1 c (fun z => hc (by rw [z]; decide)) (fun z => hc (by rw [z]; decide))⟩
                · refine ev_blk 1 [] 55 ([some (.ref 0), some (.int ((2 : Int32))), some (.int (so)), some (.int (n))], [.int ((-14 : Int32))], σ) rfl ?_ ?_
                  · trivial
                  have e : s_sheet D (nI 2) so n = (-14, D) := by rw [s_sheet, if_neg (fun q => q hg), if_neg (fun q => q (Or.inr c16)), if_neg c24, if_neg (Int32.not_lt.mpr c43), if_pos (Int32.not_le.mp c50)]
                  rw [e]
                  exact ev_iret rfl rfl rfl ⟨rfl, hD, xFr.rf⟩
              · refine ev_blk 1 [] 48 ([some (.ref 0), some (.int ((2 : Int32))), some (.int (so)), some (.int (n))], [.int ((-2 : Int32))], σ) rfl ?_ ?_
                · trivial
                have e : s_sheet D (nI 2) so n = (-2, D) := by rw [s_sheet, if_neg (fun q => q hg), if_neg (fun q => q (Or.inr c16)), if_neg c24, if_pos (Int32.not_le.mp c43)]
                rw [e]
                exact ev_iret rfl rfl rfl ⟨rfl, hD, xFr.rf⟩
            · refine ev_blk 6 [vp_in ((2 : Int32)) 4] 35 ([some (.ref 0), some (.int ((2 : Int32))), some (.int (so)), some (.int (n))], [.int ((0 : Int32)), .int ((-1 : Int32)), .ref 53], σ) rfl ?_ ?_
              · exact (vp_in_nI (n := 2) (by decide) (by decide))
              refine ev_callV M_X4_become [.int ((-1 : Int32)), .int ((0 : Int32))] [] 53 rfl rfl ln_X5_245 k_X4_become rfl rfl rfl rfl rfl rfl (c_shBecome2 _ _ _) ?_
              rintro r σ' ⟨rfl, hq1, hq2, hq3⟩
              show xEv _ _ _ 38 ([some (.ref 0), some (.int ((2 : Int32))), some (.int (so)), some (.int (n))], [], σ')
              refine ev_blk 1 [] 39 ([some (.ref 0), some (.int ((2 : Int32))), some (.int (so)), some (.int (n))], [.int ((1 : Int32))], σ') rfl ?_ ?_
              · trivial
              have c24 := Classical.byContradiction c24
              have e : s_sheet D (nI 2) so n = (1, updD D 2 (-1, 0, fun _ => 0)) := by rw [s_sheet, if_neg (fun q => q hg), if_neg (fun q => q (Or.inr c16)), if_pos c24, hc]
              rw [e]
              exact ev_iret rfl rfl rfl ⟨rfl, shC_put (W := 2) hD ⟨Or.inl rfl, by decide⟩ (fun c _ _ a b => hq1 c a b) (by rw [hq2]; rfl) (by rw [hq2]; rfl) hq3, fun c hc => hq1 c (fun z => hc (by rw [z]; decide)) (fun z => hc (by rw [z]; decide))⟩
          · replace c16 := zi_n.mp c16
            refine ev_blk 1 [] 21 ([some (.ref 0), some (.int ((2 : Int32))), some (.int (so)), some (.int (n))], [.int ((-2 : Int32))], σ) rfl ?_ ?_
            · trivial
            have e : s_sheet D (nI 2) so n = (-2, D) := by rw [s_sheet, if_neg (fun q => q hg), if_pos (by rintro (q | q | q); exact c9 q; exact c16 (Or.inl q); exact c16 (Or.inr q))]
            rw [e]
            exact ev_iret rfl rfl rfl ⟨rfl, hD, xFr.rf⟩
    · have hg : iN 4 (nI 3) := iN_nI (by decide) (by decide)
      have hc : (nI 3).toNatClampNeg = 3 := rfl
      show xEv _ _ _ 0 ([some (.ref 0), some (.int ((3 : Int32))), some (.int (so)), some (.int (n))], [], σ)
      refine ev_blk 1 [] 1 ([some (.ref 0), some (.int ((3 : Int32))), some (.int (so)), some (.int (n))], [.int ((3 : Int32))], σ) rfl ?_ ?_
      · trivial
      refine ev_callS M_X5_isSheet [.int ((3 : Int32))] [] rfl rfl ln_X5_229 k_X5_isSheet rfl rfl rfl (c_isSheet _ _) ?_
      refine pu_k ?_
      rw [zi_t (show ¬ ((3 : Int32)) < 0 ∧ ¬ (4 : Int32) ≤ ((3 : Int32)) by decide)]
      show xEv _ _ _ 4 ([some (.ref 0), some (.int ((3 : Int32))), some (.int (so)), some (.int (n))], [.int ((1 : Int32))], σ)
      refine ev_br 0 [] ((1 : Int32) = 0) 19 7 ([some (.ref 0), some (.int ((3 : Int32))), some (.int (so)), some (.int (n))], [], σ) rfl ?_ (fun c4 => ?_) (fun c4 => ?_)
      · trivial
      · exact absurd c4 (by decide)
      · refine ev_br 2 [] (so = (-1 : Int32)) 22 12 ([some (.ref 0), some (.int ((3 : Int32))), some (.int (so)), some (.int (n))], [], σ) rfl ?_ (fun c9 => ?_) (fun c9 => ?_)
        · trivial
        · refine ev_br 2 [] (¬ so = (-1 : Int32)) 40 27 ([some (.ref 0), some (.int ((3 : Int32))), some (.int (so)), some (.int (n))], [], σ) rfl ?_ (fun c24 => ?_) (fun c24 => ?_)
          · trivial
          · refine ev_br 2 [] (n ≤ (40 : Int32)) 49 46 ([some (.ref 0), some (.int ((3 : Int32))), some (.int (so)), some (.int (n))], [], σ) rfl ?_ (fun c43 => ?_) (fun c43 => ?_)
            · trivial
            · refine ev_br 1 [] (0 ≤ n) 56 53 ([some (.ref 0), some (.int ((3 : Int32))), some (.int (so)), some (.int (n))], [], σ) rfl ?_ (fun c50 => ?_) (fun c50 => ?_)
              · trivial
              · refine ev_blk 6 [vp_in ((3 : Int32)) 4] 64 ([some (.ref 0), some (.int ((3 : Int32))), some (.int (so)), some (.int (n))], [.int (n), .int (so), .ref 55], σ) rfl ?_ ?_
                · exact (vp_in_nI (n := 3) (by decide) (by decide))
                refine ev_callV M_X4_become [.int (so), .int (n)] [] 55 rfl rfl ln_X5_245 k_X4_become rfl rfl rfl rfl rfl rfl (c_shBecome3 _ _ _) ?_
                rintro r σ' ⟨rfl, hq1, hq2, hq3⟩
                show xEv _ _ _ 67 ([some (.ref 0), some (.int ((3 : Int32))), some (.int (so)), some (.int (n))], [], σ')
                refine ev_blk 1 [] 68 ([some (.ref 0), some (.int ((3 : Int32))), some (.int (so)), some (.int (n))], [.int ((1 : Int32))], σ') rfl ?_ ?_
                · trivial
                obtain ⟨m, hm, rfl⟩ := n_40 (Int32.not_lt.mpr c50) (Int32.not_lt.mpr c43)
                have e : s_sheet D (nI 3) so (nI m) = (1, updD D 3 (so, (nI m).toNatClampNeg, fun _ => 0)) := by rw [s_sheet, if_neg (fun q => q hg), if_neg (fun q => q (Or.inl c9)), if_neg c24, if_neg (Int32.not_lt.mpr c43), if_neg (Int32.not_lt.mpr c50), hc]
                rw [e]
                exact ev_iret rfl rfl rfl ⟨rfl, shC_put (W := 3) hD ⟨Or.inl c9, by show (nI m).toNatClampNeg ≤ 40; rw [nI_clamp (by omega)]; exact hm⟩ (fun c _ _ a b => hq1 c a b) (by rw [hq2]; rfl) (by rw [hq2]; show x_mx 0 (x_mn (nI m) 40) = _; rw [x_mxn hm]; show _ = nI (nI m).toNatClampNeg; rw [nI_clamp (by omega)]) hq3, fun c hc => hq1 c (fun z => hc (by rw [z]; decide)) (fun z => hc (by rw [z]; decide))⟩
              · refine ev_blk 1 [] 55 ([some (.ref 0), some (.int ((3 : Int32))), some (.int (so)), some (.int (n))], [.int ((-14 : Int32))], σ) rfl ?_ ?_
                · trivial
                have e : s_sheet D (nI 3) so n = (-14, D) := by rw [s_sheet, if_neg (fun q => q hg), if_neg (fun q => q (Or.inl c9)), if_neg c24, if_neg (Int32.not_lt.mpr c43), if_pos (Int32.not_le.mp c50)]
                rw [e]
                exact ev_iret rfl rfl rfl ⟨rfl, hD, xFr.rf⟩
            · refine ev_blk 1 [] 48 ([some (.ref 0), some (.int ((3 : Int32))), some (.int (so)), some (.int (n))], [.int ((-2 : Int32))], σ) rfl ?_ ?_
              · trivial
              have e : s_sheet D (nI 3) so n = (-2, D) := by rw [s_sheet, if_neg (fun q => q hg), if_neg (fun q => q (Or.inl c9)), if_neg c24, if_pos (Int32.not_le.mp c43)]
              rw [e]
              exact ev_iret rfl rfl rfl ⟨rfl, hD, xFr.rf⟩
          · refine ev_blk 6 [vp_in ((3 : Int32)) 4] 35 ([some (.ref 0), some (.int ((3 : Int32))), some (.int (so)), some (.int (n))], [.int ((0 : Int32)), .int ((-1 : Int32)), .ref 55], σ) rfl ?_ ?_
            · exact (vp_in_nI (n := 3) (by decide) (by decide))
            refine ev_callV M_X4_become [.int ((-1 : Int32)), .int ((0 : Int32))] [] 55 rfl rfl ln_X5_245 k_X4_become rfl rfl rfl rfl rfl rfl (c_shBecome3 _ _ _) ?_
            rintro r σ' ⟨rfl, hq1, hq2, hq3⟩
            show xEv _ _ _ 38 ([some (.ref 0), some (.int ((3 : Int32))), some (.int (so)), some (.int (n))], [], σ')
            refine ev_blk 1 [] 39 ([some (.ref 0), some (.int ((3 : Int32))), some (.int (so)), some (.int (n))], [.int ((1 : Int32))], σ') rfl ?_ ?_
            · trivial
            have c24 := Classical.byContradiction c24
            have e : s_sheet D (nI 3) so n = (1, updD D 3 (-1, 0, fun _ => 0)) := by rw [s_sheet, if_neg (fun q => q hg), if_neg (fun q => q (Or.inl c9)), if_pos c24, hc]
            rw [e]
            exact ev_iret rfl rfl rfl ⟨rfl, shC_put (W := 3) hD ⟨Or.inl rfl, by decide⟩ (fun c _ _ a b => hq1 c a b) (by rw [hq2]; rfl) (by rw [hq2]; rfl) hq3, fun c hc => hq1 c (fun z => hc (by rw [z]; decide)) (fun z => hc (by rw [z]; decide))⟩
        · refine ev_blk 1 [] 13 ([some (.ref 0), some (.int ((3 : Int32))), some (.int (so)), some (.int (n))], [.int (so)], σ) rfl ?_ ?_
          · trivial
          refine ev_callS M_X5_isSort [.int (so)] [] rfl rfl ln_X5_257 k_X5_isSort rfl rfl rfl (c_isSort _ _) ?_
          refine pu_k ?_
          show xEv _ _ _ 16 ([some (.ref 0), some (.int ((3 : Int32))), some (.int (so)), some (.int (n))], [.int (zi (so = 0 ∨ so = 1))], σ)
          refine ev_br 0 [] (¬ (zi (so = 0 ∨ so = 1)) = 0) 22 19 ([some (.ref 0), some (.int ((3 : Int32))), some (.int (so)), some (.int (n))], [], σ) rfl ?_ (fun c16 => ?_) (fun c16 => ?_)
          · trivial
          · replace c16 := zi_1.mp c16
            refine ev_br 2 [] (¬ so = (-1 : Int32)) 40 27 ([some (.ref 0), some (.int ((3 : Int32))), some (.int (so)), some (.int (n))], [], σ) rfl ?_ (fun c24 => ?_) (fun c24 => ?_)
            · trivial
            · refine ev_br 2 [] (n ≤ (40 : Int32)) 49 46 ([some (.ref 0), some (.int ((3 : Int32))), some (.int (so)), some (.int (n))], [], σ) rfl ?_ (fun c43 => ?_) (fun c43 => ?_)
              · trivial
              · refine ev_br 1 [] (0 ≤ n) 56 53 ([some (.ref 0), some (.int ((3 : Int32))), some (.int (so)), some (.int (n))], [], σ) rfl ?_ (fun c50 => ?_) (fun c50 => ?_)
                · trivial
                · refine ev_blk 6 [vp_in ((3 : Int32)) 4] 64 ([some (.ref 0), some (.int ((3 : Int32))), some (.int (so)), some (.int (n))], [.int (n), .int (so), .ref 55], σ) rfl ?_ ?_
                  · exact (vp_in_nI (n := 3) (by decide) (by decide))
                  refine ev_callV M_X4_become [.int (so), .int (n)] [] 55 rfl rfl ln_X5_245 k_X4_become rfl rfl rfl rfl rfl rfl (c_shBecome3 _ _ _) ?_
                  rintro r σ' ⟨rfl, hq1, hq2, hq3⟩
                  show xEv _ _ _ 67 ([some (.ref 0), some (.int ((3 : Int32))), some (.int (so)), some (.int (n))], [], σ')
                  refine ev_blk 1 [] 68 ([some (.ref 0), some (.int ((3 : Int32))), some (.int (so)), some (.int (n))], [.int ((1 : Int32))], σ') rfl ?_ ?_
                  · trivial
                  obtain ⟨m, hm, rfl⟩ := n_40 (Int32.not_lt.mpr c50) (Int32.not_lt.mpr c43)
                  have e : s_sheet D (nI 3) so (nI m) = (1, updD D 3 (so, (nI m).toNatClampNeg, fun _ => 0)) := by rw [s_sheet, if_neg (fun q => q hg), if_neg (fun q => q (Or.inr c16)), if_neg c24, if_neg (Int32.not_lt.mpr c43), if_neg (Int32.not_lt.mpr c50), hc]
                  rw [e]
                  exact ev_iret rfl rfl rfl ⟨rfl, shC_put (W := 3) hD ⟨Or.inr c16, by show (nI m).toNatClampNeg ≤ 40; rw [nI_clamp (by omega)]; exact hm⟩ (fun c _ _ a b => hq1 c a b) (by rw [hq2]; rfl) (by rw [hq2]; show x_mx 0 (x_mn (nI m) 40) = _; rw [x_mxn hm]; show _ = nI (nI m).toNatClampNeg; rw [nI_clamp (by omega)]) hq3, fun c hc => hq1 c (fun z => hc (by rw [z]; decide)) (fun z => hc (by rw [z]; decide))⟩
                · refine ev_blk 1 [] 55 ([some (.ref 0), some (.int ((3 : Int32))), some (.int (so)), some (.int (n))], [.int ((-14 : Int32))], σ) rfl ?_ ?_
                  · trivial
                  have e : s_sheet D (nI 3) so n = (-14, D) := by rw [s_sheet, if_neg (fun q => q hg), if_neg (fun q => q (Or.inr c16)), if_neg c24, if_neg (Int32.not_lt.mpr c43), if_pos (Int32.not_le.mp c50)]
                  rw [e]
                  exact ev_iret rfl rfl rfl ⟨rfl, hD, xFr.rf⟩
              · refine ev_blk 1 [] 48 ([some (.ref 0), some (.int ((3 : Int32))), some (.int (so)), some (.int (n))], [.int ((-2 : Int32))], σ) rfl ?_ ?_
                · trivial
                have e : s_sheet D (nI 3) so n = (-2, D) := by rw [s_sheet, if_neg (fun q => q hg), if_neg (fun q => q (Or.inr c16)), if_neg c24, if_pos (Int32.not_le.mp c43)]
                rw [e]
                exact ev_iret rfl rfl rfl ⟨rfl, hD, xFr.rf⟩
            · refine ev_blk 6 [vp_in ((3 : Int32)) 4] 35 ([some (.ref 0), some (.int ((3 : Int32))), some (.int (so)), some (.int (n))], [.int ((0 : Int32)), .int ((-1 : Int32)), .ref 55], σ) rfl ?_ ?_
              · exact (vp_in_nI (n := 3) (by decide) (by decide))
              refine ev_callV M_X4_become [.int ((-1 : Int32)), .int ((0 : Int32))] [] 55 rfl rfl ln_X5_245 k_X4_become rfl rfl rfl rfl rfl rfl (c_shBecome3 _ _ _) ?_
              rintro r σ' ⟨rfl, hq1, hq2, hq3⟩
              show xEv _ _ _ 38 ([some (.ref 0), some (.int ((3 : Int32))), some (.int (so)), some (.int (n))], [], σ')
              refine ev_blk 1 [] 39 ([some (.ref 0), some (.int ((3 : Int32))), some (.int (so)), some (.int (n))], [.int ((1 : Int32))], σ') rfl ?_ ?_
              · trivial
              have c24 := Classical.byContradiction c24
              have e : s_sheet D (nI 3) so n = (1, updD D 3 (-1, 0, fun _ => 0)) := by rw [s_sheet, if_neg (fun q => q hg), if_neg (fun q => q (Or.inr c16)), if_pos c24, hc]
              rw [e]
              exact ev_iret rfl rfl rfl ⟨rfl, shC_put (W := 3) hD ⟨Or.inl rfl, by decide⟩ (fun c _ _ a b => hq1 c a b) (by rw [hq2]; rfl) (by rw [hq2]; rfl) hq3, fun c hc => hq1 c (fun z => hc (by rw [z]; decide)) (fun z => hc (by rw [z]; decide))⟩
          · replace c16 := zi_n.mp c16
            refine ev_blk 1 [] 21 ([some (.ref 0), some (.int ((3 : Int32))), some (.int (so)), some (.int (n))], [.int ((-2 : Int32))], σ) rfl ?_ ?_
            · trivial
            have e : s_sheet D (nI 3) so n = (-2, D) := by rw [s_sheet, if_neg (fun q => q hg), if_pos (by rintro (q | q | q); exact c9 q; exact c16 (Or.inl q); exact c16 (Or.inr q))]
            rw [e]
            exact ev_iret rfl rfl rfl ⟨rfl, hD, xFr.rf⟩
set_option maxRecDepth 100000 in
theorem c_put (σ : xSg) (D : Nat → shD) (hD : shC σ D) (s i v : Int32) : xCtr M_X5_put [.ref 0, .int (s), .int (i), .int (v)] σ (shPQ scS σ (s_put D s i v)) := by
  refine ctr_ev ok_X5_put (by decide +kernel) rfl rfl rfl ?_
  show xEv (.inl 2) M_X5_put _ 0 ([some (.ref 0), some (.int (s)), some (.int (i)), some (.int (v))], [], σ)
  rcases pk_ix s (n := 4) (by decide) with hb | hb | ⟨W, hW, rfl⟩
  · have hbad : ¬ iN 4 s := fun q => q.1 hb
    refine ev_blk 1 [] 1 ([some (.ref 0), some (.int (s)), some (.int (i)), some (.int (v))], [.int (s)], σ) rfl ?_ ?_
    · trivial
    refine ev_callS M_X5_isSheet [.int (s)] [] rfl rfl ln_X5_229 k_X5_isSheet rfl rfl rfl (c_isSheet _ _) ?_
    refine pu_k ?_
    show xEv _ _ _ 4 ([some (.ref 0), some (.int (s)), some (.int (i)), some (.int (v))], [.int (zi (¬ s < 0 ∧ ¬ (4 : Int32) ≤ (s)))], σ)
    refine ev_br 0 [] (¬ (zi (¬ s < 0 ∧ ¬ (4 : Int32) ≤ (s))) = 0) 10 7 ([some (.ref 0), some (.int (s)), some (.int (i)), some (.int (v))], [], σ) rfl ?_ (fun c4 => ?_) (fun c4 => ?_)
    · trivial
    · exact absurd (zi_1.mp c4) hbad
    · replace c4 := zi_n.mp c4
      refine ev_blk 1 [] 9 ([some (.ref 0), some (.int (s)), some (.int (i)), some (.int (v))], [.int ((-2 : Int32))], σ) rfl ?_ ?_
      · trivial
      have e : s_put D s i v = (-2, D) := by rw [s_put, if_pos hbad]
      rw [e]
      exact ev_iret rfl rfl rfl ⟨rfl, hD, xFr.rf⟩
  · have hbad : ¬ iN 4 s := fun q => q.2 hb
    refine ev_blk 1 [] 1 ([some (.ref 0), some (.int (s)), some (.int (i)), some (.int (v))], [.int (s)], σ) rfl ?_ ?_
    · trivial
    refine ev_callS M_X5_isSheet [.int (s)] [] rfl rfl ln_X5_229 k_X5_isSheet rfl rfl rfl (c_isSheet _ _) ?_
    refine pu_k ?_
    show xEv _ _ _ 4 ([some (.ref 0), some (.int (s)), some (.int (i)), some (.int (v))], [.int (zi (¬ s < 0 ∧ ¬ (4 : Int32) ≤ (s)))], σ)
    refine ev_br 0 [] (¬ (zi (¬ s < 0 ∧ ¬ (4 : Int32) ≤ (s))) = 0) 10 7 ([some (.ref 0), some (.int (s)), some (.int (i)), some (.int (v))], [], σ) rfl ?_ (fun c4 => ?_) (fun c4 => ?_)
    · trivial
    · exact absurd (zi_1.mp c4) hbad
    · replace c4 := zi_n.mp c4
      refine ev_blk 1 [] 9 ([some (.ref 0), some (.int (s)), some (.int (i)), some (.int (v))], [.int ((-2 : Int32))], σ) rfl ?_ ?_
      · trivial
      have e : s_put D s i v = (-2, D) := by rw [s_put, if_pos hbad]
      rw [e]
      exact ev_iret rfl rfl rfl ⟨rfl, hD, xFr.rf⟩
  · rcases (show W = 0 ∨ W = 1 ∨ W = 2 ∨ W = 3 by omega) with rfl | rfl | rfl | rfl
    · have hg : iN 4 (nI 0) := iN_nI (by decide) (by decide)
      obtain ⟨ho, h0, h1, hi⟩ := hD 0 (by decide)
      have hc : (nI 0).toNatClampNeg = 0 := rfl
      show xEv _ _ _ 0 ([some (.ref 0), some (.int ((0 : Int32))), some (.int (i)), some (.int (v))], [], σ)
      refine ev_blk 1 [] 1 ([some (.ref 0), some (.int ((0 : Int32))), some (.int (i)), some (.int (v))], [.int ((0 : Int32))], σ) rfl ?_ ?_
      · trivial
      refine ev_callS M_X5_isSheet [.int ((0 : Int32))] [] rfl rfl ln_X5_229 k_X5_isSheet rfl rfl rfl (c_isSheet _ _) ?_
      refine pu_k ?_
      rw [zi_t (show ¬ ((0 : Int32)) < 0 ∧ ¬ (4 : Int32) ≤ ((0 : Int32)) by decide)]
      show xEv _ _ _ 4 ([some (.ref 0), some (.int ((0 : Int32))), some (.int (i)), some (.int (v))], [.int ((1 : Int32))], σ)
      refine ev_br 0 [] (¬ (1 : Int32) = 0) 10 7 ([some (.ref 0), some (.int ((0 : Int32))), some (.int (i)), some (.int (v))], [], σ) rfl ?_ (fun c4 => ?_) (fun c4 => ?_)
      · trivial
      · refine ev_blk 4 [vp_in ((0 : Int32)) 4] 16 ([some (.ref 0), some (.int ((0 : Int32))), some (.int (i)), some (.int (v))], [.ref 49], σ) rfl ?_ ?_
        · exact (vp_in_nI (n := 0) (by decide) (by decide))
        refine ev_callV M_X4_isMissing [] [] 49 rfl rfl ln_X5_232 k_X4_isMissing rfl rfl rfl rfl rfl rfl (c_isMissing0 _) ?_
        refine pu_k ?_
        show xEv _ _ _ 19 ([some (.ref 0), some (.int ((0 : Int32))), some (.int (i)), some (.int (v))], [.int (zi (σ 49 0 = -1))], σ)
        refine ev_br 0 [] ((zi (σ 49 0 = -1)) = 0) 25 22 ([some (.ref 0), some (.int ((0 : Int32))), some (.int (i)), some (.int (v))], [], σ) rfl ?_ (fun c19 => ?_) (fun c19 => ?_)
        · trivial
        · replace c19 := zi_0.mp c19
          refine ev_blk 5 [vp_in ((0 : Int32)) 4] 32 ([some (.ref 0), some (.int ((0 : Int32))), some (.int (i)), some (.int (v))], [.int (i), .ref 49], σ) rfl ?_ ?_
          · exact (vp_in_nI (n := 0) (by decide) (by decide))
          refine ev_callV M_X4_has [.int (i)] [] 49 rfl rfl ln_X5_260 k_X4_has rfl rfl rfl rfl rfl rfl (c_has0 _ _) ?_
          refine pu_k ?_
          show xEv _ _ _ 35 ([some (.ref 0), some (.int ((0 : Int32))), some (.int (i)), some (.int (v))], [.int (zi (¬ i < 0 ∧ ¬ σ 49 1 ≤ i))], σ)
          refine ev_br 0 [] (¬ (zi (¬ i < 0 ∧ ¬ σ 49 1 ≤ i)) = 0) 41 38 ([some (.ref 0), some (.int ((0 : Int32))), some (.int (i)), some (.int (v))], [], σ) rfl ?_ (fun c35 => ?_) (fun c35 => ?_)
          · trivial
          · replace c35 := zi_1.mp c35
            refine ev_blk 6 [vp_in ((0 : Int32)) 4] 49 ([some (.ref 0), some (.int ((0 : Int32))), some (.int (i)), some (.int (v))], [.int (v), .int (i), .ref 49], σ) rfl ?_ ?_
            · exact (vp_in_nI (n := 0) (by decide) (by decide))
            refine ev_callV M_X4_write [.int (i), .int (v)] [] 49 rfl rfl ln_X5_248 k_X4_write rfl rfl rfl rfl rfl rfl (c_shWrite0 _ _ h1 ho.2 _ _) ?_
            rintro r σ' ⟨rfl, hq⟩
            show xEv _ _ _ 52 ([some (.ref 0), some (.int ((0 : Int32))), some (.int (i)), some (.int (v))], [], σ')
            refine ev_blk 1 [] 53 ([some (.ref 0), some (.int ((0 : Int32))), some (.int (i)), some (.int (v))], [.int ((1 : Int32))], σ') rfl ?_ ?_
            · trivial
            have hi2 : iN (D 0).2.1 i := by rw [iN, ← h1]; exact c35
            rcases hq with ⟨j, hj, rfl, rfl⟩ | ⟨hn, _⟩
            · have hjc : (nI j).toNatClampNeg = j := nI_clamp (by have := ho.2; omega)
              have e : s_put D (nI 0) (nI j) v = (1, updD D 0 ((D 0).1, (D 0).2.1, upd (D 0).2.2 j (sbv (D 0).1 v))) := by rw [s_put, if_neg (fun q => q hg), hc, if_neg (by rw [← h0]; exact c19), if_neg (fun q => q hi2), hjc]
              rw [e]
              exact ev_iret rfl rfl rfl ⟨rfl, shC_put (W := 0) hD ho (fun c _ _ a b => x_up_ne b) (by rw [x_up_ne (by decide)]; exact h0) (by rw [x_up_ne (by decide)]; exact h1) (fun z hz => by rw [x_up_eq, h0]; show upd _ _ _ z = upd _ _ _ z; unfold upd; rw [hi z hz]), fun c hc => x_up_ne (fun z => hc (by rw [z]; decide))⟩
            · obtain ⟨j, hj, rfl⟩ := nI_of hi2.1
              exact absurd rfl (hn j (Nat.lt_of_not_le (fun z => hi2.2 (nI_le z hj))))
          · replace c35 := zi_n.mp c35
            refine ev_blk 1 [] 40 ([some (.ref 0), some (.int ((0 : Int32))), some (.int (i)), some (.int (v))], [.int ((-12 : Int32))], σ) rfl ?_ ?_
            · trivial
            have e : s_put D (nI 0) i v = (-12, D) := by rw [s_put, if_neg (fun q => q hg), hc, if_neg (by rw [← h0]; exact c19), if_pos (by rw [iN, ← h1]; exact c35)]
            rw [e]
            exact ev_iret rfl rfl rfl ⟨rfl, hD, xFr.rf⟩
        · replace c19 := zi_1.mp c19
          refine ev_blk 1 [] 24 ([some (.ref 0), some (.int ((0 : Int32))), some (.int (i)), some (.int (v))], [.int ((-11 : Int32))], σ) rfl ?_ ?_
          · trivial
          have e : s_put D (nI 0) i v = (-11, D) := by rw [s_put, if_neg (fun q => q hg), hc, if_pos (by rw [← h0]; exact c19)]
          rw [e]
          exact ev_iret rfl rfl rfl ⟨rfl, hD, xFr.rf⟩
      · exact absurd (by decide) c4
    · have hg : iN 4 (nI 1) := iN_nI (by decide) (by decide)
      obtain ⟨ho, h0, h1, hi⟩ := hD 1 (by decide)
      have hc : (nI 1).toNatClampNeg = 1 := rfl
      show xEv _ _ _ 0 ([some (.ref 0), some (.int ((1 : Int32))), some (.int (i)), some (.int (v))], [], σ)
      refine ev_blk 1 [] 1 ([some (.ref 0), some (.int ((1 : Int32))), some (.int (i)), some (.int (v))], [.int ((1 : Int32))], σ) rfl ?_ ?_
      · trivial
      refine ev_callS M_X5_isSheet [.int ((1 : Int32))] [] rfl rfl ln_X5_229 k_X5_isSheet rfl rfl rfl (c_isSheet _ _) ?_
      refine pu_k ?_
      rw [zi_t (show ¬ ((1 : Int32)) < 0 ∧ ¬ (4 : Int32) ≤ ((1 : Int32)) by decide)]
      show xEv _ _ _ 4 ([some (.ref 0), some (.int ((1 : Int32))), some (.int (i)), some (.int (v))], [.int ((1 : Int32))], σ)
      refine ev_br 0 [] (¬ (1 : Int32) = 0) 10 7 ([some (.ref 0), some (.int ((1 : Int32))), some (.int (i)), some (.int (v))], [], σ) rfl ?_ (fun c4 => ?_) (fun c4 => ?_)
      · trivial
      · refine ev_blk 4 [vp_in ((1 : Int32)) 4] 16 ([some (.ref 0), some (.int ((1 : Int32))), some (.int (i)), some (.int (v))], [.ref 51], σ) rfl ?_ ?_
        · exact (vp_in_nI (n := 1) (by decide) (by decide))
        refine ev_callV M_X4_isMissing [] [] 51 rfl rfl ln_X5_232 k_X4_isMissing rfl rfl rfl rfl rfl rfl (c_isMissing1 _) ?_
        refine pu_k ?_
        show xEv _ _ _ 19 ([some (.ref 0), some (.int ((1 : Int32))), some (.int (i)), some (.int (v))], [.int (zi (σ 51 0 = -1))], σ)
        refine ev_br 0 [] ((zi (σ 51 0 = -1)) = 0) 25 22 ([some (.ref 0), some (.int ((1 : Int32))), some (.int (i)), some (.int (v))], [], σ) rfl ?_ (fun c19 => ?_) (fun c19 => ?_)
        · trivial
        · replace c19 := zi_0.mp c19
          refine ev_blk 5 [vp_in ((1 : Int32)) 4] 32 ([some (.ref 0), some (.int ((1 : Int32))), some (.int (i)), some (.int (v))], [.int (i), .ref 51], σ) rfl ?_ ?_
          · exact (vp_in_nI (n := 1) (by decide) (by decide))
          refine ev_callV M_X4_has [.int (i)] [] 51 rfl rfl ln_X5_260 k_X4_has rfl rfl rfl rfl rfl rfl (c_has1 _ _) ?_
          refine pu_k ?_
          show xEv _ _ _ 35 ([some (.ref 0), some (.int ((1 : Int32))), some (.int (i)), some (.int (v))], [.int (zi (¬ i < 0 ∧ ¬ σ 51 1 ≤ i))], σ)
          refine ev_br 0 [] (¬ (zi (¬ i < 0 ∧ ¬ σ 51 1 ≤ i)) = 0) 41 38 ([some (.ref 0), some (.int ((1 : Int32))), some (.int (i)), some (.int (v))], [], σ) rfl ?_ (fun c35 => ?_) (fun c35 => ?_)
          · trivial
          · replace c35 := zi_1.mp c35
            refine ev_blk 6 [vp_in ((1 : Int32)) 4] 49 ([some (.ref 0), some (.int ((1 : Int32))), some (.int (i)), some (.int (v))], [.int (v), .int (i), .ref 51], σ) rfl ?_ ?_
            · exact (vp_in_nI (n := 1) (by decide) (by decide))
            refine ev_callV M_X4_write [.int (i), .int (v)] [] 51 rfl rfl ln_X5_248 k_X4_write rfl rfl rfl rfl rfl rfl (c_shWrite1 _ _ h1 ho.2 _ _) ?_
            rintro r σ' ⟨rfl, hq⟩
            show xEv _ _ _ 52 ([some (.ref 0), some (.int ((1 : Int32))), some (.int (i)), some (.int (v))], [], σ')
            refine ev_blk 1 [] 53 ([some (.ref 0), some (.int ((1 : Int32))), some (.int (i)), some (.int (v))], [.int ((1 : Int32))], σ') rfl ?_ ?_
            · trivial
            have hi2 : iN (D 1).2.1 i := by rw [iN, ← h1]; exact c35
            rcases hq with ⟨j, hj, rfl, rfl⟩ | ⟨hn, _⟩
            · have hjc : (nI j).toNatClampNeg = j := nI_clamp (by have := ho.2; omega)
              have e : s_put D (nI 1) (nI j) v = (1, updD D 1 ((D 1).1, (D 1).2.1, upd (D 1).2.2 j (sbv (D 1).1 v))) := by rw [s_put, if_neg (fun q => q hg), hc, if_neg (by rw [← h0]; exact c19), if_neg (fun q => q hi2), hjc]
              rw [e]
              exact ev_iret rfl rfl rfl ⟨rfl, shC_put (W := 1) hD ho (fun c _ _ a b => x_up_ne b) (by rw [x_up_ne (by decide)]; exact h0) (by rw [x_up_ne (by decide)]; exact h1) (fun z hz => by rw [x_up_eq, h0]; show upd _ _ _ z = upd _ _ _ z; unfold upd; rw [hi z hz]), fun c hc => x_up_ne (fun z => hc (by rw [z]; decide))⟩
            · obtain ⟨j, hj, rfl⟩ := nI_of hi2.1
              exact absurd rfl (hn j (Nat.lt_of_not_le (fun z => hi2.2 (nI_le z hj))))
          · replace c35 := zi_n.mp c35
            refine ev_blk 1 [] 40 ([some (.ref 0), some (.int ((1 : Int32))), some (.int (i)), some (.int (v))], [.int ((-12 : Int32))], σ) rfl ?_ ?_
            · trivial
            have e : s_put D (nI 1) i v = (-12, D) := by rw [s_put, if_neg (fun q => q hg), hc, if_neg (by rw [← h0]; exact c19), if_pos (by rw [iN, ← h1]; exact c35)]
            rw [e]
            exact ev_iret rfl rfl rfl ⟨rfl, hD, xFr.rf⟩
        · replace c19 := zi_1.mp c19
          refine ev_blk 1 [] 24 ([some (.ref 0), some (.int ((1 : Int32))), some (.int (i)), some (.int (v))], [.int ((-11 : Int32))], σ) rfl ?_ ?_
          · trivial
          have e : s_put D (nI 1) i v = (-11, D) := by rw [s_put, if_neg (fun q => q hg), hc, if_pos (by rw [← h0]; exact c19)]
          rw [e]
          exact ev_iret rfl rfl rfl ⟨rfl, hD, xFr.rf⟩
      · exact absurd (by decide) c4
    · have hg : iN 4 (nI 2) := iN_nI (by decide) (by decide)
      obtain ⟨ho, h0, h1, hi⟩ := hD 2 (by decide)
      have hc : (nI 2).toNatClampNeg = 2 := rfl
      show xEv _ _ _ 0 ([some (.ref 0), some (.int ((2 : Int32))), some (.int (i)), some (.int (v))], [], σ)
      refine ev_blk 1 [] 1 ([some (.ref 0), some (.int ((2 : Int32))), some (.int (i)), some (.int (v))], [.int ((2 : Int32))], σ) rfl ?_ ?_
      · trivial
      refine ev_callS M_X5_isSheet [.int ((2 : Int32))] [] rfl rfl ln_X5_229 k_X5_isSheet rfl rfl rfl (c_isSheet _ _) ?_
      refine pu_k ?_
      rw [zi_t (show ¬ ((2 : Int32)) < 0 ∧ ¬ (4 : Int32) ≤ ((2 : Int32)) by decide)]
      show xEv _ _ _ 4 ([some (.ref 0), some (.int ((2 : Int32))), some (.int (i)), some (.int (v))], [.int ((1 : Int32))], σ)
      refine ev_br 0 [] (¬ (1 : Int32) = 0) 10 7 ([some (.ref 0), some (.int ((2 : Int32))), some (.int (i)), some (.int (v))], [], σ) rfl ?_ (fun c4 => ?_) (fun c4 => ?_)
      · trivial
      · refine ev_blk 4 [vp_in ((2 : Int32)) 4] 16 ([some (.ref 0), some (.int ((2 : Int32))), some (.int (i)), some (.int (v))], [.ref 53], σ) rfl ?_ ?_
        · exact (vp_in_nI (n := 2) (by decide) (by decide))
        refine ev_callV M_X4_isMissing [] [] 53 rfl rfl ln_X5_232 k_X4_isMissing rfl rfl rfl rfl rfl rfl (c_isMissing2 _) ?_
        refine pu_k ?_
        show xEv _ _ _ 19 ([some (.ref 0), some (.int ((2 : Int32))), some (.int (i)), some (.int (v))], [.int (zi (σ 53 0 = -1))], σ)
        refine ev_br 0 [] ((zi (σ 53 0 = -1)) = 0) 25 22 ([some (.ref 0), some (.int ((2 : Int32))), some (.int (i)), some (.int (v))], [], σ) rfl ?_ (fun c19 => ?_) (fun c19 => ?_)
        · trivial
        · replace c19 := zi_0.mp c19
          refine ev_blk 5 [vp_in ((2 : Int32)) 4] 32 ([some (.ref 0), some (.int ((2 : Int32))), some (.int (i)), some (.int (v))], [.int (i), .ref 53], σ) rfl ?_ ?_
          · exact (vp_in_nI (n := 2) (by decide) (by decide))
          refine ev_callV M_X4_has [.int (i)] [] 53 rfl rfl ln_X5_260 k_X4_has rfl rfl rfl rfl rfl rfl (c_has2 _ _) ?_
          refine pu_k ?_
          show xEv _ _ _ 35 ([some (.ref 0), some (.int ((2 : Int32))), some (.int (i)), some (.int (v))], [.int (zi (¬ i < 0 ∧ ¬ σ 53 1 ≤ i))], σ)
          refine ev_br 0 [] (¬ (zi (¬ i < 0 ∧ ¬ σ 53 1 ≤ i)) = 0) 41 38 ([some (.ref 0), some (.int ((2 : Int32))), some (.int (i)), some (.int (v))], [], σ) rfl ?_ (fun c35 => ?_) (fun c35 => ?_)
          · trivial
          · replace c35 := zi_1.mp c35
            refine ev_blk 6 [vp_in ((2 : Int32)) 4] 49 ([some (.ref 0), some (.int ((2 : Int32))), some (.int (i)), some (.int (v))], [.int (v), .int (i), .ref 53], σ) rfl ?_ ?_
            · exact (vp_in_nI (n := 2) (by decide) (by decide))
            refine ev_callV M_X4_write [.int (i), .int (v)] [] 53 rfl rfl ln_X5_248 k_X4_write rfl rfl rfl rfl rfl rfl (c_shWrite2 _ _ h1 ho.2 _ _) ?_
            rintro r σ' ⟨rfl, hq⟩
            show xEv _ _ _ 52 ([some (.ref 0), some (.int ((2 : Int32))), some (.int (i)), some (.int (v))], [], σ')
            refine ev_blk 1 [] 53 ([some (.ref 0), some (.int ((2 : Int32))), some (.int (i)), some (.int (v))], [.int ((1 : Int32))], σ') rfl ?_ ?_
            · trivial
            have hi2 : iN (D 2).2.1 i := by rw [iN, ← h1]; exact c35
            rcases hq with ⟨j, hj, rfl, rfl⟩ | ⟨hn, _⟩
            · have hjc : (nI j).toNatClampNeg = j := nI_clamp (by have := ho.2; omega)
              have e : s_put D (nI 2) (nI j) v = (1, updD D 2 ((D 2).1, (D 2).2.1, upd (D 2).2.2 j (sbv (D 2).1 v))) := by rw [s_put, if_neg (fun q => q hg), hc, if_neg (by rw [← h0]; exact c19), if_neg (fun q => q hi2), hjc]
              rw [e]
              exact ev_iret rfl rfl rfl ⟨rfl, shC_put (W := 2) hD ho (fun c _ _ a b => x_up_ne b) (by rw [x_up_ne (by decide)]; exact h0) (by rw [x_up_ne (by decide)]; exact h1) (fun z hz => by rw [x_up_eq, h0]; show upd _ _ _ z = upd _ _ _ z; unfold upd; rw [hi z hz]), fun c hc => x_up_ne (fun z => hc (by rw [z]; decide))⟩
            · obtain ⟨j, hj, rfl⟩ := nI_of hi2.1
              exact absurd rfl (hn j (Nat.lt_of_not_le (fun z => hi2.2 (nI_le z hj))))
          · replace c35 := zi_n.mp c35
            refine ev_blk 1 [] 40 ([some (.ref 0), some (.int ((2 : Int32))), some (.int (i)), some (.int (v))], [.int ((-12 : Int32))], σ) rfl ?_ ?_
            · trivial
            have e : s_put D (nI 2) i v = (-12, D) := by rw [s_put, if_neg (fun q => q hg), hc, if_neg (by rw [← h0]; exact c19), if_pos (by rw [iN, ← h1]; exact c35)]
            rw [e]
            exact ev_iret rfl rfl rfl ⟨rfl, hD, xFr.rf⟩
        · replace c19 := zi_1.mp c19
          refine ev_blk 1 [] 24 ([some (.ref 0), some (.int ((2 : Int32))), some (.int (i)), some (.int (v))], [.int ((-11 : Int32))], σ) rfl ?_ ?_
          · trivial
          have e : s_put D (nI 2) i v = (-11, D) := by rw [s_put, if_neg (fun q => q hg), hc, if_pos (by rw [← h0]; exact c19)]
          rw [e]
          exact ev_iret rfl rfl rfl ⟨rfl, hD, xFr.rf⟩
      · exact absurd (by decide) c4
    · have hg : iN 4 (nI 3) := iN_nI (by decide) (by decide)
      obtain ⟨ho, h0, h1, hi⟩ := hD 3 (by decide)
      have hc : (nI 3).toNatClampNeg = 3 := rfl
      show xEv _ _ _ 0 ([some (.ref 0), some (.int ((3 : Int32))), some (.int (i)), some (.int (v))], [], σ)
      refine ev_blk 1 [] 1 ([some (.ref 0), some (.int ((3 : Int32))), some (.int (i)), some (.int (v))], [.int ((3 : Int32))], σ) rfl ?_ ?_
      · trivial
      refine ev_callS M_X5_isSheet [.int ((3 : Int32))] [] rfl rfl ln_X5_229 k_X5_isSheet rfl rfl rfl (c_isSheet _ _) ?_
      refine pu_k ?_
      rw [zi_t (show ¬ ((3 : Int32)) < 0 ∧ ¬ (4 : Int32) ≤ ((3 : Int32)) by decide)]
      show xEv _ _ _ 4 ([some (.ref 0), some (.int ((3 : Int32))), some (.int (i)), some (.int (v))], [.int ((1 : Int32))], σ)
      refine ev_br 0 [] (¬ (1 : Int32) = 0) 10 7 ([some (.ref 0), some (.int ((3 : Int32))), some (.int (i)), some (.int (v))], [], σ) rfl ?_ (fun c4 => ?_) (fun c4 => ?_)
      · trivial
      · refine ev_blk 4 [vp_in ((3 : Int32)) 4] 16 ([some (.ref 0), some (.int ((3 : Int32))), some (.int (i)), some (.int (v))], [.ref 55], σ) rfl ?_ ?_
        · exact (vp_in_nI (n := 3) (by decide) (by decide))
        refine ev_callV M_X4_isMissing [] [] 55 rfl rfl ln_X5_232 k_X4_isMissing rfl rfl rfl rfl rfl rfl (c_isMissing3 _) ?_
        refine pu_k ?_
        show xEv _ _ _ 19 ([some (.ref 0), some (.int ((3 : Int32))), some (.int (i)), some (.int (v))], [.int (zi (σ 55 0 = -1))], σ)
        refine ev_br 0 [] ((zi (σ 55 0 = -1)) = 0) 25 22 ([some (.ref 0), some (.int ((3 : Int32))), some (.int (i)), some (.int (v))], [], σ) rfl ?_ (fun c19 => ?_) (fun c19 => ?_)
        · trivial
        · replace c19 := zi_0.mp c19
          refine ev_blk 5 [vp_in ((3 : Int32)) 4] 32 ([some (.ref 0), some (.int ((3 : Int32))), some (.int (i)), some (.int (v))], [.int (i), .ref 55], σ) rfl ?_ ?_
          · exact (vp_in_nI (n := 3) (by decide) (by decide))
          refine ev_callV M_X4_has [.int (i)] [] 55 rfl rfl ln_X5_260 k_X4_has rfl rfl rfl rfl rfl rfl (c_has3 _ _) ?_
          refine pu_k ?_
          show xEv _ _ _ 35 ([some (.ref 0), some (.int ((3 : Int32))), some (.int (i)), some (.int (v))], [.int (zi (¬ i < 0 ∧ ¬ σ 55 1 ≤ i))], σ)
          refine ev_br 0 [] (¬ (zi (¬ i < 0 ∧ ¬ σ 55 1 ≤ i)) = 0) 41 38 ([some (.ref 0), some (.int ((3 : Int32))), some (.int (i)), some (.int (v))], [], σ) rfl ?_ (fun c35 => ?_) (fun c35 => ?_)
          · trivial
          · replace c35 := zi_1.mp c35
            refine ev_blk 6 [vp_in ((3 : Int32)) 4] 49 ([some (.ref 0), some (.int ((3 : Int32))), some (.int (i)), some (.int (v))], [.int (v), .int (i), .ref 55], σ) rfl ?_ ?_
            · exact (vp_in_nI (n := 3) (by decide) (by decide))
            refine ev_callV M_X4_write [.int (i), .int (v)] [] 55 rfl rfl ln_X5_248 k_X4_write rfl rfl rfl rfl rfl rfl (c_shWrite3 _ _ h1 ho.2 _ _) ?_
            rintro r σ' ⟨rfl, hq⟩
            show xEv _ _ _ 52 ([some (.ref 0), some (.int ((3 : Int32))), some (.int (i)), some (.int (v))], [], σ')
            refine ev_blk 1 [] 53 ([some (.ref 0), some (.int ((3 : Int32))), some (.int (i)), some (.int (v))], [.int ((1 : Int32))], σ') rfl ?_ ?_
            · trivial
            have hi2 : iN (D 3).2.1 i := by rw [iN, ← h1]; exact c35
            rcases hq with ⟨j, hj, rfl, rfl⟩ | ⟨hn, _⟩
            · have hjc : (nI j).toNatClampNeg = j := nI_clamp (by have := ho.2; omega)
              have e : s_put D (nI 3) (nI j) v = (1, updD D 3 ((D 3).1, (D 3).2.1, upd (D 3).2.2 j (sbv (D 3).1 v))) := by rw [s_put, if_neg (fun q => q hg), hc, if_neg (by rw [← h0]; exact c19), if_neg (fun q => q hi2), hjc]
              rw [e]
              exact ev_iret rfl rfl rfl ⟨rfl, shC_put (W := 3) hD ho (fun c _ _ a b => x_up_ne b) (by rw [x_up_ne (by decide)]; exact h0) (by rw [x_up_ne (by decide)]; exact h1) (fun z hz => by rw [x_up_eq, h0]; show upd _ _ _ z = upd _ _ _ z; unfold upd; rw [hi z hz]), fun c hc => x_up_ne (fun z => hc (by rw [z]; decide))⟩
            · obtain ⟨j, hj, rfl⟩ := nI_of hi2.1
              exact absurd rfl (hn j (Nat.lt_of_not_le (fun z => hi2.2 (nI_le z hj))))
          · replace c35 := zi_n.mp c35
            refine ev_blk 1 [] 40 ([some (.ref 0), some (.int ((3 : Int32))), some (.int (i)), some (.int (v))], [.int ((-12 : Int32))], σ) rfl ?_ ?_
            · trivial
            have e : s_put D (nI 3) i v = (-12, D) := by rw [s_put, if_neg (fun q => q hg), hc, if_neg (by rw [← h0]; exact c19), if_pos (by rw [iN, ← h1]; exact c35)]
            rw [e]
            exact ev_iret rfl rfl rfl ⟨rfl, hD, xFr.rf⟩
        · replace c19 := zi_1.mp c19
          refine ev_blk 1 [] 24 ([some (.ref 0), some (.int ((3 : Int32))), some (.int (i)), some (.int (v))], [.int ((-11 : Int32))], σ) rfl ?_ ?_
          · trivial
          have e : s_put D (nI 3) i v = (-11, D) := by rw [s_put, if_neg (fun q => q hg), hc, if_pos (by rw [← h0]; exact c19)]
          rw [e]
          exact ev_iret rfl rfl rfl ⟨rfl, hD, xFr.rf⟩
      · exact absurd (by decide) c4
