def mR (σ : xSg) (s : aSt) : Prop := (∀ j, j < 10 → σ 80 j = s_oi (s.1 j)) ∧ σ 57 29 = nI s.2.1 ∧ σ 57 30 = s_oi s.2.2
theorem mR_fr {S P : List Nat} {σ σ1 : xSg} {s : aSt} (h : mR σ s) (hf : xFm S P σ σ1) (hS : (S.all fun c => !([80] : List Nat).contains c) = true) (hP : (P.all fun c => !([29, 30] : List Nat).contains c) = true) : mR σ1 s := by
  have e : σ1 80 = σ 80 := hf.1 80 (fun q => by have := List.all_eq_true.mp hS 80 q; cases this) (by decide)
  have e1 : σ1 57 29 = σ 57 29 := hf.2 29 (fun q => by have := List.all_eq_true.mp hP 29 q; cases this)
  have e2 : σ1 57 30 = σ 57 30 := hf.2 30 (fun q => by have := List.all_eq_true.mp hP 30 q; cases this)
  unfold mR
  rw [e, e1, e2]
  exact h
theorem SR_of {σ : xSg} {A B : List Nat} (hA : A.length ≤ 10) (hB : B.length ≤ 10) (h0 : rowL (σ 74) 0 A) (h1 : rowL (σ 74) 10 B) (k0 : σ 75 0 = nI A.length) (k1 : σ 75 1 = nI B.length) : SR σ A B :=
  ⟨hA, hB, fun i x hi => by have := h0 i x hi; rwa [Nat.zero_add] at this, h1, k0, k1⟩
def d_k (Co : Nat → Int32) (k t fr : Nat) : Bool := decide (t = fr) || (List.range k).any (fun x => decide (Co x = nI t))
set_option maxRecDepth 100000 in
theorem m_due (σ1 : xSg) (n t fr : Nat) (hn : σ1 57 0 = nI n) (hn10 : n ≤ 10) (Q : Option Value → xSg → Prop) (kK : xEv (.inl 4) M_X6_goesOn Q 84 ([some (.ref 57), some (.int (nI fr)), some (.int (nI t)), some (.int (zi (d_k (σ1 62) n t fr = true))), none], [], σ1)) : ∀ (m k : Nat), k + m = n → xEv (.inl 4) M_X6_goesOn Q 56 ([some (.ref 57), some (.int (nI fr)), some (.int (nI t)), some (.int (zi (d_k (σ1 62) k t fr = true))), some (.int (nI k))], [], σ1) := by
  intro m
  induction m with
  | zero =>
    intro k hk
    refine ev_br 3 [] ((σ1 57 0) ≤ (nI k)) 84 65 ([some (.ref 57), some (.int (nI fr)), some (.int (nI t)), some (.int (zi (d_k (σ1 62) k t fr = true))), some (.int (nI k))], [], σ1) rfl ?_ (fun c62 => ?_) (fun c62 => ?_)
    · trivial
    · have e : k = n := by omega
      subst e
      refine ev_drop 4 ?_
      exact kK
    · exact absurd (show σ1 57 0 ≤ nI k by rw [hn]; exact nI_le (by omega) (by omega)) c62
  | succ m ih =>
    intro k hk
    have hkc : (nI k).toNatClampNeg = k := nI_clamp (by omega)
    have hnx : d_k (σ1 62) (k + 1) t fr = (d_k (σ1 62) k t fr || decide (σ1 62 k = nI t)) := by unfold d_k; rw [List.range_succ, List.any_append]; simp [Bool.or_assoc]
    refine ev_br 3 [] ((σ1 57 0) ≤ (nI k)) 84 65 ([some (.ref 57), some (.int (nI fr)), some (.int (nI t)), some (.int (zi (d_k (σ1 62) k t fr = true))), some (.int (nI k))], [], σ1) rfl ?_ (fun c62 => ?_) (fun c62 => ?_)
    · trivial
    · exact absurd c62 (show ¬ σ1 57 0 ≤ nI k by rw [hn]; exact nI_ge (by omega) (by omega))
    · refine ev_br 5 [vp_in (nI k) 10] (¬ ((σ1 62) (nI k).toNatClampNeg) = (nI t)) 78 76 ([some (.ref 57), some (.int (nI fr)), some (.int (nI t)), some (.int (zi (d_k (σ1 62) k t fr = true))), some (.int (nI k))], [], σ1) rfl ?_ (fun c73 => ?_) (fun c73 => ?_)
      · exact vp_in_nI (by omega) (by decide)
      · rw [hkc] at c73
        refine ev_blk 2 [] 56 ([some (.ref 57), some (.int (nI fr)), some (.int (nI t)), some (.int (zi (d_k (σ1 62) k t fr = true))), some (.int ((nI k) + (1 : Int32)))], [], σ1) rfl ?_ ?_
        · trivial
        rw [nI_1]
        have e : d_k (σ1 62) (k + 1) t fr = d_k (σ1 62) k t fr := by rw [hnx, decide_eq_false c73, Bool.or_false]
        have e2 := ih (k + 1) (by omega)
        rw [e] at e2
        exact e2
      · rw [hkc] at c73
        refine ev_blk 4 [] 56 ([some (.ref 57), some (.int (nI fr)), some (.int (nI t)), some (.int ((1 : Int32))), some (.int ((nI k) + (1 : Int32)))], [], σ1) rfl ?_ ?_
        · trivial
        rw [nI_1]
        have e : d_k (σ1 62) (k + 1) t fr = true := by rw [hnx, decide_eq_true (Classical.byContradiction c73), Bool.or_true]
        have e2 := ih (k + 1) (by omega)
        rw [e] at e2
        exact e2
set_option maxRecDepth 100000 in
theorem m_begun (σ4 : xSg) (fr t : Nat) (dv : Int32) (Fl : sFl) (hF : MR σ4 Fl) (h10 : ∀ q ∈ Fl.2, q.1 < 10) (Q : Option Value → xSg → Prop) (kK : xEv (.inl 4) M_X6_goesOn Q 149 ([some (.ref 57), some (.int (nI fr)), some (.int (nI t)), some (.int (dv)), none], [], (x_up σ4 80 (fun j => if j ∈ (Fl.2.take Fl.2.length).map Prod.fst then nI t else σ4 80 j)))) : ∀ (m k : Nat) (g : Nat → Int32), k + m = Fl.2.length → g = (fun j => if j ∈ (Fl.2.take k).map Prod.fst then nI t else σ4 80 j) → xEv (.inl 4) M_X6_goesOn Q 121 ([some (.ref 57), some (.int (nI fr)), some (.int (nI t)), some (.int (dv)), some (.int (nI k))], [], (x_up σ4 80 g)) := by
  have hl := hF.1
  have h23 := hF.2.2.1
  intro m
  induction m with
  | zero =>
    intro k g hk hg
    refine ev_br 3 [] ((σ4 57 23) ≤ (nI k)) 149 130 ([some (.ref 57), some (.int (nI fr)), some (.int (nI t)), some (.int (dv)), some (.int (nI k))], [], (x_up σ4 80 g)) rfl ?_ (fun c127 => ?_) (fun c127 => ?_)
    · trivial
    · have e : k = Fl.2.length := by omega
      subst e
      subst hg
      refine ev_drop 4 ?_
      exact kK
    · exact absurd (show σ4 57 23 ≤ nI k by rw [h23]; exact nI_le (by omega) (by omega)) c127
  | succ m ih =>
    intro k g hk hg
    have hkc : (nI k).toNatClampNeg = k := nI_clamp (by omega)
    obtain ⟨q, hq⟩ : ∃ q, Fl.2[k]? = some q := ⟨_, List.getElem?_eq_getElem (by omega)⟩
    have hq10 := h10 q (List.mem_of_getElem? hq)
    have hv : (σ4 77) (nI k).toNatClampNeg = nI q.1 := by rw [hkc]; exact (hF.2.2.2 k q.1 q.2.1 q.2.2 hq).1
    have hvc : ((σ4 77) (nI k).toNatClampNeg).toNatClampNeg = q.1 := by rw [hv, nI_clamp (by omega)]
    refine ev_br 3 [] ((σ4 57 23) ≤ (nI k)) 149 130 ([some (.ref 57), some (.int (nI fr)), some (.int (nI t)), some (.int (dv)), some (.int (nI k))], [], (x_up σ4 80 g)) rfl ?_ (fun c127 => ?_) (fun c127 => ?_)
    · trivial
    · exact absurd c127 (show ¬ σ4 57 23 ≤ nI k by rw [h23]; exact nI_ge (by omega) (by omega))
    · refine ev_blk 10 [vp_in (nI k) 10, vp_in ((σ4 77) (nI k).toNatClampNeg) 10] 121 ([some (.ref 57), some (.int (nI fr)), some (.int (nI t)), some (.int (dv)), some (.int ((nI k) + (1 : Int32)))], [], (x_up (x_up σ4 80 g) 80 (upd g ((σ4 77) (nI k).toNatClampNeg).toNatClampNeg (nI t)))) rfl ?_ ?_
      · exact ⟨(vp_in_nI (by omega) (by decide)), (by rw [hv]; exact vp_in_nI hq10 (by decide))⟩
      rw [hvc]
      rw [nI_1, x_up_up]
      refine ih (k + 1) _ (by omega) ?_
      funext j
      rw [hg]
      have ht : (Fl.2.take (k + 1)).map Prod.fst = (Fl.2.take k).map Prod.fst ++ [q.1] := by rw [List.take_add_one, hq]; simp
      simp only [ht, List.mem_append, List.mem_singleton]
      unfold upd
      by_cases hj : j = q.1
      · rw [if_pos hj, if_pos (Or.inr hj)]
      · rw [if_neg hj]
        dsimp only
        by_cases hj2 : j ∈ (Fl.2.take k).map Prod.fst
        · rw [if_pos hj2, if_pos (Or.inl hj2)]
        · rw [if_neg hj2, if_neg (fun z => z.elim hj2 hj)]
set_option maxRecDepth 100000 in
theorem m_goesOn_lp (σ : xSg) (n : Nat) (A B : List Nat) (hM : mOk σ n A B) (hL : LR σ A B) (hn : σ 57 0 = nI n) (V : aSt) : ∀ (m t fr : Nat) (s : aSt) (σ1 : xSg), t + m = 2000 → fr ≤ 2100 → mR σ1 s → bgOk (atM σ) n s.1 → xFm scM scP σ σ1 → s_mr (atM σ) (tkM σ) A B n m t fr s = V → xEv (.inl 4) M_X6_goesOn (fun r σ2 => r = none ∧ mR σ2 V ∧ xFm scM scP σ σ2) 35 ([some (.ref 57), some (.int (nI fr)), some (.int (nI t)), none, none], [], σ1) := by
  have hn10 := hM.1.1
  have hla : laOk (atM σ) n A B := ⟨hM.1, hM.2.2⟩
  intro m
  induction m with
  | zero =>
    intro t fr s σ1 ht hf hR hbg hfr hV
    refine ev_br 2 [] ((2000 : Int32) ≤ (nI t)) 179 42 ([some (.ref 57), some (.int (nI fr)), some (.int (nI t)), none, none], [], σ1) rfl ?_ (fun c39 => ?_) (fun c39 => ?_)
    · trivial
    · exact ev_vret rfl rfl ⟨rfl, by rw [← hV]; exact hR, hfr⟩
    · exact absurd (show (2000 : Int32) ≤ nI t from nI_le (a := 2000) (by omega) (by omega)) c39
  | succ m ih =>
    intro t fr s σ1 ht hf hR hbg hfr hV
    have ha1 : atM σ1 = atM σ := atM_fr hfr rfl
    have ht1 : tkM σ1 = tkM σ := tkM_fr (hfr.1 69 (by decide) (by decide))
    have hn1 : σ1 57 0 = nI n := (hfr.2 0 (by decide)).trans hn
    have h62 : σ1 62 = σ 62 := hfr.1 62 (by decide) (by decide)
    have hmi := a_mi_ok hM.1
    have hdk : d_k (σ1 62) n t fr = a_due (atM σ) n t fr := by rw [h62]; rfl
    have at84 : xEv (.inl 4) M_X6_goesOn (fun r σ2 => r = none ∧ mR σ2 V ∧ xFm scM scP σ σ2) 84 ([some (.ref 57), some (.int (nI fr)), some (.int (nI t)), some (.int (zi (d_k (σ1 62) n t fr = true))), none], [], σ1) := by
      refine ev_br 2 [] ((nI t) < (nI fr)) 173 89 ([some (.ref 57), some (.int (nI fr)), some (.int (nI t)), some (.int (zi (d_k (σ1 62) n t fr = true))), none], [], σ1) rfl ?_ (fun c86 => ?_) (fun c86 => ?_)
      · trivial
      · refine ev_blk 2 [] 35 ([some (.ref 57), some (.int (nI fr)), some (.int ((nI t) + (1 : Int32))), some (.int (zi (d_k (σ1 62) n t fr = true))), none], [], σ1) rfl ?_ ?_
        · trivial
        rw [nI_1]
        refine ev_drop 3 ?_
        refine ih (t + 1) fr s σ1 (by omega) hf hR hbg hfr ?_
        rw [← hV]; conv => rhs; rw [s_mr, if_pos (Or.inl ((nI_ltI (by omega) (by omega)).mp c86))]
      · refine ev_br 1 [] (¬ (zi (d_k (σ1 62) n t fr = true)) = 0) 96 93 ([some (.ref 57), some (.int (nI fr)), some (.int (nI t)), some (.int (zi (d_k (σ1 62) n t fr = true))), none], [], σ1) rfl ?_ (fun c90 => ?_) (fun c90 => ?_)
        · trivial
        · replace c90 := zi_1.mp c90
          refine ev_blk 3 [] 99 ([some (.ref 57), some (.int (nI fr)), some (.int (nI t)), some (.int (zi (d_k (σ1 62) n t fr = true))), none], [.int (nI t), .int ((0 : Int32)), .ref 57], σ1) rfl ?_ ?_
          · trivial
          have hbt : ∀ x u, s.1 x = some u → u < 2 ^ 31 := fun x u hx => by have := (hbg x u hx).2.1; omega
          have hh0 : xFm scM scP σ σ1 := hfr
          have r800 : mR σ1 s := hR
          refine ev_callV M_X6_gathers [.int ((0 : Int32)), .int (nI t)] [] 57 rfl rfl ln_X6_189 k_X6_gathers rfl rfl rfl rfl rfl rfl (m_gat0 σ1 A s.1 t (by omega) (by have := hM.2.2.2.2.1; omega) (fun x hx => by have := hM.2.2.1 x hx; omega) (fun i x hi => by rw [hh0.1 66 (by decide) (by decide)]; exact hL.2.2.1 i x hi) (by rw [hh0.1 67 (by decide) (by decide)]; exact hL.2.2.2.2.1) (fun x hx => r800.1 x (by have := hM.2.2.1 x hx; omega)) (fun x => (s.1 x).isNone && decide ((σ 62) x ≤ nI t)) (fun x _ => by rw [hh0.1 62 (by decide) (by decide)]) hbt) ?_
          rintro r σ2 ⟨rfl, hrow0, hout0, hst0, hg1⟩
          rw [hh0.1 62 (by decide) (by decide)] at hrow0 hst0
          show xEv _ _ _ 102 ([some (.ref 57), some (.int (nI fr)), some (.int (nI t)), some (.int (zi (d_k (σ1 62) n t fr = true))), none], [], σ2)
          refine ev_blk 3 [] 105 ([some (.ref 57), some (.int (nI fr)), some (.int (nI t)), some (.int (zi (d_k (σ1 62) n t fr = true))), none], [.int (nI t), .int ((1 : Int32)), .ref 57], σ2) rfl ?_ ?_
          · trivial
          have hh1 : xFm scM scP σ σ2 := (hfr.tr (hg1.mono rfl rfl))
          have r801 : mR σ2 s := mR_fr hR hg1 rfl rfl
          refine ev_callV M_X6_gathers [.int ((1 : Int32)), .int (nI t)] [] 57 rfl rfl ln_X6_189 k_X6_gathers rfl rfl rfl rfl rfl rfl (m_gat1 σ2 B s.1 t (by omega) (by have := hM.2.2.2.2.1; omega) (fun x hx => by have := hM.2.2.2.1 x hx; omega) (fun i x hi => by rw [hh1.1 66 (by decide) (by decide)]; exact hL.2.2.2.1 i x hi) (by rw [hh1.1 67 (by decide) (by decide)]; exact hL.2.2.2.2.2) (fun x hx => r801.1 x (by have := hM.2.2.2.1 x hx; omega)) (fun x => (s.1 x).isNone && decide ((σ 62) x ≤ nI t)) (fun x _ => by rw [hh1.1 62 (by decide) (by decide)]) hbt) ?_
          rintro r σ3 ⟨rfl, hrow1, hout1, hst1, hg2⟩
          rw [hh1.1 62 (by decide) (by decide)] at hrow1 hst1
          show xEv _ _ _ 108 ([some (.ref 57), some (.int (nI fr)), some (.int (nI t)), some (.int (zi (d_k (σ1 62) n t fr = true))), none], [], σ3)
          refine ev_blk 1 [] 109 ([some (.ref 57), some (.int (nI fr)), some (.int (nI t)), some (.int (zi (d_k (σ1 62) n t fr = true))), none], [.ref 57], σ3) rfl ?_ ?_
          · trivial
          have hf3 : xFm scM scP σ σ3 := (hfr.tr (hg1.mono rfl rfl)).tr (hg2.mono rfl rfl)
          have ha3 : atM σ3 = atM σ := atM_fr hf3 rfl
          have ht3 : tkM σ3 = tkM σ := tkM_fr (hf3.1 69 (by decide) (by decide))
          have hM3 : mOk σ3 n A B := mOk_fr hM hf3 rfl
          have hlA : (a_gl (atM σ) s.1 t A).length ≤ A.length := by unfold a_gl; rw [s_srt_len]; exact List.length_filter_le _ _
          have hlB : (a_gl (atM σ) s.1 t B).length ≤ B.length := by unfold a_gl; rw [s_srt_len]; exact List.length_filter_le _ _
          have hAB := hM.2.2.2.2.1
          have hSR : SR σ3 (a_gl (atM σ) s.1 t A) (a_gl (atM σ) s.1 t B) := by
            refine SR_of (by omega) (by omega) (fun i x hi => ?_) hrow1 ?_ ?_
            · have hil := (List.getElem?_eq_some_iff.mp hi).1
              rw [hout1 _ (by omega)]
              exact hrow0 i x hi
            · rw [hst1, hst0]; rw [upd_ne (by decide), upd_eq]; rfl
            · rw [hst1, upd_eq]; rfl
          refine ev_callV M_X6_fills [] [] 57 rfl rfl ln_X6_172 k_X6_fills rfl rfl rfl rfl rfl rfl (m_fills σ3 n (a_gl (atM σ) s.1 t A) (a_gl (atM σ) s.1 t B) hM3.1 hM3.2.1 hSR (fun x hx => hM.2.2.1 x (a_gl_in hx).1) (fun x hx => hM.2.2.2.1 x (a_gl_in hx).1) (by omega)) ?_
          rintro r σ4 ⟨rfl, hF, _, hf4⟩
          rw [ha3, ht3] at hF ⊢
          have hf4s : xFm scM scP σ σ4 := hf3.tr (hf4.mono rfl rfl)
          have hl10 : (s_went (a_fl (atM σ) (tkM σ) A B s.1 t)).length ≤ 10 := hF.1
          have hR4 : mR σ4 s := mR_fr (mR_fr (mR_fr hR hg1 rfl rfl) hg2 rfl rfl) hf4 rfl rfl
          show xEv _ _ _ 112 ([some (.ref 57), some (.int (nI fr)), some (.int (nI t)), some (.int (zi (d_k (σ1 62) n t fr = true))), none], [.int (nI (s_went (a_fl (atM σ) (tkM σ) A B s.1 t)).length)], σ4)
          refine ev_br 0 [] (¬ (nI (s_went (a_fl (atM σ) (tkM σ) A B s.1 t)).length) = 0) 118 115 ([some (.ref 57), some (.int (nI fr)), some (.int (nI t)), some (.int (zi (d_k (σ1 62) n t fr = true))), none], [], σ4) rfl ?_ (fun c112 => ?_) (fun c112 => ?_)
          · trivial
          · refine ev_blk 2 [] 121 ([some (.ref 57), some (.int (nI fr)), some (.int (nI t)), some (.int (zi (d_k (σ1 62) n t fr = true))), some (.int ((0 : Int32)))], [], σ4) rfl ?_ ?_
            · trivial
            have hng : ¬ (t < fr ∨ a_due (atM σ) n t fr = false) := by
              rintro (z | z)
              · exact c86 (nI_lt z (by omega))
              · rw [← hdk, show d_k (σ1 62) n t fr = true from c90] at z; cases z
            have hwn : ∃ q l, s_went (a_fl (atM σ) (tkM σ) A B s.1 t) = q :: l := by
              cases hww : s_went (a_fl (atM σ) (tkM σ) A B s.1 t) with
              | nil => rw [hww] at c112; exact absurd rfl c112
              | cons q l => exact ⟨q, l, rfl⟩
            have e93 : (σ4 68 3) = nI (a_mi (atM σ)) := by rw [hf4s.1 68 (by decide) (by decide)]; exact hmi.1
            have hx80 := fun kK => m_begun σ4 fr t (zi (d_k (σ1 62) n t fr = true)) (a_fl (atM σ) (tkM σ) A B s.1 t).2.2.2.2.2 hF (fun q hq => by have := laOk_lt hla (a_fl_w (tk := tkM σ) (t := t) hla (bg := s.1) q.1 (List.mem_map_of_mem hq)).1; omega) (fun r σ2 => r = none ∧ mR σ2 V ∧ xFm scM scP σ σ2) kK (s_went (a_fl (atM σ) (tkM σ) A B s.1 t)).length 0 (σ4 80) (by rw [Nat.zero_add]; rfl) (by funext j; simp)
            rw [x_up_self] at hx80
            refine hx80 ?_
            show xEv _ _ _ 149 ([some (.ref 57), some (.int (nI fr)), some (.int (nI t)), some (.int (zi (d_k (σ1 62) n t fr = true))), none], [], (x_up σ4 80 (fun j => if j ∈ ((s_went (a_fl (atM σ) (tkM σ) A B s.1 t)).take (s_went (a_fl (atM σ) (tkM σ) A B s.1 t)).length).map Prod.fst then nI t else σ4 80 j)))
            refine ev_blk 18 [vp_in ((3 : Int32)) 5] 35 ([some (.ref 57), some (.int ((nI t) + ((σ4 68) 3))), some (.int ((nI t) + (1 : Int32))), some (.int (zi (d_k (σ1 62) n t fr = true))), none], [], (x_up (x_up (x_up σ4 80 (fun j => if j ∈ ((s_went (a_fl (atM σ) (tkM σ) A B s.1 t)).take (s_went (a_fl (atM σ) (tkM σ) A B s.1 t)).length).map Prod.fst then nI t else σ4 80 j)) 57 (upd (σ4 57) 29 ((σ4 57 29) + (1 : Int32)))) 57 (upd (upd (σ4 57) 29 ((σ4 57 29) + (1 : Int32))) 30 (nI t)))) rfl ?_ ?_
            · exact vp_in_nI (n := 3) (by decide) (by decide)
            refine ev_drop 3 ?_
            rw [nI_1, e93, nI_add]
            refine ih (t + 1) (t + a_mi (atM σ)) (a_up s.1 (s_went (a_fl (atM σ) (tkM σ) A B s.1 t)) t, s.2.1 + 1, some t) _ (by omega) (by omega) ⟨fun j hj => ?_, ?_, ?_⟩ ?_ (hf4s.tr ⟨fun c hc hn => ?_, fun k hk => ?_⟩) ?_
            · rw [x_up_ne (by decide), x_up_ne (by decide), x_up_eq, List.take_length]
              dsimp only [a_up]
              by_cases hj2 : j ∈ (s_went (a_fl (atM σ) (tkM σ) A B s.1 t)).map Prod.fst
              · rw [if_pos hj2, if_pos hj2]; rfl
              · rw [if_neg hj2, if_neg hj2]; exact hR4.1 j hj
            · simp [x_up, upd, hR4.2.1, nI_1]
            · simp [x_up, upd]; rfl
            · intro x u hx
              dsimp only [a_up] at hx
              split at hx
              next hm =>
                cases hx
                obtain ⟨k1, k2, k3⟩ := a_fl_w (tk := tkM σ) (t := t) hla (bg := s.1) x hm
                exact ⟨laOk_lt hla k1, by omega, k3⟩
              next hm => exact hbg x u hx
            · have h80 : c ≠ 80 := fun z => hc (by rw [z]; decide)
              simp [x_up, h80, hn]
            · have h29 : k ≠ 29 := fun z => hk (by rw [z]; decide)
              have h30 : k ≠ 30 := fun z => hk (by rw [z]; decide)
              simp [x_up, upd, h29, h30]
            · rw [← hV]; conv => rhs; rw [s_mr, if_neg hng]
              obtain ⟨q, l, hql⟩ := hwn
              rw [hql]
          · refine ev_blk 3 [] 35 ([some (.ref 57), some (.int (nI fr)), some (.int ((nI t) + (1 : Int32))), some (.int (zi (d_k (σ1 62) n t fr = true))), none], [], σ4) rfl ?_ ?_
            · trivial
            rw [nI_1]
            refine ev_drop 3 ?_
            have hng : ¬ (t < fr ∨ a_due (atM σ) n t fr = false) := by
              rintro (z | z)
              · exact c86 (nI_lt z (by omega))
              · rw [← hdk, show d_k (σ1 62) n t fr = true from c90] at z; cases z
            have hw0 : s_went (a_fl (atM σ) (tkM σ) A B s.1 t) = [] := by
              cases hww : s_went (a_fl (atM σ) (tkM σ) A B s.1 t) with
              | nil => rfl
              | cons q l => rw [hww] at c112 hl10; exact absurd (Classical.byContradiction c112) (nI_ne0 (by simp) (by omega))
            refine ih (t + 1) fr s σ4 (by omega) hf hR4 hbg hf4s ?_
            rw [← hV]; conv => rhs; rw [s_mr, if_neg hng, hw0]
        · replace c90 := zi_n.mp c90
          refine ev_blk 3 [] 35 ([some (.ref 57), some (.int (nI fr)), some (.int ((nI t) + (1 : Int32))), some (.int (zi (d_k (σ1 62) n t fr = true))), none], [], σ1) rfl ?_ ?_
          · trivial
          rw [nI_1]
          refine ev_drop 3 ?_
          refine ih (t + 1) fr s σ1 (by omega) hf hR hbg hfr ?_
          rw [← hV]; conv => rhs; rw [s_mr, if_pos (Or.inr (by rw [← hdk]; cases hz : d_k (σ1 62) n t fr with | false => rfl | true => exact absurd hz c90))]
    refine ev_br 2 [] ((2000 : Int32) ≤ (nI t)) 179 42 ([some (.ref 57), some (.int (nI fr)), some (.int (nI t)), none, none], [], σ1) rfl ?_ (fun c39 => ?_) (fun c39 => ?_)
    · trivial
    · exact absurd c39 (nI_ge (b := 2000) (by omega) (by decide))
    · refine ev_br 2 [] (¬ (nI t) = (nI fr)) 51 47 ([some (.ref 57), some (.int (nI fr)), some (.int (nI t)), none, none], [], σ1) rfl ?_ (fun c44 => ?_) (fun c44 => ?_)
      · trivial
      · refine ev_blk 4 [] 56 ([some (.ref 57), some (.int (nI fr)), some (.int (nI t)), some (.int ((0 : Int32))), some (.int ((0 : Int32)))], [], σ1) rfl ?_ ?_
        · trivial
        have e0 : d_k (σ1 62) 0 t fr = false := by unfold d_k; simp only [List.range_zero, List.any_nil, Bool.or_false]; exact decide_eq_false (fun q => c44 (by rw [q]))
        have h := m_due σ1 n t fr hn1 hn10 _ at84 n 0 (by omega)
        rw [e0] at h
        exact h
      · refine ev_blk 5 [] 56 ([some (.ref 57), some (.int (nI fr)), some (.int (nI t)), some (.int ((1 : Int32))), some (.int ((0 : Int32)))], [], σ1) rfl ?_ ?_
        · trivial
        have e0 : d_k (σ1 62) 0 t fr = true := by unfold d_k; simp only [List.range_zero, List.any_nil, Bool.or_false]; exact decide_eq_true ((nI_eq (by omega) (by omega)).mp (Classical.byContradiction c44))
        have h := m_due σ1 n t fr hn1 hn10 _ at84 n 0 (by omega)
        rw [e0] at h
        exact h
set_option maxRecDepth 100000 in
theorem m_goesOn_0 (σ : xSg) (n : Nat) (A B : List Nat) (hM : mOk σ n A B) (hL : LR σ A B) (hn : σ 57 0 = nI n) : ∀ (m i : Nat) (g : Nat → Int32), i + m = 10 → (∀ j, j < i → g j = -1) → xEv (.inl 4) M_X6_goesOn (fun r σ2 => r = none ∧ mR σ2 (s_ar (atM σ) (tkM σ) A B 21 0 (fun _ => none, 0, none)) ∧ xFm scM scP σ σ2) 2 ([some (.ref 57), some (.int (nI i)), none, none, none], [], (x_up σ 80 g)) := by
  intro m
  induction m with
  | zero =>
    intro i g hi hg
    refine ev_br 2 [] ((10 : Int32) ≤ (nI i)) 21 8 ([some (.ref 57), some (.int (nI i)), none, none, none], [], (x_up σ 80 g)) rfl ?_ (fun c5 => ?_) (fun c5 => ?_)
    · trivial
    · refine ev_blk 10 [] 35 ([some (.ref 57), some (.int ((0 : Int32))), some (.int ((0 : Int32))), none, none], [], (x_up (x_up (x_up σ 80 g) 57 (upd (σ 57) 29 ((0 : Int32)))) 57 (upd (upd (σ 57) 29 ((0 : Int32))) 30 ((-1 : Int32))))) rfl ?_ ?_
      · trivial
      have hla : laOk (atM σ) n A B := ⟨hM.1, hM.2.2⟩
      refine m_goesOn_lp σ n A B hM hL hn _ 2000 0 0 (fun _ => none, 0, none) _ (by decide) (by decide) ⟨fun j hj => ?_, ?_, ?_⟩ (fun x u hx => by cases hx) ⟨fun c hc hn => ?_, fun k hk => ?_⟩ (mr_all hla)
      · rw [x_up_ne (by decide), x_up_ne (by decide), x_up_eq]; exact hg j (by omega)
      · simp [x_up, upd]; rfl
      · simp [x_up, upd]; rfl
      · have h80 : c ≠ 80 := fun z => hc (by rw [z]; decide)
        simp [x_up, h80, hn]
      · have h29 : k ≠ 29 := fun z => hk (by rw [z]; decide)
        have h30 : k ≠ 30 := fun z => hk (by rw [z]; decide)
        simp [x_up, upd, h29, h30]
    · exact absurd (show (10 : Int32) ≤ nI i from nI_le (a := 10) (by omega) (by omega)) c5
  | succ m ih =>
    intro i g hi hg
    have hic : (nI i).toNatClampNeg = i := nI_clamp (by omega)
    refine ev_br 2 [] ((10 : Int32) ≤ (nI i)) 21 8 ([some (.ref 57), some (.int (nI i)), none, none, none], [], (x_up σ 80 g)) rfl ?_ (fun c5 => ?_) (fun c5 => ?_)
    · trivial
    · exact absurd c5 (nI_ge (b := 10) (by omega) (by decide))
    · refine ev_blk 7 [vp_in (nI i) 10] 2 ([some (.ref 57), some (.int ((nI i) + (1 : Int32))), none, none, none], [], (x_up (x_up σ 80 g) 80 (upd g (nI i).toNatClampNeg ((-1 : Int32))))) rfl ?_ ?_
      · exact vp_in_nI (by omega) (by decide)
      rw [hic]
      rw [nI_1, x_up_up]
      refine ih (i + 1) _ (by omega) (fun j hj => ?_)
      by_cases hji : j = i
      · rw [hji, upd_eq]
      · rw [upd_ne hji]; exact hg j (by omega)
set_option maxRecDepth 100000 in
theorem m_goesOn (σ : xSg) (n : Nat) (A B : List Nat) (hM : mOk σ n A B) (hL : LR σ A B) (hn : σ 57 0 = nI n) : xCtr M_X6_goesOn [.ref 57] σ (fun r σ2 => r = none ∧ mR σ2 (s_ar (atM σ) (tkM σ) A B 21 0 (fun _ => none, 0, none)) ∧ xFm scM scP σ σ2) := by
  refine ctr_ev ok_X6_goesOn (by decide +kernel) rfl rfl rfl ?_
  show xEv (.inl 4) M_X6_goesOn _ 0 ([some (.ref 57), none, none, none, none], [], σ)
  refine ev_blk 2 [] 2 ([some (.ref 57), some (.int ((0 : Int32))), none, none, none], [], σ) rfl ?_ ?_
  · trivial
  have h := m_goesOn_0 σ n A B hM hL hn 10 0 (σ 80) (by omega) (fun j hj => absurd hj (Nat.not_lt_zero j))
  rw [x_up_self] at h
  exact h
