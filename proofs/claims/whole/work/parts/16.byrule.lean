theorem atC_fr {S : List Nat} {σ σ1 : xSg} (h : xFr S σ σ1) (hS : (S.all fun c => !([2, 3, 4, 5, 6, 7, 9] : List Nat).contains c) = true) : atC σ1 = atC σ := by
  have k : ∀ c, ([2, 3, 4, 5, 6, 7, 9] : List Nat).contains c = true → σ1 c = σ c := fun c hc => h c (fun q => by
    have := List.all_eq_true.mp hS c q
    rw [hc] at this
    cases this)
  unfold atC
  rw [k 2 rfl, k 3 rfl, k 4 rfl, k 5 rfl, k 6 rfl, k 7 rfl, k 9 rfl]
theorem lnp_clr {n x y : Nat} {still l : Int32} {La : Nat → Int32} (hn : n ≤ 10) (hx : x < 32) : s_lnp n (still &&& ((1 : Int32) <<< (nI x &&& 31) ^^^ (-1 : Int32))) La l y = (s_lnp n still La l y && !decide (y = x)) := by
  unfold s_lnp
  by_cases hy : y < n
  · rw [b_clr hx (by omega)]
    cases bt still y <;> cases decide (La y = l) <;> simp
  · simp [hy]
theorem lnp_keep {n x : Nat} {still l l' : Int32} {La : Nat → Int32} {ord : List Nat} (hn : n ≤ 10) (hx : x < 32) (h : La x = l') (hl : l' ≠ l) : ord.filter (s_lnp n (still &&& ((1 : Int32) <<< (nI x &&& 31) ^^^ (-1 : Int32))) La l) = ord.filter (s_lnp n still La l) := by
  refine List.filter_congr (fun y _ => ?_)
  rw [lnp_clr hn hx]
  by_cases hy : y = x
  · subst hy
    have : decide (La y = l) = false := by simp [h, hl]
    simp [s_lnp, this]
  · simp [hy]
theorem wmem {l : List (Nat × Nat × Nat)} {x r p j : Nat} : decide (j ∈ (l ++ [(x, r, p)]).map Prod.fst) = (decide (j ∈ l.map Prod.fst) || decide (j = x)) := by
  rw [List.map_append, ← Bool.decide_or]
  exact decide_eq_decide.mpr (by rw [List.mem_append]; simp)
def bQ (a : sAt) (σ : xSg) (T : sSt) : Option Value → xSg → Prop := fun r σ' => ∃ inm : Int32, r = some (.int inm) ∧ (∀ j, j < 32 → bt inm j = decide (j ∈ (s_went T).map Prod.fst)) ∧ FR a σ' 26 27 28 29 30 T.2.2.2.2.2 ∧ xFr [26, 27, 28, 29, 30] σ σ'
set_option maxRecDepth 100000 in
theorem c_byRule104_lp (σ : xSg) (a : sAt) (n : Nat) (ord : List Nat) (w : Int32) (T : sSt) (hok : aOk a n) : ∀ (m k : Nat) (σ1 : xSg) (still la : Int32) (o0 o1 : Bool) (F : sFl), k + m = 12 → atC σ1 = a → σ1 1 0 = nI n → ordOk ord (fun i => ([0, 1, 2, 3, 4, 5, 6, 7, 8, 9] : List Int32).getD i 0) → xFr [26, 27, 28, 29, 30] σ σ1 → FR a σ1 26 27 28 29 30 F → (∀ j, j < 32 → bt still j = (bt w j && !decide (j ∈ F.2.map Prod.fst))) → (∀ j ∈ F.2.map Prod.fst, bt w j = true ∧ j < 32) → F.2.length + (ord.filter (s_lnp n still (σ1 7) 0)).length + (ord.filter (s_lnp n still (σ1 7) 1)).length ≤ 10 → s_run a m ((ord.filter (s_lnp n still (σ1 7) 0)), (ord.filter (s_lnp n still (σ1 7) 1)), o0, o1, decide (la = 0), F) = T → xEv (.inl 4) M_X2_byRule (bQ a σ T) 15 ([some (.ref 26), some (.int (w)), some (.ref 104), some (.int (still)), some (.int (s_ov o0 o1)), some (.int (la)), some (.int (nI k)), none], [], σ1) := by
  have hn10 := hok.1
  have fin : ∀ (σ1 : xSg) (still : Int32) (F : sFl), xFr [26, 27, 28, 29, 30] σ σ1 → FR a σ1 26 27 28 29 30 F → (∀ j, j < 32 → bt still j = (bt w j && !decide (j ∈ F.2.map Prod.fst))) → (∀ j ∈ F.2.map Prod.fst, bt w j = true ∧ j < 32) → T.2.2.2.2.2 = F → bQ a σ T (some (.int (w &&& (still ^^^ (-1 : Int32))))) σ1 := by
    intro σ1 still F hfr hF hB hW hT
    refine ⟨_, rfl, fun j hj => ?_, by rw [hT]; exact hF, hfr⟩
    rw [b_and, b_not hj, hB j hj]
    unfold s_went
    rw [hT]
    by_cases hm : j ∈ F.2.map Prod.fst
    · simp only [hm, decide_true, Bool.not_true, Bool.and_false, Bool.not_false, Bool.and_true]
      exact (hW j hm).1
    · simp only [hm, decide_false, Bool.not_false, Bool.and_true]
      cases bt w j <;> rfl
  intro m
  induction m with
  | zero =>
    intro k σ1 still la o0 o1 F hk ha hn ho hfr hF hB hW hlen hT
    refine ev_br 2 [] ((12 : Int32) ≤ (nI k)) 107 22 ([some (.ref 26), some (.int (w)), some (.ref 104), some (.int (still)), some (.int (s_ov o0 o1)), some (.int (la)), some (.int (nI k)), none], [], σ1) rfl ?_ (fun c19 => ?_) (fun c19 => ?_)
    · trivial
    · refine ev_blk 5 [] 112 ([some (.ref 26), some (.int (w)), some (.ref 104), some (.int (still)), some (.int (s_ov o0 o1)), some (.int (la)), some (.int (nI k)), none], [.int (w &&& (still ^^^ (-1 : Int32)))], σ1) rfl ?_ ?_
      · trivial
      exact ev_iret rfl rfl rfl (fin σ1 still F hfr hF hB hW (by rw [← hT]; rfl))
    · exact absurd (show (12 : Int32) ≤ nI k by rw [show k = 12 by omega]; decide) c19
  | succ m ih =>
    intro k σ1 still la o0 o1 F hk ha hn ho hfr hF hB hW hlen hT
    subst ha
    refine ev_br 2 [] ((12 : Int32) ≤ (nI k)) 107 22 ([some (.ref 26), some (.int (w)), some (.ref 104), some (.int (still)), some (.int (s_ov o0 o1)), some (.int (la)), some (.int (nI k)), none], [], σ1) rfl ?_ (fun c19 => ?_) (fun c19 => ?_)
    · trivial
    · exact absurd c19 (nI_ge (b := 12) (by omega) (by decide))
    · refine ev_blk 5 [] 29 ([some (.ref 26), some (.int (w)), some (.ref 104), some (.int (still)), some (.int (s_ov o0 o1)), some (.int (la)), some (.int (nI k)), none], [.int (la), .ref 104, .int (s_ov o0 o1), .int (still), .ref 26], σ1) rfl ?_ ?_
      · trivial
      refine ev_callV M_X2_nextHead [.int (still), .int (s_ov o0 o1), .ref 104, .int (la)] [] 26 rfl rfl ln_X2_81 k_X2_nextHead rfl rfl rfl rfl rfl rfl (c_next104 σ1 n ord still la o0 o1 hn10 hn ho) ?_
      refine pu_k ?_
      show xEv _ _ _ 32 ([some (.ref 26), some (.int (w)), some (.ref 104), some (.int (still)), some (.int (s_ov o0 o1)), some (.int (la)), some (.int (nI k)), none], [.int (s_hp (s_pick (atC σ1) (decide (la = 0)) (s_opn o0 (ord.filter (s_lnp n still (σ1 7) 0))) (s_opn o1 (ord.filter (s_lnp n still (σ1 7) 1)))))], σ1)
      cases hp : s_pick (atC σ1) (decide (la = 0)) (s_opn o0 (ord.filter (s_lnp n still (σ1 7) 0))) (s_opn o1 (ord.filter (s_lnp n still (σ1 7) 1))) with
      | none =>
        show xEv _ _ _ 32 ([some (.ref 26), some (.int (w)), some (.ref 104), some (.int (still)), some (.int (s_ov o0 o1)), some (.int (la)), some (.int (nI k)), none], [.int ((-1 : Int32))], σ1)
        refine ev_blk 4 [] 40 ([some (.ref 26), some (.int (w)), some (.ref 104), some (.int (still)), some (.int (s_ov o0 o1)), some (.int (la)), some (.int (nI k)), some (.int ((-1 : Int32)))], [.int ((-1 : Int32)), .ref 1], σ1) rfl ?_ ?_
        · trivial
        refine ev_callV M_X3_isShip [.int ((-1 : Int32))] [] 1 rfl rfl ln_X2_59 k_X3_isShip rfl rfl rfl rfl rfl rfl (c_isShip _ _) ?_
        refine pu_k ?_
        show xEv _ _ _ 43 ([some (.ref 26), some (.int (w)), some (.ref 104), some (.int (still)), some (.int (s_ov o0 o1)), some (.int (la)), some (.int (nI k)), some (.int ((-1 : Int32)))], [.int (zi (iSh σ1 (-1 : Int32)))], σ1)
        refine ev_br 0 [] (¬ (zi (iSh σ1 (-1 : Int32))) = 0) 49 46 ([some (.ref 26), some (.int (w)), some (.ref 104), some (.int (still)), some (.int (s_ov o0 o1)), some (.int (la)), some (.int (nI k)), some (.int ((-1 : Int32)))], [], σ1) rfl ?_ (fun c43 => ?_) (fun c43 => ?_)
        · trivial
        · exact absurd (show (-1 : Int32) < 0 by decide) (zi_1.mp c43).1
        · replace c43 := zi_n.mp c43
          refine ev_blk 6 [] 112 ([some (.ref 26), some (.int (w)), some (.ref 104), some (.int (still)), some (.int (s_ov o0 o1)), some (.int (la)), some (.int (nI k)), some (.int ((-1 : Int32)))], [.int (w &&& (still ^^^ (-1 : Int32)))], σ1) rfl ?_ ?_
          · trivial
          exact ev_iret rfl rfl rfl (fin σ1 still F hfr hF hB hW (by rw [← hT, s_run_none (s_st_n hp)]))
      | some q =>
        obtain ⟨x, b⟩ := q
        show xEv _ _ _ 32 ([some (.ref 26), some (.int (w)), some (.ref 104), some (.int (still)), some (.int (s_ov o0 o1)), some (.int (la)), some (.int (nI k)), none], [.int (nI x)], σ1)
        cases b with
        | false =>
          obtain ⟨t, ht⟩ := s_pick_0 hp
          obtain ⟨ho0, hft⟩ := s_opn_c ht
          have hx := lnp_lt (show x ∈ (ord.filter (s_lnp n still (σ1 7) 0)) by rw [hft]; exact List.mem_cons_self)
          have hsx : iSh σ1 (nI x) := ⟨nI_pos (by omega), by rw [hn]; exact nI_ge hx.1 (by omega), nI_ge (b := 10) (by omega) (by omega)⟩
          have hxc : (nI x).toNatClampNeg = x := nI_clamp (by omega)
          have hFl : F.2.length < 10 := by rw [hft] at hlen; simp only [List.length_cons] at hlen; omega
          refine ev_blk 4 [] 40 ([some (.ref 26), some (.int (w)), some (.ref 104), some (.int (still)), some (.int (s_ov o0 o1)), some (.int (la)), some (.int (nI k)), some (.int (nI x))], [.int (nI x), .ref 1], σ1) rfl ?_ ?_
          · trivial
          refine ev_callV M_X3_isShip [.int (nI x)] [] 1 rfl rfl ln_X2_59 k_X3_isShip rfl rfl rfl rfl rfl rfl (c_isShip _ _) ?_
          refine pu_k ?_
          show xEv _ _ _ 43 ([some (.ref 26), some (.int (w)), some (.ref 104), some (.int (still)), some (.int (s_ov o0 o1)), some (.int (la)), some (.int (nI k)), some (.int (nI x))], [.int (zi (iSh σ1 (nI x)))], σ1)
          refine ev_br 0 [] (¬ (zi (iSh σ1 (nI x))) = 0) 49 46 ([some (.ref 26), some (.int (w)), some (.ref 104), some (.int (still)), some (.int (s_ov o0 o1)), some (.int (la)), some (.int (nI k)), some (.int (nI x))], [], σ1) rfl ?_ (fun c43 => ?_) (fun c43 => ?_)
          · trivial
          · replace c43 := zi_1.mp c43
            refine ev_blk 2 [] 52 ([some (.ref 26), some (.int (w)), some (.ref 104), some (.int (still)), some (.int (s_ov o0 o1)), some (.int (la)), some (.int (nI k)), some (.int (nI x))], [.int (nI x), .ref 26], σ1) rfl ?_ ?_
            · trivial
            refine ev_callV M_X2_enter [.int (nI x)] [] 26 rfl rfl ln_X2_85 k_X2_enter rfl rfl rfl rfl rfl rfl (c_enter26 σ1 n x F hok hn hx.1 hF hFl) ?_
            rintro r σ2 (⟨F2, hF2, rfl, hR2, hf2⟩ | ⟨hN, rfl, e2⟩)
            · show xEv _ _ _ 55 ([some (.ref 26), some (.int (w)), some (.ref 104), some (.int (still)), some (.int (s_ov o0 o1)), some (.int (la)), some (.int (nI k)), some (.int (nI x))], [.int ((1 : Int32))], σ2)
              refine ev_br 0 [] ((1 : Int32) = 0) 82 58 ([some (.ref 26), some (.int (w)), some (.ref 104), some (.int (still)), some (.int (s_ov o0 o1)), some (.int (la)), some (.int (nI k)), some (.int (nI x))], [], σ2) rfl ?_ (fun c55 => ?_) (fun c55 => ?_)
              · trivial
              · exact absurd c55 (by decide)
              · refine ev_blk 17 [vp_in (nI x) 10] 15 ([some (.ref 26), some (.int (w)), some (.ref 104), some (.int (still &&& (((1 : Int32) <<< ((nI x) &&& 31)) ^^^ (-1 : Int32)))), some (.int (s_ov o0 o1)), some (.int ((σ2 7) (nI x).toNatClampNeg)), some (.int ((nI k) + (1 : Int32))), some (.int (nI x))], [], σ2) rfl ?_ ?_
                · exact vp_in_nI (by omega) (by decide)
                rw [hxc]
                refine ev_drop 7 ?_
                have e7 : σ2 7 = σ1 7 := hf2 7 (by decide)
                have hae := atC_fr hf2 rfl
                obtain ⟨r2, p2, hw2⟩ := s_in_w hF2
                have f0 : ord.filter (s_lnp n (still &&& ((1 : Int32) <<< (nI x &&& 31) ^^^ (-1 : Int32))) (σ1 7) 0) = t := fl_clr ho.2.1 hft (fun y => lnp_clr hn10 (by omega))
                have f1 : ord.filter (s_lnp n (still &&& ((1 : Int32) <<< (nI x &&& 31) ^^^ (-1 : Int32))) (σ1 7) 1) = (ord.filter (s_lnp n still (σ1 7) 1)) := lnp_keep hn10 (by omega) hx.2.2 (by decide)
                rw [e7, hx.2.2, nI_1]
                refine ih (k + 1) σ2 (still &&& ((1 : Int32) <<< (nI x &&& 31) ^^^ (-1 : Int32))) _ o0 o1 F2 (by omega) hae ((congrFun (hf2 1 (by decide)) 0).trans hn) ho (hfr.tr hf2) hR2 (fun j hj => ?_) (fun j hj => ?_) ?_ ?_
                · rw [b_clr (by omega) hj, hB j hj, hw2, wmem, Bool.not_or, Bool.and_assoc]
                · rw [hw2] at hj
                  simp only [List.map_append, List.map_cons, List.map_nil, List.mem_append, List.mem_singleton] at hj
                  rcases hj with hj | rfl
                  · exact hW j hj
                  · have h1 := hB j (by omega)
                    rw [hx.2.1] at h1
                    refine ⟨?_, by omega⟩
                    cases hwj : bt w j with
                    | true => rfl
                    | false => rw [hwj] at h1; simp at h1
                · rw [e7, f0, f1, hw2]
                  rw [hft] at hlen
                  simp only [List.length_append, List.length_cons, List.length_nil] at hlen ⊢
                  omega
                · rw [e7, f0, f1, ← hT, s_run_some (s_st_0 hp hF2), hft]
                  rfl
            · rw [e2]
              show xEv _ _ _ 55 ([some (.ref 26), some (.int (w)), some (.ref 104), some (.int (still)), some (.int (s_ov o0 o1)), some (.int (la)), some (.int (nI k)), some (.int (nI x))], [.int ((0 : Int32))], σ1)
              refine ev_br 0 [] ((0 : Int32) = 0) 82 58 ([some (.ref 26), some (.int (w)), some (.ref 104), some (.int (still)), some (.int (s_ov o0 o1)), some (.int (la)), some (.int (nI k)), some (.int (nI x))], [], σ1) rfl ?_ (fun c55 => ?_) (fun c55 => ?_)
              · trivial
              · refine ev_blk 14 [vp_in (nI x) 10] 15 ([some (.ref 26), some (.int (w)), some (.ref 104), some (.int (still)), some (.int ((s_ov o0 o1) &&& (((1 : Int32) <<< (((σ1 7) (nI x).toNatClampNeg) &&& 31)) ^^^ (-1 : Int32)))), some (.int (la)), some (.int ((nI k) + (1 : Int32))), some (.int (nI x))], [], σ1) rfl ?_ ?_
                · exact vp_in_nI (by omega) (by decide)
                rw [hxc]
                refine ev_drop 7 ?_
                rw [hx.2.2, s_ov_c0, nI_1]
                refine ih (k + 1) σ1 still la false o1 F (by omega) rfl hn ho hfr hF hB hW hlen ?_
                rw [← hT, s_run_some (s_st_0n hp hN)]
              · exact absurd rfl c55
          · exact absurd hsx (zi_n.mp c43)
        | true =>
          obtain ⟨t, ht⟩ := s_pick_1 hp
          obtain ⟨ho1, hft⟩ := s_opn_c ht
          have hx := lnp_lt (show x ∈ (ord.filter (s_lnp n still (σ1 7) 1)) by rw [hft]; exact List.mem_cons_self)
          have hsx : iSh σ1 (nI x) := ⟨nI_pos (by omega), by rw [hn]; exact nI_ge hx.1 (by omega), nI_ge (b := 10) (by omega) (by omega)⟩
          have hxc : (nI x).toNatClampNeg = x := nI_clamp (by omega)
          have hFl : F.2.length < 10 := by rw [hft] at hlen; simp only [List.length_cons] at hlen; omega
          refine ev_blk 4 [] 40 ([some (.ref 26), some (.int (w)), some (.ref 104), some (.int (still)), some (.int (s_ov o0 o1)), some (.int (la)), some (.int (nI k)), some (.int (nI x))], [.int (nI x), .ref 1], σ1) rfl ?_ ?_
          · trivial
          refine ev_callV M_X3_isShip [.int (nI x)] [] 1 rfl rfl ln_X2_59 k_X3_isShip rfl rfl rfl rfl rfl rfl (c_isShip _ _) ?_
          refine pu_k ?_
          show xEv _ _ _ 43 ([some (.ref 26), some (.int (w)), some (.ref 104), some (.int (still)), some (.int (s_ov o0 o1)), some (.int (la)), some (.int (nI k)), some (.int (nI x))], [.int (zi (iSh σ1 (nI x)))], σ1)
          refine ev_br 0 [] (¬ (zi (iSh σ1 (nI x))) = 0) 49 46 ([some (.ref 26), some (.int (w)), some (.ref 104), some (.int (still)), some (.int (s_ov o0 o1)), some (.int (la)), some (.int (nI k)), some (.int (nI x))], [], σ1) rfl ?_ (fun c43 => ?_) (fun c43 => ?_)
          · trivial
          · replace c43 := zi_1.mp c43
            refine ev_blk 2 [] 52 ([some (.ref 26), some (.int (w)), some (.ref 104), some (.int (still)), some (.int (s_ov o0 o1)), some (.int (la)), some (.int (nI k)), some (.int (nI x))], [.int (nI x), .ref 26], σ1) rfl ?_ ?_
            · trivial
            refine ev_callV M_X2_enter [.int (nI x)] [] 26 rfl rfl ln_X2_85 k_X2_enter rfl rfl rfl rfl rfl rfl (c_enter26 σ1 n x F hok hn hx.1 hF hFl) ?_
            rintro r σ2 (⟨F2, hF2, rfl, hR2, hf2⟩ | ⟨hN, rfl, e2⟩)
            · show xEv _ _ _ 55 ([some (.ref 26), some (.int (w)), some (.ref 104), some (.int (still)), some (.int (s_ov o0 o1)), some (.int (la)), some (.int (nI k)), some (.int (nI x))], [.int ((1 : Int32))], σ2)
              refine ev_br 0 [] ((1 : Int32) = 0) 82 58 ([some (.ref 26), some (.int (w)), some (.ref 104), some (.int (still)), some (.int (s_ov o0 o1)), some (.int (la)), some (.int (nI k)), some (.int (nI x))], [], σ2) rfl ?_ (fun c55 => ?_) (fun c55 => ?_)
              · trivial
              · exact absurd c55 (by decide)
              · refine ev_blk 17 [vp_in (nI x) 10] 15 ([some (.ref 26), some (.int (w)), some (.ref 104), some (.int (still &&& (((1 : Int32) <<< ((nI x) &&& 31)) ^^^ (-1 : Int32)))), some (.int (s_ov o0 o1)), some (.int ((σ2 7) (nI x).toNatClampNeg)), some (.int ((nI k) + (1 : Int32))), some (.int (nI x))], [], σ2) rfl ?_ ?_
                · exact vp_in_nI (by omega) (by decide)
                rw [hxc]
                refine ev_drop 7 ?_
                have e7 : σ2 7 = σ1 7 := hf2 7 (by decide)
                have hae := atC_fr hf2 rfl
                obtain ⟨r2, p2, hw2⟩ := s_in_w hF2
                have f0 : ord.filter (s_lnp n (still &&& ((1 : Int32) <<< (nI x &&& 31) ^^^ (-1 : Int32))) (σ1 7) 1) = t := fl_clr ho.2.1 hft (fun y => lnp_clr hn10 (by omega))
                have f1 : ord.filter (s_lnp n (still &&& ((1 : Int32) <<< (nI x &&& 31) ^^^ (-1 : Int32))) (σ1 7) 0) = (ord.filter (s_lnp n still (σ1 7) 0)) := lnp_keep hn10 (by omega) hx.2.2 (by decide)
                rw [e7, hx.2.2, nI_1]
                refine ih (k + 1) σ2 (still &&& ((1 : Int32) <<< (nI x &&& 31) ^^^ (-1 : Int32))) _ o0 o1 F2 (by omega) hae ((congrFun (hf2 1 (by decide)) 0).trans hn) ho (hfr.tr hf2) hR2 (fun j hj => ?_) (fun j hj => ?_) ?_ ?_
                · rw [b_clr (by omega) hj, hB j hj, hw2, wmem, Bool.not_or, Bool.and_assoc]
                · rw [hw2] at hj
                  simp only [List.map_append, List.map_cons, List.map_nil, List.mem_append, List.mem_singleton] at hj
                  rcases hj with hj | rfl
                  · exact hW j hj
                  · have h1 := hB j (by omega)
                    rw [hx.2.1] at h1
                    refine ⟨?_, by omega⟩
                    cases hwj : bt w j with
                    | true => rfl
                    | false => rw [hwj] at h1; simp at h1
                · rw [e7, f0, f1, hw2]
                  rw [hft] at hlen
                  simp only [List.length_append, List.length_cons, List.length_nil] at hlen ⊢
                  omega
                · rw [e7, f0, f1, ← hT, s_run_some (s_st_1 hp hF2), hft]
                  rfl
            · rw [e2]
              show xEv _ _ _ 55 ([some (.ref 26), some (.int (w)), some (.ref 104), some (.int (still)), some (.int (s_ov o0 o1)), some (.int (la)), some (.int (nI k)), some (.int (nI x))], [.int ((0 : Int32))], σ1)
              refine ev_br 0 [] ((0 : Int32) = 0) 82 58 ([some (.ref 26), some (.int (w)), some (.ref 104), some (.int (still)), some (.int (s_ov o0 o1)), some (.int (la)), some (.int (nI k)), some (.int (nI x))], [], σ1) rfl ?_ (fun c55 => ?_) (fun c55 => ?_)
              · trivial
              · refine ev_blk 14 [vp_in (nI x) 10] 15 ([some (.ref 26), some (.int (w)), some (.ref 104), some (.int (still)), some (.int ((s_ov o0 o1) &&& (((1 : Int32) <<< (((σ1 7) (nI x).toNatClampNeg) &&& 31)) ^^^ (-1 : Int32)))), some (.int (la)), some (.int ((nI k) + (1 : Int32))), some (.int (nI x))], [], σ1) rfl ?_ ?_
                · exact vp_in_nI (by omega) (by decide)
                rw [hxc]
                refine ev_drop 7 ?_
                rw [hx.2.2, s_ov_c1, nI_1]
                refine ih (k + 1) σ1 still la o0 false F (by omega) rfl hn ho hfr hF hB hW hlen ?_
                rw [← hT, s_run_some (s_st_1n hp hN)]
              · exact absurd rfl c55
          · exact absurd hsx (zi_n.mp c43)
set_option maxRecDepth 100000 in
theorem c_byRule104 (σ : xSg) (n : Nat) (ord : List Nat) (w : Int32) (hok : aOk (atC σ) n) (hn : σ 1 0 = nI n) (ho : ordOk ord (fun i => ([0, 1, 2, 3, 4, 5, 6, 7, 8, 9] : List Int32).getD i 0)) : xCtr M_X2_byRule [.ref 26, .int w, .ref 104] σ (bQ (atC σ) σ (s_fill (atC σ) (tkC σ) (ord.filter (s_lnp n w (σ 7) 0)) (ord.filter (s_lnp n w (σ 7) 1)))) := by
  refine ctr_ev ok_X2_byRule (by decide +kernel) rfl rfl rfl ?_
  show xEv (.inl 4) M_X2_byRule _ 0 ([some (.ref 26), some (.int (w)), some (.ref 104), none, none, none, none, none], [], σ)
  refine ev_blk 1 [] 1 ([some (.ref 26), some (.int (w)), some (.ref 104), none, none, none, none, none], [.ref 26], σ) rfl ?_ ?_
  · trivial
  refine ev_callV M_X2_begin [] [] 26 rfl rfl ln_X2_78 k_X2_begin rfl rfl rfl rfl rfl rfl (c_begin26 σ) ?_
  rintro r σ1 ⟨rfl, hF, hfr⟩
  show xEv _ _ _ 4 ([some (.ref 26), some (.int (w)), some (.ref 104), none, none, none, none, none], [], σ1)
  refine ev_blk 8 [] 15 ([some (.ref 26), some (.int (w)), some (.ref 104), some (.int (w)), some (.int ((3 : Int32))), some (.int ((-1 : Int32))), some (.int ((0 : Int32))), none], [], σ1) rfl ?_ ?_
  · trivial
  have hae := atC_fr hfr rfl
  have e7 : σ1 7 = σ 7 := hfr 7 (by decide)
  refine c_byRule104_lp σ (atC σ) n ord w _ hok 12 0 σ1 w _ true true (tkC σ, []) rfl hae ((congrFun (hfr 1 (by decide)) 0).trans hn) ho hfr hF (fun j hj => by simp) (fun j hj => by simp at hj) ?_ ?_
  · rw [e7]
    have := fl_len (ord := ord) (p := s_lnp n w (σ 7) 0) (q := s_lnp n w (σ 7) 1) (fun y h1 h2 => by simp only [s_lnp, Bool.and_eq_true, decide_eq_true_eq] at h1 h2; rw [h1.2] at h2; exact absurd h2.2 (by decide))
    rw [ho.1] at this
    simpa using this
  · rw [e7]; rfl
set_option maxRecDepth 100000 in
theorem c_byRule32_lp (σ : xSg) (a : sAt) (n : Nat) (ord : List Nat) (w : Int32) (T : sSt) (hok : aOk a n) : ∀ (m k : Nat) (σ1 : xSg) (still la : Int32) (o0 o1 : Bool) (F : sFl), k + m = 12 → atC σ1 = a → σ1 1 0 = nI n → ordOk ord (σ1 32) → xFr [26, 27, 28, 29, 30] σ σ1 → FR a σ1 26 27 28 29 30 F → (∀ j, j < 32 → bt still j = (bt w j && !decide (j ∈ F.2.map Prod.fst))) → (∀ j ∈ F.2.map Prod.fst, bt w j = true ∧ j < 32) → F.2.length + (ord.filter (s_lnp n still (σ1 7) 0)).length + (ord.filter (s_lnp n still (σ1 7) 1)).length ≤ 10 → s_run a m ((ord.filter (s_lnp n still (σ1 7) 0)), (ord.filter (s_lnp n still (σ1 7) 1)), o0, o1, decide (la = 0), F) = T → xEv (.inl 4) M_X2_byRule (bQ a σ T) 15 ([some (.ref 26), some (.int (w)), some (.ref 32), some (.int (still)), some (.int (s_ov o0 o1)), some (.int (la)), some (.int (nI k)), none], [], σ1) := by
  have hn10 := hok.1
  have fin : ∀ (σ1 : xSg) (still : Int32) (F : sFl), xFr [26, 27, 28, 29, 30] σ σ1 → FR a σ1 26 27 28 29 30 F → (∀ j, j < 32 → bt still j = (bt w j && !decide (j ∈ F.2.map Prod.fst))) → (∀ j ∈ F.2.map Prod.fst, bt w j = true ∧ j < 32) → T.2.2.2.2.2 = F → bQ a σ T (some (.int (w &&& (still ^^^ (-1 : Int32))))) σ1 := by
    intro σ1 still F hfr hF hB hW hT
    refine ⟨_, rfl, fun j hj => ?_, by rw [hT]; exact hF, hfr⟩
    rw [b_and, b_not hj, hB j hj]
    unfold s_went
    rw [hT]
    by_cases hm : j ∈ F.2.map Prod.fst
    · simp only [hm, decide_true, Bool.not_true, Bool.and_false, Bool.not_false, Bool.and_true]
      exact (hW j hm).1
    · simp only [hm, decide_false, Bool.not_false, Bool.and_true]
      cases bt w j <;> rfl
  intro m
  induction m with
  | zero =>
    intro k σ1 still la o0 o1 F hk ha hn ho hfr hF hB hW hlen hT
    refine ev_br 2 [] ((12 : Int32) ≤ (nI k)) 107 22 ([some (.ref 26), some (.int (w)), some (.ref 32), some (.int (still)), some (.int (s_ov o0 o1)), some (.int (la)), some (.int (nI k)), none], [], σ1) rfl ?_ (fun c19 => ?_) (fun c19 => ?_)
    · trivial
    · refine ev_blk 5 [] 112 ([some (.ref 26), some (.int (w)), some (.ref 32), some (.int (still)), some (.int (s_ov o0 o1)), some (.int (la)), some (.int (nI k)), none], [.int (w &&& (still ^^^ (-1 : Int32)))], σ1) rfl ?_ ?_
      · trivial
      exact ev_iret rfl rfl rfl (fin σ1 still F hfr hF hB hW (by rw [← hT]; rfl))
    · exact absurd (show (12 : Int32) ≤ nI k by rw [show k = 12 by omega]; decide) c19
  | succ m ih =>
    intro k σ1 still la o0 o1 F hk ha hn ho hfr hF hB hW hlen hT
    subst ha
    refine ev_br 2 [] ((12 : Int32) ≤ (nI k)) 107 22 ([some (.ref 26), some (.int (w)), some (.ref 32), some (.int (still)), some (.int (s_ov o0 o1)), some (.int (la)), some (.int (nI k)), none], [], σ1) rfl ?_ (fun c19 => ?_) (fun c19 => ?_)
    · trivial
    · exact absurd c19 (nI_ge (b := 12) (by omega) (by decide))
    · refine ev_blk 5 [] 29 ([some (.ref 26), some (.int (w)), some (.ref 32), some (.int (still)), some (.int (s_ov o0 o1)), some (.int (la)), some (.int (nI k)), none], [.int (la), .ref 32, .int (s_ov o0 o1), .int (still), .ref 26], σ1) rfl ?_ ?_
      · trivial
      refine ev_callV M_X2_nextHead [.int (still), .int (s_ov o0 o1), .ref 32, .int (la)] [] 26 rfl rfl ln_X2_81 k_X2_nextHead rfl rfl rfl rfl rfl rfl (c_next32 σ1 n ord still la o0 o1 hn10 hn ho) ?_
      refine pu_k ?_
      show xEv _ _ _ 32 ([some (.ref 26), some (.int (w)), some (.ref 32), some (.int (still)), some (.int (s_ov o0 o1)), some (.int (la)), some (.int (nI k)), none], [.int (s_hp (s_pick (atC σ1) (decide (la = 0)) (s_opn o0 (ord.filter (s_lnp n still (σ1 7) 0))) (s_opn o1 (ord.filter (s_lnp n still (σ1 7) 1)))))], σ1)
      cases hp : s_pick (atC σ1) (decide (la = 0)) (s_opn o0 (ord.filter (s_lnp n still (σ1 7) 0))) (s_opn o1 (ord.filter (s_lnp n still (σ1 7) 1))) with
      | none =>
        show xEv _ _ _ 32 ([some (.ref 26), some (.int (w)), some (.ref 32), some (.int (still)), some (.int (s_ov o0 o1)), some (.int (la)), some (.int (nI k)), none], [.int ((-1 : Int32))], σ1)
        refine ev_blk 4 [] 40 ([some (.ref 26), some (.int (w)), some (.ref 32), some (.int (still)), some (.int (s_ov o0 o1)), some (.int (la)), some (.int (nI k)), some (.int ((-1 : Int32)))], [.int ((-1 : Int32)), .ref 1], σ1) rfl ?_ ?_
        · trivial
        refine ev_callV M_X3_isShip [.int ((-1 : Int32))] [] 1 rfl rfl ln_X2_59 k_X3_isShip rfl rfl rfl rfl rfl rfl (c_isShip _ _) ?_
        refine pu_k ?_
        show xEv _ _ _ 43 ([some (.ref 26), some (.int (w)), some (.ref 32), some (.int (still)), some (.int (s_ov o0 o1)), some (.int (la)), some (.int (nI k)), some (.int ((-1 : Int32)))], [.int (zi (iSh σ1 (-1 : Int32)))], σ1)
        refine ev_br 0 [] (¬ (zi (iSh σ1 (-1 : Int32))) = 0) 49 46 ([some (.ref 26), some (.int (w)), some (.ref 32), some (.int (still)), some (.int (s_ov o0 o1)), some (.int (la)), some (.int (nI k)), some (.int ((-1 : Int32)))], [], σ1) rfl ?_ (fun c43 => ?_) (fun c43 => ?_)
        · trivial
        · exact absurd (show (-1 : Int32) < 0 by decide) (zi_1.mp c43).1
        · replace c43 := zi_n.mp c43
          refine ev_blk 6 [] 112 ([some (.ref 26), some (.int (w)), some (.ref 32), some (.int (still)), some (.int (s_ov o0 o1)), some (.int (la)), some (.int (nI k)), some (.int ((-1 : Int32)))], [.int (w &&& (still ^^^ (-1 : Int32)))], σ1) rfl ?_ ?_
          · trivial
          exact ev_iret rfl rfl rfl (fin σ1 still F hfr hF hB hW (by rw [← hT, s_run_none (s_st_n hp)]))
      | some q =>
        obtain ⟨x, b⟩ := q
        show xEv _ _ _ 32 ([some (.ref 26), some (.int (w)), some (.ref 32), some (.int (still)), some (.int (s_ov o0 o1)), some (.int (la)), some (.int (nI k)), none], [.int (nI x)], σ1)
        cases b with
        | false =>
          obtain ⟨t, ht⟩ := s_pick_0 hp
          obtain ⟨ho0, hft⟩ := s_opn_c ht
          have hx := lnp_lt (show x ∈ (ord.filter (s_lnp n still (σ1 7) 0)) by rw [hft]; exact List.mem_cons_self)
          have hsx : iSh σ1 (nI x) := ⟨nI_pos (by omega), by rw [hn]; exact nI_ge hx.1 (by omega), nI_ge (b := 10) (by omega) (by omega)⟩
          have hxc : (nI x).toNatClampNeg = x := nI_clamp (by omega)
          have hFl : F.2.length < 10 := by rw [hft] at hlen; simp only [List.length_cons] at hlen; omega
          refine ev_blk 4 [] 40 ([some (.ref 26), some (.int (w)), some (.ref 32), some (.int (still)), some (.int (s_ov o0 o1)), some (.int (la)), some (.int (nI k)), some (.int (nI x))], [.int (nI x), .ref 1], σ1) rfl ?_ ?_
          · trivial
          refine ev_callV M_X3_isShip [.int (nI x)] [] 1 rfl rfl ln_X2_59 k_X3_isShip rfl rfl rfl rfl rfl rfl (c_isShip _ _) ?_
          refine pu_k ?_
          show xEv _ _ _ 43 ([some (.ref 26), some (.int (w)), some (.ref 32), some (.int (still)), some (.int (s_ov o0 o1)), some (.int (la)), some (.int (nI k)), some (.int (nI x))], [.int (zi (iSh σ1 (nI x)))], σ1)
          refine ev_br 0 [] (¬ (zi (iSh σ1 (nI x))) = 0) 49 46 ([some (.ref 26), some (.int (w)), some (.ref 32), some (.int (still)), some (.int (s_ov o0 o1)), some (.int (la)), some (.int (nI k)), some (.int (nI x))], [], σ1) rfl ?_ (fun c43 => ?_) (fun c43 => ?_)
          · trivial
          · replace c43 := zi_1.mp c43
            refine ev_blk 2 [] 52 ([some (.ref 26), some (.int (w)), some (.ref 32), some (.int (still)), some (.int (s_ov o0 o1)), some (.int (la)), some (.int (nI k)), some (.int (nI x))], [.int (nI x), .ref 26], σ1) rfl ?_ ?_
            · trivial
            refine ev_callV M_X2_enter [.int (nI x)] [] 26 rfl rfl ln_X2_85 k_X2_enter rfl rfl rfl rfl rfl rfl (c_enter26 σ1 n x F hok hn hx.1 hF hFl) ?_
            rintro r σ2 (⟨F2, hF2, rfl, hR2, hf2⟩ | ⟨hN, rfl, e2⟩)
            · show xEv _ _ _ 55 ([some (.ref 26), some (.int (w)), some (.ref 32), some (.int (still)), some (.int (s_ov o0 o1)), some (.int (la)), some (.int (nI k)), some (.int (nI x))], [.int ((1 : Int32))], σ2)
              refine ev_br 0 [] ((1 : Int32) = 0) 82 58 ([some (.ref 26), some (.int (w)), some (.ref 32), some (.int (still)), some (.int (s_ov o0 o1)), some (.int (la)), some (.int (nI k)), some (.int (nI x))], [], σ2) rfl ?_ (fun c55 => ?_) (fun c55 => ?_)
              · trivial
              · exact absurd c55 (by decide)
              · refine ev_blk 17 [vp_in (nI x) 10] 15 ([some (.ref 26), some (.int (w)), some (.ref 32), some (.int (still &&& (((1 : Int32) <<< ((nI x) &&& 31)) ^^^ (-1 : Int32)))), some (.int (s_ov o0 o1)), some (.int ((σ2 7) (nI x).toNatClampNeg)), some (.int ((nI k) + (1 : Int32))), some (.int (nI x))], [], σ2) rfl ?_ ?_
                · exact vp_in_nI (by omega) (by decide)
                rw [hxc]
                refine ev_drop 7 ?_
                have e7 : σ2 7 = σ1 7 := hf2 7 (by decide)
                have hae := atC_fr hf2 rfl
                obtain ⟨r2, p2, hw2⟩ := s_in_w hF2
                have f0 : ord.filter (s_lnp n (still &&& ((1 : Int32) <<< (nI x &&& 31) ^^^ (-1 : Int32))) (σ1 7) 0) = t := fl_clr ho.2.1 hft (fun y => lnp_clr hn10 (by omega))
                have f1 : ord.filter (s_lnp n (still &&& ((1 : Int32) <<< (nI x &&& 31) ^^^ (-1 : Int32))) (σ1 7) 1) = (ord.filter (s_lnp n still (σ1 7) 1)) := lnp_keep hn10 (by omega) hx.2.2 (by decide)
                rw [e7, hx.2.2, nI_1]
                refine ih (k + 1) σ2 (still &&& ((1 : Int32) <<< (nI x &&& 31) ^^^ (-1 : Int32))) _ o0 o1 F2 (by omega) hae ((congrFun (hf2 1 (by decide)) 0).trans hn) (by rw [hf2 32 (by decide)]; exact ho) (hfr.tr hf2) hR2 (fun j hj => ?_) (fun j hj => ?_) ?_ ?_
                · rw [b_clr (by omega) hj, hB j hj, hw2, wmem, Bool.not_or, Bool.and_assoc]
                · rw [hw2] at hj
                  simp only [List.map_append, List.map_cons, List.map_nil, List.mem_append, List.mem_singleton] at hj
                  rcases hj with hj | rfl
                  · exact hW j hj
                  · have h1 := hB j (by omega)
                    rw [hx.2.1] at h1
                    refine ⟨?_, by omega⟩
                    cases hwj : bt w j with
                    | true => rfl
                    | false => rw [hwj] at h1; simp at h1
                · rw [e7, f0, f1, hw2]
                  rw [hft] at hlen
                  simp only [List.length_append, List.length_cons, List.length_nil] at hlen ⊢
                  omega
                · rw [e7, f0, f1, ← hT, s_run_some (s_st_0 hp hF2), hft]
                  rfl
            · rw [e2]
              show xEv _ _ _ 55 ([some (.ref 26), some (.int (w)), some (.ref 32), some (.int (still)), some (.int (s_ov o0 o1)), some (.int (la)), some (.int (nI k)), some (.int (nI x))], [.int ((0 : Int32))], σ1)
              refine ev_br 0 [] ((0 : Int32) = 0) 82 58 ([some (.ref 26), some (.int (w)), some (.ref 32), some (.int (still)), some (.int (s_ov o0 o1)), some (.int (la)), some (.int (nI k)), some (.int (nI x))], [], σ1) rfl ?_ (fun c55 => ?_) (fun c55 => ?_)
              · trivial
              · refine ev_blk 14 [vp_in (nI x) 10] 15 ([some (.ref 26), some (.int (w)), some (.ref 32), some (.int (still)), some (.int ((s_ov o0 o1) &&& (((1 : Int32) <<< (((σ1 7) (nI x).toNatClampNeg) &&& 31)) ^^^ (-1 : Int32)))), some (.int (la)), some (.int ((nI k) + (1 : Int32))), some (.int (nI x))], [], σ1) rfl ?_ ?_
                · exact vp_in_nI (by omega) (by decide)
                rw [hxc]
                refine ev_drop 7 ?_
                rw [hx.2.2, s_ov_c0, nI_1]
                refine ih (k + 1) σ1 still la false o1 F (by omega) rfl hn ho hfr hF hB hW hlen ?_
                rw [← hT, s_run_some (s_st_0n hp hN)]
              · exact absurd rfl c55
          · exact absurd hsx (zi_n.mp c43)
        | true =>
          obtain ⟨t, ht⟩ := s_pick_1 hp
          obtain ⟨ho1, hft⟩ := s_opn_c ht
          have hx := lnp_lt (show x ∈ (ord.filter (s_lnp n still (σ1 7) 1)) by rw [hft]; exact List.mem_cons_self)
          have hsx : iSh σ1 (nI x) := ⟨nI_pos (by omega), by rw [hn]; exact nI_ge hx.1 (by omega), nI_ge (b := 10) (by omega) (by omega)⟩
          have hxc : (nI x).toNatClampNeg = x := nI_clamp (by omega)
          have hFl : F.2.length < 10 := by rw [hft] at hlen; simp only [List.length_cons] at hlen; omega
          refine ev_blk 4 [] 40 ([some (.ref 26), some (.int (w)), some (.ref 32), some (.int (still)), some (.int (s_ov o0 o1)), some (.int (la)), some (.int (nI k)), some (.int (nI x))], [.int (nI x), .ref 1], σ1) rfl ?_ ?_
          · trivial
          refine ev_callV M_X3_isShip [.int (nI x)] [] 1 rfl rfl ln_X2_59 k_X3_isShip rfl rfl rfl rfl rfl rfl (c_isShip _ _) ?_
          refine pu_k ?_
          show xEv _ _ _ 43 ([some (.ref 26), some (.int (w)), some (.ref 32), some (.int (still)), some (.int (s_ov o0 o1)), some (.int (la)), some (.int (nI k)), some (.int (nI x))], [.int (zi (iSh σ1 (nI x)))], σ1)
          refine ev_br 0 [] (¬ (zi (iSh σ1 (nI x))) = 0) 49 46 ([some (.ref 26), some (.int (w)), some (.ref 32), some (.int (still)), some (.int (s_ov o0 o1)), some (.int (la)), some (.int (nI k)), some (.int (nI x))], [], σ1) rfl ?_ (fun c43 => ?_) (fun c43 => ?_)
          · trivial
          · replace c43 := zi_1.mp c43
            refine ev_blk 2 [] 52 ([some (.ref 26), some (.int (w)), some (.ref 32), some (.int (still)), some (.int (s_ov o0 o1)), some (.int (la)), some (.int (nI k)), some (.int (nI x))], [.int (nI x), .ref 26], σ1) rfl ?_ ?_
            · trivial
            refine ev_callV M_X2_enter [.int (nI x)] [] 26 rfl rfl ln_X2_85 k_X2_enter rfl rfl rfl rfl rfl rfl (c_enter26 σ1 n x F hok hn hx.1 hF hFl) ?_
            rintro r σ2 (⟨F2, hF2, rfl, hR2, hf2⟩ | ⟨hN, rfl, e2⟩)
            · show xEv _ _ _ 55 ([some (.ref 26), some (.int (w)), some (.ref 32), some (.int (still)), some (.int (s_ov o0 o1)), some (.int (la)), some (.int (nI k)), some (.int (nI x))], [.int ((1 : Int32))], σ2)
              refine ev_br 0 [] ((1 : Int32) = 0) 82 58 ([some (.ref 26), some (.int (w)), some (.ref 32), some (.int (still)), some (.int (s_ov o0 o1)), some (.int (la)), some (.int (nI k)), some (.int (nI x))], [], σ2) rfl ?_ (fun c55 => ?_) (fun c55 => ?_)
              · trivial
              · exact absurd c55 (by decide)
              · refine ev_blk 17 [vp_in (nI x) 10] 15 ([some (.ref 26), some (.int (w)), some (.ref 32), some (.int (still &&& (((1 : Int32) <<< ((nI x) &&& 31)) ^^^ (-1 : Int32)))), some (.int (s_ov o0 o1)), some (.int ((σ2 7) (nI x).toNatClampNeg)), some (.int ((nI k) + (1 : Int32))), some (.int (nI x))], [], σ2) rfl ?_ ?_
                · exact vp_in_nI (by omega) (by decide)
                rw [hxc]
                refine ev_drop 7 ?_
                have e7 : σ2 7 = σ1 7 := hf2 7 (by decide)
                have hae := atC_fr hf2 rfl
                obtain ⟨r2, p2, hw2⟩ := s_in_w hF2
                have f0 : ord.filter (s_lnp n (still &&& ((1 : Int32) <<< (nI x &&& 31) ^^^ (-1 : Int32))) (σ1 7) 1) = t := fl_clr ho.2.1 hft (fun y => lnp_clr hn10 (by omega))
                have f1 : ord.filter (s_lnp n (still &&& ((1 : Int32) <<< (nI x &&& 31) ^^^ (-1 : Int32))) (σ1 7) 0) = (ord.filter (s_lnp n still (σ1 7) 0)) := lnp_keep hn10 (by omega) hx.2.2 (by decide)
                rw [e7, hx.2.2, nI_1]
                refine ih (k + 1) σ2 (still &&& ((1 : Int32) <<< (nI x &&& 31) ^^^ (-1 : Int32))) _ o0 o1 F2 (by omega) hae ((congrFun (hf2 1 (by decide)) 0).trans hn) (by rw [hf2 32 (by decide)]; exact ho) (hfr.tr hf2) hR2 (fun j hj => ?_) (fun j hj => ?_) ?_ ?_
                · rw [b_clr (by omega) hj, hB j hj, hw2, wmem, Bool.not_or, Bool.and_assoc]
                · rw [hw2] at hj
                  simp only [List.map_append, List.map_cons, List.map_nil, List.mem_append, List.mem_singleton] at hj
                  rcases hj with hj | rfl
                  · exact hW j hj
                  · have h1 := hB j (by omega)
                    rw [hx.2.1] at h1
                    refine ⟨?_, by omega⟩
                    cases hwj : bt w j with
                    | true => rfl
                    | false => rw [hwj] at h1; simp at h1
                · rw [e7, f0, f1, hw2]
                  rw [hft] at hlen
                  simp only [List.length_append, List.length_cons, List.length_nil] at hlen ⊢
                  omega
                · rw [e7, f0, f1, ← hT, s_run_some (s_st_1 hp hF2), hft]
                  rfl
            · rw [e2]
              show xEv _ _ _ 55 ([some (.ref 26), some (.int (w)), some (.ref 32), some (.int (still)), some (.int (s_ov o0 o1)), some (.int (la)), some (.int (nI k)), some (.int (nI x))], [.int ((0 : Int32))], σ1)
              refine ev_br 0 [] ((0 : Int32) = 0) 82 58 ([some (.ref 26), some (.int (w)), some (.ref 32), some (.int (still)), some (.int (s_ov o0 o1)), some (.int (la)), some (.int (nI k)), some (.int (nI x))], [], σ1) rfl ?_ (fun c55 => ?_) (fun c55 => ?_)
              · trivial
              · refine ev_blk 14 [vp_in (nI x) 10] 15 ([some (.ref 26), some (.int (w)), some (.ref 32), some (.int (still)), some (.int ((s_ov o0 o1) &&& (((1 : Int32) <<< (((σ1 7) (nI x).toNatClampNeg) &&& 31)) ^^^ (-1 : Int32)))), some (.int (la)), some (.int ((nI k) + (1 : Int32))), some (.int (nI x))], [], σ1) rfl ?_ ?_
                · exact vp_in_nI (by omega) (by decide)
                rw [hxc]
                refine ev_drop 7 ?_
                rw [hx.2.2, s_ov_c1, nI_1]
                refine ih (k + 1) σ1 still la o0 false F (by omega) rfl hn ho hfr hF hB hW hlen ?_
                rw [← hT, s_run_some (s_st_1n hp hN)]
              · exact absurd rfl c55
          · exact absurd hsx (zi_n.mp c43)
set_option maxRecDepth 100000 in
theorem c_byRule32 (σ : xSg) (n : Nat) (ord : List Nat) (w : Int32) (hok : aOk (atC σ) n) (hn : σ 1 0 = nI n) (ho : ordOk ord (σ 32)) : xCtr M_X2_byRule [.ref 26, .int w, .ref 32] σ (bQ (atC σ) σ (s_fill (atC σ) (tkC σ) (ord.filter (s_lnp n w (σ 7) 0)) (ord.filter (s_lnp n w (σ 7) 1)))) := by
  refine ctr_ev ok_X2_byRule (by decide +kernel) rfl rfl rfl ?_
  show xEv (.inl 4) M_X2_byRule _ 0 ([some (.ref 26), some (.int (w)), some (.ref 32), none, none, none, none, none], [], σ)
  refine ev_blk 1 [] 1 ([some (.ref 26), some (.int (w)), some (.ref 32), none, none, none, none, none], [.ref 26], σ) rfl ?_ ?_
  · trivial
  refine ev_callV M_X2_begin [] [] 26 rfl rfl ln_X2_78 k_X2_begin rfl rfl rfl rfl rfl rfl (c_begin26 σ) ?_
  rintro r σ1 ⟨rfl, hF, hfr⟩
  show xEv _ _ _ 4 ([some (.ref 26), some (.int (w)), some (.ref 32), none, none, none, none, none], [], σ1)
  refine ev_blk 8 [] 15 ([some (.ref 26), some (.int (w)), some (.ref 32), some (.int (w)), some (.int ((3 : Int32))), some (.int ((-1 : Int32))), some (.int ((0 : Int32))), none], [], σ1) rfl ?_ ?_
  · trivial
  have hae := atC_fr hfr rfl
  have e7 : σ1 7 = σ 7 := hfr 7 (by decide)
  refine c_byRule32_lp σ (atC σ) n ord w _ hok 12 0 σ1 w _ true true (tkC σ, []) rfl hae ((congrFun (hfr 1 (by decide)) 0).trans hn) (by rw [hfr 32 (by decide)]; exact ho) hfr hF (fun j hj => by simp) (fun j hj => by simp at hj) ?_ ?_
  · rw [e7]
    have := fl_len (ord := ord) (p := s_lnp n w (σ 7) 0) (q := s_lnp n w (σ 7) 1) (fun y h1 h2 => by simp only [s_lnp, Bool.and_eq_true, decide_eq_true_eq] at h1 h2; rw [h1.2] at h2; exact absurd h2.2 (by decide))
    rw [ho.1] at this
    simpa using this
  · rw [e7]; rfl
