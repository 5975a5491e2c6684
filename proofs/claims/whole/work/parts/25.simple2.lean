theorem b_and1 {x : Int32} {j : Nat} (hj : j < 32) : (x >>> (nI j &&& 31)) &&& 1 = zi (bt x j = true) := by
  cases hb : bt x j with
  | false => rw [zi_f (by simp)]; exact (b_tst hj).mpr hb
  | true =>
    rw [zi_t rfl]
    refine b_ext (fun i hi => ?_)
    rw [b_and, b_one i hi]
    by_cases h0 : i = 0
    · subst h0
      rw [b_sshr j hj x (by decide), if_pos (by omega), Nat.add_zero, hb]
      rfl
    · simp [h0]
/-- the class's object and the keep's: nothing has changed but these cells and these places -/
def xFc (S P0 P1 : List Nat) (σ σ' : xSg) : Prop := (∀ c, c ∉ S → c ≠ 0 → c ≠ 1 → σ' c = σ c) ∧ (∀ i, i ∉ P0 → σ' 0 i = σ 0 i) ∧ ∀ i, i ∉ P1 → σ' 1 i = σ 1 i
theorem xFc.rf {S P0 P1 : List Nat} {σ : xSg} : xFc S P0 P1 σ σ := ⟨fun _ _ _ _ => rfl, fun _ _ => rfl, fun _ _ => rfl⟩
theorem xFc.tr {S P0 P1 : List Nat} {σ σ1 σ2 : xSg} (h1 : xFc S P0 P1 σ σ1) (h2 : xFc S P0 P1 σ1 σ2) : xFc S P0 P1 σ σ2 := ⟨fun c a b d => (h2.1 c a b d).trans (h1.1 c a b d), fun i a => (h2.2.1 i a).trans (h1.2.1 i a), fun i a => (h2.2.2 i a).trans (h1.2.2 i a)⟩
def barV (x : Int32) (q : Nat) (is : Int32) : Int32 := if is = 0 then x &&& ((1 : Int32) <<< (nI q &&& 31) ^^^ (-1 : Int32)) else x ||| (1 : Int32) <<< (nI q &&& 31)
def barC (σ : xSg) (rw pl is : Int32) : Option Value → xSg → Prop := fun r σ' =>
  (∃ R q, R < 3 ∧ q < 20 ∧ rw = nI R ∧ pl = nI q ∧ r = some (.int (zi (bt (σ 10 R) q = true))) ∧ σ' = x_up σ 10 (upd (σ 10) R (barV (σ 10 R) q is))) ∨ ((∀ R q, R < 3 → q < 20 → rw = nI R → pl = nI q → False) ∧ r = some (.int (-2)) ∧ σ' = σ)
set_option maxRecDepth 100000 in
theorem c_bar (σ : xSg) (rw pl is : Int32) : xCtr M_X5_bar [.ref 0, .int (rw), .int (pl), .int (is)] σ (barC σ rw pl is) := by
  refine ctr_ev ok_X5_bar (by decide +kernel) rfl rfl rfl ?_
  show xEv (.inl 0) M_X5_bar _ 0 ([some (.ref 0), some (.int (rw)), some (.int (pl)), some (.int (is)), none], [], σ)
  refine ev_br 1 [] (rw < 0) 19 4 ([some (.ref 0), some (.int (rw)), some (.int (pl)), some (.int (is)), none], [], σ) rfl ?_ (fun c1 => ?_) (fun c1 => ?_)
  · trivial
  · refine ev_blk 1 [] 21 ([some (.ref 0), some (.int (rw)), some (.int (pl)), some (.int (is)), none], [.int ((-2 : Int32))], σ) rfl ?_ ?_
    · trivial
    exact ev_iret rfl rfl rfl (Or.inr ⟨fun R q hR hq e1 e2 => by subst e1; subst e2; exact absurd c1 (nI_pos (by omega)), rfl, rfl⟩)
  · refine ev_br 2 [] ((3 : Int32) ≤ rw) 19 9 ([some (.ref 0), some (.int (rw)), some (.int (pl)), some (.int (is)), none], [], σ) rfl ?_ (fun c6 => ?_) (fun c6 => ?_)
    · trivial
    · refine ev_blk 1 [] 21 ([some (.ref 0), some (.int (rw)), some (.int (pl)), some (.int (is)), none], [.int ((-2 : Int32))], σ) rfl ?_ ?_
      · trivial
      exact ev_iret rfl rfl rfl (Or.inr ⟨fun R q hR hq e1 e2 => by subst e1; subst e2; exact absurd c6 (nI_ge (b := 3) hR (by decide)), rfl, rfl⟩)
    · refine ev_br 1 [] (pl < 0) 19 13 ([some (.ref 0), some (.int (rw)), some (.int (pl)), some (.int (is)), none], [], σ) rfl ?_ (fun c10 => ?_) (fun c10 => ?_)
      · trivial
      · refine ev_blk 1 [] 21 ([some (.ref 0), some (.int (rw)), some (.int (pl)), some (.int (is)), none], [.int ((-2 : Int32))], σ) rfl ?_ ?_
        · trivial
        exact ev_iret rfl rfl rfl (Or.inr ⟨fun R q hR hq e1 e2 => by subst e1; subst e2; exact absurd c10 (nI_pos (by omega)), rfl, rfl⟩)
      · refine ev_br 2 [] (pl < (20 : Int32)) 22 19 ([some (.ref 0), some (.int (rw)), some (.int (pl)), some (.int (is)), none], [], σ) rfl ?_ (fun c16 => ?_) (fun c16 => ?_)
        · trivial
        · obtain ⟨R, hR0, rfl⟩ := nI_of c1
          obtain ⟨q, hq0, rfl⟩ := nI_of c10
          have hR : R < 3 := Nat.lt_of_not_le (fun z => c6 (nI_le (a := 3) z hR0))
          have hq : q < 20 := (nI_ltI (b := 20) hq0 (by decide)).mp c16
          have hRc : (nI R).toNatClampNeg = R := nI_clamp hR0
          have hin : vp_in (nI R) 3 := vp_in_nI hR (by decide)
          have hwas := b_and1 (x := σ 10 R) (j := q) (by omega)
          refine ev_br 11 [vp_in (nI R) 3] (is = 0) 59 41 ([some (.ref 0), some (.int (nI R)), some (.int (nI q)), some (.int (is)), some (.int ((((σ 10) (nI R).toNatClampNeg) >>> ((nI q) &&& 31)) &&& (1 : Int32)))], [], σ) rfl ?_ (fun c38 => ?_) (fun c38 => ?_)
          · exact hin
          · rw [hRc]
            refine ev_blk 14 [vp_in (nI R) 3, vp_in (nI R) 3] 78 ([some (.ref 0), some (.int (nI R)), some (.int (nI q)), some (.int (is)), some (.int ((((σ 10) R) >>> ((nI q) &&& 31)) &&& (1 : Int32)))], [.int ((((σ 10) R) >>> ((nI q) &&& 31)) &&& (1 : Int32))], (x_up σ 10 (upd (σ 10) (nI R).toNatClampNeg (((σ 10) (nI R).toNatClampNeg) &&& (((1 : Int32) <<< ((nI q) &&& 31)) ^^^ (-1 : Int32)))))) rfl ?_ ?_
            · exact ⟨hin, hin⟩
            rw [hRc]
            exact ev_iret rfl rfl rfl (Or.inl ⟨R, q, hR, hq, rfl, rfl, by rw [hwas], by rw [barV, if_pos c38]⟩)
          · rw [hRc]
            refine ev_blk 13 [vp_in (nI R) 3, vp_in (nI R) 3] 78 ([some (.ref 0), some (.int (nI R)), some (.int (nI q)), some (.int (is)), some (.int ((((σ 10) R) >>> ((nI q) &&& 31)) &&& (1 : Int32)))], [.int ((((σ 10) R) >>> ((nI q) &&& 31)) &&& (1 : Int32))], (x_up σ 10 (upd (σ 10) (nI R).toNatClampNeg (((σ 10) (nI R).toNatClampNeg) ||| ((1 : Int32) <<< ((nI q) &&& 31)))))) rfl ?_ ?_
            · exact ⟨hin, hin⟩
            rw [hRc]
            exact ev_iret rfl rfl rfl (Or.inl ⟨R, q, hR, hq, rfl, rfl, by rw [hwas], by rw [barV, if_neg c38]⟩)
        · refine ev_blk 1 [] 21 ([some (.ref 0), some (.int (rw)), some (.int (pl)), some (.int (is)), none], [.int ((-2 : Int32))], σ) rfl ?_ ?_
          · trivial
          exact ev_iret rfl rfl rfl (Or.inr ⟨fun R q hR hq e1 e2 => by subst e1; subst e2; exact c16 (nI_lt (b := 20) hq (by decide)), rfl, rfl⟩)
abbrev s_und (j k : Int32) : Prop := k = 0 ∨ j = k ∨ (k = 1 ∧ (j = 2 ∨ j = 5)) ∨ (k = 3 ∧ j = 4)
def s_tak (n : Nat) (a : sAt) (x k : Int32) : Int32 := if iN n x ∧ ¬ k < 0 ∧ ¬ 5 < k then (if s_und (aK a x.toNatClampNeg) k then aLn a x.toNatClampNeg else -13) else -2
set_option maxRecDepth 100000 in
theorem c_isUnder0 (σ : xSg) (k : Int32) (hk : ¬ k < 0 ∧ ¬ 5 < k) : xCtr M_X5_isUnder [.int ((0 : Int32)), .int (k)] σ (fun r σ1 => r = some (.int (zi (s_und (0 : Int32) k))) ∧ σ1 = σ) := by
  refine ctr_ev ok_X5_isUnder (by decide +kernel) rfl rfl rfl ?_
  show xEv (.inl 1) M_X5_isUnder _ 0 ([some (.int ((0 : Int32))), some (.int (k)), none, none], [], σ)
  refine ev_br 7 [] ((6 : Int32) ≤ (0 : Int32)) 38 12 ([some (.int ((0 : Int32))), some (.int (k)), some (.int ((0 : Int32))), some (.int ((0 : Int32)))], [], σ) rfl ?_ (fun c9 => ?_) (fun c9 => ?_)
  · trivial
  · exact absurd c9 (by decide)
  · refine ev_blk 1 [] 13 ([some (.int ((0 : Int32))), some (.int (k)), some (.int ((0 : Int32))), some (.int ((0 : Int32)))], [.int ((0 : Int32))], σ) rfl ?_ ?_
    · trivial
    refine ev_callS M_X5_isKind [.int ((0 : Int32))] [] rfl rfl ln_X5_61 k_X5_isKind rfl rfl rfl (c_isKind _ _) ?_
    refine pu_k ?_
    rw [zi_t (show ¬ ((0 : Int32)) < 0 ∧ ¬ (5 : Int32) < ((0 : Int32)) by decide)]
    show xEv _ _ _ 16 ([some (.int ((0 : Int32))), some (.int (k)), some (.int ((0 : Int32))), some (.int ((0 : Int32)))], [.int ((1 : Int32))], σ)
    refine ev_br 0 [] ((1 : Int32) = 0) 38 19 ([some (.int ((0 : Int32))), some (.int (k)), some (.int ((0 : Int32))), some (.int ((0 : Int32)))], [], σ) rfl ?_ (fun c16 => ?_) (fun c16 => ?_)
    · trivial
    · exact absurd c16 (by decide)
    · refine ev_br 2 [] (¬ (0 : Int32) = k) 26 24 ([some (.int ((0 : Int32))), some (.int (k)), some (.int ((0 : Int32))), some (.int ((0 : Int32)))], [], σ) rfl ?_ (fun c21 => ?_) (fun c21 => ?_)
      · trivial
      · refine ev_br 9 [vp_in ((0 : Int32)) 6] ((6 : Int32) ≤ (1 : Int32)) 38 12 ([some (.int ((0 : Int32))), some (.int (k)), some (.int ((-1 : Int32))), some (.int ((1 : Int32)))], [], σ) rfl ?_ (fun c9 => ?_) (fun c9 => ?_)
        · exact vp_in_nI (n := 0) (by decide) (by decide)
        · exact absurd c9 (by decide)
        · refine ev_blk 1 [] 13 ([some (.int ((0 : Int32))), some (.int (k)), some (.int ((-1 : Int32))), some (.int ((1 : Int32)))], [.int ((-1 : Int32))], σ) rfl ?_ ?_
          · trivial
          refine ev_callS M_X5_isKind [.int ((-1 : Int32))] [] rfl rfl ln_X5_61 k_X5_isKind rfl rfl rfl (c_isKind _ _) ?_
          refine pu_k ?_
          rw [zi_f (show ¬ (¬ ((-1 : Int32)) < 0 ∧ ¬ (5 : Int32) < ((-1 : Int32))) by decide)]
          show xEv _ _ _ 16 ([some (.int ((0 : Int32))), some (.int (k)), some (.int ((-1 : Int32))), some (.int ((1 : Int32)))], [.int ((0 : Int32))], σ)
          refine ev_br 0 [] ((0 : Int32) = 0) 38 19 ([some (.int ((0 : Int32))), some (.int (k)), some (.int ((-1 : Int32))), some (.int ((1 : Int32)))], [], σ) rfl ?_ (fun c16 => ?_) (fun c16 => ?_)
          · trivial
          · refine ev_blk 1 [] 39 ([some (.int ((0 : Int32))), some (.int (k)), some (.int ((-1 : Int32))), some (.int ((1 : Int32)))], [.int ((0 : Int32))], σ) rfl ?_ ?_
            · trivial
            exact ev_iret rfl rfl nar0 (pu_f (by rintro (q | q | ⟨q, _⟩ | ⟨q, _⟩) <;> subst q <;> simp_all))
          · exact absurd (by decide) c16
      · refine ev_blk 1 [] 25 ([some (.int ((0 : Int32))), some (.int (k)), some (.int ((0 : Int32))), some (.int ((0 : Int32)))], [.int ((1 : Int32))], σ) rfl ?_ ?_
        · trivial
        exact ev_iret rfl rfl nar1 (pu_t (by have e := Classical.byContradiction c21; subst e; decide))
set_option maxRecDepth 100000 in
theorem c_isUnder1 (σ : xSg) (k : Int32) (hk : ¬ k < 0 ∧ ¬ 5 < k) : xCtr M_X5_isUnder [.int ((1 : Int32)), .int (k)] σ (fun r σ1 => r = some (.int (zi (s_und (1 : Int32) k))) ∧ σ1 = σ) := by
  refine ctr_ev ok_X5_isUnder (by decide +kernel) rfl rfl rfl ?_
  show xEv (.inl 1) M_X5_isUnder _ 0 ([some (.int ((1 : Int32))), some (.int (k)), none, none], [], σ)
  refine ev_br 7 [] ((6 : Int32) ≤ (0 : Int32)) 38 12 ([some (.int ((1 : Int32))), some (.int (k)), some (.int ((1 : Int32))), some (.int ((0 : Int32)))], [], σ) rfl ?_ (fun c9 => ?_) (fun c9 => ?_)
  · trivial
  · exact absurd c9 (by decide)
  · refine ev_blk 1 [] 13 ([some (.int ((1 : Int32))), some (.int (k)), some (.int ((1 : Int32))), some (.int ((0 : Int32)))], [.int ((1 : Int32))], σ) rfl ?_ ?_
    · trivial
    refine ev_callS M_X5_isKind [.int ((1 : Int32))] [] rfl rfl ln_X5_61 k_X5_isKind rfl rfl rfl (c_isKind _ _) ?_
    refine pu_k ?_
    rw [zi_t (show ¬ ((1 : Int32)) < 0 ∧ ¬ (5 : Int32) < ((1 : Int32)) by decide)]
    show xEv _ _ _ 16 ([some (.int ((1 : Int32))), some (.int (k)), some (.int ((1 : Int32))), some (.int ((0 : Int32)))], [.int ((1 : Int32))], σ)
    refine ev_br 0 [] ((1 : Int32) = 0) 38 19 ([some (.int ((1 : Int32))), some (.int (k)), some (.int ((1 : Int32))), some (.int ((0 : Int32)))], [], σ) rfl ?_ (fun c16 => ?_) (fun c16 => ?_)
    · trivial
    · exact absurd c16 (by decide)
    · refine ev_br 2 [] (¬ (1 : Int32) = k) 26 24 ([some (.int ((1 : Int32))), some (.int (k)), some (.int ((1 : Int32))), some (.int ((0 : Int32)))], [], σ) rfl ?_ (fun c21 => ?_) (fun c21 => ?_)
      · trivial
      · refine ev_br 9 [vp_in ((1 : Int32)) 6] ((6 : Int32) ≤ (1 : Int32)) 38 12 ([some (.int ((1 : Int32))), some (.int (k)), some (.int ((0 : Int32))), some (.int ((1 : Int32)))], [], σ) rfl ?_ (fun c9 => ?_) (fun c9 => ?_)
        · exact vp_in_nI (n := 1) (by decide) (by decide)
        · exact absurd c9 (by decide)
        · refine ev_blk 1 [] 13 ([some (.int ((1 : Int32))), some (.int (k)), some (.int ((0 : Int32))), some (.int ((1 : Int32)))], [.int ((0 : Int32))], σ) rfl ?_ ?_
          · trivial
          refine ev_callS M_X5_isKind [.int ((0 : Int32))] [] rfl rfl ln_X5_61 k_X5_isKind rfl rfl rfl (c_isKind _ _) ?_
          refine pu_k ?_
          rw [zi_t (show ¬ ((0 : Int32)) < 0 ∧ ¬ (5 : Int32) < ((0 : Int32)) by decide)]
          show xEv _ _ _ 16 ([some (.int ((1 : Int32))), some (.int (k)), some (.int ((0 : Int32))), some (.int ((1 : Int32)))], [.int ((1 : Int32))], σ)
          refine ev_br 0 [] ((1 : Int32) = 0) 38 19 ([some (.int ((1 : Int32))), some (.int (k)), some (.int ((0 : Int32))), some (.int ((1 : Int32)))], [], σ) rfl ?_ (fun c16 => ?_) (fun c16 => ?_)
          · trivial
          · exact absurd c16 (by decide)
          · refine ev_br 2 [] (¬ (0 : Int32) = k) 26 24 ([some (.int ((1 : Int32))), some (.int (k)), some (.int ((0 : Int32))), some (.int ((1 : Int32)))], [], σ) rfl ?_ (fun c21 => ?_) (fun c21 => ?_)
            · trivial
            · refine ev_br 9 [vp_in ((0 : Int32)) 6] ((6 : Int32) ≤ (2 : Int32)) 38 12 ([some (.int ((1 : Int32))), some (.int (k)), some (.int ((-1 : Int32))), some (.int ((2 : Int32)))], [], σ) rfl ?_ (fun c9 => ?_) (fun c9 => ?_)
              · exact vp_in_nI (n := 0) (by decide) (by decide)
              · exact absurd c9 (by decide)
              · refine ev_blk 1 [] 13 ([some (.int ((1 : Int32))), some (.int (k)), some (.int ((-1 : Int32))), some (.int ((2 : Int32)))], [.int ((-1 : Int32))], σ) rfl ?_ ?_
                · trivial
                refine ev_callS M_X5_isKind [.int ((-1 : Int32))] [] rfl rfl ln_X5_61 k_X5_isKind rfl rfl rfl (c_isKind _ _) ?_
                refine pu_k ?_
                rw [zi_f (show ¬ (¬ ((-1 : Int32)) < 0 ∧ ¬ (5 : Int32) < ((-1 : Int32))) by decide)]
                show xEv _ _ _ 16 ([some (.int ((1 : Int32))), some (.int (k)), some (.int ((-1 : Int32))), some (.int ((2 : Int32)))], [.int ((0 : Int32))], σ)
                refine ev_br 0 [] ((0 : Int32) = 0) 38 19 ([some (.int ((1 : Int32))), some (.int (k)), some (.int ((-1 : Int32))), some (.int ((2 : Int32)))], [], σ) rfl ?_ (fun c16 => ?_) (fun c16 => ?_)
                · trivial
                · refine ev_blk 1 [] 39 ([some (.int ((1 : Int32))), some (.int (k)), some (.int ((-1 : Int32))), some (.int ((2 : Int32)))], [.int ((0 : Int32))], σ) rfl ?_ ?_
                  · trivial
                  exact ev_iret rfl rfl nar0 (pu_f (by rintro (q | q | ⟨q, _⟩ | ⟨q, _⟩) <;> subst q <;> simp_all))
                · exact absurd (by decide) c16
            · refine ev_blk 1 [] 25 ([some (.int ((1 : Int32))), some (.int (k)), some (.int ((0 : Int32))), some (.int ((1 : Int32)))], [.int ((1 : Int32))], σ) rfl ?_ ?_
              · trivial
              exact ev_iret rfl rfl nar1 (pu_t (by have e := Classical.byContradiction c21; subst e; decide))
      · refine ev_blk 1 [] 25 ([some (.int ((1 : Int32))), some (.int (k)), some (.int ((1 : Int32))), some (.int ((0 : Int32)))], [.int ((1 : Int32))], σ) rfl ?_ ?_
        · trivial
        exact ev_iret rfl rfl nar1 (pu_t (by have e := Classical.byContradiction c21; subst e; decide))
set_option maxRecDepth 100000 in
theorem c_isUnder2 (σ : xSg) (k : Int32) (hk : ¬ k < 0 ∧ ¬ 5 < k) : xCtr M_X5_isUnder [.int ((2 : Int32)), .int (k)] σ (fun r σ1 => r = some (.int (zi (s_und (2 : Int32) k))) ∧ σ1 = σ) := by
  refine ctr_ev ok_X5_isUnder (by decide +kernel) rfl rfl rfl ?_
  show xEv (.inl 1) M_X5_isUnder _ 0 ([some (.int ((2 : Int32))), some (.int (k)), none, none], [], σ)
  refine ev_br 7 [] ((6 : Int32) ≤ (0 : Int32)) 38 12 ([some (.int ((2 : Int32))), some (.int (k)), some (.int ((2 : Int32))), some (.int ((0 : Int32)))], [], σ) rfl ?_ (fun c9 => ?_) (fun c9 => ?_)
  · trivial
  · exact absurd c9 (by decide)
  · refine ev_blk 1 [] 13 ([some (.int ((2 : Int32))), some (.int (k)), some (.int ((2 : Int32))), some (.int ((0 : Int32)))], [.int ((2 : Int32))], σ) rfl ?_ ?_
    · trivial
    refine ev_callS M_X5_isKind [.int ((2 : Int32))] [] rfl rfl ln_X5_61 k_X5_isKind rfl rfl rfl (c_isKind _ _) ?_
    refine pu_k ?_
    rw [zi_t (show ¬ ((2 : Int32)) < 0 ∧ ¬ (5 : Int32) < ((2 : Int32)) by decide)]
    show xEv _ _ _ 16 ([some (.int ((2 : Int32))), some (.int (k)), some (.int ((2 : Int32))), some (.int ((0 : Int32)))], [.int ((1 : Int32))], σ)
    refine ev_br 0 [] ((1 : Int32) = 0) 38 19 ([some (.int ((2 : Int32))), some (.int (k)), some (.int ((2 : Int32))), some (.int ((0 : Int32)))], [], σ) rfl ?_ (fun c16 => ?_) (fun c16 => ?_)
    · trivial
    · exact absurd c16 (by decide)
    · refine ev_br 2 [] (¬ (2 : Int32) = k) 26 24 ([some (.int ((2 : Int32))), some (.int (k)), some (.int ((2 : Int32))), some (.int ((0 : Int32)))], [], σ) rfl ?_ (fun c21 => ?_) (fun c21 => ?_)
      · trivial
      · refine ev_br 9 [vp_in ((2 : Int32)) 6] ((6 : Int32) ≤ (1 : Int32)) 38 12 ([some (.int ((2 : Int32))), some (.int (k)), some (.int ((1 : Int32))), some (.int ((1 : Int32)))], [], σ) rfl ?_ (fun c9 => ?_) (fun c9 => ?_)
        · exact vp_in_nI (n := 2) (by decide) (by decide)
        · exact absurd c9 (by decide)
        · refine ev_blk 1 [] 13 ([some (.int ((2 : Int32))), some (.int (k)), some (.int ((1 : Int32))), some (.int ((1 : Int32)))], [.int ((1 : Int32))], σ) rfl ?_ ?_
          · trivial
          refine ev_callS M_X5_isKind [.int ((1 : Int32))] [] rfl rfl ln_X5_61 k_X5_isKind rfl rfl rfl (c_isKind _ _) ?_
          refine pu_k ?_
          rw [zi_t (show ¬ ((1 : Int32)) < 0 ∧ ¬ (5 : Int32) < ((1 : Int32)) by decide)]
          show xEv _ _ _ 16 ([some (.int ((2 : Int32))), some (.int (k)), some (.int ((1 : Int32))), some (.int ((1 : Int32)))], [.int ((1 : Int32))], σ)
          refine ev_br 0 [] ((1 : Int32) = 0) 38 19 ([some (.int ((2 : Int32))), some (.int (k)), some (.int ((1 : Int32))), some (.int ((1 : Int32)))], [], σ) rfl ?_ (fun c16 => ?_) (fun c16 => ?_)
          · trivial
          · exact absurd c16 (by decide)
          · refine ev_br 2 [] (¬ (1 : Int32) = k) 26 24 ([some (.int ((2 : Int32))), some (.int (k)), some (.int ((1 : Int32))), some (.int ((1 : Int32)))], [], σ) rfl ?_ (fun c21 => ?_) (fun c21 => ?_)
            · trivial
            · refine ev_br 9 [vp_in ((1 : Int32)) 6] ((6 : Int32) ≤ (2 : Int32)) 38 12 ([some (.int ((2 : Int32))), some (.int (k)), some (.int ((0 : Int32))), some (.int ((2 : Int32)))], [], σ) rfl ?_ (fun c9 => ?_) (fun c9 => ?_)
              · exact vp_in_nI (n := 1) (by decide) (by decide)
              · exact absurd c9 (by decide)
              · refine ev_blk 1 [] 13 ([some (.int ((2 : Int32))), some (.int (k)), some (.int ((0 : Int32))), some (.int ((2 : Int32)))], [.int ((0 : Int32))], σ) rfl ?_ ?_
                · trivial
                refine ev_callS M_X5_isKind [.int ((0 : Int32))] [] rfl rfl ln_X5_61 k_X5_isKind rfl rfl rfl (c_isKind _ _) ?_
                refine pu_k ?_
                rw [zi_t (show ¬ ((0 : Int32)) < 0 ∧ ¬ (5 : Int32) < ((0 : Int32)) by decide)]
                show xEv _ _ _ 16 ([some (.int ((2 : Int32))), some (.int (k)), some (.int ((0 : Int32))), some (.int ((2 : Int32)))], [.int ((1 : Int32))], σ)
                refine ev_br 0 [] ((1 : Int32) = 0) 38 19 ([some (.int ((2 : Int32))), some (.int (k)), some (.int ((0 : Int32))), some (.int ((2 : Int32)))], [], σ) rfl ?_ (fun c16 => ?_) (fun c16 => ?_)
                · trivial
                · exact absurd c16 (by decide)
                · refine ev_br 2 [] (¬ (0 : Int32) = k) 26 24 ([some (.int ((2 : Int32))), some (.int (k)), some (.int ((0 : Int32))), some (.int ((2 : Int32)))], [], σ) rfl ?_ (fun c21 => ?_) (fun c21 => ?_)
                  · trivial
                  · refine ev_br 9 [vp_in ((0 : Int32)) 6] ((6 : Int32) ≤ (3 : Int32)) 38 12 ([some (.int ((2 : Int32))), some (.int (k)), some (.int ((-1 : Int32))), some (.int ((3 : Int32)))], [], σ) rfl ?_ (fun c9 => ?_) (fun c9 => ?_)
                    · exact vp_in_nI (n := 0) (by decide) (by decide)
                    · exact absurd c9 (by decide)
                    · refine ev_blk 1 [] 13 ([some (.int ((2 : Int32))), some (.int (k)), some (.int ((-1 : Int32))), some (.int ((3 : Int32)))], [.int ((-1 : Int32))], σ) rfl ?_ ?_
                      · trivial
                      refine ev_callS M_X5_isKind [.int ((-1 : Int32))] [] rfl rfl ln_X5_61 k_X5_isKind rfl rfl rfl (c_isKind _ _) ?_
                      refine pu_k ?_
                      rw [zi_f (show ¬ (¬ ((-1 : Int32)) < 0 ∧ ¬ (5 : Int32) < ((-1 : Int32))) by decide)]
                      show xEv _ _ _ 16 ([some (.int ((2 : Int32))), some (.int (k)), some (.int ((-1 : Int32))), some (.int ((3 : Int32)))], [.int ((0 : Int32))], σ)
                      refine ev_br 0 [] ((0 : Int32) = 0) 38 19 ([some (.int ((2 : Int32))), some (.int (k)), some (.int ((-1 : Int32))), some (.int ((3 : Int32)))], [], σ) rfl ?_ (fun c16 => ?_) (fun c16 => ?_)
                      · trivial
                      · refine ev_blk 1 [] 39 ([some (.int ((2 : Int32))), some (.int (k)), some (.int ((-1 : Int32))), some (.int ((3 : Int32)))], [.int ((0 : Int32))], σ) rfl ?_ ?_
                        · trivial
                        exact ev_iret rfl rfl nar0 (pu_f (by rintro (q | q | ⟨q, _⟩ | ⟨q, _⟩) <;> subst q <;> simp_all))
                      · exact absurd (by decide) c16
                  · refine ev_blk 1 [] 25 ([some (.int ((2 : Int32))), some (.int (k)), some (.int ((0 : Int32))), some (.int ((2 : Int32)))], [.int ((1 : Int32))], σ) rfl ?_ ?_
                    · trivial
                    exact ev_iret rfl rfl nar1 (pu_t (by have e := Classical.byContradiction c21; subst e; decide))
            · refine ev_blk 1 [] 25 ([some (.int ((2 : Int32))), some (.int (k)), some (.int ((1 : Int32))), some (.int ((1 : Int32)))], [.int ((1 : Int32))], σ) rfl ?_ ?_
              · trivial
              exact ev_iret rfl rfl nar1 (pu_t (by have e := Classical.byContradiction c21; subst e; decide))
      · refine ev_blk 1 [] 25 ([some (.int ((2 : Int32))), some (.int (k)), some (.int ((2 : Int32))), some (.int ((0 : Int32)))], [.int ((1 : Int32))], σ) rfl ?_ ?_
        · trivial
        exact ev_iret rfl rfl nar1 (pu_t (by have e := Classical.byContradiction c21; subst e; decide))
set_option maxRecDepth 100000 in
theorem c_isUnder3 (σ : xSg) (k : Int32) (hk : ¬ k < 0 ∧ ¬ 5 < k) : xCtr M_X5_isUnder [.int ((3 : Int32)), .int (k)] σ (fun r σ1 => r = some (.int (zi (s_und (3 : Int32) k))) ∧ σ1 = σ) := by
  refine ctr_ev ok_X5_isUnder (by decide +kernel) rfl rfl rfl ?_
  show xEv (.inl 1) M_X5_isUnder _ 0 ([some (.int ((3 : Int32))), some (.int (k)), none, none], [], σ)
  refine ev_br 7 [] ((6 : Int32) ≤ (0 : Int32)) 38 12 ([some (.int ((3 : Int32))), some (.int (k)), some (.int ((3 : Int32))), some (.int ((0 : Int32)))], [], σ) rfl ?_ (fun c9 => ?_) (fun c9 => ?_)
  · trivial
  · exact absurd c9 (by decide)
  · refine ev_blk 1 [] 13 ([some (.int ((3 : Int32))), some (.int (k)), some (.int ((3 : Int32))), some (.int ((0 : Int32)))], [.int ((3 : Int32))], σ) rfl ?_ ?_
    · trivial
    refine ev_callS M_X5_isKind [.int ((3 : Int32))] [] rfl rfl ln_X5_61 k_X5_isKind rfl rfl rfl (c_isKind _ _) ?_
    refine pu_k ?_
    rw [zi_t (show ¬ ((3 : Int32)) < 0 ∧ ¬ (5 : Int32) < ((3 : Int32)) by decide)]
    show xEv _ _ _ 16 ([some (.int ((3 : Int32))), some (.int (k)), some (.int ((3 : Int32))), some (.int ((0 : Int32)))], [.int ((1 : Int32))], σ)
    refine ev_br 0 [] ((1 : Int32) = 0) 38 19 ([some (.int ((3 : Int32))), some (.int (k)), some (.int ((3 : Int32))), some (.int ((0 : Int32)))], [], σ) rfl ?_ (fun c16 => ?_) (fun c16 => ?_)
    · trivial
    · exact absurd c16 (by decide)
    · refine ev_br 2 [] (¬ (3 : Int32) = k) 26 24 ([some (.int ((3 : Int32))), some (.int (k)), some (.int ((3 : Int32))), some (.int ((0 : Int32)))], [], σ) rfl ?_ (fun c21 => ?_) (fun c21 => ?_)
      · trivial
      · refine ev_br 9 [vp_in ((3 : Int32)) 6] ((6 : Int32) ≤ (1 : Int32)) 38 12 ([some (.int ((3 : Int32))), some (.int (k)), some (.int ((0 : Int32))), some (.int ((1 : Int32)))], [], σ) rfl ?_ (fun c9 => ?_) (fun c9 => ?_)
        · exact vp_in_nI (n := 3) (by decide) (by decide)
        · exact absurd c9 (by decide)
        · refine ev_blk 1 [] 13 ([some (.int ((3 : Int32))), some (.int (k)), some (.int ((0 : Int32))), some (.int ((1 : Int32)))], [.int ((0 : Int32))], σ) rfl ?_ ?_
          · trivial
          refine ev_callS M_X5_isKind [.int ((0 : Int32))] [] rfl rfl ln_X5_61 k_X5_isKind rfl rfl rfl (c_isKind _ _) ?_
          refine pu_k ?_
          rw [zi_t (show ¬ ((0 : Int32)) < 0 ∧ ¬ (5 : Int32) < ((0 : Int32)) by decide)]
          show xEv _ _ _ 16 ([some (.int ((3 : Int32))), some (.int (k)), some (.int ((0 : Int32))), some (.int ((1 : Int32)))], [.int ((1 : Int32))], σ)
          refine ev_br 0 [] ((1 : Int32) = 0) 38 19 ([some (.int ((3 : Int32))), some (.int (k)), some (.int ((0 : Int32))), some (.int ((1 : Int32)))], [], σ) rfl ?_ (fun c16 => ?_) (fun c16 => ?_)
          · trivial
          · exact absurd c16 (by decide)
          · refine ev_br 2 [] (¬ (0 : Int32) = k) 26 24 ([some (.int ((3 : Int32))), some (.int (k)), some (.int ((0 : Int32))), some (.int ((1 : Int32)))], [], σ) rfl ?_ (fun c21 => ?_) (fun c21 => ?_)
            · trivial
            · refine ev_br 9 [vp_in ((0 : Int32)) 6] ((6 : Int32) ≤ (2 : Int32)) 38 12 ([some (.int ((3 : Int32))), some (.int (k)), some (.int ((-1 : Int32))), some (.int ((2 : Int32)))], [], σ) rfl ?_ (fun c9 => ?_) (fun c9 => ?_)
              · exact vp_in_nI (n := 0) (by decide) (by decide)
              · exact absurd c9 (by decide)
              · refine ev_blk 1 [] 13 ([some (.int ((3 : Int32))), some (.int (k)), some (.int ((-1 : Int32))), some (.int ((2 : Int32)))], [.int ((-1 : Int32))], σ) rfl ?_ ?_
                · trivial
                refine ev_callS M_X5_isKind [.int ((-1 : Int32))] [] rfl rfl ln_X5_61 k_X5_isKind rfl rfl rfl (c_isKind _ _) ?_
                refine pu_k ?_
                rw [zi_f (show ¬ (¬ ((-1 : Int32)) < 0 ∧ ¬ (5 : Int32) < ((-1 : Int32))) by decide)]
                show xEv _ _ _ 16 ([some (.int ((3 : Int32))), some (.int (k)), some (.int ((-1 : Int32))), some (.int ((2 : Int32)))], [.int ((0 : Int32))], σ)
                refine ev_br 0 [] ((0 : Int32) = 0) 38 19 ([some (.int ((3 : Int32))), some (.int (k)), some (.int ((-1 : Int32))), some (.int ((2 : Int32)))], [], σ) rfl ?_ (fun c16 => ?_) (fun c16 => ?_)
                · trivial
                · refine ev_blk 1 [] 39 ([some (.int ((3 : Int32))), some (.int (k)), some (.int ((-1 : Int32))), some (.int ((2 : Int32)))], [.int ((0 : Int32))], σ) rfl ?_ ?_
                  · trivial
                  exact ev_iret rfl rfl nar0 (pu_f (by rintro (q | q | ⟨q, _⟩ | ⟨q, _⟩) <;> subst q <;> simp_all))
                · exact absurd (by decide) c16
            · refine ev_blk 1 [] 25 ([some (.int ((3 : Int32))), some (.int (k)), some (.int ((0 : Int32))), some (.int ((1 : Int32)))], [.int ((1 : Int32))], σ) rfl ?_ ?_
              · trivial
              exact ev_iret rfl rfl nar1 (pu_t (by have e := Classical.byContradiction c21; subst e; decide))
      · refine ev_blk 1 [] 25 ([some (.int ((3 : Int32))), some (.int (k)), some (.int ((3 : Int32))), some (.int ((0 : Int32)))], [.int ((1 : Int32))], σ) rfl ?_ ?_
        · trivial
        exact ev_iret rfl rfl nar1 (pu_t (by have e := Classical.byContradiction c21; subst e; decide))
set_option maxRecDepth 100000 in
theorem c_isUnder4 (σ : xSg) (k : Int32) (hk : ¬ k < 0 ∧ ¬ 5 < k) : xCtr M_X5_isUnder [.int ((4 : Int32)), .int (k)] σ (fun r σ1 => r = some (.int (zi (s_und (4 : Int32) k))) ∧ σ1 = σ) := by
  refine ctr_ev ok_X5_isUnder (by decide +kernel) rfl rfl rfl ?_
  show xEv (.inl 1) M_X5_isUnder _ 0 ([some (.int ((4 : Int32))), some (.int (k)), none, none], [], σ)
  refine ev_br 7 [] ((6 : Int32) ≤ (0 : Int32)) 38 12 ([some (.int ((4 : Int32))), some (.int (k)), some (.int ((4 : Int32))), some (.int ((0 : Int32)))], [], σ) rfl ?_ (fun c9 => ?_) (fun c9 => ?_)
  · trivial
  · exact absurd c9 (by decide)
  · refine ev_blk 1 [] 13 ([some (.int ((4 : Int32))), some (.int (k)), some (.int ((4 : Int32))), some (.int ((0 : Int32)))], [.int ((4 : Int32))], σ) rfl ?_ ?_
    · trivial
    refine ev_callS M_X5_isKind [.int ((4 : Int32))] [] rfl rfl ln_X5_61 k_X5_isKind rfl rfl rfl (c_isKind _ _) ?_
    refine pu_k ?_
    rw [zi_t (show ¬ ((4 : Int32)) < 0 ∧ ¬ (5 : Int32) < ((4 : Int32)) by decide)]
    show xEv _ _ _ 16 ([some (.int ((4 : Int32))), some (.int (k)), some (.int ((4 : Int32))), some (.int ((0 : Int32)))], [.int ((1 : Int32))], σ)
    refine ev_br 0 [] ((1 : Int32) = 0) 38 19 ([some (.int ((4 : Int32))), some (.int (k)), some (.int ((4 : Int32))), some (.int ((0 : Int32)))], [], σ) rfl ?_ (fun c16 => ?_) (fun c16 => ?_)
    · trivial
    · exact absurd c16 (by decide)
    · refine ev_br 2 [] (¬ (4 : Int32) = k) 26 24 ([some (.int ((4 : Int32))), some (.int (k)), some (.int ((4 : Int32))), some (.int ((0 : Int32)))], [], σ) rfl ?_ (fun c21 => ?_) (fun c21 => ?_)
      · trivial
      · refine ev_br 9 [vp_in ((4 : Int32)) 6] ((6 : Int32) ≤ (1 : Int32)) 38 12 ([some (.int ((4 : Int32))), some (.int (k)), some (.int ((3 : Int32))), some (.int ((1 : Int32)))], [], σ) rfl ?_ (fun c9 => ?_) (fun c9 => ?_)
        · exact vp_in_nI (n := 4) (by decide) (by decide)
        · exact absurd c9 (by decide)
        · refine ev_blk 1 [] 13 ([some (.int ((4 : Int32))), some (.int (k)), some (.int ((3 : Int32))), some (.int ((1 : Int32)))], [.int ((3 : Int32))], σ) rfl ?_ ?_
          · trivial
          refine ev_callS M_X5_isKind [.int ((3 : Int32))] [] rfl rfl ln_X5_61 k_X5_isKind rfl rfl rfl (c_isKind _ _) ?_
          refine pu_k ?_
          rw [zi_t (show ¬ ((3 : Int32)) < 0 ∧ ¬ (5 : Int32) < ((3 : Int32)) by decide)]
          show xEv _ _ _ 16 ([some (.int ((4 : Int32))), some (.int (k)), some (.int ((3 : Int32))), some (.int ((1 : Int32)))], [.int ((1 : Int32))], σ)
          refine ev_br 0 [] ((1 : Int32) = 0) 38 19 ([some (.int ((4 : Int32))), some (.int (k)), some (.int ((3 : Int32))), some (.int ((1 : Int32)))], [], σ) rfl ?_ (fun c16 => ?_) (fun c16 => ?_)
          · trivial
          · exact absurd c16 (by decide)
          · refine ev_br 2 [] (¬ (3 : Int32) = k) 26 24 ([some (.int ((4 : Int32))), some (.int (k)), some (.int ((3 : Int32))), some (.int ((1 : Int32)))], [], σ) rfl ?_ (fun c21 => ?_) (fun c21 => ?_)
            · trivial
            · refine ev_br 9 [vp_in ((3 : Int32)) 6] ((6 : Int32) ≤ (2 : Int32)) 38 12 ([some (.int ((4 : Int32))), some (.int (k)), some (.int ((0 : Int32))), some (.int ((2 : Int32)))], [], σ) rfl ?_ (fun c9 => ?_) (fun c9 => ?_)
              · exact vp_in_nI (n := 3) (by decide) (by decide)
              · exact absurd c9 (by decide)
              · refine ev_blk 1 [] 13 ([some (.int ((4 : Int32))), some (.int (k)), some (.int ((0 : Int32))), some (.int ((2 : Int32)))], [.int ((0 : Int32))], σ) rfl ?_ ?_
                · trivial
                refine ev_callS M_X5_isKind [.int ((0 : Int32))] [] rfl rfl ln_X5_61 k_X5_isKind rfl rfl rfl (c_isKind _ _) ?_
                refine pu_k ?_
                rw [zi_t (show ¬ ((0 : Int32)) < 0 ∧ ¬ (5 : Int32) < ((0 : Int32)) by decide)]
                show xEv _ _ _ 16 ([some (.int ((4 : Int32))), some (.int (k)), some (.int ((0 : Int32))), some (.int ((2 : Int32)))], [.int ((1 : Int32))], σ)
                refine ev_br 0 [] ((1 : Int32) = 0) 38 19 ([some (.int ((4 : Int32))), some (.int (k)), some (.int ((0 : Int32))), some (.int ((2 : Int32)))], [], σ) rfl ?_ (fun c16 => ?_) (fun c16 => ?_)
                · trivial
                · exact absurd c16 (by decide)
                · refine ev_br 2 [] (¬ (0 : Int32) = k) 26 24 ([some (.int ((4 : Int32))), some (.int (k)), some (.int ((0 : Int32))), some (.int ((2 : Int32)))], [], σ) rfl ?_ (fun c21 => ?_) (fun c21 => ?_)
                  · trivial
                  · refine ev_br 9 [vp_in ((0 : Int32)) 6] ((6 : Int32) ≤ (3 : Int32)) 38 12 ([some (.int ((4 : Int32))), some (.int (k)), some (.int ((-1 : Int32))), some (.int ((3 : Int32)))], [], σ) rfl ?_ (fun c9 => ?_) (fun c9 => ?_)
                    · exact vp_in_nI (n := 0) (by decide) (by decide)
                    · exact absurd c9 (by decide)
                    · refine ev_blk 1 [] 13 ([some (.int ((4 : Int32))), some (.int (k)), some (.int ((-1 : Int32))), some (.int ((3 : Int32)))], [.int ((-1 : Int32))], σ) rfl ?_ ?_
                      · trivial
                      refine ev_callS M_X5_isKind [.int ((-1 : Int32))] [] rfl rfl ln_X5_61 k_X5_isKind rfl rfl rfl (c_isKind _ _) ?_
                      refine pu_k ?_
                      rw [zi_f (show ¬ (¬ ((-1 : Int32)) < 0 ∧ ¬ (5 : Int32) < ((-1 : Int32))) by decide)]
                      show xEv _ _ _ 16 ([some (.int ((4 : Int32))), some (.int (k)), some (.int ((-1 : Int32))), some (.int ((3 : Int32)))], [.int ((0 : Int32))], σ)
                      refine ev_br 0 [] ((0 : Int32) = 0) 38 19 ([some (.int ((4 : Int32))), some (.int (k)), some (.int ((-1 : Int32))), some (.int ((3 : Int32)))], [], σ) rfl ?_ (fun c16 => ?_) (fun c16 => ?_)
                      · trivial
                      · refine ev_blk 1 [] 39 ([some (.int ((4 : Int32))), some (.int (k)), some (.int ((-1 : Int32))), some (.int ((3 : Int32)))], [.int ((0 : Int32))], σ) rfl ?_ ?_
                        · trivial
                        exact ev_iret rfl rfl nar0 (pu_f (by rintro (q | q | ⟨q, _⟩ | ⟨q, _⟩) <;> subst q <;> simp_all))
                      · exact absurd (by decide) c16
                  · refine ev_blk 1 [] 25 ([some (.int ((4 : Int32))), some (.int (k)), some (.int ((0 : Int32))), some (.int ((2 : Int32)))], [.int ((1 : Int32))], σ) rfl ?_ ?_
                    · trivial
                    exact ev_iret rfl rfl nar1 (pu_t (by have e := Classical.byContradiction c21; subst e; decide))
            · refine ev_blk 1 [] 25 ([some (.int ((4 : Int32))), some (.int (k)), some (.int ((3 : Int32))), some (.int ((1 : Int32)))], [.int ((1 : Int32))], σ) rfl ?_ ?_
              · trivial
              exact ev_iret rfl rfl nar1 (pu_t (by have e := Classical.byContradiction c21; subst e; decide))
      · refine ev_blk 1 [] 25 ([some (.int ((4 : Int32))), some (.int (k)), some (.int ((4 : Int32))), some (.int ((0 : Int32)))], [.int ((1 : Int32))], σ) rfl ?_ ?_
        · trivial
        exact ev_iret rfl rfl nar1 (pu_t (by have e := Classical.byContradiction c21; subst e; decide))
set_option maxRecDepth 100000 in
theorem c_isUnder5 (σ : xSg) (k : Int32) (hk : ¬ k < 0 ∧ ¬ 5 < k) : xCtr M_X5_isUnder [.int ((5 : Int32)), .int (k)] σ (fun r σ1 => r = some (.int (zi (s_und (5 : Int32) k))) ∧ σ1 = σ) := by
  refine ctr_ev ok_X5_isUnder (by decide +kernel) rfl rfl rfl ?_
  show xEv (.inl 1) M_X5_isUnder _ 0 ([some (.int ((5 : Int32))), some (.int (k)), none, none], [], σ)
  refine ev_br 7 [] ((6 : Int32) ≤ (0 : Int32)) 38 12 ([some (.int ((5 : Int32))), some (.int (k)), some (.int ((5 : Int32))), some (.int ((0 : Int32)))], [], σ) rfl ?_ (fun c9 => ?_) (fun c9 => ?_)
  · trivial
  · exact absurd c9 (by decide)
  · refine ev_blk 1 [] 13 ([some (.int ((5 : Int32))), some (.int (k)), some (.int ((5 : Int32))), some (.int ((0 : Int32)))], [.int ((5 : Int32))], σ) rfl ?_ ?_
    · trivial
    refine ev_callS M_X5_isKind [.int ((5 : Int32))] [] rfl rfl ln_X5_61 k_X5_isKind rfl rfl rfl (c_isKind _ _) ?_
    refine pu_k ?_
    rw [zi_t (show ¬ ((5 : Int32)) < 0 ∧ ¬ (5 : Int32) < ((5 : Int32)) by decide)]
    show xEv _ _ _ 16 ([some (.int ((5 : Int32))), some (.int (k)), some (.int ((5 : Int32))), some (.int ((0 : Int32)))], [.int ((1 : Int32))], σ)
    refine ev_br 0 [] ((1 : Int32) = 0) 38 19 ([some (.int ((5 : Int32))), some (.int (k)), some (.int ((5 : Int32))), some (.int ((0 : Int32)))], [], σ) rfl ?_ (fun c16 => ?_) (fun c16 => ?_)
    · trivial
    · exact absurd c16 (by decide)
    · refine ev_br 2 [] (¬ (5 : Int32) = k) 26 24 ([some (.int ((5 : Int32))), some (.int (k)), some (.int ((5 : Int32))), some (.int ((0 : Int32)))], [], σ) rfl ?_ (fun c21 => ?_) (fun c21 => ?_)
      · trivial
      · refine ev_br 9 [vp_in ((5 : Int32)) 6] ((6 : Int32) ≤ (1 : Int32)) 38 12 ([some (.int ((5 : Int32))), some (.int (k)), some (.int ((1 : Int32))), some (.int ((1 : Int32)))], [], σ) rfl ?_ (fun c9 => ?_) (fun c9 => ?_)
        · exact vp_in_nI (n := 5) (by decide) (by decide)
        · exact absurd c9 (by decide)
        · refine ev_blk 1 [] 13 ([some (.int ((5 : Int32))), some (.int (k)), some (.int ((1 : Int32))), some (.int ((1 : Int32)))], [.int ((1 : Int32))], σ) rfl ?_ ?_
          · trivial
          refine ev_callS M_X5_isKind [.int ((1 : Int32))] [] rfl rfl ln_X5_61 k_X5_isKind rfl rfl rfl (c_isKind _ _) ?_
          refine pu_k ?_
          rw [zi_t (show ¬ ((1 : Int32)) < 0 ∧ ¬ (5 : Int32) < ((1 : Int32)) by decide)]
          show xEv _ _ _ 16 ([some (.int ((5 : Int32))), some (.int (k)), some (.int ((1 : Int32))), some (.int ((1 : Int32)))], [.int ((1 : Int32))], σ)
          refine ev_br 0 [] ((1 : Int32) = 0) 38 19 ([some (.int ((5 : Int32))), some (.int (k)), some (.int ((1 : Int32))), some (.int ((1 : Int32)))], [], σ) rfl ?_ (fun c16 => ?_) (fun c16 => ?_)
          · trivial
          · exact absurd c16 (by decide)
          · refine ev_br 2 [] (¬ (1 : Int32) = k) 26 24 ([some (.int ((5 : Int32))), some (.int (k)), some (.int ((1 : Int32))), some (.int ((1 : Int32)))], [], σ) rfl ?_ (fun c21 => ?_) (fun c21 => ?_)
            · trivial
            · refine ev_br 9 [vp_in ((1 : Int32)) 6] ((6 : Int32) ≤ (2 : Int32)) 38 12 ([some (.int ((5 : Int32))), some (.int (k)), some (.int ((0 : Int32))), some (.int ((2 : Int32)))], [], σ) rfl ?_ (fun c9 => ?_) (fun c9 => ?_)
              · exact vp_in_nI (n := 1) (by decide) (by decide)
              · exact absurd c9 (by decide)
              · refine ev_blk 1 [] 13 ([some (.int ((5 : Int32))), some (.int (k)), some (.int ((0 : Int32))), some (.int ((2 : Int32)))], [.int ((0 : Int32))], σ) rfl ?_ ?_
                · trivial
                refine ev_callS M_X5_isKind [.int ((0 : Int32))] [] rfl rfl ln_X5_61 k_X5_isKind rfl rfl rfl (c_isKind _ _) ?_
                refine pu_k ?_
                rw [zi_t (show ¬ ((0 : Int32)) < 0 ∧ ¬ (5 : Int32) < ((0 : Int32)) by decide)]
                show xEv _ _ _ 16 ([some (.int ((5 : Int32))), some (.int (k)), some (.int ((0 : Int32))), some (.int ((2 : Int32)))], [.int ((1 : Int32))], σ)
                refine ev_br 0 [] ((1 : Int32) = 0) 38 19 ([some (.int ((5 : Int32))), some (.int (k)), some (.int ((0 : Int32))), some (.int ((2 : Int32)))], [], σ) rfl ?_ (fun c16 => ?_) (fun c16 => ?_)
                · trivial
                · exact absurd c16 (by decide)
                · refine ev_br 2 [] (¬ (0 : Int32) = k) 26 24 ([some (.int ((5 : Int32))), some (.int (k)), some (.int ((0 : Int32))), some (.int ((2 : Int32)))], [], σ) rfl ?_ (fun c21 => ?_) (fun c21 => ?_)
                  · trivial
                  · refine ev_br 9 [vp_in ((0 : Int32)) 6] ((6 : Int32) ≤ (3 : Int32)) 38 12 ([some (.int ((5 : Int32))), some (.int (k)), some (.int ((-1 : Int32))), some (.int ((3 : Int32)))], [], σ) rfl ?_ (fun c9 => ?_) (fun c9 => ?_)
                    · exact vp_in_nI (n := 0) (by decide) (by decide)
                    · exact absurd c9 (by decide)
                    · refine ev_blk 1 [] 13 ([some (.int ((5 : Int32))), some (.int (k)), some (.int ((-1 : Int32))), some (.int ((3 : Int32)))], [.int ((-1 : Int32))], σ) rfl ?_ ?_
                      · trivial
                      refine ev_callS M_X5_isKind [.int ((-1 : Int32))] [] rfl rfl ln_X5_61 k_X5_isKind rfl rfl rfl (c_isKind _ _) ?_
                      refine pu_k ?_
                      rw [zi_f (show ¬ (¬ ((-1 : Int32)) < 0 ∧ ¬ (5 : Int32) < ((-1 : Int32))) by decide)]
                      show xEv _ _ _ 16 ([some (.int ((5 : Int32))), some (.int (k)), some (.int ((-1 : Int32))), some (.int ((3 : Int32)))], [.int ((0 : Int32))], σ)
                      refine ev_br 0 [] ((0 : Int32) = 0) 38 19 ([some (.int ((5 : Int32))), some (.int (k)), some (.int ((-1 : Int32))), some (.int ((3 : Int32)))], [], σ) rfl ?_ (fun c16 => ?_) (fun c16 => ?_)
                      · trivial
                      · refine ev_blk 1 [] 39 ([some (.int ((5 : Int32))), some (.int (k)), some (.int ((-1 : Int32))), some (.int ((3 : Int32)))], [.int ((0 : Int32))], σ) rfl ?_ ?_
                        · trivial
                        exact ev_iret rfl rfl nar0 (pu_f (by rintro (q | q | ⟨q, _⟩ | ⟨q, _⟩) <;> subst q <;> simp_all))
                      · exact absurd (by decide) c16
                  · refine ev_blk 1 [] 25 ([some (.int ((5 : Int32))), some (.int (k)), some (.int ((0 : Int32))), some (.int ((2 : Int32)))], [.int ((1 : Int32))], σ) rfl ?_ ?_
                    · trivial
                    exact ev_iret rfl rfl nar1 (pu_t (by have e := Classical.byContradiction c21; subst e; decide))
            · refine ev_blk 1 [] 25 ([some (.int ((5 : Int32))), some (.int (k)), some (.int ((1 : Int32))), some (.int ((1 : Int32)))], [.int ((1 : Int32))], σ) rfl ?_ ?_
              · trivial
              exact ev_iret rfl rfl nar1 (pu_t (by have e := Classical.byContradiction c21; subst e; decide))
      · refine ev_blk 1 [] 25 ([some (.int ((5 : Int32))), some (.int (k)), some (.int ((5 : Int32))), some (.int ((0 : Int32)))], [.int ((1 : Int32))], σ) rfl ?_ ?_
        · trivial
        exact ev_iret rfl rfl nar1 (pu_t (by have e := Classical.byContradiction c21; subst e; decide))
theorem c_isUnder (σ : xSg) (j k : Int32) (hj : rg j 0 5) (hk : ¬ k < 0 ∧ ¬ 5 < k) : xPu M_X5_isUnder [.int j, .int k] σ (.int (zi (s_und j k))) := by
  obtain ⟨i, rfl, -, hi⟩ := hj
  rcases (by omega : i = 0 ∨ i = 1 ∨ i = 2 ∨ i = 3 ∨ i = 4 ∨ i = 5) with rfl | rfl | rfl | rfl | rfl | rfl
  · exact c_isUnder0 σ k hk
  · exact c_isUnder1 σ k hk
  · exact c_isUnder2 σ k hk
  · exact c_isUnder3 σ k hk
  · exact c_isUnder4 σ k hk
  · exact c_isUnder5 σ k hk
set_option maxRecDepth 100000 in
theorem c_taken (σ : xSg) (n : Nat) (hok : aOk (atC σ) n) (hn : σ 1 0 = nI n) (x k : Int32) : xCtr M_X5_taken [.ref 0, .int (x), .int (k)] σ (fun r σ1 => r = some (.int (s_tak n (atC σ) x k)) ∧ σ1 = σ) := by
  refine ctr_ev ok_X5_taken (by decide +kernel) rfl rfl rfl ?_
  show xEv (.inl 2) M_X5_taken _ 0 ([some (.ref 0), some (.int (x)), some (.int (k))], [], σ)
  have hn10 := hok.1
  have hsi := iSh_iN (x := x) hn hn10
  refine ev_blk 3 [] 5 ([some (.ref 0), some (.int (x)), some (.int (k))], [.int (x), .ref 1], σ) rfl ?_ ?_
  · trivial
  refine ev_callV M_X3_isShip [.int (x)] [] 1 rfl rfl ln_X5_119 k_X3_isShip rfl rfl rfl rfl rfl rfl (c_isShip _ _) ?_
  refine pu_k ?_
  show xEv _ _ _ 8 ([some (.ref 0), some (.int (x)), some (.int (k))], [.int (zi (iSh σ x))], σ)
  refine ev_br 0 [] ((zi (iSh σ x)) = 0) 18 11 ([some (.ref 0), some (.int (x)), some (.int (k))], [], σ) rfl ?_ (fun c8 => ?_) (fun c8 => ?_)
  · trivial
  · replace c8 := zi_0.mp c8
    refine ev_blk 1 [] 20 ([some (.ref 0), some (.int (x)), some (.int (k))], [.int ((-2 : Int32))], σ) rfl ?_ ?_
    · trivial
    exact ev_iret rfl rfl rfl (pu_v (by rw [s_tak, if_neg (fun q => c8 (hsi.mpr q.1))]))
  · replace c8 := zi_1.mp c8
    refine ev_blk 1 [] 12 ([some (.ref 0), some (.int (x)), some (.int (k))], [.int (k)], σ) rfl ?_ ?_
    · trivial
    refine ev_callS M_X5_isKind [.int (k)] [] rfl rfl ln_X5_61 k_X5_isKind rfl rfl rfl (c_isKind _ _) ?_
    refine pu_k ?_
    show xEv _ _ _ 15 ([some (.ref 0), some (.int (x)), some (.int (k))], [.int (zi (¬ k < 0 ∧ ¬ (5 : Int32) < k))], σ)
    refine ev_br 0 [] (¬ (zi (¬ k < 0 ∧ ¬ (5 : Int32) < k)) = 0) 21 18 ([some (.ref 0), some (.int (x)), some (.int (k))], [], σ) rfl ?_ (fun c15 => ?_) (fun c15 => ?_)
    · trivial
    · replace c15 := zi_1.mp c15
      have hx := hsi.mp c8
      obtain ⟨j, hj, rfl⟩ := nI_of hx.1
      have hjn : j < n := Nat.lt_of_not_le (fun z => hx.2 (nI_le z hj))
      have hjc : (nI j).toNatClampNeg = j := nI_clamp hj
      have hval : s_tak n (atC σ) (nI j) k = if s_und (σ 2 j) k then σ 3 j else -13 := by rw [s_tak, if_pos ⟨hx, c15⟩, hjc]
      rw [hval]
      refine ev_blk 6 [vp_in (nI j) 10] 31 ([some (.ref 0), some (.int (nI j)), some (.int (k))], [.int (k), .int ((σ 2) (nI j).toNatClampNeg)], σ) rfl ?_ ?_
      · exact vp_in_nI (by omega) (by decide)
      rw [hjc]
      refine ev_callS M_X5_isUnder [.int ((σ 2) j), .int (k)] [] rfl rfl ln_X5_150 k_X5_isUnder rfl rfl rfl (c_isUnder _ _ _ (hok.2.1 j hjn).1 c15) ?_
      refine pu_k ?_
      show xEv _ _ _ 34 ([some (.ref 0), some (.int (nI j)), some (.int (k))], [.int (zi (s_und ((σ 2) j) k))], σ)
      refine ev_br 0 [] ((zi (s_und ((σ 2) j) k)) = 0) 49 37 ([some (.ref 0), some (.int (nI j)), some (.int (k))], [], σ) rfl ?_ (fun c34 => ?_) (fun c34 => ?_)
      · trivial
      · replace c34 := zi_0.mp c34
        refine ev_blk 1 [] 51 ([some (.ref 0), some (.int (nI j)), some (.int (k))], [.int ((-13 : Int32))], σ) rfl ?_ ?_
        · trivial
        exact ev_iret rfl rfl rfl (pu_v (by rw [if_neg c34]))
      · replace c34 := zi_1.mp c34
        refine ev_blk 6 [vp_in (nI j) 10] 51 ([some (.ref 0), some (.int (nI j)), some (.int (k))], [.int ((σ 3) (nI j).toNatClampNeg)], σ) rfl ?_ ?_
        · exact vp_in_nI (by omega) (by decide)
        rw [hjc]
        exact ev_iret rfl rfl rfl (pu_v (by rw [if_pos c34]))
    · replace c15 := zi_n.mp c15
      refine ev_blk 1 [] 20 ([some (.ref 0), some (.int (x)), some (.int (k))], [.int ((-2 : Int32))], σ) rfl ?_ ?_
      · trivial
      exact ev_iret rfl rfl rfl (pu_v (by rw [s_tak, if_neg (fun q => c15 q.2)]))
def s_sum (g : Nat → Nat) : Nat → Nat
  | 0 => 0
  | k + 1 => s_sum g k + g k
theorem s_sum_le {g : Nat → Nat} {l b : Nat} (h : ∀ k, k < l → g k ≤ b) : ∀ k, k ≤ l → s_sum g k ≤ k * b
  | 0, _ => by simp [s_sum]
  | k + 1, hk => by
    have := s_sum_le h k (by omega)
    have := h k (by omega)
    simp only [s_sum, Nat.add_mul, Nat.one_mul]
    omega
/-- the ledger: l numbers, none of them large -/
def ledOk (f : Nat → Int32) (g : Nat → Nat) (l : Nat) : Prop := l ≤ 40 ∧ ∀ k, k < l → f k = nI (g k) ∧ g k ≤ 5940
def s_spn (g : Nat → Nat) (l : Nat) (i : Int32) : Int64 := if i < -1 ∨ nI l ≤ i then -9223372036854775808 else if i = -1 then lN (s_sum g l) else lN (g i.toNatClampNeg)
set_option maxRecDepth 100000 in
theorem c_spentAll_lp (σ : xSg) (g : Nat → Nat) (l : Nat) (hl : ledOk (σ 12) g l) (h13 : σ 1 13 = nI l) : ∀ (m k : Nat), k + m = l → xEv (.inl 0) M_X3_spentInAll (fun r1 σ1 => r1 = some (.long (lN (s_sum g l))) ∧ σ1 = σ) 4 ([some (.ref 1), some (.long (lN (s_sum g k))), none, some (.int (nI k))], [], σ) := by
  have hl40 := hl.1
  intro m
  induction m with
  | zero =>
    intro k hk
    refine ev_br 3 [] ((σ 1 13) ≤ (nI k)) 34 12 ([some (.ref 1), some (.long (lN (s_sum g k))), none, some (.int (nI k))], [], σ) rfl ?_ (fun c9 => ?_) (fun c9 => ?_)
    · trivial
    · refine ev_blk 1 [] 35 ([some (.ref 1), some (.long (lN (s_sum g k))), none, some (.int (nI k))], [.long (lN (s_sum g k))], σ) rfl ?_ ?_
      · trivial
      exact ev_lret rfl rfl ⟨by rw [show k = l by omega], rfl⟩
    · exact absurd (show σ 1 13 ≤ nI k by rw [h13]; exact nI_le (by omega) (by omega)) c9
  | succ m ih =>
    intro k hk
    have hkc : (nI k).toNatClampNeg = k := nI_clamp (by omega)
    obtain ⟨hv, hb⟩ := hl.2 k (by omega)
    refine ev_br 3 [] ((σ 1 13) ≤ (nI k)) 34 12 ([some (.ref 1), some (.long (lN (s_sum g k))), none, some (.int (nI k))], [], σ) rfl ?_ (fun c9 => ?_) (fun c9 => ?_)
    · trivial
    · exact absurd c9 (show ¬ σ 1 13 ≤ nI k by rw [h13]; exact nI_ge (by omega) (by omega))
    · refine ev_br 2 [] ((40 : Int32) ≤ (nI k)) 34 18 ([some (.ref 1), some (.long (lN (s_sum g k))), none, some (.int (nI k))], [], σ) rfl ?_ (fun c15 => ?_) (fun c15 => ?_)
      · trivial
      · exact absurd c15 (nI_ge (b := 40) (by omega) (by decide))
      · refine ev_blk 10 [vp_in (nI k) 40] 4 ([some (.ref 1), some (.long ((lN (s_sum g k)) + (((σ 12) (nI k).toNatClampNeg).toInt64))), none, some (.int ((nI k) + (1 : Int32)))], [], σ) rfl ?_ ?_
        · exact vp_in_nI (by omega) (by decide)
        rw [hkc]
        rw [nI_1, hv, nI_l (by omega), lN_add]
        exact ih (k + 1) (by omega)
set_option maxRecDepth 100000 in
theorem c_spentAll (σ : xSg) (g : Nat → Nat) (l : Nat) (hl : ledOk (σ 12) g l) (h13 : σ 1 13 = nI l) : xCtr M_X3_spentInAll [.ref 1] σ (fun r1 σ1 => r1 = some (.long (lN (s_sum g l))) ∧ σ1 = σ) := by
  refine ctr_ev ok_X3_spentInAll (by decide +kernel) rfl rfl rfl ?_
  show xEv (.inl 0) M_X3_spentInAll _ 0 ([some (.ref 1), none, none, none], [], σ)
  refine ev_blk 4 [] 4 ([some (.ref 1), some (.long ((0 : Int64))), none, some (.int ((0 : Int32)))], [], σ) rfl ?_ ?_
  · trivial
  exact c_spentAll_lp σ g l hl h13 l 0 (by omega)
set_option maxRecDepth 100000 in
theorem c_spent (σ : xSg) (g : Nat → Nat) (l : Nat) (hl : ledOk (σ 12) g l) (h13 : σ 1 13 = nI l) (i : Int32) : xCtr M_X5_spent [.ref 0, .int (i)] σ (fun r1 σ1 => r1 = some (.long (s_spn g l i)) ∧ σ1 = σ) := by
  refine ctr_ev ok_X5_spent (by decide +kernel) rfl rfl rfl ?_
  show xEv (.inl 1) M_X5_spent _ 0 ([some (.ref 0), some (.int (i))], [], σ)
  have hl40 := hl.1
  refine ev_br 2 [] (i < (-1 : Int32)) 16 5 ([some (.ref 0), some (.int (i))], [], σ) rfl ?_ (fun c2 => ?_) (fun c2 => ?_)
  · trivial
  · refine ev_blk 1 [] 19 ([some (.ref 0), some (.int (i))], [.long ((-9223372036854775808 : Int64))], σ) rfl ?_ ?_
    · trivial
    exact ev_lret rfl rfl ⟨by rw [s_spn, if_pos (Or.inl c2)], rfl⟩
  · refine ev_br 4 [] (i < (σ 1 13)) 20 16 ([some (.ref 0), some (.int (i))], [], σ) rfl ?_ (fun c13 => ?_) (fun c13 => ?_)
    · trivial
    · refine ev_br 2 [] (¬ i = (-1 : Int32)) 35 25 ([some (.ref 0), some (.int (i))], [], σ) rfl ?_ (fun c22 => ?_) (fun c22 => ?_)
      · trivial
      · refine ev_blk 6 [vp_in (i) 40] 45 ([some (.ref 0), some (.int (i))], [.long (((σ 12) i.toNatClampNeg).toInt64)], σ) rfl ?_ ?_
        · have hi0 : ¬ i < 0 := fun q => by
            rw [Int32.lt_iff_toInt_lt] at q c2
            have e0 : ((0 : Int32)).toInt = 0 := by decide
            have e1 : ((-1 : Int32)).toInt = -1 := by decide
            exact c22 (Int32.toInt_inj.mp (by omega))
          obtain ⟨j, hj, rfl⟩ := nI_of hi0
          have hjc : (nI j).toNatClampNeg = j := nI_clamp hj
          have hjl : j < l := (nI_ltI hj (by omega)).mp (by rw [← h13]; exact c13)
          exact vp_in_nI (by omega) (by decide)
        have hg : ¬ (i < -1 ∨ nI l ≤ i) := by rintro (q | q); exact c2 q; exact absurd c13 (Int32.not_lt.mpr (by rw [h13]; exact q))
        have hi0 : ¬ i < 0 := fun q => by
          rw [Int32.lt_iff_toInt_lt] at q c2
          have e0 : ((0 : Int32)).toInt = 0 := by decide
          have e1 : ((-1 : Int32)).toInt = -1 := by decide
          exact c22 (Int32.toInt_inj.mp (by omega))
        obtain ⟨j, hj, rfl⟩ := nI_of hi0
        have hjc : (nI j).toNatClampNeg = j := nI_clamp hj
        have hjl : j < l := (nI_ltI hj (by omega)).mp (by rw [← h13]; exact c13)
        exact ev_lret rfl rfl ⟨by rw [s_spn, if_neg hg, if_neg c22, hjc, (hl.2 j hjl).1, nI_l (by have := (hl.2 j hjl).2; omega)], rfl⟩
      · refine ev_blk 2 [] 29 ([some (.ref 0), some (.int (i))], [.ref 1], σ) rfl ?_ ?_
        · trivial
        refine ev_callV M_X3_spentInAll [] [] 1 rfl rfl ln_X5_186 k_X3_spentInAll rfl rfl rfl rfl rfl rfl (c_spentAll σ g l hl h13) ?_
        refine pu_k ?_
        show xEv _ _ _ 32 ([some (.ref 0), some (.int (i))], [.long (lN (s_sum g l))], σ)
        refine ev_blk 1 [] 45 ([some (.ref 0), some (.int (i))], [.long (lN (s_sum g l))], σ) rfl ?_ ?_
        · trivial
        have hg : ¬ (i < -1 ∨ nI l ≤ i) := by rintro (q | q); exact c2 q; exact absurd c13 (Int32.not_lt.mpr (by rw [h13]; exact q))
        exact ev_lret rfl rfl ⟨by rw [s_spn, if_neg hg, if_pos (Classical.byContradiction c22)], rfl⟩
    · refine ev_blk 1 [] 19 ([some (.ref 0), some (.int (i))], [.long ((-9223372036854775808 : Int64))], σ) rfl ?_ ?_
      · trivial
      exact ev_lret rfl rfl ⟨by rw [s_spn, if_pos (Or.inr (by rw [← h13]; exact Int32.not_lt.mp c13))], rfl⟩
