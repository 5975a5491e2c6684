def gbQ (σ : xSg) (d wa : Int32) (l : Nat) : Option Value → xSg → Prop := fun r σ' => r = none ∧ xFc [8, 12] [] [1, 2, 13] σ σ' ∧ σ' 1 1 = σ 1 1 &&& (d ^^^ -1) ∧ σ' 1 2 = σ 1 2 ||| d ∧ σ' 1 13 = nI (l + 1) ∧ σ' 12 = upd (σ 12) l wa ∧ ∀ j, j < 10 → σ' 8 j = if bt d j = true then nI l else σ 8 j
set_option maxRecDepth 100000 in
theorem c_goneBy_lp (σ : xSg) (d wa : Int32) (l : Nat) (hl : σ 1 13 = nI l) (hl40 : l < 40) : ∀ (m k : Nat), k + m = 10 → ∀ σ1 : xSg, (∀ c, c ≠ 8 → σ1 c = σ c) → (∀ j, j < 10 → σ1 8 j = if j < k ∧ bt d j = true then nI l else σ 8 j) → xEv (.inl 0) M_X3_goneBy (gbQ σ d wa l) 19 ([some (.ref 1), some (.int (d)), some (.int (wa)), some (.int (nI k))], [], σ1) := by
  intro m
  induction m with
  | zero =>
    intro k hk σ1 hc h8
    have h13 : (σ1 1 13) = nI l := by rw [hc 1 (by decide)]; exact hl
    have hin : vp_in (σ1 1 13) 40 := by rw [h13]; exact vp_in_nI hl40 (by decide)
    have hlc : (nI l).toNatClampNeg = l := nI_clamp (by omega)
    refine ev_br 2 [] ((10 : Int32) ≤ (nI k)) 49 25 ([some (.ref 1), some (.int (d)), some (.int (wa)), some (.int (nI k))], [], σ1) rfl ?_ (fun c22 => ?_) (fun c22 => ?_)
    · trivial
    · refine ev_blk 26 [vp_in ((σ1 1 13)) 40] 91 ([some (.ref 1), some (.int (d)), some (.int (wa)), some (.int (nI k))], [], (x_up (x_up (x_up (x_up σ1 1 (upd (σ1 1) 1 ((σ1 1 1) &&& (d ^^^ (-1 : Int32))))) 1 (upd (upd (σ1 1) 1 ((σ1 1 1) &&& (d ^^^ (-1 : Int32)))) 2 ((σ1 1 2) ||| d))) 12 (upd (σ1 12) (σ1 1 13).toNatClampNeg (wa))) 1 (upd (upd (upd (σ1 1) 1 ((σ1 1 1) &&& (d ^^^ (-1 : Int32)))) 2 ((σ1 1 2) ||| d)) 13 ((σ1 1 13) + (1 : Int32))))) rfl ?_ ?_
      · exact hin
      have e1 : σ1 1 = σ 1 := hc 1 (by decide)
      refine ev_vret rfl rfl ⟨rfl, ⟨fun c h a b => ?_, fun i _ => ?_, fun i h => ?_⟩, ?_, ?_, ?_, ?_, fun j hj => ?_⟩
      · simp only [List.mem_cons, List.not_mem_nil, or_false, not_or] at h; simp [x_up, b, h.2, hc c h.1]
      · simp [x_up, hc 0 (by decide)]
      · simp only [List.mem_cons, List.not_mem_nil, or_false, not_or] at h; simp [x_up, upd, e1, h]
      · simp [x_up, upd, e1]
      · simp [x_up, upd, e1]
      · simp [x_up, upd, e1, hl, nI_1, nI_add]
      · simp only [x_up]
        rw [if_neg (by decide), if_pos True.intro, hc 12 (by decide), h13, hlc]
      · have := h8 j hj
        simp only [x_up]
        rw [if_neg (by decide), if_neg (by decide), if_neg (by decide), if_neg (by decide), this]
        simp [show j < k by omega]
    · exact absurd (show (10 : Int32) ≤ nI k from nI_le (a := 10) (by omega) (by omega)) c22
  | succ m ih =>
    intro k hk σ1 hc h8
    have h13 : (σ1 1 13) = nI l := by rw [hc 1 (by decide)]; exact hl
    have hkc : (nI k).toNatClampNeg = k := nI_clamp (by omega)
    have hb := b_tst (x := d) (j := k) (by omega)
    refine ev_br 2 [] ((10 : Int32) ≤ (nI k)) 49 25 ([some (.ref 1), some (.int (d)), some (.int (wa)), some (.int (nI k))], [], σ1) rfl ?_ (fun c22 => ?_) (fun c22 => ?_)
    · trivial
    · exact absurd c22 (nI_ge (b := 10) (by omega) (by decide))
    · refine ev_br 5 [] (((d >>> ((nI k) &&& 31)) &&& (1 : Int32)) = 0) 43 33 ([some (.ref 1), some (.int (d)), some (.int (wa)), some (.int (nI k))], [], σ1) rfl ?_ (fun c30 => ?_) (fun c30 => ?_)
      · trivial
      · refine ev_blk 2 [] 19 ([some (.ref 1), some (.int (d)), some (.int (wa)), some (.int ((nI k) + (1 : Int32)))], [], σ1) rfl ?_ ?_
        · trivial
        rw [nI_1]
        refine ih (k + 1) (by omega) σ1 hc (fun j hj => ?_)
        rw [h8 j hj]
        have hbf := hb.mp c30
        by_cases hjk : j = k
        · subst hjk; simp [hbf]
        · simp [show (j < k + 1) = (j < k) from propext ⟨fun z => by omega, fun z => by omega⟩]
      · refine ev_blk 8 [vp_in (nI k) 10] 19 ([some (.ref 1), some (.int (d)), some (.int (wa)), some (.int ((nI k) + (1 : Int32)))], [], (x_up σ1 8 (upd (σ1 8) (nI k).toNatClampNeg ((σ1 1 13))))) rfl ?_ ?_
        · exact (vp_in_nI (by omega) (by decide))
        rw [hkc]
        rw [h13]
        rw [nI_1]
        refine ih (k + 1) (by omega) _ (fun c h => ?_) (fun j hj => ?_)
        · simp [x_up, h, hc c h]
        · have hbt : bt d k = true := by
            cases hz : bt d k with
            | false => exact absurd (hb.mpr hz) c30
            | true => rfl
          simp only [x_up, upd, if_true]
          by_cases hjk : j = k
          · subst hjk; simp [hbt]
          · rw [if_neg hjk, h8 j hj]
            simp [show (j < k + 1) = (j < k) from propext ⟨fun z => by omega, fun z => by omega⟩]
set_option maxRecDepth 100000 in
theorem c_goneBy (σ : xSg) (d wa : Int32) (l : Nat) (hl : σ 1 13 = nI l) (hl40 : l < 40) : xCtr M_X3_goneBy [.ref 1, .int (d), .int (wa)] σ (gbQ σ d wa l) := by
  refine ctr_ev ok_X3_goneBy (by decide +kernel) rfl rfl rfl ?_
  show xEv (.inl 0) M_X3_goneBy _ 0 ([some (.ref 1), some (.int (d)), some (.int (wa)), none], [], σ)
  refine ev_br 2 [] ((σ 1 13) < 0) 16 7 ([some (.ref 1), some (.int (d)), some (.int (wa)), none], [], σ) rfl ?_ (fun c4 => ?_) (fun c4 => ?_)
  · trivial
  · exact absurd c4 (by rw [hl]; exact nI_pos (by omega))
  · refine ev_br 3 [] ((σ 1 13) < (40 : Int32)) 17 16 ([some (.ref 1), some (.int (d)), some (.int (wa)), none], [], σ) rfl ?_ (fun c13 => ?_) (fun c13 => ?_)
    · trivial
    · refine ev_blk 2 [] 19 ([some (.ref 1), some (.int (d)), some (.int (wa)), some (.int ((0 : Int32)))], [], σ) rfl ?_ ?_
      · trivial
      exact c_goneBy_lp σ d wa l hl hl40 10 0 (by omega) σ (fun _ _ => rfl) (fun j hj => by simp)
    · exact absurd (by rw [hl]; exact nI_lt (b := 40) hl40 (by decide)) c13
def udQ (σ : xSg) (D : Nat) : Option Value → xSg → Prop := fun r σ' => (D = 0 ∧ r = some (.int (-3)) ∧ σ' = σ) ∨ (0 < D ∧ r = some (.int (nI (D - 1))) ∧ σ' 0 4 = nI (D - 1) ∧ (∀ i, i ≠ 4 → σ' 0 i = σ 0 i) ∧ ∃ σ1, (∀ c, c ≠ 0 → σ1 c = σ c) ∧ σ1 0 = upd (σ 0) 4 (nI (D - 1)) ∧ tbQ σ1 (σ 25 (D - 1)) none σ')
set_option maxRecDepth 100000 in
theorem c_undo (σ : xSg) (D : Nat) (hD : σ 0 4 = nI D) (hD6 : D ≤ 6) : xCtr M_X5_undo [.ref 0] σ (udQ σ D) := by
  refine ctr_ev ok_X5_undo (by decide +kernel) rfl rfl rfl ?_
  show xEv (.inl 1) M_X5_undo _ 0 ([some (.ref 0)], [], σ)
  refine ev_br 3 [] ((σ 0 4) < (1 : Int32)) 17 8 ([some (.ref 0)], [], σ) rfl ?_ (fun c5 => ?_) (fun c5 => ?_)
  · trivial
  · refine ev_blk 1 [] 19 ([some (.ref 0)], [.int ((-3 : Int32))], σ) rfl ?_ ?_
    · trivial
    have hD1 : D = 0 := by
      rcases Nat.eq_zero_or_pos D with h | h
      · exact h
      · exact absurd c5 (by rw [hD]; exact nI_nlt (b := 1) (by omega) (by omega))
    exact ev_iret rfl rfl rfl (Or.inl ⟨hD1, rfl, rfl⟩)
  · refine ev_br 3 [] ((σ 0 4) ≤ (6 : Int32)) 20 17 ([some (.ref 0)], [], σ) rfl ?_ (fun c14 => ?_) (fun c14 => ?_)
    · trivial
    · have hD1 : 0 < D := by
        rcases Nat.eq_zero_or_pos D with h | h
        · subst h; rw [hD] at c5; exact absurd (by decide) c5
        · exact h
      have hm1 : ((σ 0 4) - (1 : Int32)) = nI (D - 1) := by rw [hD]; exact i_sub (b := 1) (by omega)
      have hmc : (nI (D - 1)).toNatClampNeg = D - 1 := nI_clamp (by omega)
      refine ev_blk 13 [vp_in ((σ 0 4) - (1 : Int32)) 6] 43 ([some (.ref 0)], [.int ((σ 25) ((σ 0 4) - (1 : Int32)).toNatClampNeg), .ref 1], (x_up σ 0 (upd (σ 0) 4 ((σ 0 4) - (1 : Int32))))) rfl ?_ ?_
      · show vp_in ((σ 0 4) - (1 : Int32)) 6; rw [hm1]; exact vp_in_nI (by omega) (by decide)
      rw [hm1]
      rw [hmc]
      refine ev_callV M_X3_takeBack [.int ((σ 25) (D - 1))] [] 1 rfl rfl ln_X5_193 k_X3_takeBack rfl rfl rfl rfl rfl rfl (c_takeBack _ _) ?_
      rintro r σ' ⟨rfl, hq⟩
      show xEv _ _ _ 46 ([some (.ref 0)], [], σ')
      refine ev_blk 2 [] 50 ([some (.ref 0)], [.int ((σ' 0 4))], σ') rfl ?_ ?_
      · trivial
      have h04 : σ' 0 4 = nI (D - 1) := by rw [hq.1.2.1 4 (by simp)]; simp [x_up, upd]
      rw [h04]
      refine ev_iret rfl rfl rfl (Or.inr ⟨hD1, rfl, h04, fun i h => ?_, _, fun c h => ?_, ?_, rfl, hq⟩)
      · rw [hq.1.2.1 i (by simp)]; simp [x_up, upd, h]
      · simp [x_up, h]
      · simp [x_up]
    · refine ev_blk 1 [] 19 ([some (.ref 0)], [.int ((-3 : Int32))], σ) rfl ?_ ?_
      · trivial
      exact absurd (by rw [hD]; exact nI_le (b := 6) (by omega) (by decide)) c14
