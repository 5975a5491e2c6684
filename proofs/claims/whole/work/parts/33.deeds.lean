def remQ (σ : xSg) (D : Nat) (x : Int32) : Option Value → xSg → Prop := fun r σ' => r = none ∧ xFc [25] [4] [] σ σ' ∧ σ' 0 4 = nI (if D < 6 then D + 1 else 6) ∧ ∀ k, k < 6 → σ' 25 k = if D < 6 then upd (σ 25) D x k else if k < 5 then σ 25 (k + 1) else x
set_option maxRecDepth 100000 in
theorem c_remember (σ : xSg) (D : Nat) (hD : σ 0 4 = nI D) (hD6 : D ≤ 6) (x : Int32) : xCtr M_X5_remember [.ref 0, .int (x)] σ (remQ σ D x) := by
  refine ctr_ev ok_X5_remember (by decide +kernel) rfl rfl rfl ?_
  show xEv (.inl 1) M_X5_remember _ 0 ([some (.ref 0), some (.int (x))], [], σ)
  refine ev_br 3 [] ((σ 0 4) < (6 : Int32)) 28 9 ([some (.ref 0), some (.int (x))], [], σ) rfl ?_ (fun c6 => ?_) (fun c6 => ?_)
  · trivial
  · have hlt : D < 6 := by have := mt (fun z => nI_le (a := 6) (b := D) z (by omega)) (Int32.not_le.mpr (by rw [hD] at c6; exact c6)); omega
    have hin : vp_in (σ 0 4) 6 := by rw [hD]; exact vp_in_nI hlt (by decide)
    refine ev_blk 12 [vp_in ((σ 0 4)) 6] 48 ([some (.ref 0), some (.int (x))], [], (x_up (x_up σ 25 (upd (σ 25) (σ 0 4).toNatClampNeg (x))) 0 (upd (σ 0) 4 ((σ 0 4) + (1 : Int32))))) rfl ?_ ?_
    · exact hin
    have hc : (σ 0 4).toNatClampNeg = D := by rw [hD, nI_clamp (by omega)]
    refine ev_vret rfl rfl ⟨rfl, ⟨fun c h h0 h1 => ?_, fun i h => ?_, fun i h => rfl⟩, ?_, fun k hk => ?_⟩
    · simp only [List.mem_singleton] at h; simp [x_up, h, h0]
    · simp only [List.mem_singleton] at h; simp [x_up, upd, h]
    · rw [if_pos hlt]; simp [x_up, upd, hD, nI_1]
    · rw [if_pos hlt]; simp [x_up, hc]
  · have hlt : ¬ D < 6 := fun z => c6 (by rw [hD]; exact nI_lt (b := 6) z (by decide))
    refine ev_blk 23 [¬ (1 : Int32) < 0, ¬ (0 : Int32) < 0, ¬ (5 : Int32) < 0, 1 + 5 ≤ 6, 0 + 5 ≤ 6, vp_in ((5 : Int32)) 6] 48 ([some (.ref 0), some (.int (x))], [], (x_up (x_up (x_up (x_up σ 25 (va_cpy (σ 25) (σ 25) 1 0 5)) 0 (upd (σ 0) 4 ((5 : Int32)))) 25 (upd (va_cpy (σ 25) (σ 25) 1 0 5) 5 (x))) 0 (upd (upd (σ 0) 4 ((5 : Int32))) 4 ((5 : Int32) + (1 : Int32))))) rfl ?_ ?_
    · exact ⟨(by decide), (by decide), (by decide), (by decide), (by decide), (vp_in_nI (n := 5) (by decide) (by decide))⟩
    refine ev_vret rfl rfl ⟨rfl, ⟨fun c h h0 h1 => ?_, fun i h => ?_, fun i h => rfl⟩, ?_, fun k hk => ?_⟩
    · simp only [List.mem_singleton] at h; simp [x_up, h, h0]
    · simp only [List.mem_singleton] at h; simp [x_up, upd, h]
    · rw [if_neg hlt]; simp [x_up, upd]; decide
    · rw [if_neg hlt]
      by_cases hk5 : k = 5
      · subst hk5; simp [x_up, upd]
      · rw [if_pos (by omega)]
        show upd (va_cpy (σ 25) (σ 25) 1 0 5) 5 x k = _
        rw [upd_ne hk5, pk_cpy_in (by omega) (by omega)]
        congr 1; omega
def tbQ (σ : xSg) (d : Int32) : Option Value → xSg → Prop := fun r σ' => r = none ∧ xFc [8] [] [1, 2, 13] σ σ' ∧ σ' 1 1 = σ 1 1 ||| d ∧ σ' 1 2 = σ 1 2 &&& (d ^^^ -1) ∧ σ' 1 13 = (if d &&& σ 1 2 = 0 then σ 1 13 else σ 1 13 - 1) ∧ ∀ j, j < 10 → σ' 8 j = if bt d j = true then -1 else σ 8 j
set_option maxRecDepth 100000 in
theorem c_takeBack_lp (σ σ0 : xSg) (d : Int32) (h0 : ∀ c, c ≠ 1 → σ0 c = σ c) (h1 : ∀ i, i ≠ 13 → σ0 1 i = σ 1 i) (h13 : σ0 1 13 = (if d &&& σ 1 2 = 0 then σ 1 13 else σ 1 13 - 1)) : ∀ (m k : Nat), k + m = 10 → ∀ σ1 : xSg, (∀ c, c ≠ 8 → σ1 c = σ0 c) → (∀ j, j < 10 → σ1 8 j = if j < k ∧ bt d j = true then -1 else σ 8 j) → xEv (.inl 0) M_X3_takeBack (tbQ σ d) 21 ([some (.ref 1), some (.int (d)), some (.int (nI k))], [], σ1) := by
  intro m
  induction m with
  | zero =>
    intro k hk σ1 hc h8
    refine ev_br 2 [] ((10 : Int32) ≤ (nI k)) 48 27 ([some (.ref 1), some (.int (d)), some (.int (nI k))], [], σ1) rfl ?_ (fun c24 => ?_) (fun c24 => ?_)
    · trivial
    · refine ev_blk 14 [] 70 ([some (.ref 1), some (.int (d)), some (.int (nI k))], [], (x_up (x_up σ1 1 (upd (σ1 1) 2 ((σ1 1 2) &&& (d ^^^ (-1 : Int32))))) 1 (upd (upd (σ1 1) 2 ((σ1 1 2) &&& (d ^^^ (-1 : Int32)))) 1 ((σ1 1 1) ||| d)))) rfl ?_ ?_
      · trivial
      have e1 : σ1 1 = σ0 1 := hc 1 (by decide)
      refine ev_vret rfl rfl ⟨rfl, ⟨fun c h a b => ?_, fun i _ => ?_, fun i h => ?_⟩, ?_, ?_, ?_, fun j hj => ?_⟩
      · simp only [List.mem_singleton] at h; simp [x_up, b, hc c h, h0 c b]
      · simp [x_up, hc 0 (by decide), h0 0 (by decide)]
      · simp only [List.mem_cons, List.not_mem_nil, or_false, not_or] at h; simp [x_up, upd, e1, h, h1 i h.2.2]
      · simp [x_up, upd, e1, h1 1 (by decide)]
      · simp [x_up, upd, e1, h1 2 (by decide)]
      · simp [x_up, upd, e1, h13]
      · have := h8 j hj
        simp only [x_up]
        rw [if_neg (by decide), if_neg (by decide), this]
        simp [show j < k by omega]
    · exact absurd (show (10 : Int32) ≤ nI k from nI_le (a := 10) (by omega) (by omega)) c24
  | succ m ih =>
    intro k hk σ1 hc h8
    have hkc : (nI k).toNatClampNeg = k := nI_clamp (by omega)
    have hb := b_tst (x := d) (j := k) (by omega)
    refine ev_br 2 [] ((10 : Int32) ≤ (nI k)) 48 27 ([some (.ref 1), some (.int (d)), some (.int (nI k))], [], σ1) rfl ?_ (fun c24 => ?_) (fun c24 => ?_)
    · trivial
    · exact absurd c24 (nI_ge (b := 10) (by omega) (by decide))
    · refine ev_br 5 [] (((d >>> ((nI k) &&& 31)) &&& (1 : Int32)) = 0) 42 35 ([some (.ref 1), some (.int (d)), some (.int (nI k))], [], σ1) rfl ?_ (fun c32 => ?_) (fun c32 => ?_)
      · trivial
      · refine ev_blk 2 [] 21 ([some (.ref 1), some (.int (d)), some (.int ((nI k) + (1 : Int32)))], [], σ1) rfl ?_ ?_
        · trivial
        rw [nI_1]
        refine ih (k + 1) (by omega) σ1 hc (fun j hj => ?_)
        rw [h8 j hj]
        have hbf := hb.mp c32
        by_cases hjk : j = k
        · subst hjk; simp [hbf]
        · simp [show (j < k + 1) = (j < k) from propext ⟨fun z => by omega, fun z => by omega⟩]
      · refine ev_blk 7 [vp_in (nI k) 10] 21 ([some (.ref 1), some (.int (d)), some (.int ((nI k) + (1 : Int32)))], [], (x_up σ1 8 (upd (σ1 8) (nI k).toNatClampNeg ((-1 : Int32))))) rfl ?_ ?_
        · exact (vp_in_nI (by omega) (by decide))
        rw [hkc]
        rw [nI_1]
        refine ih (k + 1) (by omega) _ (fun c h => ?_) (fun j hj => ?_)
        · simp [x_up, h, hc c h]
        · have hbt : bt d k = true := by
            cases hz : bt d k with
            | false => exact absurd (hb.mpr hz) c32
            | true => rfl
          simp only [x_up, upd, if_true]
          by_cases hjk : j = k
          · subst hjk; simp [hbt]
          · rw [if_neg hjk, h8 j hj]
            simp [show (j < k + 1) = (j < k) from propext ⟨fun z => by omega, fun z => by omega⟩]
set_option maxRecDepth 100000 in
theorem c_takeBack (σ : xSg) (d : Int32) : xCtr M_X3_takeBack [.ref 1, .int (d)] σ (tbQ σ d) := by
  refine ctr_ev ok_X3_takeBack (by decide +kernel) rfl rfl rfl ?_
  show xEv (.inl 0) M_X3_takeBack _ 0 ([some (.ref 1), some (.int (d)), none], [], σ)
  refine ev_br 4 [] ((d &&& (σ 1 2)) = 0) 19 9 ([some (.ref 1), some (.int (d)), none], [], σ) rfl ?_ (fun c6 => ?_) (fun c6 => ?_)
  · trivial
  · refine ev_blk 2 [] 21 ([some (.ref 1), some (.int (d)), some (.int ((0 : Int32)))], [], σ) rfl ?_ ?_
    · trivial
    exact c_takeBack_lp σ σ d (fun _ _ => rfl) (fun _ _ => rfl) (by rw [if_pos c6]) 10 0 (by omega) σ (fun _ _ => rfl) (fun j hj => by simp)
  · refine ev_blk 8 [] 21 ([some (.ref 1), some (.int (d)), some (.int ((0 : Int32)))], [], (x_up σ 1 (upd (σ 1) 13 ((σ 1 13) - (1 : Int32))))) rfl ?_ ?_
    · trivial
    exact c_takeBack_lp σ _ d (fun c h => by simp [x_up, h]) (fun i h => by simp [x_up, upd, h]) (by rw [if_neg c6]; simp [x_up, upd]) 10 0 (by omega) _ (fun _ _ => rfl) (fun j hj => by simp [x_up])
