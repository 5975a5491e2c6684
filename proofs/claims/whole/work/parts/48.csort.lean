def kI (f : Nat → Int32) : Nat → Int := fun x => (f x).toInt
theorem i_m1 {a : Nat} (h : a + 1 < 2 ^ 31) : nI (a + 1) - (1 : Int32) = nI a := i_sub (b := 1) (by omega)
theorem i_p1m {a : Nat} (h : a + 1 < 2 ^ 31) : nI (a + 1) + (-1 : Int32) = nI a := by
  rw [show nI (a + 1) + (-1 : Int32) = nI (a + 1) - 1 by rw [Int32.sub_eq_add_neg]]
  exact i_m1 h
set_option maxRecDepth 100000 in
theorem c_sort_in (σ : xSg) (i : Nat) (hi : i < 10) (kK : ∀ g : Nat → Int32, rowL g 0 (s_srt (kI (σ 6)) (List.range (i + 1))) → xEv (.inl 0) M_X0_sortByComes (fun r σ' => r = none ∧ rowL (σ' 32) 0 (s_srt (kI (σ 6)) (List.range 10)) ∧ xFr [32] σ σ') 2 ([some (.ref 31), some (.int (nI (i + 1))), none], [], (x_up σ 32 g))) : ∀ (at_ : Nat) (g : Nat → Int32), at_ ≤ i → insR g 0 (s_srt (kI (σ 6)) (List.range i)) at_ → (∀ y ∈ (s_srt (kI (σ 6)) (List.range i)).drop at_, kI (σ 6) i < kI (σ 6) y) → xEv (.inl 0) M_X0_sortByComes (fun r σ' => r = none ∧ rowL (σ' 32) 0 (s_srt (kI (σ 6)) (List.range 10)) ∧ xFr [32] σ σ') 10 ([some (.ref 31), some (.int (nI i)), some (.int (nI at_))], [], (x_up σ 32 g)) := by
  have hlen : (s_srt (kI (σ 6)) (List.range i)).length = i := by rw [s_srt_len, List.length_range]
  have hic : (nI i).toNatClampNeg = i := nI_clamp (by omega)
  have hnx : s_srt (kI (σ 6)) (List.range (i + 1)) = s_ins (kI (σ 6)) i (s_srt (kI (σ 6)) (List.range i)) := by rw [List.range_succ, s_srt_snoc]
  have fin : ∀ (at_ : Nat) (g : Nat → Int32), at_ ≤ i → insR g 0 (s_srt (kI (σ 6)) (List.range i)) at_ → (∀ y ∈ (s_srt (kI (σ 6)) (List.range i)).drop at_, kI (σ 6) i < kI (σ 6) y) → (∀ y ∈ (s_srt (kI (σ 6)) (List.range i)).take at_, kI (σ 6) y ≤ kI (σ 6) i) → xEv (.inl 0) M_X0_sortByComes (fun r σ' => r = none ∧ rowL (σ' 32) 0 (s_srt (kI (σ 6)) (List.range 10)) ∧ xFr [32] σ σ') 62 ([some (.ref 31), some (.int (nI i)), some (.int (nI at_))], [], (x_up σ 32 g)) := by
    intro at_ g hat hR hd ht
    have hac : (nI at_).toNatClampNeg = at_ := nI_clamp (by omega)
    refine ev_blk 7 [vp_in (nI at_) 10] 2 ([some (.ref 31), some (.int ((nI i) + (1 : Int32))), some (.int (nI at_))], [], (x_up (x_up σ 32 g) 32 (upd g (nI at_).toNatClampNeg (nI i)))) rfl ?_ ?_
    · exact (vp_in_nI (by omega) (by decide))
    rw [hac]
    rw [nI_1, x_up_up]
    refine ev_drop 2 ?_
    refine kK _ ?_
    rw [hnx, s_ins_split hd ht]
    have h := insR_end (x := i) hR (by omega)
    rw [Nat.zero_add] at h
    exact h
  intro at_
  induction at_ with
  | zero =>
    intro g hat hR hd
    refine ev_br 1 [] ((nI 0) ≤ 0) 62 14 ([some (.ref 31), some (.int (nI i)), some (.int (nI 0))], [], (x_up σ 32 g)) rfl ?_ (fun c11 => ?_) (fun c11 => ?_)
    · trivial
    · exact fin 0 g hat hR hd (by simp)
    · exact absurd (by decide) c11
  | succ a ih =>
    intro g hat hR hd
    have hac : (nI (a + 1)).toNatClampNeg = a + 1 := nI_clamp (by omega)
    have hsub := i_m1 (a := a) (by omega)
    have hsc : ((nI (a + 1)) - (1 : Int32)).toNatClampNeg = a := by rw [hsub, nI_clamp (by omega)]
    obtain ⟨y, hy⟩ : ∃ y, (s_srt (kI (σ 6)) (List.range i))[a]? = some y := ⟨_, List.getElem?_eq_getElem (by omega)⟩
    have hy10 : y < 10 := by have := List.mem_range.mp (s_srt_mem.mp (List.mem_of_getElem? hy)); omega
    have hgy : g a = nI y := by have := hR.1 a y hy (by omega); rwa [Nat.zero_add] at this
    have hgs : g ((nI (a + 1)) - (1 : Int32)).toNatClampNeg = nI y := by rw [hsc]; exact hgy
    have hyc : (g ((nI (a + 1)) - (1 : Int32)).toNatClampNeg).toNatClampNeg = y := by rw [hgs, nI_clamp (by omega)]
    refine ev_br 1 [] ((nI (a + 1)) ≤ 0) 62 14 ([some (.ref 31), some (.int (nI i)), some (.int (nI (a + 1)))], [], (x_up σ 32 g)) rfl ?_ (fun c11 => ?_) (fun c11 => ?_)
    · trivial
    · exact absurd c11 (nI_nle (by omega) (by omega))
    · refine ev_br 15 [vp_in ((nI (a + 1)) - (1 : Int32)) 10, vp_in (g ((nI (a + 1)) - (1 : Int32)).toNatClampNeg) 10, vp_in (nI i) 10] (((σ 6) (g ((nI (a + 1)) - (1 : Int32)).toNatClampNeg).toNatClampNeg) ≤ ((σ 6) (nI i).toNatClampNeg)) 62 42 ([some (.ref 31), some (.int (nI i)), some (.int (nI (a + 1)))], [], (x_up σ 32 g)) rfl ?_ (fun c39 => ?_) (fun c39 => ?_)
      · exact ⟨(by rw [hsub]; exact vp_in_nI (by omega) (by decide)), (by rw [hgs]; exact vp_in_nI hy10 (by decide)), (vp_in_nI (by omega) (by decide))⟩
      · rw [hyc] at c39
        rw [hic] at c39
        refine fin (a + 1) g hat hR hd (fun z hz => ?_)
        have h1 := Sd_take s_srt_sd hy z hz
        have h2 := Int32.le_iff_toInt_le.mp c39
        exact Int.le_trans h1 h2
      · rw [hyc] at c39
        rw [hic] at c39
        refine ev_blk 12 [vp_in ((nI (a + 1)) - (1 : Int32)) 10, vp_in (nI (a + 1)) 10] 10 ([some (.ref 31), some (.int (nI i)), some (.int ((nI (a + 1)) + (-1 : Int32)))], [], (x_up (x_up σ 32 g) 32 (upd g (nI (a + 1)).toNatClampNeg (g ((nI (a + 1)) - (1 : Int32)).toNatClampNeg)))) rfl ?_ ?_
        · exact ⟨(by rw [hsub]; exact vp_in_nI (by omega) (by decide)), (vp_in_nI (by omega) (by decide))⟩
        rw [hsc]
        rw [hac]
        rw [i_p1m (by omega), x_up_up]
        refine ih _ (by omega) ?_ (drop_gt hd hy ?_)
        · have := insR_stp hR
          simpa using this
        · exact Int32.lt_iff_toInt_lt.mp (Int32.not_le.mp c39)
set_option maxRecDepth 100000 in
theorem c_sort_lp (σ : xSg) : ∀ (m i : Nat) (g : Nat → Int32), i + m = 10 → rowL g 0 (s_srt (kI (σ 6)) (List.range i)) → xEv (.inl 0) M_X0_sortByComes (fun r σ' => r = none ∧ rowL (σ' 32) 0 (s_srt (kI (σ 6)) (List.range 10)) ∧ xFr [32] σ σ') 2 ([some (.ref 31), some (.int (nI i)), none], [], (x_up σ 32 g)) := by
  intro m
  induction m with
  | zero =>
    intro i g hi hg
    refine ev_br 2 [] ((10 : Int32) ≤ (nI i)) 75 8 ([some (.ref 31), some (.int (nI i)), none], [], (x_up σ 32 g)) rfl ?_ (fun c5 => ?_) (fun c5 => ?_)
    · trivial
    · have e : i = 10 := by omega
      subst e
      exact ev_vret rfl rfl ⟨rfl, hg, fun c hc => x_up_ne (by simpa using hc)⟩
    · exact absurd (show (10 : Int32) ≤ nI i from nI_le (a := 10) (by omega) (by omega)) c5
  | succ m ih =>
    intro i g hi hg
    refine ev_br 2 [] ((10 : Int32) ≤ (nI i)) 75 8 ([some (.ref 31), some (.int (nI i)), none], [], (x_up σ 32 g)) rfl ?_ (fun c5 => ?_) (fun c5 => ?_)
    · trivial
    · exact absurd c5 (nI_ge (b := 10) (by omega) (by decide))
    · refine ev_blk 2 [] 10 ([some (.ref 31), some (.int (nI i)), some (.int (nI i))], [], (x_up σ 32 g)) rfl ?_ ?_
      · trivial
      have hlen : (s_srt (kI (σ 6)) (List.range i)).length = i := by rw [s_srt_len, List.length_range]
      refine c_sort_in σ i (by omega) (fun g2 h2 => ih (i + 1) g2 (by omega) h2) i g (Nat.le_refl _) ?_ (fun y hy => ?_)
      · have := insR_ini hg; rwa [hlen] at this
      · rw [List.drop_of_length_le (by omega)] at hy; simp at hy
set_option maxRecDepth 100000 in
theorem c_sort (σ : xSg) : xCtr M_X0_sortByComes [.ref 31] σ (fun r σ' => r = none ∧ rowL (σ' 32) 0 (s_srt (kI (σ 6)) (List.range 10)) ∧ xFr [32] σ σ') := by
  refine ctr_ev ok_X0_sortByComes (by decide +kernel) rfl rfl rfl ?_
  show xEv (.inl 0) M_X0_sortByComes _ 0 ([some (.ref 31), none, none], [], σ)
  refine ev_blk 2 [] 2 ([some (.ref 31), some (.int ((0 : Int32))), none], [], σ) rfl ?_ ?_
  · trivial
  have h := c_sort_lp σ 10 0 (σ 32) (by omega) (fun j x hx => by simp [s_srt] at hx)
  rw [x_up_self] at h
  exact h
