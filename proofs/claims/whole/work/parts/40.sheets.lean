def flaQ (k n : Nat) (σ : xSg) (v : Int32) : Option Value → xSg → Prop := fun r σ' => r = none ∧ (∀ c, c ≠ k → σ' c = σ c) ∧ ∀ j, j < n → σ' k j = v
set_option maxRecDepth 100000 in
theorem j_fill33_lp (σ : xSg) (v : Int32) : ∀ (m i : Nat) (g : Nat → Int32), i + m = 10 → (∀ j, j < i → g j = v) → xEv (.inl 0) M_J7_fill_53178 (flaQ 33 10 σ v) 5 ([some (.ref 33), some (.int (v)), some (.int (nI i)), some (.int ((10 : Int32)))], [], (x_up σ 33 g)) := by
  intro m
  induction m with
  | zero =>
    intro i g hi hg
    refine ev_br 2 [] ((10 : Int32) ≤ (nI i)) 20 10 ([some (.ref 33), some (.int (v)), some (.int (nI i)), some (.int ((10 : Int32)))], [], (x_up σ 33 g)) rfl ?_ (fun c7 => ?_) (fun c7 => ?_)
    · trivial
    · exact ev_vret rfl rfl ⟨rfl, fun c hc => by simp [x_up, hc], fun j hj => by simpa [x_up] using hg j (by omega)⟩
    · exact absurd (show (10 : Int32) ≤ nI i from nI_le (a := 10) (by omega) (by omega)) c7
  | succ m ih =>
    intro i g hi hg
    have hic : (nI i).toNatClampNeg = i := nI_clamp (by omega)
    refine ev_br 2 [] ((10 : Int32) ≤ (nI i)) 20 10 ([some (.ref 33), some (.int (v)), some (.int (nI i)), some (.int ((10 : Int32)))], [], (x_up σ 33 g)) rfl ?_ (fun c7 => ?_) (fun c7 => ?_)
    · trivial
    · exact absurd c7 (nI_ge (b := 10) (by omega) (by decide))
    · refine ev_blk 6 [vp_in (nI i) 10] 5 ([some (.ref 33), some (.int (v)), some (.int ((nI i) + (1 : Int32))), some (.int ((10 : Int32)))], [], (x_up (x_up σ 33 g) 33 (upd g (nI i).toNatClampNeg (v)))) rfl ?_ ?_
      · exact (vp_in_nI (by omega) (by decide))
      rw [hic]
      rw [nI_1, x_up_up]
      refine ih (i + 1) _ (by omega) (fun j hj => ?_)
      by_cases hji : j = i
      · rw [hji, upd_eq]
      · rw [upd_ne hji]; exact hg j (by omega)
set_option maxRecDepth 100000 in
theorem j_fill33 (σ : xSg) (v : Int32) : xCtr M_J7_fill_53178 [.ref 33, .int (v)] σ (flaQ 33 10 σ v) := by
  refine ctr_ev ok_J7_fill_53178 (by decide +kernel) rfl rfl rfl ?_
  show xEv (.inl 0) M_J7_fill_53178 _ 0 ([some (.ref 33), some (.int (v)), none, none], [], σ)
  refine ev_blk 5 [] 5 ([some (.ref 33), some (.int (v)), some (.int ((0 : Int32))), some (.int ((10 : Int32)))], [], σ) rfl ?_ ?_
  · trivial
  have h := j_fill33_lp σ v 10 0 (σ 33) (by omega) (fun j hj => absurd hj (Nat.not_lt_zero j))
  rw [x_up_self] at h
  exact h
set_option maxRecDepth 100000 in
theorem j_fill50_lp (σ : xSg) (v : Int32) : ∀ (m i : Nat) (g : Nat → Int32), i + m = 40 → (∀ j, j < i → g j = v) → xEv (.inl 0) M_J7_fill_53178 (flaQ 50 40 σ v) 5 ([some (.ref 50), some (.int (v)), some (.int (nI i)), some (.int ((40 : Int32)))], [], (x_up σ 50 g)) := by
  intro m
  induction m with
  | zero =>
    intro i g hi hg
    refine ev_br 2 [] ((40 : Int32) ≤ (nI i)) 20 10 ([some (.ref 50), some (.int (v)), some (.int (nI i)), some (.int ((40 : Int32)))], [], (x_up σ 50 g)) rfl ?_ (fun c7 => ?_) (fun c7 => ?_)
    · trivial
    · exact ev_vret rfl rfl ⟨rfl, fun c hc => by simp [x_up, hc], fun j hj => by simpa [x_up] using hg j (by omega)⟩
    · exact absurd (show (40 : Int32) ≤ nI i from nI_le (a := 40) (by omega) (by omega)) c7
  | succ m ih =>
    intro i g hi hg
    have hic : (nI i).toNatClampNeg = i := nI_clamp (by omega)
    refine ev_br 2 [] ((40 : Int32) ≤ (nI i)) 20 10 ([some (.ref 50), some (.int (v)), some (.int (nI i)), some (.int ((40 : Int32)))], [], (x_up σ 50 g)) rfl ?_ (fun c7 => ?_) (fun c7 => ?_)
    · trivial
    · exact absurd c7 (nI_ge (b := 40) (by omega) (by decide))
    · refine ev_blk 6 [vp_in (nI i) 40] 5 ([some (.ref 50), some (.int (v)), some (.int ((nI i) + (1 : Int32))), some (.int ((40 : Int32)))], [], (x_up (x_up σ 50 g) 50 (upd g (nI i).toNatClampNeg (v)))) rfl ?_ ?_
      · exact (vp_in_nI (by omega) (by decide))
      rw [hic]
      rw [nI_1, x_up_up]
      refine ih (i + 1) _ (by omega) (fun j hj => ?_)
      by_cases hji : j = i
      · rw [hji, upd_eq]
      · rw [upd_ne hji]; exact hg j (by omega)
set_option maxRecDepth 100000 in
theorem j_fill50 (σ : xSg) (v : Int32) : xCtr M_J7_fill_53178 [.ref 50, .int (v)] σ (flaQ 50 40 σ v) := by
  refine ctr_ev ok_J7_fill_53178 (by decide +kernel) rfl rfl rfl ?_
  show xEv (.inl 0) M_J7_fill_53178 _ 0 ([some (.ref 50), some (.int (v)), none, none], [], σ)
  refine ev_blk 5 [] 5 ([some (.ref 50), some (.int (v)), some (.int ((0 : Int32))), some (.int ((40 : Int32)))], [], σ) rfl ?_ ?_
  · trivial
  have h := j_fill50_lp σ v 40 0 (σ 50) (by omega) (fun j hj => absurd hj (Nat.not_lt_zero j))
  rw [x_up_self] at h
  exact h
set_option maxRecDepth 100000 in
theorem j_fill52_lp (σ : xSg) (v : Int32) : ∀ (m i : Nat) (g : Nat → Int32), i + m = 40 → (∀ j, j < i → g j = v) → xEv (.inl 0) M_J7_fill_53178 (flaQ 52 40 σ v) 5 ([some (.ref 52), some (.int (v)), some (.int (nI i)), some (.int ((40 : Int32)))], [], (x_up σ 52 g)) := by
  intro m
  induction m with
  | zero =>
    intro i g hi hg
    refine ev_br 2 [] ((40 : Int32) ≤ (nI i)) 20 10 ([some (.ref 52), some (.int (v)), some (.int (nI i)), some (.int ((40 : Int32)))], [], (x_up σ 52 g)) rfl ?_ (fun c7 => ?_) (fun c7 => ?_)
    · trivial
    · exact ev_vret rfl rfl ⟨rfl, fun c hc => by simp [x_up, hc], fun j hj => by simpa [x_up] using hg j (by omega)⟩
    · exact absurd (show (40 : Int32) ≤ nI i from nI_le (a := 40) (by omega) (by omega)) c7
  | succ m ih =>
    intro i g hi hg
    have hic : (nI i).toNatClampNeg = i := nI_clamp (by omega)
    refine ev_br 2 [] ((40 : Int32) ≤ (nI i)) 20 10 ([some (.ref 52), some (.int (v)), some (.int (nI i)), some (.int ((40 : Int32)))], [], (x_up σ 52 g)) rfl ?_ (fun c7 => ?_) (fun c7 => ?_)
    · trivial
    · exact absurd c7 (nI_ge (b := 40) (by omega) (by decide))
    · refine ev_blk 6 [vp_in (nI i) 40] 5 ([some (.ref 52), some (.int (v)), some (.int ((nI i) + (1 : Int32))), some (.int ((40 : Int32)))], [], (x_up (x_up σ 52 g) 52 (upd g (nI i).toNatClampNeg (v)))) rfl ?_ ?_
      · exact (vp_in_nI (by omega) (by decide))
      rw [hic]
      rw [nI_1, x_up_up]
      refine ih (i + 1) _ (by omega) (fun j hj => ?_)
      by_cases hji : j = i
      · rw [hji, upd_eq]
      · rw [upd_ne hji]; exact hg j (by omega)
set_option maxRecDepth 100000 in
theorem j_fill52 (σ : xSg) (v : Int32) : xCtr M_J7_fill_53178 [.ref 52, .int (v)] σ (flaQ 52 40 σ v) := by
  refine ctr_ev ok_J7_fill_53178 (by decide +kernel) rfl rfl rfl ?_
  show xEv (.inl 0) M_J7_fill_53178 _ 0 ([some (.ref 52), some (.int (v)), none, none], [], σ)
  refine ev_blk 5 [] 5 ([some (.ref 52), some (.int (v)), some (.int ((0 : Int32))), some (.int ((40 : Int32)))], [], σ) rfl ?_ ?_
  · trivial
  have h := j_fill52_lp σ v 40 0 (σ 52) (by omega) (fun j hj => absurd hj (Nat.not_lt_zero j))
  rw [x_up_self] at h
  exact h
set_option maxRecDepth 100000 in
theorem j_fill54_lp (σ : xSg) (v : Int32) : ∀ (m i : Nat) (g : Nat → Int32), i + m = 40 → (∀ j, j < i → g j = v) → xEv (.inl 0) M_J7_fill_53178 (flaQ 54 40 σ v) 5 ([some (.ref 54), some (.int (v)), some (.int (nI i)), some (.int ((40 : Int32)))], [], (x_up σ 54 g)) := by
  intro m
  induction m with
  | zero =>
    intro i g hi hg
    refine ev_br 2 [] ((40 : Int32) ≤ (nI i)) 20 10 ([some (.ref 54), some (.int (v)), some (.int (nI i)), some (.int ((40 : Int32)))], [], (x_up σ 54 g)) rfl ?_ (fun c7 => ?_) (fun c7 => ?_)
    · trivial
    · exact ev_vret rfl rfl ⟨rfl, fun c hc => by simp [x_up, hc], fun j hj => by simpa [x_up] using hg j (by omega)⟩
    · exact absurd (show (40 : Int32) ≤ nI i from nI_le (a := 40) (by omega) (by omega)) c7
  | succ m ih =>
    intro i g hi hg
    have hic : (nI i).toNatClampNeg = i := nI_clamp (by omega)
    refine ev_br 2 [] ((40 : Int32) ≤ (nI i)) 20 10 ([some (.ref 54), some (.int (v)), some (.int (nI i)), some (.int ((40 : Int32)))], [], (x_up σ 54 g)) rfl ?_ (fun c7 => ?_) (fun c7 => ?_)
    · trivial
    · exact absurd c7 (nI_ge (b := 40) (by omega) (by decide))
    · refine ev_blk 6 [vp_in (nI i) 40] 5 ([some (.ref 54), some (.int (v)), some (.int ((nI i) + (1 : Int32))), some (.int ((40 : Int32)))], [], (x_up (x_up σ 54 g) 54 (upd g (nI i).toNatClampNeg (v)))) rfl ?_ ?_
      · exact (vp_in_nI (by omega) (by decide))
      rw [hic]
      rw [nI_1, x_up_up]
      refine ih (i + 1) _ (by omega) (fun j hj => ?_)
      by_cases hji : j = i
      · rw [hji, upd_eq]
      · rw [upd_ne hji]; exact hg j (by omega)
set_option maxRecDepth 100000 in
theorem j_fill54 (σ : xSg) (v : Int32) : xCtr M_J7_fill_53178 [.ref 54, .int (v)] σ (flaQ 54 40 σ v) := by
  refine ctr_ev ok_J7_fill_53178 (by decide +kernel) rfl rfl rfl ?_
  show xEv (.inl 0) M_J7_fill_53178 _ 0 ([some (.ref 54), some (.int (v)), none, none], [], σ)
  refine ev_blk 5 [] 5 ([some (.ref 54), some (.int (v)), some (.int ((0 : Int32))), some (.int ((40 : Int32)))], [], σ) rfl ?_ ?_
  · trivial
  have h := j_fill54_lp σ v 40 0 (σ 54) (by omega) (fun j hj => absurd hj (Nat.not_lt_zero j))
  rw [x_up_self] at h
  exact h
set_option maxRecDepth 100000 in
theorem j_fill56_lp (σ : xSg) (v : Int32) : ∀ (m i : Nat) (g : Nat → Int32), i + m = 40 → (∀ j, j < i → g j = v) → xEv (.inl 0) M_J7_fill_53178 (flaQ 56 40 σ v) 5 ([some (.ref 56), some (.int (v)), some (.int (nI i)), some (.int ((40 : Int32)))], [], (x_up σ 56 g)) := by
  intro m
  induction m with
  | zero =>
    intro i g hi hg
    refine ev_br 2 [] ((40 : Int32) ≤ (nI i)) 20 10 ([some (.ref 56), some (.int (v)), some (.int (nI i)), some (.int ((40 : Int32)))], [], (x_up σ 56 g)) rfl ?_ (fun c7 => ?_) (fun c7 => ?_)
    · trivial
    · exact ev_vret rfl rfl ⟨rfl, fun c hc => by simp [x_up, hc], fun j hj => by simpa [x_up] using hg j (by omega)⟩
    · exact absurd (show (40 : Int32) ≤ nI i from nI_le (a := 40) (by omega) (by omega)) c7
  | succ m ih =>
    intro i g hi hg
    have hic : (nI i).toNatClampNeg = i := nI_clamp (by omega)
    refine ev_br 2 [] ((40 : Int32) ≤ (nI i)) 20 10 ([some (.ref 56), some (.int (v)), some (.int (nI i)), some (.int ((40 : Int32)))], [], (x_up σ 56 g)) rfl ?_ (fun c7 => ?_) (fun c7 => ?_)
    · trivial
    · exact absurd c7 (nI_ge (b := 40) (by omega) (by decide))
    · refine ev_blk 6 [vp_in (nI i) 40] 5 ([some (.ref 56), some (.int (v)), some (.int ((nI i) + (1 : Int32))), some (.int ((40 : Int32)))], [], (x_up (x_up σ 56 g) 56 (upd g (nI i).toNatClampNeg (v)))) rfl ?_ ?_
      · exact (vp_in_nI (by omega) (by decide))
      rw [hic]
      rw [nI_1, x_up_up]
      refine ih (i + 1) _ (by omega) (fun j hj => ?_)
      by_cases hji : j = i
      · rw [hji, upd_eq]
      · rw [upd_ne hji]; exact hg j (by omega)
set_option maxRecDepth 100000 in
theorem j_fill56 (σ : xSg) (v : Int32) : xCtr M_J7_fill_53178 [.ref 56, .int (v)] σ (flaQ 56 40 σ v) := by
  refine ctr_ev ok_J7_fill_53178 (by decide +kernel) rfl rfl rfl ?_
  show xEv (.inl 0) M_J7_fill_53178 _ 0 ([some (.ref 56), some (.int (v)), none, none], [], σ)
  refine ev_blk 5 [] 5 ([some (.ref 56), some (.int (v)), some (.int ((0 : Int32))), some (.int ((40 : Int32)))], [], σ) rfl ?_ ?_
  · trivial
  have h := j_fill56_lp σ v 40 0 (σ 56) (by omega) (fun j hj => absurd hj (Nat.not_lt_zero j))
  rw [x_up_self] at h
  exact h
def shbQ (k : Nat) (σ : xSg) (so n : Int32) : Option Value → xSg → Prop := fun r σ' => r = none ∧ (∀ c, c ≠ k → c ≠ k + 1 → σ' c = σ c) ∧ σ' k = upd (upd (σ k) 0 so) 1 (x_mx 0 (x_mn n 40)) ∧ ∀ j, j < 40 → σ' (k + 1) j = 0
def sbv (so v : Int32) : Int32 := if so = 0 then v.toInt8.toInt32 else v
def shwQ (k s : Nat) (σ : xSg) (x v : Int32) : Option Value → xSg → Prop := fun r σ' => r = none ∧ ((∃ j, j < s ∧ x = nI j ∧ σ' = x_up σ (k + 1) (upd (σ (k + 1)) j (sbv (σ k 0) v))) ∨ ((∀ j, j < s → x ≠ nI j) ∧ σ' = σ))
set_option maxRecDepth 100000 in
theorem c_shBecome0 (σ : xSg) (so n : Int32) : xCtr M_X4_become [.ref 49, .int (so), .int (n)] σ (shbQ 49 σ so n) := by
  refine ctr_ev ok_X4_become (by decide +kernel) rfl rfl rfl ?_
  show xEv (.inl 1) M_X4_become _ 0 ([some (.ref 49), some (.int (so)), some (.int (n))], [], σ)
  refine ev_blk 13 [] 24 ([some (.ref 49), some (.int (so)), some (.int (n))], [.int ((0 : Int32)), .ref 50], (x_up (x_up σ 49 (upd (σ 49) 0 (so))) 49 (upd (upd (σ 49) 0 (so)) 1 (x_mx (0 : Int32) (x_mn n (40 : Int32)))))) rfl ?_ ?_
  · trivial
  refine ev_callS M_J7_fill_53178 [.ref 50, .int ((0 : Int32))] [] rfl rfl ln_X4_31 k_J7_fill_53178 rfl rfl rfl (j_fill50 _ _) ?_
  rintro r σ' hq
  obtain rfl := hq.1
  show xEv _ _ _ 27 ([some (.ref 49), some (.int (so)), some (.int (n))], [], σ')
  refine ev_vret rfl rfl ⟨rfl, fun c h1 h2 => ?_, ?_, hq.2.2⟩
  · rw [hq.2.1 c h2]; simp [x_up, h1]
  · rw [hq.2.1 49 (by decide)]; rfl
set_option maxRecDepth 100000 in
theorem c_shWrite0 (σ : xSg) (s : Nat) (hs : σ 49 1 = nI s) (hs40 : s ≤ 40) (x v : Int32) : xCtr M_X4_write [.ref 49, .int (x), .int (v)] σ (shwQ 49 s σ x v) := by
  refine ctr_ev ok_X4_write (by decide +kernel) rfl rfl rfl ?_
  show xEv (.inl 1) M_X4_write _ 0 ([some (.ref 49), some (.int (x)), some (.int (v))], [], σ)
  refine ev_blk 2 [] 2 ([some (.ref 49), some (.int (x)), some (.int (v))], [.int (x), .ref 49], σ) rfl ?_ ?_
  · trivial
  refine ev_callV M_X4_has [.int (x)] [] 49 rfl rfl ln_X4_37 k_X4_has rfl rfl rfl rfl rfl rfl (c_has0 _ _) ?_
  refine pu_k ?_
  show xEv _ _ _ 5 ([some (.ref 49), some (.int (x)), some (.int (v))], [.int (zi (¬ x < 0 ∧ ¬ σ 49 1 ≤ x))], σ)
  refine ev_br 0 [] ((zi (¬ x < 0 ∧ ¬ σ 49 1 ≤ x)) = 0) 27 8 ([some (.ref 49), some (.int (x)), some (.int (v))], [], σ) rfl ?_ (fun c5 => ?_) (fun c5 => ?_)
  · trivial
  · replace c5 := zi_0.mp c5
    exact ev_vret rfl rfl ⟨rfl, Or.inr ⟨fun j hj q => by subst q; exact c5 ⟨nI_pos (by omega), by rw [hs]; exact nI_ge hj (by omega)⟩, rfl⟩⟩
  · replace c5 := zi_1.mp c5
    obtain ⟨j, hj, rfl⟩ := nI_of c5.1
    have hjs : j < s := Nat.lt_of_not_le (fun z => c5.2 (by rw [hs]; exact nI_le z hj))
    have hjc : (nI j).toNatClampNeg = j := nI_clamp hj
    refine ev_br 5 [] (¬ (σ 49 0) = 0) 25 20 ([some (.ref 49), some (.int (nI j)), some (.int (v))], [.int (nI j), .ref 50], σ) rfl ?_ (fun c17 => ?_) (fun c17 => ?_)
    · trivial
    · refine ev_blk 2 [vp_in (nI j) 40] 27 ([some (.ref 49), some (.int (nI j)), some (.int (v))], [], (x_up σ 50 (upd (σ 50) (nI j).toNatClampNeg (v)))) rfl ?_ ?_
      · exact (vp_in_nI (by omega) (by decide))
      rw [hjc]
      exact ev_vret rfl rfl ⟨rfl, Or.inl ⟨j, hjs, rfl, by rw [sbv, if_neg c17]⟩⟩
    · refine ev_blk 4 [vp_in (nI j) 40] 27 ([some (.ref 49), some (.int (nI j)), some (.int (v))], [], (x_up σ 50 (upd (σ 50) (nI j).toNatClampNeg (v.toInt8.toInt32)))) rfl ?_ ?_
      · exact (vp_in_nI (by omega) (by decide))
      rw [hjc]
      exact ev_vret rfl rfl ⟨rfl, Or.inl ⟨j, hjs, rfl, by rw [sbv, if_pos (Classical.byContradiction c17)]⟩⟩
set_option maxRecDepth 100000 in
theorem c_shBecome1 (σ : xSg) (so n : Int32) : xCtr M_X4_become [.ref 51, .int (so), .int (n)] σ (shbQ 51 σ so n) := by
  refine ctr_ev ok_X4_become (by decide +kernel) rfl rfl rfl ?_
  show xEv (.inl 1) M_X4_become _ 0 ([some (.ref 51), some (.int (so)), some (.int (n))], [], σ)
  refine ev_blk 13 [] 24 ([some (.ref 51), some (.int (so)), some (.int (n))], [.int ((0 : Int32)), .ref 52], (x_up (x_up σ 51 (upd (σ 51) 0 (so))) 51 (upd (upd (σ 51) 0 (so)) 1 (x_mx (0 : Int32) (x_mn n (40 : Int32)))))) rfl ?_ ?_
  · trivial
  refine ev_callS M_J7_fill_53178 [.ref 52, .int ((0 : Int32))] [] rfl rfl ln_X4_31 k_J7_fill_53178 rfl rfl rfl (j_fill52 _ _) ?_
  rintro r σ' hq
  obtain rfl := hq.1
  show xEv _ _ _ 27 ([some (.ref 51), some (.int (so)), some (.int (n))], [], σ')
  refine ev_vret rfl rfl ⟨rfl, fun c h1 h2 => ?_, ?_, hq.2.2⟩
  · rw [hq.2.1 c h2]; simp [x_up, h1]
  · rw [hq.2.1 51 (by decide)]; rfl
set_option maxRecDepth 100000 in
theorem c_shWrite1 (σ : xSg) (s : Nat) (hs : σ 51 1 = nI s) (hs40 : s ≤ 40) (x v : Int32) : xCtr M_X4_write [.ref 51, .int (x), .int (v)] σ (shwQ 51 s σ x v) := by
  refine ctr_ev ok_X4_write (by decide +kernel) rfl rfl rfl ?_
  show xEv (.inl 1) M_X4_write _ 0 ([some (.ref 51), some (.int (x)), some (.int (v))], [], σ)
  refine ev_blk 2 [] 2 ([some (.ref 51), some (.int (x)), some (.int (v))], [.int (x), .ref 51], σ) rfl ?_ ?_
  · trivial
  refine ev_callV M_X4_has [.int (x)] [] 51 rfl rfl ln_X4_37 k_X4_has rfl rfl rfl rfl rfl rfl (c_has1 _ _) ?_
  refine pu_k ?_
  show xEv _ _ _ 5 ([some (.ref 51), some (.int (x)), some (.int (v))], [.int (zi (¬ x < 0 ∧ ¬ σ 51 1 ≤ x))], σ)
  refine ev_br 0 [] ((zi (¬ x < 0 ∧ ¬ σ 51 1 ≤ x)) = 0) 27 8 ([some (.ref 51), some (.int (x)), some (.int (v))], [], σ) rfl ?_ (fun c5 => ?_) (fun c5 => ?_)
  · trivial
  · replace c5 := zi_0.mp c5
    exact ev_vret rfl rfl ⟨rfl, Or.inr ⟨fun j hj q => by subst q; exact c5 ⟨nI_pos (by omega), by rw [hs]; exact nI_ge hj (by omega)⟩, rfl⟩⟩
  · replace c5 := zi_1.mp c5
    obtain ⟨j, hj, rfl⟩ := nI_of c5.1
    have hjs : j < s := Nat.lt_of_not_le (fun z => c5.2 (by rw [hs]; exact nI_le z hj))
    have hjc : (nI j).toNatClampNeg = j := nI_clamp hj
    refine ev_br 5 [] (¬ (σ 51 0) = 0) 25 20 ([some (.ref 51), some (.int (nI j)), some (.int (v))], [.int (nI j), .ref 52], σ) rfl ?_ (fun c17 => ?_) (fun c17 => ?_)
    · trivial
    · refine ev_blk 2 [vp_in (nI j) 40] 27 ([some (.ref 51), some (.int (nI j)), some (.int (v))], [], (x_up σ 52 (upd (σ 52) (nI j).toNatClampNeg (v)))) rfl ?_ ?_
      · exact (vp_in_nI (by omega) (by decide))
      rw [hjc]
      exact ev_vret rfl rfl ⟨rfl, Or.inl ⟨j, hjs, rfl, by rw [sbv, if_neg c17]⟩⟩
    · refine ev_blk 4 [vp_in (nI j) 40] 27 ([some (.ref 51), some (.int (nI j)), some (.int (v))], [], (x_up σ 52 (upd (σ 52) (nI j).toNatClampNeg (v.toInt8.toInt32)))) rfl ?_ ?_
      · exact (vp_in_nI (by omega) (by decide))
      rw [hjc]
      exact ev_vret rfl rfl ⟨rfl, Or.inl ⟨j, hjs, rfl, by rw [sbv, if_pos (Classical.byContradiction c17)]⟩⟩
set_option maxRecDepth 100000 in
theorem c_shBecome2 (σ : xSg) (so n : Int32) : xCtr M_X4_become [.ref 53, .int (so), .int (n)] σ (shbQ 53 σ so n) := by
  refine ctr_ev ok_X4_become (by decide +kernel) rfl rfl rfl ?_
  show xEv (.inl 1) M_X4_become _ 0 ([some (.ref 53), some (.int (so)), some (.int (n))], [], σ)
  refine ev_blk 13 [] 24 ([some (.ref 53), some (.int (so)), some (.int (n))], [.int ((0 : Int32)), .ref 54], (x_up (x_up σ 53 (upd (σ 53) 0 (so))) 53 (upd (upd (σ 53) 0 (so)) 1 (x_mx (0 : Int32) (x_mn n (40 : Int32)))))) rfl ?_ ?_
  · trivial
  refine ev_callS M_J7_fill_53178 [.ref 54, .int ((0 : Int32))] [] rfl rfl ln_X4_31 k_J7_fill_53178 rfl rfl rfl (j_fill54 _ _) ?_
  rintro r σ' hq
  obtain rfl := hq.1
  show xEv _ _ _ 27 ([some (.ref 53), some (.int (so)), some (.int (n))], [], σ')
  refine ev_vret rfl rfl ⟨rfl, fun c h1 h2 => ?_, ?_, hq.2.2⟩
  · rw [hq.2.1 c h2]; simp [x_up, h1]
  · rw [hq.2.1 53 (by decide)]; rfl
set_option maxRecDepth 100000 in
theorem c_shWrite2 (σ : xSg) (s : Nat) (hs : σ 53 1 = nI s) (hs40 : s ≤ 40) (x v : Int32) : xCtr M_X4_write [.ref 53, .int (x), .int (v)] σ (shwQ 53 s σ x v) := by
  refine ctr_ev ok_X4_write (by decide +kernel) rfl rfl rfl ?_
  show xEv (.inl 1) M_X4_write _ 0 ([some (.ref 53), some (.int (x)), some (.int (v))], [], σ)
  refine ev_blk 2 [] 2 ([some (.ref 53), some (.int (x)), some (.int (v))], [.int (x), .ref 53], σ) rfl ?_ ?_
  · trivial
  refine ev_callV M_X4_has [.int (x)] [] 53 rfl rfl ln_X4_37 k_X4_has rfl rfl rfl rfl rfl rfl (c_has2 _ _) ?_
  refine pu_k ?_
  show xEv _ _ _ 5 ([some (.ref 53), some (.int (x)), some (.int (v))], [.int (zi (¬ x < 0 ∧ ¬ σ 53 1 ≤ x))], σ)
  refine ev_br 0 [] ((zi (¬ x < 0 ∧ ¬ σ 53 1 ≤ x)) = 0) 27 8 ([some (.ref 53), some (.int (x)), some (.int (v))], [], σ) rfl ?_ (fun c5 => ?_) (fun c5 => ?_)
  · trivial
  · replace c5 := zi_0.mp c5
    exact ev_vret rfl rfl ⟨rfl, Or.inr ⟨fun j hj q => by subst q; exact c5 ⟨nI_pos (by omega), by rw [hs]; exact nI_ge hj (by omega)⟩, rfl⟩⟩
  · replace c5 := zi_1.mp c5
    obtain ⟨j, hj, rfl⟩ := nI_of c5.1
    have hjs : j < s := Nat.lt_of_not_le (fun z => c5.2 (by rw [hs]; exact nI_le z hj))
    have hjc : (nI j).toNatClampNeg = j := nI_clamp hj
    refine ev_br 5 [] (¬ (σ 53 0) = 0) 25 20 ([some (.ref 53), some (.int (nI j)), some (.int (v))], [.int (nI j), .ref 54], σ) rfl ?_ (fun c17 => ?_) (fun c17 => ?_)
    · trivial
    · refine ev_blk 2 [vp_in (nI j) 40] 27 ([some (.ref 53), some (.int (nI j)), some (.int (v))], [], (x_up σ 54 (upd (σ 54) (nI j).toNatClampNeg (v)))) rfl ?_ ?_
      · exact (vp_in_nI (by omega) (by decide))
      rw [hjc]
      exact ev_vret rfl rfl ⟨rfl, Or.inl ⟨j, hjs, rfl, by rw [sbv, if_neg c17]⟩⟩
    · refine ev_blk 4 [vp_in (nI j) 40] 27 ([some (.ref 53), some (.int (nI j)), some (.int (v))], [], (x_up σ 54 (upd (σ 54) (nI j).toNatClampNeg (v.toInt8.toInt32)))) rfl ?_ ?_
      · exact (vp_in_nI (by omega) (by decide))
      rw [hjc]
      exact ev_vret rfl rfl ⟨rfl, Or.inl ⟨j, hjs, rfl, by rw [sbv, if_pos (Classical.byContradiction c17)]⟩⟩
set_option maxRecDepth 100000 in
theorem c_shBecome3 (σ : xSg) (so n : Int32) : xCtr M_X4_become [.ref 55, .int (so), .int (n)] σ (shbQ 55 σ so n) := by
  refine ctr_ev ok_X4_become (by decide +kernel) rfl rfl rfl ?_
  show xEv (.inl 1) M_X4_become _ 0 ([some (.ref 55), some (.int (so)), some (.int (n))], [], σ)
  refine ev_blk 13 [] 24 ([some (.ref 55), some (.int (so)), some (.int (n))], [.int ((0 : Int32)), .ref 56], (x_up (x_up σ 55 (upd (σ 55) 0 (so))) 55 (upd (upd (σ 55) 0 (so)) 1 (x_mx (0 : Int32) (x_mn n (40 : Int32)))))) rfl ?_ ?_
  · trivial
  refine ev_callS M_J7_fill_53178 [.ref 56, .int ((0 : Int32))] [] rfl rfl ln_X4_31 k_J7_fill_53178 rfl rfl rfl (j_fill56 _ _) ?_
  rintro r σ' hq
  obtain rfl := hq.1
  show xEv _ _ _ 27 ([some (.ref 55), some (.int (so)), some (.int (n))], [], σ')
  refine ev_vret rfl rfl ⟨rfl, fun c h1 h2 => ?_, ?_, hq.2.2⟩
  · rw [hq.2.1 c h2]; simp [x_up, h1]
  · rw [hq.2.1 55 (by decide)]; rfl
set_option maxRecDepth 100000 in
theorem c_shWrite3 (σ : xSg) (s : Nat) (hs : σ 55 1 = nI s) (hs40 : s ≤ 40) (x v : Int32) : xCtr M_X4_write [.ref 55, .int (x), .int (v)] σ (shwQ 55 s σ x v) := by
  refine ctr_ev ok_X4_write (by decide +kernel) rfl rfl rfl ?_
  show xEv (.inl 1) M_X4_write _ 0 ([some (.ref 55), some (.int (x)), some (.int (v))], [], σ)
  refine ev_blk 2 [] 2 ([some (.ref 55), some (.int (x)), some (.int (v))], [.int (x), .ref 55], σ) rfl ?_ ?_
  · trivial
  refine ev_callV M_X4_has [.int (x)] [] 55 rfl rfl ln_X4_37 k_X4_has rfl rfl rfl rfl rfl rfl (c_has3 _ _) ?_
  refine pu_k ?_
  show xEv _ _ _ 5 ([some (.ref 55), some (.int (x)), some (.int (v))], [.int (zi (¬ x < 0 ∧ ¬ σ 55 1 ≤ x))], σ)
  refine ev_br 0 [] ((zi (¬ x < 0 ∧ ¬ σ 55 1 ≤ x)) = 0) 27 8 ([some (.ref 55), some (.int (x)), some (.int (v))], [], σ) rfl ?_ (fun c5 => ?_) (fun c5 => ?_)
  · trivial
  · replace c5 := zi_0.mp c5
    exact ev_vret rfl rfl ⟨rfl, Or.inr ⟨fun j hj q => by subst q; exact c5 ⟨nI_pos (by omega), by rw [hs]; exact nI_ge hj (by omega)⟩, rfl⟩⟩
  · replace c5 := zi_1.mp c5
    obtain ⟨j, hj, rfl⟩ := nI_of c5.1
    have hjs : j < s := Nat.lt_of_not_le (fun z => c5.2 (by rw [hs]; exact nI_le z hj))
    have hjc : (nI j).toNatClampNeg = j := nI_clamp hj
    refine ev_br 5 [] (¬ (σ 55 0) = 0) 25 20 ([some (.ref 55), some (.int (nI j)), some (.int (v))], [.int (nI j), .ref 56], σ) rfl ?_ (fun c17 => ?_) (fun c17 => ?_)
    · trivial
    · refine ev_blk 2 [vp_in (nI j) 40] 27 ([some (.ref 55), some (.int (nI j)), some (.int (v))], [], (x_up σ 56 (upd (σ 56) (nI j).toNatClampNeg (v)))) rfl ?_ ?_
      · exact (vp_in_nI (by omega) (by decide))
      rw [hjc]
      exact ev_vret rfl rfl ⟨rfl, Or.inl ⟨j, hjs, rfl, by rw [sbv, if_neg c17]⟩⟩
    · refine ev_blk 4 [vp_in (nI j) 40] 27 ([some (.ref 55), some (.int (nI j)), some (.int (v))], [], (x_up σ 56 (upd (σ 56) (nI j).toNatClampNeg (v.toInt8.toInt32)))) rfl ?_ ?_
      · exact (vp_in_nI (by omega) (by decide))
      rw [hjc]
      exact ev_vret rfl rfl ⟨rfl, Or.inl ⟨j, hjs, rfl, by rw [sbv, if_pos (Classical.byContradiction c17)]⟩⟩
