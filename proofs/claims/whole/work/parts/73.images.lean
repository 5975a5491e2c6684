def mvT (σ : xSg) (c n p : Nat) : Option Value → xSg → Prop := fun r σ' => r = some (.int (nI (p + n))) ∧ (∀ d, d ≠ 73 → σ' d = σ d) ∧ (∀ j, j < n → σ' 73 (p + j) = σ c j) ∧ ∀ j, (j < p ∨ p + n ≤ j) → σ' 73 j = σ 73 j
def mvB (σ : xSg) (c n p : Nat) : Option Value → xSg → Prop := fun r σ' => r = some (.int (nI (p + n))) ∧ (∀ d, d ≠ c → σ' d = σ d) ∧ ∀ j, j < n → σ' c j = σ 73 (p + j)
set_option maxRecDepth 100000 in
theorem m_mvT58_lp (σ : xSg) : ∀ (m i : Nat) (g : Nat → Int32), i + m = 10 → (∀ j, j < i → g (0 + j) = σ 58 j) → (∀ j, (j < 0 ∨ 10 ≤ j) → g j = σ 73 j) → xEv (.inl 0) M_X6_moves (mvT σ 58 10 0) 3 ([some (.ref 57), some (.int ((0 : Int32))), some (.ref 58), some (.int ((10 : Int32))), some (.int ((0 : Int32))), some (.int (nI i))], [], (x_up σ 73 g)) := by
  intro m
  induction m with
  | zero =>
    intro i g hi h1 h2
    refine ev_br 2 [] ((10 : Int32) ≤ (nI i)) 49 9 ([some (.ref 57), some (.int ((0 : Int32))), some (.ref 58), some (.int ((10 : Int32))), some (.int ((0 : Int32))), some (.int (nI i))], [], (x_up σ 73 g)) rfl ?_ (fun c6 => ?_) (fun c6 => ?_)
    · trivial
    · refine ev_blk 3 [] 52 ([some (.ref 57), some (.int ((0 : Int32))), some (.ref 58), some (.int ((10 : Int32))), some (.int ((0 : Int32))), some (.int (nI i))], [.int ((10 : Int32))], (x_up σ 73 g)) rfl ?_ ?_
      · trivial
      refine ev_iret rfl rfl rfl ⟨rfl, fun d hd => x_up_ne hd, fun j hj => by rw [x_up_eq]; exact h1 j (by omega), fun j hj => by rw [x_up_eq]; exact h2 j hj⟩
    · exact absurd (show (10 : Int32) ≤ nI i from nI_le (a := 10) (by omega) (by omega)) c6
  | succ m ih =>
    intro i g hi h1 h2
    have hix : (0 : Int32) + (nI i) = nI (0 + i) := by rw [show (0 : Int32) = nI 0 from rfl, nI_add]
    have hxc : ((0 : Int32) + (nI i)).toNatClampNeg = 0 + i := by rw [hix, nI_clamp (by omega)]
    have hic : (nI i).toNatClampNeg = i := nI_clamp (by omega)
    refine ev_br 2 [] ((10 : Int32) ≤ (nI i)) 49 9 ([some (.ref 57), some (.int ((0 : Int32))), some (.ref 58), some (.int ((10 : Int32))), some (.int ((0 : Int32))), some (.int (nI i))], [], (x_up σ 73 g)) rfl ?_ (fun c6 => ?_) (fun c6 => ?_)
    · trivial
    · exact absurd c6 (nI_ge (b := 10) (by omega) (by decide))
    · refine ev_br 1 [] ((0 : Int32) = 0) 30 14 ([some (.ref 57), some (.int ((0 : Int32))), some (.ref 58), some (.int ((10 : Int32))), some (.int ((0 : Int32))), some (.int (nI i))], [], (x_up σ 73 g)) rfl ?_ (fun c11 => ?_) (fun c11 => ?_)
      · trivial
      · refine ev_blk 11 [vp_in (nI i) 10, vp_in ((0 : Int32) + (nI i)) 320] 3 ([some (.ref 57), some (.int ((0 : Int32))), some (.ref 58), some (.int ((10 : Int32))), some (.int ((0 : Int32))), some (.int ((nI i) + (1 : Int32)))], [], (x_up (x_up σ 73 g) 73 (upd g ((0 : Int32) + (nI i)).toNatClampNeg ((σ 58) (nI i).toNatClampNeg)))) rfl ?_ ?_
        · exact ⟨(vp_in_nI (by omega) (by decide)), (by rw [hix]; exact vp_in_nI (by omega) (by decide))⟩
        rw [hxc]
        rw [hic]
        rw [nI_1, x_up_up]
        refine ih (i + 1) _ (by omega) (fun j hj => ?_) (fun j hj => ?_)
        · by_cases q : j = i
          · rw [q, upd_eq]
          · rw [upd_ne (by omega)]; exact h1 j (by omega)
        · rw [upd_ne (by omega)]; exact h2 j hj
      · exact absurd (by decide) c11
set_option maxRecDepth 100000 in
theorem m_mvT58 (σ : xSg) : xCtr M_X6_moves [.ref 57, .int ((0 : Int32)), .ref 58, .int ((10 : Int32)), .int ((0 : Int32))] σ (mvT σ 58 10 0) := by
  refine ctr_ev ok_X6_moves (by decide +kernel) rfl rfl rfl ?_
  show xEv (.inl 0) M_X6_moves _ 0 ([some (.ref 57), some (.int ((0 : Int32))), some (.ref 58), some (.int ((10 : Int32))), some (.int ((0 : Int32))), none], [], σ)
  refine ev_blk 2 [] 3 ([some (.ref 57), some (.int ((0 : Int32))), some (.ref 58), some (.int ((10 : Int32))), some (.int ((0 : Int32))), some (.int ((0 : Int32)))], [], σ) rfl ?_ ?_
  · trivial
  have h := m_mvT58_lp σ 10 0 (σ 73) (by omega) (fun j hj => absurd hj (Nat.not_lt_zero j)) (fun _ _ => rfl)
  rw [x_up_self] at h
  exact h
set_option maxRecDepth 100000 in
theorem m_mvB58_lp (σ : xSg) : ∀ (m i : Nat) (g : Nat → Int32), i + m = 10 → (∀ j, j < i → g j = σ 73 (0 + j)) → xEv (.inl 0) M_X6_moves (mvB σ 58 10 0) 3 ([some (.ref 57), some (.int ((0 : Int32))), some (.ref 58), some (.int ((10 : Int32))), some (.int ((1 : Int32))), some (.int (nI i))], [], (x_up σ 58 g)) := by
  intro m
  induction m with
  | zero =>
    intro i g hi h1
    refine ev_br 2 [] ((10 : Int32) ≤ (nI i)) 49 9 ([some (.ref 57), some (.int ((0 : Int32))), some (.ref 58), some (.int ((10 : Int32))), some (.int ((1 : Int32))), some (.int (nI i))], [], (x_up σ 58 g)) rfl ?_ (fun c6 => ?_) (fun c6 => ?_)
    · trivial
    · refine ev_blk 3 [] 52 ([some (.ref 57), some (.int ((0 : Int32))), some (.ref 58), some (.int ((10 : Int32))), some (.int ((1 : Int32))), some (.int (nI i))], [.int ((10 : Int32))], (x_up σ 58 g)) rfl ?_ ?_
      · trivial
      refine ev_iret rfl rfl rfl ⟨rfl, fun d hd => x_up_ne hd, fun j hj => by rw [x_up_eq]; exact h1 j (by omega)⟩
    · exact absurd (show (10 : Int32) ≤ nI i from nI_le (a := 10) (by omega) (by omega)) c6
  | succ m ih =>
    intro i g hi h1
    have hix : (0 : Int32) + (nI i) = nI (0 + i) := by rw [show (0 : Int32) = nI 0 from rfl, nI_add]
    have hxc : ((0 : Int32) + (nI i)).toNatClampNeg = 0 + i := by rw [hix, nI_clamp (by omega)]
    have hic : (nI i).toNatClampNeg = i := nI_clamp (by omega)
    refine ev_br 2 [] ((10 : Int32) ≤ (nI i)) 49 9 ([some (.ref 57), some (.int ((0 : Int32))), some (.ref 58), some (.int ((10 : Int32))), some (.int ((1 : Int32))), some (.int (nI i))], [], (x_up σ 58 g)) rfl ?_ (fun c6 => ?_) (fun c6 => ?_)
    · trivial
    · exact absurd c6 (nI_ge (b := 10) (by omega) (by decide))
    · refine ev_br 1 [] ((1 : Int32) = 0) 30 14 ([some (.ref 57), some (.int ((0 : Int32))), some (.ref 58), some (.int ((10 : Int32))), some (.int ((1 : Int32))), some (.int (nI i))], [], (x_up σ 58 g)) rfl ?_ (fun c11 => ?_) (fun c11 => ?_)
      · trivial
      · exact absurd c11 (by decide)
      · refine ev_blk 12 [vp_in ((0 : Int32) + (nI i)) 320, vp_in (nI i) 10] 3 ([some (.ref 57), some (.int ((0 : Int32))), some (.ref 58), some (.int ((10 : Int32))), some (.int ((1 : Int32))), some (.int ((nI i) + (1 : Int32)))], [], (x_up (x_up σ 58 g) 58 (upd g (nI i).toNatClampNeg ((σ 73) ((0 : Int32) + (nI i)).toNatClampNeg)))) rfl ?_ ?_
        · exact ⟨(by rw [hix]; exact vp_in_nI (by omega) (by decide)), (vp_in_nI (by omega) (by decide))⟩
        rw [hxc]
        rw [hic]
        rw [nI_1, x_up_up]
        refine ih (i + 1) _ (by omega) (fun j hj => ?_)
        by_cases q : j = i
        · rw [q, upd_eq]
        · rw [upd_ne q]; exact h1 j (by omega)
set_option maxRecDepth 100000 in
theorem m_mvB58 (σ : xSg) : xCtr M_X6_moves [.ref 57, .int ((0 : Int32)), .ref 58, .int ((10 : Int32)), .int ((1 : Int32))] σ (mvB σ 58 10 0) := by
  refine ctr_ev ok_X6_moves (by decide +kernel) rfl rfl rfl ?_
  show xEv (.inl 0) M_X6_moves _ 0 ([some (.ref 57), some (.int ((0 : Int32))), some (.ref 58), some (.int ((10 : Int32))), some (.int ((1 : Int32))), none], [], σ)
  refine ev_blk 2 [] 3 ([some (.ref 57), some (.int ((0 : Int32))), some (.ref 58), some (.int ((10 : Int32))), some (.int ((1 : Int32))), some (.int ((0 : Int32)))], [], σ) rfl ?_ ?_
  · trivial
  have h := m_mvB58_lp σ 10 0 (σ 58) (by omega) (fun j hj => absurd hj (Nat.not_lt_zero j))
  rw [x_up_self] at h
  exact h
set_option maxRecDepth 100000 in
theorem m_mvT59_lp (σ : xSg) : ∀ (m i : Nat) (g : Nat → Int32), i + m = 10 → (∀ j, j < i → g (10 + j) = σ 59 j) → (∀ j, (j < 10 ∨ 20 ≤ j) → g j = σ 73 j) → xEv (.inl 0) M_X6_moves (mvT σ 59 10 10) 3 ([some (.ref 57), some (.int ((10 : Int32))), some (.ref 59), some (.int ((10 : Int32))), some (.int ((0 : Int32))), some (.int (nI i))], [], (x_up σ 73 g)) := by
  intro m
  induction m with
  | zero =>
    intro i g hi h1 h2
    refine ev_br 2 [] ((10 : Int32) ≤ (nI i)) 49 9 ([some (.ref 57), some (.int ((10 : Int32))), some (.ref 59), some (.int ((10 : Int32))), some (.int ((0 : Int32))), some (.int (nI i))], [], (x_up σ 73 g)) rfl ?_ (fun c6 => ?_) (fun c6 => ?_)
    · trivial
    · refine ev_blk 3 [] 52 ([some (.ref 57), some (.int ((10 : Int32))), some (.ref 59), some (.int ((10 : Int32))), some (.int ((0 : Int32))), some (.int (nI i))], [.int ((20 : Int32))], (x_up σ 73 g)) rfl ?_ ?_
      · trivial
      refine ev_iret rfl rfl rfl ⟨rfl, fun d hd => x_up_ne hd, fun j hj => by rw [x_up_eq]; exact h1 j (by omega), fun j hj => by rw [x_up_eq]; exact h2 j hj⟩
    · exact absurd (show (10 : Int32) ≤ nI i from nI_le (a := 10) (by omega) (by omega)) c6
  | succ m ih =>
    intro i g hi h1 h2
    have hix : (10 : Int32) + (nI i) = nI (10 + i) := by rw [show (10 : Int32) = nI 10 from rfl, nI_add]
    have hxc : ((10 : Int32) + (nI i)).toNatClampNeg = 10 + i := by rw [hix, nI_clamp (by omega)]
    have hic : (nI i).toNatClampNeg = i := nI_clamp (by omega)
    refine ev_br 2 [] ((10 : Int32) ≤ (nI i)) 49 9 ([some (.ref 57), some (.int ((10 : Int32))), some (.ref 59), some (.int ((10 : Int32))), some (.int ((0 : Int32))), some (.int (nI i))], [], (x_up σ 73 g)) rfl ?_ (fun c6 => ?_) (fun c6 => ?_)
    · trivial
    · exact absurd c6 (nI_ge (b := 10) (by omega) (by decide))
    · refine ev_br 1 [] ((0 : Int32) = 0) 30 14 ([some (.ref 57), some (.int ((10 : Int32))), some (.ref 59), some (.int ((10 : Int32))), some (.int ((0 : Int32))), some (.int (nI i))], [], (x_up σ 73 g)) rfl ?_ (fun c11 => ?_) (fun c11 => ?_)
      · trivial
      · refine ev_blk 11 [vp_in (nI i) 10, vp_in ((10 : Int32) + (nI i)) 320] 3 ([some (.ref 57), some (.int ((10 : Int32))), some (.ref 59), some (.int ((10 : Int32))), some (.int ((0 : Int32))), some (.int ((nI i) + (1 : Int32)))], [], (x_up (x_up σ 73 g) 73 (upd g ((10 : Int32) + (nI i)).toNatClampNeg ((σ 59) (nI i).toNatClampNeg)))) rfl ?_ ?_
        · exact ⟨(vp_in_nI (by omega) (by decide)), (by rw [hix]; exact vp_in_nI (by omega) (by decide))⟩
        rw [hxc]
        rw [hic]
        rw [nI_1, x_up_up]
        refine ih (i + 1) _ (by omega) (fun j hj => ?_) (fun j hj => ?_)
        · by_cases q : j = i
          · rw [q, upd_eq]
          · rw [upd_ne (by omega)]; exact h1 j (by omega)
        · rw [upd_ne (by omega)]; exact h2 j hj
      · exact absurd (by decide) c11
set_option maxRecDepth 100000 in
theorem m_mvT59 (σ : xSg) : xCtr M_X6_moves [.ref 57, .int ((10 : Int32)), .ref 59, .int ((10 : Int32)), .int ((0 : Int32))] σ (mvT σ 59 10 10) := by
  refine ctr_ev ok_X6_moves (by decide +kernel) rfl rfl rfl ?_
  show xEv (.inl 0) M_X6_moves _ 0 ([some (.ref 57), some (.int ((10 : Int32))), some (.ref 59), some (.int ((10 : Int32))), some (.int ((0 : Int32))), none], [], σ)
  refine ev_blk 2 [] 3 ([some (.ref 57), some (.int ((10 : Int32))), some (.ref 59), some (.int ((10 : Int32))), some (.int ((0 : Int32))), some (.int ((0 : Int32)))], [], σ) rfl ?_ ?_
  · trivial
  have h := m_mvT59_lp σ 10 0 (σ 73) (by omega) (fun j hj => absurd hj (Nat.not_lt_zero j)) (fun _ _ => rfl)
  rw [x_up_self] at h
  exact h
set_option maxRecDepth 100000 in
theorem m_mvB59_lp (σ : xSg) : ∀ (m i : Nat) (g : Nat → Int32), i + m = 10 → (∀ j, j < i → g j = σ 73 (10 + j)) → xEv (.inl 0) M_X6_moves (mvB σ 59 10 10) 3 ([some (.ref 57), some (.int ((10 : Int32))), some (.ref 59), some (.int ((10 : Int32))), some (.int ((1 : Int32))), some (.int (nI i))], [], (x_up σ 59 g)) := by
  intro m
  induction m with
  | zero =>
    intro i g hi h1
    refine ev_br 2 [] ((10 : Int32) ≤ (nI i)) 49 9 ([some (.ref 57), some (.int ((10 : Int32))), some (.ref 59), some (.int ((10 : Int32))), some (.int ((1 : Int32))), some (.int (nI i))], [], (x_up σ 59 g)) rfl ?_ (fun c6 => ?_) (fun c6 => ?_)
    · trivial
    · refine ev_blk 3 [] 52 ([some (.ref 57), some (.int ((10 : Int32))), some (.ref 59), some (.int ((10 : Int32))), some (.int ((1 : Int32))), some (.int (nI i))], [.int ((20 : Int32))], (x_up σ 59 g)) rfl ?_ ?_
      · trivial
      refine ev_iret rfl rfl rfl ⟨rfl, fun d hd => x_up_ne hd, fun j hj => by rw [x_up_eq]; exact h1 j (by omega)⟩
    · exact absurd (show (10 : Int32) ≤ nI i from nI_le (a := 10) (by omega) (by omega)) c6
  | succ m ih =>
    intro i g hi h1
    have hix : (10 : Int32) + (nI i) = nI (10 + i) := by rw [show (10 : Int32) = nI 10 from rfl, nI_add]
    have hxc : ((10 : Int32) + (nI i)).toNatClampNeg = 10 + i := by rw [hix, nI_clamp (by omega)]
    have hic : (nI i).toNatClampNeg = i := nI_clamp (by omega)
    refine ev_br 2 [] ((10 : Int32) ≤ (nI i)) 49 9 ([some (.ref 57), some (.int ((10 : Int32))), some (.ref 59), some (.int ((10 : Int32))), some (.int ((1 : Int32))), some (.int (nI i))], [], (x_up σ 59 g)) rfl ?_ (fun c6 => ?_) (fun c6 => ?_)
    · trivial
    · exact absurd c6 (nI_ge (b := 10) (by omega) (by decide))
    · refine ev_br 1 [] ((1 : Int32) = 0) 30 14 ([some (.ref 57), some (.int ((10 : Int32))), some (.ref 59), some (.int ((10 : Int32))), some (.int ((1 : Int32))), some (.int (nI i))], [], (x_up σ 59 g)) rfl ?_ (fun c11 => ?_) (fun c11 => ?_)
      · trivial
      · exact absurd c11 (by decide)
      · refine ev_blk 12 [vp_in ((10 : Int32) + (nI i)) 320, vp_in (nI i) 10] 3 ([some (.ref 57), some (.int ((10 : Int32))), some (.ref 59), some (.int ((10 : Int32))), some (.int ((1 : Int32))), some (.int ((nI i) + (1 : Int32)))], [], (x_up (x_up σ 59 g) 59 (upd g (nI i).toNatClampNeg ((σ 73) ((10 : Int32) + (nI i)).toNatClampNeg)))) rfl ?_ ?_
        · exact ⟨(by rw [hix]; exact vp_in_nI (by omega) (by decide)), (vp_in_nI (by omega) (by decide))⟩
        rw [hxc]
        rw [hic]
        rw [nI_1, x_up_up]
        refine ih (i + 1) _ (by omega) (fun j hj => ?_)
        by_cases q : j = i
        · rw [q, upd_eq]
        · rw [upd_ne q]; exact h1 j (by omega)
set_option maxRecDepth 100000 in
theorem m_mvB59 (σ : xSg) : xCtr M_X6_moves [.ref 57, .int ((10 : Int32)), .ref 59, .int ((10 : Int32)), .int ((1 : Int32))] σ (mvB σ 59 10 10) := by
  refine ctr_ev ok_X6_moves (by decide +kernel) rfl rfl rfl ?_
  show xEv (.inl 0) M_X6_moves _ 0 ([some (.ref 57), some (.int ((10 : Int32))), some (.ref 59), some (.int ((10 : Int32))), some (.int ((1 : Int32))), none], [], σ)
  refine ev_blk 2 [] 3 ([some (.ref 57), some (.int ((10 : Int32))), some (.ref 59), some (.int ((10 : Int32))), some (.int ((1 : Int32))), some (.int ((0 : Int32)))], [], σ) rfl ?_ ?_
  · trivial
  have h := m_mvB59_lp σ 10 0 (σ 59) (by omega) (fun j hj => absurd hj (Nat.not_lt_zero j))
  rw [x_up_self] at h
  exact h
set_option maxRecDepth 100000 in
theorem m_mvT60_lp (σ : xSg) : ∀ (m i : Nat) (g : Nat → Int32), i + m = 10 → (∀ j, j < i → g (20 + j) = σ 60 j) → (∀ j, (j < 20 ∨ 30 ≤ j) → g j = σ 73 j) → xEv (.inl 0) M_X6_moves (mvT σ 60 10 20) 3 ([some (.ref 57), some (.int ((20 : Int32))), some (.ref 60), some (.int ((10 : Int32))), some (.int ((0 : Int32))), some (.int (nI i))], [], (x_up σ 73 g)) := by
  intro m
  induction m with
  | zero =>
    intro i g hi h1 h2
    refine ev_br 2 [] ((10 : Int32) ≤ (nI i)) 49 9 ([some (.ref 57), some (.int ((20 : Int32))), some (.ref 60), some (.int ((10 : Int32))), some (.int ((0 : Int32))), some (.int (nI i))], [], (x_up σ 73 g)) rfl ?_ (fun c6 => ?_) (fun c6 => ?_)
    · trivial
    · refine ev_blk 3 [] 52 ([some (.ref 57), some (.int ((20 : Int32))), some (.ref 60), some (.int ((10 : Int32))), some (.int ((0 : Int32))), some (.int (nI i))], [.int ((30 : Int32))], (x_up σ 73 g)) rfl ?_ ?_
      · trivial
      refine ev_iret rfl rfl rfl ⟨rfl, fun d hd => x_up_ne hd, fun j hj => by rw [x_up_eq]; exact h1 j (by omega), fun j hj => by rw [x_up_eq]; exact h2 j hj⟩
    · exact absurd (show (10 : Int32) ≤ nI i from nI_le (a := 10) (by omega) (by omega)) c6
  | succ m ih =>
    intro i g hi h1 h2
    have hix : (20 : Int32) + (nI i) = nI (20 + i) := by rw [show (20 : Int32) = nI 20 from rfl, nI_add]
    have hxc : ((20 : Int32) + (nI i)).toNatClampNeg = 20 + i := by rw [hix, nI_clamp (by omega)]
    have hic : (nI i).toNatClampNeg = i := nI_clamp (by omega)
    refine ev_br 2 [] ((10 : Int32) ≤ (nI i)) 49 9 ([some (.ref 57), some (.int ((20 : Int32))), some (.ref 60), some (.int ((10 : Int32))), some (.int ((0 : Int32))), some (.int (nI i))], [], (x_up σ 73 g)) rfl ?_ (fun c6 => ?_) (fun c6 => ?_)
    · trivial
    · exact absurd c6 (nI_ge (b := 10) (by omega) (by decide))
    · refine ev_br 1 [] ((0 : Int32) = 0) 30 14 ([some (.ref 57), some (.int ((20 : Int32))), some (.ref 60), some (.int ((10 : Int32))), some (.int ((0 : Int32))), some (.int (nI i))], [], (x_up σ 73 g)) rfl ?_ (fun c11 => ?_) (fun c11 => ?_)
      · trivial
      · refine ev_blk 11 [vp_in (nI i) 10, vp_in ((20 : Int32) + (nI i)) 320] 3 ([some (.ref 57), some (.int ((20 : Int32))), some (.ref 60), some (.int ((10 : Int32))), some (.int ((0 : Int32))), some (.int ((nI i) + (1 : Int32)))], [], (x_up (x_up σ 73 g) 73 (upd g ((20 : Int32) + (nI i)).toNatClampNeg ((σ 60) (nI i).toNatClampNeg)))) rfl ?_ ?_
        · exact ⟨(vp_in_nI (by omega) (by decide)), (by rw [hix]; exact vp_in_nI (by omega) (by decide))⟩
        rw [hxc]
        rw [hic]
        rw [nI_1, x_up_up]
        refine ih (i + 1) _ (by omega) (fun j hj => ?_) (fun j hj => ?_)
        · by_cases q : j = i
          · rw [q, upd_eq]
          · rw [upd_ne (by omega)]; exact h1 j (by omega)
        · rw [upd_ne (by omega)]; exact h2 j hj
      · exact absurd (by decide) c11
set_option maxRecDepth 100000 in
theorem m_mvT60 (σ : xSg) : xCtr M_X6_moves [.ref 57, .int ((20 : Int32)), .ref 60, .int ((10 : Int32)), .int ((0 : Int32))] σ (mvT σ 60 10 20) := by
  refine ctr_ev ok_X6_moves (by decide +kernel) rfl rfl rfl ?_
  show xEv (.inl 0) M_X6_moves _ 0 ([some (.ref 57), some (.int ((20 : Int32))), some (.ref 60), some (.int ((10 : Int32))), some (.int ((0 : Int32))), none], [], σ)
  refine ev_blk 2 [] 3 ([some (.ref 57), some (.int ((20 : Int32))), some (.ref 60), some (.int ((10 : Int32))), some (.int ((0 : Int32))), some (.int ((0 : Int32)))], [], σ) rfl ?_ ?_
  · trivial
  have h := m_mvT60_lp σ 10 0 (σ 73) (by omega) (fun j hj => absurd hj (Nat.not_lt_zero j)) (fun _ _ => rfl)
  rw [x_up_self] at h
  exact h
set_option maxRecDepth 100000 in
theorem m_mvB60_lp (σ : xSg) : ∀ (m i : Nat) (g : Nat → Int32), i + m = 10 → (∀ j, j < i → g j = σ 73 (20 + j)) → xEv (.inl 0) M_X6_moves (mvB σ 60 10 20) 3 ([some (.ref 57), some (.int ((20 : Int32))), some (.ref 60), some (.int ((10 : Int32))), some (.int ((1 : Int32))), some (.int (nI i))], [], (x_up σ 60 g)) := by
  intro m
  induction m with
  | zero =>
    intro i g hi h1
    refine ev_br 2 [] ((10 : Int32) ≤ (nI i)) 49 9 ([some (.ref 57), some (.int ((20 : Int32))), some (.ref 60), some (.int ((10 : Int32))), some (.int ((1 : Int32))), some (.int (nI i))], [], (x_up σ 60 g)) rfl ?_ (fun c6 => ?_) (fun c6 => ?_)
    · trivial
    · refine ev_blk 3 [] 52 ([some (.ref 57), some (.int ((20 : Int32))), some (.ref 60), some (.int ((10 : Int32))), some (.int ((1 : Int32))), some (.int (nI i))], [.int ((30 : Int32))], (x_up σ 60 g)) rfl ?_ ?_
      · trivial
      refine ev_iret rfl rfl rfl ⟨rfl, fun d hd => x_up_ne hd, fun j hj => by rw [x_up_eq]; exact h1 j (by omega)⟩
    · exact absurd (show (10 : Int32) ≤ nI i from nI_le (a := 10) (by omega) (by omega)) c6
  | succ m ih =>
    intro i g hi h1
    have hix : (20 : Int32) + (nI i) = nI (20 + i) := by rw [show (20 : Int32) = nI 20 from rfl, nI_add]
    have hxc : ((20 : Int32) + (nI i)).toNatClampNeg = 20 + i := by rw [hix, nI_clamp (by omega)]
    have hic : (nI i).toNatClampNeg = i := nI_clamp (by omega)
    refine ev_br 2 [] ((10 : Int32) ≤ (nI i)) 49 9 ([some (.ref 57), some (.int ((20 : Int32))), some (.ref 60), some (.int ((10 : Int32))), some (.int ((1 : Int32))), some (.int (nI i))], [], (x_up σ 60 g)) rfl ?_ (fun c6 => ?_) (fun c6 => ?_)
    · trivial
    · exact absurd c6 (nI_ge (b := 10) (by omega) (by decide))
    · refine ev_br 1 [] ((1 : Int32) = 0) 30 14 ([some (.ref 57), some (.int ((20 : Int32))), some (.ref 60), some (.int ((10 : Int32))), some (.int ((1 : Int32))), some (.int (nI i))], [], (x_up σ 60 g)) rfl ?_ (fun c11 => ?_) (fun c11 => ?_)
      · trivial
      · exact absurd c11 (by decide)
      · refine ev_blk 12 [vp_in ((20 : Int32) + (nI i)) 320, vp_in (nI i) 10] 3 ([some (.ref 57), some (.int ((20 : Int32))), some (.ref 60), some (.int ((10 : Int32))), some (.int ((1 : Int32))), some (.int ((nI i) + (1 : Int32)))], [], (x_up (x_up σ 60 g) 60 (upd g (nI i).toNatClampNeg ((σ 73) ((20 : Int32) + (nI i)).toNatClampNeg)))) rfl ?_ ?_
        · exact ⟨(by rw [hix]; exact vp_in_nI (by omega) (by decide)), (vp_in_nI (by omega) (by decide))⟩
        rw [hxc]
        rw [hic]
        rw [nI_1, x_up_up]
        refine ih (i + 1) _ (by omega) (fun j hj => ?_)
        by_cases q : j = i
        · rw [q, upd_eq]
        · rw [upd_ne q]; exact h1 j (by omega)
set_option maxRecDepth 100000 in
theorem m_mvB60 (σ : xSg) : xCtr M_X6_moves [.ref 57, .int ((20 : Int32)), .ref 60, .int ((10 : Int32)), .int ((1 : Int32))] σ (mvB σ 60 10 20) := by
  refine ctr_ev ok_X6_moves (by decide +kernel) rfl rfl rfl ?_
  show xEv (.inl 0) M_X6_moves _ 0 ([some (.ref 57), some (.int ((20 : Int32))), some (.ref 60), some (.int ((10 : Int32))), some (.int ((1 : Int32))), none], [], σ)
  refine ev_blk 2 [] 3 ([some (.ref 57), some (.int ((20 : Int32))), some (.ref 60), some (.int ((10 : Int32))), some (.int ((1 : Int32))), some (.int ((0 : Int32)))], [], σ) rfl ?_ ?_
  · trivial
  have h := m_mvB60_lp σ 10 0 (σ 60) (by omega) (fun j hj => absurd hj (Nat.not_lt_zero j))
  rw [x_up_self] at h
  exact h
set_option maxRecDepth 100000 in
theorem m_mvT61_lp (σ : xSg) : ∀ (m i : Nat) (g : Nat → Int32), i + m = 10 → (∀ j, j < i → g (30 + j) = σ 61 j) → (∀ j, (j < 30 ∨ 40 ≤ j) → g j = σ 73 j) → xEv (.inl 0) M_X6_moves (mvT σ 61 10 30) 3 ([some (.ref 57), some (.int ((30 : Int32))), some (.ref 61), some (.int ((10 : Int32))), some (.int ((0 : Int32))), some (.int (nI i))], [], (x_up σ 73 g)) := by
  intro m
  induction m with
  | zero =>
    intro i g hi h1 h2
    refine ev_br 2 [] ((10 : Int32) ≤ (nI i)) 49 9 ([some (.ref 57), some (.int ((30 : Int32))), some (.ref 61), some (.int ((10 : Int32))), some (.int ((0 : Int32))), some (.int (nI i))], [], (x_up σ 73 g)) rfl ?_ (fun c6 => ?_) (fun c6 => ?_)
    · trivial
    · refine ev_blk 3 [] 52 ([some (.ref 57), some (.int ((30 : Int32))), some (.ref 61), some (.int ((10 : Int32))), some (.int ((0 : Int32))), some (.int (nI i))], [.int ((40 : Int32))], (x_up σ 73 g)) rfl ?_ ?_
      · trivial
      refine ev_iret rfl rfl rfl ⟨rfl, fun d hd => x_up_ne hd, fun j hj => by rw [x_up_eq]; exact h1 j (by omega), fun j hj => by rw [x_up_eq]; exact h2 j hj⟩
    · exact absurd (show (10 : Int32) ≤ nI i from nI_le (a := 10) (by omega) (by omega)) c6
  | succ m ih =>
    intro i g hi h1 h2
    have hix : (30 : Int32) + (nI i) = nI (30 + i) := by rw [show (30 : Int32) = nI 30 from rfl, nI_add]
    have hxc : ((30 : Int32) + (nI i)).toNatClampNeg = 30 + i := by rw [hix, nI_clamp (by omega)]
    have hic : (nI i).toNatClampNeg = i := nI_clamp (by omega)
    refine ev_br 2 [] ((10 : Int32) ≤ (nI i)) 49 9 ([some (.ref 57), some (.int ((30 : Int32))), some (.ref 61), some (.int ((10 : Int32))), some (.int ((0 : Int32))), some (.int (nI i))], [], (x_up σ 73 g)) rfl ?_ (fun c6 => ?_) (fun c6 => ?_)
    · trivial
    · exact absurd c6 (nI_ge (b := 10) (by omega) (by decide))
    · refine ev_br 1 [] ((0 : Int32) = 0) 30 14 ([some (.ref 57), some (.int ((30 : Int32))), some (.ref 61), some (.int ((10 : Int32))), some (.int ((0 : Int32))), some (.int (nI i))], [], (x_up σ 73 g)) rfl ?_ (fun c11 => ?_) (fun c11 => ?_)
      · trivial
      · refine ev_blk 11 [vp_in (nI i) 10, vp_in ((30 : Int32) + (nI i)) 320] 3 ([some (.ref 57), some (.int ((30 : Int32))), some (.ref 61), some (.int ((10 : Int32))), some (.int ((0 : Int32))), some (.int ((nI i) + (1 : Int32)))], [], (x_up (x_up σ 73 g) 73 (upd g ((30 : Int32) + (nI i)).toNatClampNeg ((σ 61) (nI i).toNatClampNeg)))) rfl ?_ ?_
        · exact ⟨(vp_in_nI (by omega) (by decide)), (by rw [hix]; exact vp_in_nI (by omega) (by decide))⟩
        rw [hxc]
        rw [hic]
        rw [nI_1, x_up_up]
        refine ih (i + 1) _ (by omega) (fun j hj => ?_) (fun j hj => ?_)
        · by_cases q : j = i
          · rw [q, upd_eq]
          · rw [upd_ne (by omega)]; exact h1 j (by omega)
        · rw [upd_ne (by omega)]; exact h2 j hj
      · exact absurd (by decide) c11
set_option maxRecDepth 100000 in
theorem m_mvT61 (σ : xSg) : xCtr M_X6_moves [.ref 57, .int ((30 : Int32)), .ref 61, .int ((10 : Int32)), .int ((0 : Int32))] σ (mvT σ 61 10 30) := by
  refine ctr_ev ok_X6_moves (by decide +kernel) rfl rfl rfl ?_
  show xEv (.inl 0) M_X6_moves _ 0 ([some (.ref 57), some (.int ((30 : Int32))), some (.ref 61), some (.int ((10 : Int32))), some (.int ((0 : Int32))), none], [], σ)
  refine ev_blk 2 [] 3 ([some (.ref 57), some (.int ((30 : Int32))), some (.ref 61), some (.int ((10 : Int32))), some (.int ((0 : Int32))), some (.int ((0 : Int32)))], [], σ) rfl ?_ ?_
  · trivial
  have h := m_mvT61_lp σ 10 0 (σ 73) (by omega) (fun j hj => absurd hj (Nat.not_lt_zero j)) (fun _ _ => rfl)
  rw [x_up_self] at h
  exact h
set_option maxRecDepth 100000 in
theorem m_mvB61_lp (σ : xSg) : ∀ (m i : Nat) (g : Nat → Int32), i + m = 10 → (∀ j, j < i → g j = σ 73 (30 + j)) → xEv (.inl 0) M_X6_moves (mvB σ 61 10 30) 3 ([some (.ref 57), some (.int ((30 : Int32))), some (.ref 61), some (.int ((10 : Int32))), some (.int ((1 : Int32))), some (.int (nI i))], [], (x_up σ 61 g)) := by
  intro m
  induction m with
  | zero =>
    intro i g hi h1
    refine ev_br 2 [] ((10 : Int32) ≤ (nI i)) 49 9 ([some (.ref 57), some (.int ((30 : Int32))), some (.ref 61), some (.int ((10 : Int32))), some (.int ((1 : Int32))), some (.int (nI i))], [], (x_up σ 61 g)) rfl ?_ (fun c6 => ?_) (fun c6 => ?_)
    · trivial
    · refine ev_blk 3 [] 52 ([some (.ref 57), some (.int ((30 : Int32))), some (.ref 61), some (.int ((10 : Int32))), some (.int ((1 : Int32))), some (.int (nI i))], [.int ((40 : Int32))], (x_up σ 61 g)) rfl ?_ ?_
      · trivial
      refine ev_iret rfl rfl rfl ⟨rfl, fun d hd => x_up_ne hd, fun j hj => by rw [x_up_eq]; exact h1 j (by omega)⟩
    · exact absurd (show (10 : Int32) ≤ nI i from nI_le (a := 10) (by omega) (by omega)) c6
  | succ m ih =>
    intro i g hi h1
    have hix : (30 : Int32) + (nI i) = nI (30 + i) := by rw [show (30 : Int32) = nI 30 from rfl, nI_add]
    have hxc : ((30 : Int32) + (nI i)).toNatClampNeg = 30 + i := by rw [hix, nI_clamp (by omega)]
    have hic : (nI i).toNatClampNeg = i := nI_clamp (by omega)
    refine ev_br 2 [] ((10 : Int32) ≤ (nI i)) 49 9 ([some (.ref 57), some (.int ((30 : Int32))), some (.ref 61), some (.int ((10 : Int32))), some (.int ((1 : Int32))), some (.int (nI i))], [], (x_up σ 61 g)) rfl ?_ (fun c6 => ?_) (fun c6 => ?_)
    · trivial
    · exact absurd c6 (nI_ge (b := 10) (by omega) (by decide))
    · refine ev_br 1 [] ((1 : Int32) = 0) 30 14 ([some (.ref 57), some (.int ((30 : Int32))), some (.ref 61), some (.int ((10 : Int32))), some (.int ((1 : Int32))), some (.int (nI i))], [], (x_up σ 61 g)) rfl ?_ (fun c11 => ?_) (fun c11 => ?_)
      · trivial
      · exact absurd c11 (by decide)
      · refine ev_blk 12 [vp_in ((30 : Int32) + (nI i)) 320, vp_in (nI i) 10] 3 ([some (.ref 57), some (.int ((30 : Int32))), some (.ref 61), some (.int ((10 : Int32))), some (.int ((1 : Int32))), some (.int ((nI i) + (1 : Int32)))], [], (x_up (x_up σ 61 g) 61 (upd g (nI i).toNatClampNeg ((σ 73) ((30 : Int32) + (nI i)).toNatClampNeg)))) rfl ?_ ?_
        · exact ⟨(by rw [hix]; exact vp_in_nI (by omega) (by decide)), (vp_in_nI (by omega) (by decide))⟩
        rw [hxc]
        rw [hic]
        rw [nI_1, x_up_up]
        refine ih (i + 1) _ (by omega) (fun j hj => ?_)
        by_cases q : j = i
        · rw [q, upd_eq]
        · rw [upd_ne q]; exact h1 j (by omega)
set_option maxRecDepth 100000 in
theorem m_mvB61 (σ : xSg) : xCtr M_X6_moves [.ref 57, .int ((30 : Int32)), .ref 61, .int ((10 : Int32)), .int ((1 : Int32))] σ (mvB σ 61 10 30) := by
  refine ctr_ev ok_X6_moves (by decide +kernel) rfl rfl rfl ?_
  show xEv (.inl 0) M_X6_moves _ 0 ([some (.ref 57), some (.int ((30 : Int32))), some (.ref 61), some (.int ((10 : Int32))), some (.int ((1 : Int32))), none], [], σ)
  refine ev_blk 2 [] 3 ([some (.ref 57), some (.int ((30 : Int32))), some (.ref 61), some (.int ((10 : Int32))), some (.int ((1 : Int32))), some (.int ((0 : Int32)))], [], σ) rfl ?_ ?_
  · trivial
  have h := m_mvB61_lp σ 10 0 (σ 61) (by omega) (fun j hj => absurd hj (Nat.not_lt_zero j))
  rw [x_up_self] at h
  exact h
set_option maxRecDepth 100000 in
theorem m_mvT62_lp (σ : xSg) : ∀ (m i : Nat) (g : Nat → Int32), i + m = 10 → (∀ j, j < i → g (40 + j) = σ 62 j) → (∀ j, (j < 40 ∨ 50 ≤ j) → g j = σ 73 j) → xEv (.inl 0) M_X6_moves (mvT σ 62 10 40) 3 ([some (.ref 57), some (.int ((40 : Int32))), some (.ref 62), some (.int ((10 : Int32))), some (.int ((0 : Int32))), some (.int (nI i))], [], (x_up σ 73 g)) := by
  intro m
  induction m with
  | zero =>
    intro i g hi h1 h2
    refine ev_br 2 [] ((10 : Int32) ≤ (nI i)) 49 9 ([some (.ref 57), some (.int ((40 : Int32))), some (.ref 62), some (.int ((10 : Int32))), some (.int ((0 : Int32))), some (.int (nI i))], [], (x_up σ 73 g)) rfl ?_ (fun c6 => ?_) (fun c6 => ?_)
    · trivial
    · refine ev_blk 3 [] 52 ([some (.ref 57), some (.int ((40 : Int32))), some (.ref 62), some (.int ((10 : Int32))), some (.int ((0 : Int32))), some (.int (nI i))], [.int ((50 : Int32))], (x_up σ 73 g)) rfl ?_ ?_
      · trivial
      refine ev_iret rfl rfl rfl ⟨rfl, fun d hd => x_up_ne hd, fun j hj => by rw [x_up_eq]; exact h1 j (by omega), fun j hj => by rw [x_up_eq]; exact h2 j hj⟩
    · exact absurd (show (10 : Int32) ≤ nI i from nI_le (a := 10) (by omega) (by omega)) c6
  | succ m ih =>
    intro i g hi h1 h2
    have hix : (40 : Int32) + (nI i) = nI (40 + i) := by rw [show (40 : Int32) = nI 40 from rfl, nI_add]
    have hxc : ((40 : Int32) + (nI i)).toNatClampNeg = 40 + i := by rw [hix, nI_clamp (by omega)]
    have hic : (nI i).toNatClampNeg = i := nI_clamp (by omega)
    refine ev_br 2 [] ((10 : Int32) ≤ (nI i)) 49 9 ([some (.ref 57), some (.int ((40 : Int32))), some (.ref 62), some (.int ((10 : Int32))), some (.int ((0 : Int32))), some (.int (nI i))], [], (x_up σ 73 g)) rfl ?_ (fun c6 => ?_) (fun c6 => ?_)
    · trivial
    · exact absurd c6 (nI_ge (b := 10) (by omega) (by decide))
    · refine ev_br 1 [] ((0 : Int32) = 0) 30 14 ([some (.ref 57), some (.int ((40 : Int32))), some (.ref 62), some (.int ((10 : Int32))), some (.int ((0 : Int32))), some (.int (nI i))], [], (x_up σ 73 g)) rfl ?_ (fun c11 => ?_) (fun c11 => ?_)
      · trivial
      · refine ev_blk 11 [vp_in (nI i) 10, vp_in ((40 : Int32) + (nI i)) 320] 3 ([some (.ref 57), some (.int ((40 : Int32))), some (.ref 62), some (.int ((10 : Int32))), some (.int ((0 : Int32))), some (.int ((nI i) + (1 : Int32)))], [], (x_up (x_up σ 73 g) 73 (upd g ((40 : Int32) + (nI i)).toNatClampNeg ((σ 62) (nI i).toNatClampNeg)))) rfl ?_ ?_
        · exact ⟨(vp_in_nI (by omega) (by decide)), (by rw [hix]; exact vp_in_nI (by omega) (by decide))⟩
        rw [hxc]
        rw [hic]
        rw [nI_1, x_up_up]
        refine ih (i + 1) _ (by omega) (fun j hj => ?_) (fun j hj => ?_)
        · by_cases q : j = i
          · rw [q, upd_eq]
          · rw [upd_ne (by omega)]; exact h1 j (by omega)
        · rw [upd_ne (by omega)]; exact h2 j hj
      · exact absurd (by decide) c11
set_option maxRecDepth 100000 in
theorem m_mvT62 (σ : xSg) : xCtr M_X6_moves [.ref 57, .int ((40 : Int32)), .ref 62, .int ((10 : Int32)), .int ((0 : Int32))] σ (mvT σ 62 10 40) := by
  refine ctr_ev ok_X6_moves (by decide +kernel) rfl rfl rfl ?_
  show xEv (.inl 0) M_X6_moves _ 0 ([some (.ref 57), some (.int ((40 : Int32))), some (.ref 62), some (.int ((10 : Int32))), some (.int ((0 : Int32))), none], [], σ)
  refine ev_blk 2 [] 3 ([some (.ref 57), some (.int ((40 : Int32))), some (.ref 62), some (.int ((10 : Int32))), some (.int ((0 : Int32))), some (.int ((0 : Int32)))], [], σ) rfl ?_ ?_
  · trivial
  have h := m_mvT62_lp σ 10 0 (σ 73) (by omega) (fun j hj => absurd hj (Nat.not_lt_zero j)) (fun _ _ => rfl)
  rw [x_up_self] at h
  exact h
set_option maxRecDepth 100000 in
theorem m_mvB62_lp (σ : xSg) : ∀ (m i : Nat) (g : Nat → Int32), i + m = 10 → (∀ j, j < i → g j = σ 73 (40 + j)) → xEv (.inl 0) M_X6_moves (mvB σ 62 10 40) 3 ([some (.ref 57), some (.int ((40 : Int32))), some (.ref 62), some (.int ((10 : Int32))), some (.int ((1 : Int32))), some (.int (nI i))], [], (x_up σ 62 g)) := by
  intro m
  induction m with
  | zero =>
    intro i g hi h1
    refine ev_br 2 [] ((10 : Int32) ≤ (nI i)) 49 9 ([some (.ref 57), some (.int ((40 : Int32))), some (.ref 62), some (.int ((10 : Int32))), some (.int ((1 : Int32))), some (.int (nI i))], [], (x_up σ 62 g)) rfl ?_ (fun c6 => ?_) (fun c6 => ?_)
    · trivial
    · refine ev_blk 3 [] 52 ([some (.ref 57), some (.int ((40 : Int32))), some (.ref 62), some (.int ((10 : Int32))), some (.int ((1 : Int32))), some (.int (nI i))], [.int ((50 : Int32))], (x_up σ 62 g)) rfl ?_ ?_
      · trivial
      refine ev_iret rfl rfl rfl ⟨rfl, fun d hd => x_up_ne hd, fun j hj => by rw [x_up_eq]; exact h1 j (by omega)⟩
    · exact absurd (show (10 : Int32) ≤ nI i from nI_le (a := 10) (by omega) (by omega)) c6
  | succ m ih =>
    intro i g hi h1
    have hix : (40 : Int32) + (nI i) = nI (40 + i) := by rw [show (40 : Int32) = nI 40 from rfl, nI_add]
    have hxc : ((40 : Int32) + (nI i)).toNatClampNeg = 40 + i := by rw [hix, nI_clamp (by omega)]
    have hic : (nI i).toNatClampNeg = i := nI_clamp (by omega)
    refine ev_br 2 [] ((10 : Int32) ≤ (nI i)) 49 9 ([some (.ref 57), some (.int ((40 : Int32))), some (.ref 62), some (.int ((10 : Int32))), some (.int ((1 : Int32))), some (.int (nI i))], [], (x_up σ 62 g)) rfl ?_ (fun c6 => ?_) (fun c6 => ?_)
    · trivial
    · exact absurd c6 (nI_ge (b := 10) (by omega) (by decide))
    · refine ev_br 1 [] ((1 : Int32) = 0) 30 14 ([some (.ref 57), some (.int ((40 : Int32))), some (.ref 62), some (.int ((10 : Int32))), some (.int ((1 : Int32))), some (.int (nI i))], [], (x_up σ 62 g)) rfl ?_ (fun c11 => ?_) (fun c11 => ?_)
      · trivial
      · exact absurd c11 (by decide)
      · refine ev_blk 12 [vp_in ((40 : Int32) + (nI i)) 320, vp_in (nI i) 10] 3 ([some (.ref 57), some (.int ((40 : Int32))), some (.ref 62), some (.int ((10 : Int32))), some (.int ((1 : Int32))), some (.int ((nI i) + (1 : Int32)))], [], (x_up (x_up σ 62 g) 62 (upd g (nI i).toNatClampNeg ((σ 73) ((40 : Int32) + (nI i)).toNatClampNeg)))) rfl ?_ ?_
        · exact ⟨(by rw [hix]; exact vp_in_nI (by omega) (by decide)), (vp_in_nI (by omega) (by decide))⟩
        rw [hxc]
        rw [hic]
        rw [nI_1, x_up_up]
        refine ih (i + 1) _ (by omega) (fun j hj => ?_)
        by_cases q : j = i
        · rw [q, upd_eq]
        · rw [upd_ne q]; exact h1 j (by omega)
set_option maxRecDepth 100000 in
theorem m_mvB62 (σ : xSg) : xCtr M_X6_moves [.ref 57, .int ((40 : Int32)), .ref 62, .int ((10 : Int32)), .int ((1 : Int32))] σ (mvB σ 62 10 40) := by
  refine ctr_ev ok_X6_moves (by decide +kernel) rfl rfl rfl ?_
  show xEv (.inl 0) M_X6_moves _ 0 ([some (.ref 57), some (.int ((40 : Int32))), some (.ref 62), some (.int ((10 : Int32))), some (.int ((1 : Int32))), none], [], σ)
  refine ev_blk 2 [] 3 ([some (.ref 57), some (.int ((40 : Int32))), some (.ref 62), some (.int ((10 : Int32))), some (.int ((1 : Int32))), some (.int ((0 : Int32)))], [], σ) rfl ?_ ?_
  · trivial
  have h := m_mvB62_lp σ 10 0 (σ 62) (by omega) (fun j hj => absurd hj (Nat.not_lt_zero j))
  rw [x_up_self] at h
  exact h
set_option maxRecDepth 100000 in
theorem m_mvT63_lp (σ : xSg) : ∀ (m i : Nat) (g : Nat → Int32), i + m = 10 → (∀ j, j < i → g (50 + j) = σ 63 j) → (∀ j, (j < 50 ∨ 60 ≤ j) → g j = σ 73 j) → xEv (.inl 0) M_X6_moves (mvT σ 63 10 50) 3 ([some (.ref 57), some (.int ((50 : Int32))), some (.ref 63), some (.int ((10 : Int32))), some (.int ((0 : Int32))), some (.int (nI i))], [], (x_up σ 73 g)) := by
  intro m
  induction m with
  | zero =>
    intro i g hi h1 h2
    refine ev_br 2 [] ((10 : Int32) ≤ (nI i)) 49 9 ([some (.ref 57), some (.int ((50 : Int32))), some (.ref 63), some (.int ((10 : Int32))), some (.int ((0 : Int32))), some (.int (nI i))], [], (x_up σ 73 g)) rfl ?_ (fun c6 => ?_) (fun c6 => ?_)
    · trivial
    · refine ev_blk 3 [] 52 ([some (.ref 57), some (.int ((50 : Int32))), some (.ref 63), some (.int ((10 : Int32))), some (.int ((0 : Int32))), some (.int (nI i))], [.int ((60 : Int32))], (x_up σ 73 g)) rfl ?_ ?_
      · trivial
      refine ev_iret rfl rfl rfl ⟨rfl, fun d hd => x_up_ne hd, fun j hj => by rw [x_up_eq]; exact h1 j (by omega), fun j hj => by rw [x_up_eq]; exact h2 j hj⟩
    · exact absurd (show (10 : Int32) ≤ nI i from nI_le (a := 10) (by omega) (by omega)) c6
  | succ m ih =>
    intro i g hi h1 h2
    have hix : (50 : Int32) + (nI i) = nI (50 + i) := by rw [show (50 : Int32) = nI 50 from rfl, nI_add]
    have hxc : ((50 : Int32) + (nI i)).toNatClampNeg = 50 + i := by rw [hix, nI_clamp (by omega)]
    have hic : (nI i).toNatClampNeg = i := nI_clamp (by omega)
    refine ev_br 2 [] ((10 : Int32) ≤ (nI i)) 49 9 ([some (.ref 57), some (.int ((50 : Int32))), some (.ref 63), some (.int ((10 : Int32))), some (.int ((0 : Int32))), some (.int (nI i))], [], (x_up σ 73 g)) rfl ?_ (fun c6 => ?_) (fun c6 => ?_)
    · trivial
    · exact absurd c6 (nI_ge (b := 10) (by omega) (by decide))
    · refine ev_br 1 [] ((0 : Int32) = 0) 30 14 ([some (.ref 57), some (.int ((50 : Int32))), some (.ref 63), some (.int ((10 : Int32))), some (.int ((0 : Int32))), some (.int (nI i))], [], (x_up σ 73 g)) rfl ?_ (fun c11 => ?_) (fun c11 => ?_)
      · trivial
      · refine ev_blk 11 [vp_in (nI i) 10, vp_in ((50 : Int32) + (nI i)) 320] 3 ([some (.ref 57), some (.int ((50 : Int32))), some (.ref 63), some (.int ((10 : Int32))), some (.int ((0 : Int32))), some (.int ((nI i) + (1 : Int32)))], [], (x_up (x_up σ 73 g) 73 (upd g ((50 : Int32) + (nI i)).toNatClampNeg ((σ 63) (nI i).toNatClampNeg)))) rfl ?_ ?_
        · exact ⟨(vp_in_nI (by omega) (by decide)), (by rw [hix]; exact vp_in_nI (by omega) (by decide))⟩
        rw [hxc]
        rw [hic]
        rw [nI_1, x_up_up]
        refine ih (i + 1) _ (by omega) (fun j hj => ?_) (fun j hj => ?_)
        · by_cases q : j = i
          · rw [q, upd_eq]
          · rw [upd_ne (by omega)]; exact h1 j (by omega)
        · rw [upd_ne (by omega)]; exact h2 j hj
      · exact absurd (by decide) c11
set_option maxRecDepth 100000 in
theorem m_mvT63 (σ : xSg) : xCtr M_X6_moves [.ref 57, .int ((50 : Int32)), .ref 63, .int ((10 : Int32)), .int ((0 : Int32))] σ (mvT σ 63 10 50) := by
  refine ctr_ev ok_X6_moves (by decide +kernel) rfl rfl rfl ?_
  show xEv (.inl 0) M_X6_moves _ 0 ([some (.ref 57), some (.int ((50 : Int32))), some (.ref 63), some (.int ((10 : Int32))), some (.int ((0 : Int32))), none], [], σ)
  refine ev_blk 2 [] 3 ([some (.ref 57), some (.int ((50 : Int32))), some (.ref 63), some (.int ((10 : Int32))), some (.int ((0 : Int32))), some (.int ((0 : Int32)))], [], σ) rfl ?_ ?_
  · trivial
  have h := m_mvT63_lp σ 10 0 (σ 73) (by omega) (fun j hj => absurd hj (Nat.not_lt_zero j)) (fun _ _ => rfl)
  rw [x_up_self] at h
  exact h
set_option maxRecDepth 100000 in
theorem m_mvB63_lp (σ : xSg) : ∀ (m i : Nat) (g : Nat → Int32), i + m = 10 → (∀ j, j < i → g j = σ 73 (50 + j)) → xEv (.inl 0) M_X6_moves (mvB σ 63 10 50) 3 ([some (.ref 57), some (.int ((50 : Int32))), some (.ref 63), some (.int ((10 : Int32))), some (.int ((1 : Int32))), some (.int (nI i))], [], (x_up σ 63 g)) := by
  intro m
  induction m with
  | zero =>
    intro i g hi h1
    refine ev_br 2 [] ((10 : Int32) ≤ (nI i)) 49 9 ([some (.ref 57), some (.int ((50 : Int32))), some (.ref 63), some (.int ((10 : Int32))), some (.int ((1 : Int32))), some (.int (nI i))], [], (x_up σ 63 g)) rfl ?_ (fun c6 => ?_) (fun c6 => ?_)
    · trivial
    · refine ev_blk 3 [] 52 ([some (.ref 57), some (.int ((50 : Int32))), some (.ref 63), some (.int ((10 : Int32))), some (.int ((1 : Int32))), some (.int (nI i))], [.int ((60 : Int32))], (x_up σ 63 g)) rfl ?_ ?_
      · trivial
      refine ev_iret rfl rfl rfl ⟨rfl, fun d hd => x_up_ne hd, fun j hj => by rw [x_up_eq]; exact h1 j (by omega)⟩
    · exact absurd (show (10 : Int32) ≤ nI i from nI_le (a := 10) (by omega) (by omega)) c6
  | succ m ih =>
    intro i g hi h1
    have hix : (50 : Int32) + (nI i) = nI (50 + i) := by rw [show (50 : Int32) = nI 50 from rfl, nI_add]
    have hxc : ((50 : Int32) + (nI i)).toNatClampNeg = 50 + i := by rw [hix, nI_clamp (by omega)]
    have hic : (nI i).toNatClampNeg = i := nI_clamp (by omega)
    refine ev_br 2 [] ((10 : Int32) ≤ (nI i)) 49 9 ([some (.ref 57), some (.int ((50 : Int32))), some (.ref 63), some (.int ((10 : Int32))), some (.int ((1 : Int32))), some (.int (nI i))], [], (x_up σ 63 g)) rfl ?_ (fun c6 => ?_) (fun c6 => ?_)
    · trivial
    · exact absurd c6 (nI_ge (b := 10) (by omega) (by decide))
    · refine ev_br 1 [] ((1 : Int32) = 0) 30 14 ([some (.ref 57), some (.int ((50 : Int32))), some (.ref 63), some (.int ((10 : Int32))), some (.int ((1 : Int32))), some (.int (nI i))], [], (x_up σ 63 g)) rfl ?_ (fun c11 => ?_) (fun c11 => ?_)
      · trivial
      · exact absurd c11 (by decide)
      · refine ev_blk 12 [vp_in ((50 : Int32) + (nI i)) 320, vp_in (nI i) 10] 3 ([some (.ref 57), some (.int ((50 : Int32))), some (.ref 63), some (.int ((10 : Int32))), some (.int ((1 : Int32))), some (.int ((nI i) + (1 : Int32)))], [], (x_up (x_up σ 63 g) 63 (upd g (nI i).toNatClampNeg ((σ 73) ((50 : Int32) + (nI i)).toNatClampNeg)))) rfl ?_ ?_
        · exact ⟨(by rw [hix]; exact vp_in_nI (by omega) (by decide)), (vp_in_nI (by omega) (by decide))⟩
        rw [hxc]
        rw [hic]
        rw [nI_1, x_up_up]
        refine ih (i + 1) _ (by omega) (fun j hj => ?_)
        by_cases q : j = i
        · rw [q, upd_eq]
        · rw [upd_ne q]; exact h1 j (by omega)
set_option maxRecDepth 100000 in
theorem m_mvB63 (σ : xSg) : xCtr M_X6_moves [.ref 57, .int ((50 : Int32)), .ref 63, .int ((10 : Int32)), .int ((1 : Int32))] σ (mvB σ 63 10 50) := by
  refine ctr_ev ok_X6_moves (by decide +kernel) rfl rfl rfl ?_
  show xEv (.inl 0) M_X6_moves _ 0 ([some (.ref 57), some (.int ((50 : Int32))), some (.ref 63), some (.int ((10 : Int32))), some (.int ((1 : Int32))), none], [], σ)
  refine ev_blk 2 [] 3 ([some (.ref 57), some (.int ((50 : Int32))), some (.ref 63), some (.int ((10 : Int32))), some (.int ((1 : Int32))), some (.int ((0 : Int32)))], [], σ) rfl ?_ ?_
  · trivial
  have h := m_mvB63_lp σ 10 0 (σ 63) (by omega) (fun j hj => absurd hj (Nat.not_lt_zero j))
  rw [x_up_self] at h
  exact h
set_option maxRecDepth 100000 in
theorem m_mvT64_lp (σ : xSg) : ∀ (m i : Nat) (g : Nat → Int32), i + m = 10 → (∀ j, j < i → g (60 + j) = σ 64 j) → (∀ j, (j < 60 ∨ 70 ≤ j) → g j = σ 73 j) → xEv (.inl 0) M_X6_moves (mvT σ 64 10 60) 3 ([some (.ref 57), some (.int ((60 : Int32))), some (.ref 64), some (.int ((10 : Int32))), some (.int ((0 : Int32))), some (.int (nI i))], [], (x_up σ 73 g)) := by
  intro m
  induction m with
  | zero =>
    intro i g hi h1 h2
    refine ev_br 2 [] ((10 : Int32) ≤ (nI i)) 49 9 ([some (.ref 57), some (.int ((60 : Int32))), some (.ref 64), some (.int ((10 : Int32))), some (.int ((0 : Int32))), some (.int (nI i))], [], (x_up σ 73 g)) rfl ?_ (fun c6 => ?_) (fun c6 => ?_)
    · trivial
    · refine ev_blk 3 [] 52 ([some (.ref 57), some (.int ((60 : Int32))), some (.ref 64), some (.int ((10 : Int32))), some (.int ((0 : Int32))), some (.int (nI i))], [.int ((70 : Int32))], (x_up σ 73 g)) rfl ?_ ?_
      · trivial
      refine ev_iret rfl rfl rfl ⟨rfl, fun d hd => x_up_ne hd, fun j hj => by rw [x_up_eq]; exact h1 j (by omega), fun j hj => by rw [x_up_eq]; exact h2 j hj⟩
    · exact absurd (show (10 : Int32) ≤ nI i from nI_le (a := 10) (by omega) (by omega)) c6
  | succ m ih =>
    intro i g hi h1 h2
    have hix : (60 : Int32) + (nI i) = nI (60 + i) := by rw [show (60 : Int32) = nI 60 from rfl, nI_add]
    have hxc : ((60 : Int32) + (nI i)).toNatClampNeg = 60 + i := by rw [hix, nI_clamp (by omega)]
    have hic : (nI i).toNatClampNeg = i := nI_clamp (by omega)
    refine ev_br 2 [] ((10 : Int32) ≤ (nI i)) 49 9 ([some (.ref 57), some (.int ((60 : Int32))), some (.ref 64), some (.int ((10 : Int32))), some (.int ((0 : Int32))), some (.int (nI i))], [], (x_up σ 73 g)) rfl ?_ (fun c6 => ?_) (fun c6 => ?_)
    · trivial
    · exact absurd c6 (nI_ge (b := 10) (by omega) (by decide))
    · refine ev_br 1 [] ((0 : Int32) = 0) 30 14 ([some (.ref 57), some (.int ((60 : Int32))), some (.ref 64), some (.int ((10 : Int32))), some (.int ((0 : Int32))), some (.int (nI i))], [], (x_up σ 73 g)) rfl ?_ (fun c11 => ?_) (fun c11 => ?_)
      · trivial
      · refine ev_blk 11 [vp_in (nI i) 10, vp_in ((60 : Int32) + (nI i)) 320] 3 ([some (.ref 57), some (.int ((60 : Int32))), some (.ref 64), some (.int ((10 : Int32))), some (.int ((0 : Int32))), some (.int ((nI i) + (1 : Int32)))], [], (x_up (x_up σ 73 g) 73 (upd g ((60 : Int32) + (nI i)).toNatClampNeg ((σ 64) (nI i).toNatClampNeg)))) rfl ?_ ?_
        · exact ⟨(vp_in_nI (by omega) (by decide)), (by rw [hix]; exact vp_in_nI (by omega) (by decide))⟩
        rw [hxc]
        rw [hic]
        rw [nI_1, x_up_up]
        refine ih (i + 1) _ (by omega) (fun j hj => ?_) (fun j hj => ?_)
        · by_cases q : j = i
          · rw [q, upd_eq]
          · rw [upd_ne (by omega)]; exact h1 j (by omega)
        · rw [upd_ne (by omega)]; exact h2 j hj
      · exact absurd (by decide) c11
set_option maxRecDepth 100000 in
theorem m_mvT64 (σ : xSg) : xCtr M_X6_moves [.ref 57, .int ((60 : Int32)), .ref 64, .int ((10 : Int32)), .int ((0 : Int32))] σ (mvT σ 64 10 60) := by
  refine ctr_ev ok_X6_moves (by decide +kernel) rfl rfl rfl ?_
  show xEv (.inl 0) M_X6_moves _ 0 ([some (.ref 57), some (.int ((60 : Int32))), some (.ref 64), some (.int ((10 : Int32))), some (.int ((0 : Int32))), none], [], σ)
  refine ev_blk 2 [] 3 ([some (.ref 57), some (.int ((60 : Int32))), some (.ref 64), some (.int ((10 : Int32))), some (.int ((0 : Int32))), some (.int ((0 : Int32)))], [], σ) rfl ?_ ?_
  · trivial
  have h := m_mvT64_lp σ 10 0 (σ 73) (by omega) (fun j hj => absurd hj (Nat.not_lt_zero j)) (fun _ _ => rfl)
  rw [x_up_self] at h
  exact h
set_option maxRecDepth 100000 in
theorem m_mvB64_lp (σ : xSg) : ∀ (m i : Nat) (g : Nat → Int32), i + m = 10 → (∀ j, j < i → g j = σ 73 (60 + j)) → xEv (.inl 0) M_X6_moves (mvB σ 64 10 60) 3 ([some (.ref 57), some (.int ((60 : Int32))), some (.ref 64), some (.int ((10 : Int32))), some (.int ((1 : Int32))), some (.int (nI i))], [], (x_up σ 64 g)) := by
  intro m
  induction m with
  | zero =>
    intro i g hi h1
    refine ev_br 2 [] ((10 : Int32) ≤ (nI i)) 49 9 ([some (.ref 57), some (.int ((60 : Int32))), some (.ref 64), some (.int ((10 : Int32))), some (.int ((1 : Int32))), some (.int (nI i))], [], (x_up σ 64 g)) rfl ?_ (fun c6 => ?_) (fun c6 => ?_)
    · trivial
    · refine ev_blk 3 [] 52 ([some (.ref 57), some (.int ((60 : Int32))), some (.ref 64), some (.int ((10 : Int32))), some (.int ((1 : Int32))), some (.int (nI i))], [.int ((70 : Int32))], (x_up σ 64 g)) rfl ?_ ?_
      · trivial
      refine ev_iret rfl rfl rfl ⟨rfl, fun d hd => x_up_ne hd, fun j hj => by rw [x_up_eq]; exact h1 j (by omega)⟩
    · exact absurd (show (10 : Int32) ≤ nI i from nI_le (a := 10) (by omega) (by omega)) c6
  | succ m ih =>
    intro i g hi h1
    have hix : (60 : Int32) + (nI i) = nI (60 + i) := by rw [show (60 : Int32) = nI 60 from rfl, nI_add]
    have hxc : ((60 : Int32) + (nI i)).toNatClampNeg = 60 + i := by rw [hix, nI_clamp (by omega)]
    have hic : (nI i).toNatClampNeg = i := nI_clamp (by omega)
    refine ev_br 2 [] ((10 : Int32) ≤ (nI i)) 49 9 ([some (.ref 57), some (.int ((60 : Int32))), some (.ref 64), some (.int ((10 : Int32))), some (.int ((1 : Int32))), some (.int (nI i))], [], (x_up σ 64 g)) rfl ?_ (fun c6 => ?_) (fun c6 => ?_)
    · trivial
    · exact absurd c6 (nI_ge (b := 10) (by omega) (by decide))
    · refine ev_br 1 [] ((1 : Int32) = 0) 30 14 ([some (.ref 57), some (.int ((60 : Int32))), some (.ref 64), some (.int ((10 : Int32))), some (.int ((1 : Int32))), some (.int (nI i))], [], (x_up σ 64 g)) rfl ?_ (fun c11 => ?_) (fun c11 => ?_)
      · trivial
      · exact absurd c11 (by decide)
      · refine ev_blk 12 [vp_in ((60 : Int32) + (nI i)) 320, vp_in (nI i) 10] 3 ([some (.ref 57), some (.int ((60 : Int32))), some (.ref 64), some (.int ((10 : Int32))), some (.int ((1 : Int32))), some (.int ((nI i) + (1 : Int32)))], [], (x_up (x_up σ 64 g) 64 (upd g (nI i).toNatClampNeg ((σ 73) ((60 : Int32) + (nI i)).toNatClampNeg)))) rfl ?_ ?_
        · exact ⟨(by rw [hix]; exact vp_in_nI (by omega) (by decide)), (vp_in_nI (by omega) (by decide))⟩
        rw [hxc]
        rw [hic]
        rw [nI_1, x_up_up]
        refine ih (i + 1) _ (by omega) (fun j hj => ?_)
        by_cases q : j = i
        · rw [q, upd_eq]
        · rw [upd_ne q]; exact h1 j (by omega)
set_option maxRecDepth 100000 in
theorem m_mvB64 (σ : xSg) : xCtr M_X6_moves [.ref 57, .int ((60 : Int32)), .ref 64, .int ((10 : Int32)), .int ((1 : Int32))] σ (mvB σ 64 10 60) := by
  refine ctr_ev ok_X6_moves (by decide +kernel) rfl rfl rfl ?_
  show xEv (.inl 0) M_X6_moves _ 0 ([some (.ref 57), some (.int ((60 : Int32))), some (.ref 64), some (.int ((10 : Int32))), some (.int ((1 : Int32))), none], [], σ)
  refine ev_blk 2 [] 3 ([some (.ref 57), some (.int ((60 : Int32))), some (.ref 64), some (.int ((10 : Int32))), some (.int ((1 : Int32))), some (.int ((0 : Int32)))], [], σ) rfl ?_ ?_
  · trivial
  have h := m_mvB64_lp σ 10 0 (σ 64) (by omega) (fun j hj => absurd hj (Nat.not_lt_zero j))
  rw [x_up_self] at h
  exact h
set_option maxRecDepth 100000 in
theorem m_mvT65_lp (σ : xSg) : ∀ (m i : Nat) (g : Nat → Int32), i + m = 10 → (∀ j, j < i → g (70 + j) = σ 65 j) → (∀ j, (j < 70 ∨ 80 ≤ j) → g j = σ 73 j) → xEv (.inl 0) M_X6_moves (mvT σ 65 10 70) 3 ([some (.ref 57), some (.int ((70 : Int32))), some (.ref 65), some (.int ((10 : Int32))), some (.int ((0 : Int32))), some (.int (nI i))], [], (x_up σ 73 g)) := by
  intro m
  induction m with
  | zero =>
    intro i g hi h1 h2
    refine ev_br 2 [] ((10 : Int32) ≤ (nI i)) 49 9 ([some (.ref 57), some (.int ((70 : Int32))), some (.ref 65), some (.int ((10 : Int32))), some (.int ((0 : Int32))), some (.int (nI i))], [], (x_up σ 73 g)) rfl ?_ (fun c6 => ?_) (fun c6 => ?_)
    · trivial
    · refine ev_blk 3 [] 52 ([some (.ref 57), some (.int ((70 : Int32))), some (.ref 65), some (.int ((10 : Int32))), some (.int ((0 : Int32))), some (.int (nI i))], [.int ((80 : Int32))], (x_up σ 73 g)) rfl ?_ ?_
      · trivial
      refine ev_iret rfl rfl rfl ⟨rfl, fun d hd => x_up_ne hd, fun j hj => by rw [x_up_eq]; exact h1 j (by omega), fun j hj => by rw [x_up_eq]; exact h2 j hj⟩
    · exact absurd (show (10 : Int32) ≤ nI i from nI_le (a := 10) (by omega) (by omega)) c6
  | succ m ih =>
    intro i g hi h1 h2
    have hix : (70 : Int32) + (nI i) = nI (70 + i) := by rw [show (70 : Int32) = nI 70 from rfl, nI_add]
    have hxc : ((70 : Int32) + (nI i)).toNatClampNeg = 70 + i := by rw [hix, nI_clamp (by omega)]
    have hic : (nI i).toNatClampNeg = i := nI_clamp (by omega)
    refine ev_br 2 [] ((10 : Int32) ≤ (nI i)) 49 9 ([some (.ref 57), some (.int ((70 : Int32))), some (.ref 65), some (.int ((10 : Int32))), some (.int ((0 : Int32))), some (.int (nI i))], [], (x_up σ 73 g)) rfl ?_ (fun c6 => ?_) (fun c6 => ?_)
    · trivial
    · exact absurd c6 (nI_ge (b := 10) (by omega) (by decide))
    · refine ev_br 1 [] ((0 : Int32) = 0) 30 14 ([some (.ref 57), some (.int ((70 : Int32))), some (.ref 65), some (.int ((10 : Int32))), some (.int ((0 : Int32))), some (.int (nI i))], [], (x_up σ 73 g)) rfl ?_ (fun c11 => ?_) (fun c11 => ?_)
      · trivial
      · refine ev_blk 11 [vp_in (nI i) 10, vp_in ((70 : Int32) + (nI i)) 320] 3 ([some (.ref 57), some (.int ((70 : Int32))), some (.ref 65), some (.int ((10 : Int32))), some (.int ((0 : Int32))), some (.int ((nI i) + (1 : Int32)))], [], (x_up (x_up σ 73 g) 73 (upd g ((70 : Int32) + (nI i)).toNatClampNeg ((σ 65) (nI i).toNatClampNeg)))) rfl ?_ ?_
        · exact ⟨(vp_in_nI (by omega) (by decide)), (by rw [hix]; exact vp_in_nI (by omega) (by decide))⟩
        rw [hxc]
        rw [hic]
        rw [nI_1, x_up_up]
        refine ih (i + 1) _ (by omega) (fun j hj => ?_) (fun j hj => ?_)
        · by_cases q : j = i
          · rw [q, upd_eq]
          · rw [upd_ne (by omega)]; exact h1 j (by omega)
        · rw [upd_ne (by omega)]; exact h2 j hj
      · exact absurd (by decide) c11
set_option maxRecDepth 100000 in
theorem m_mvT65 (σ : xSg) : xCtr M_X6_moves [.ref 57, .int ((70 : Int32)), .ref 65, .int ((10 : Int32)), .int ((0 : Int32))] σ (mvT σ 65 10 70) := by
  refine ctr_ev ok_X6_moves (by decide +kernel) rfl rfl rfl ?_
  show xEv (.inl 0) M_X6_moves _ 0 ([some (.ref 57), some (.int ((70 : Int32))), some (.ref 65), some (.int ((10 : Int32))), some (.int ((0 : Int32))), none], [], σ)
  refine ev_blk 2 [] 3 ([some (.ref 57), some (.int ((70 : Int32))), some (.ref 65), some (.int ((10 : Int32))), some (.int ((0 : Int32))), some (.int ((0 : Int32)))], [], σ) rfl ?_ ?_
  · trivial
  have h := m_mvT65_lp σ 10 0 (σ 73) (by omega) (fun j hj => absurd hj (Nat.not_lt_zero j)) (fun _ _ => rfl)
  rw [x_up_self] at h
  exact h
set_option maxRecDepth 100000 in
theorem m_mvB65_lp (σ : xSg) : ∀ (m i : Nat) (g : Nat → Int32), i + m = 10 → (∀ j, j < i → g j = σ 73 (70 + j)) → xEv (.inl 0) M_X6_moves (mvB σ 65 10 70) 3 ([some (.ref 57), some (.int ((70 : Int32))), some (.ref 65), some (.int ((10 : Int32))), some (.int ((1 : Int32))), some (.int (nI i))], [], (x_up σ 65 g)) := by
  intro m
  induction m with
  | zero =>
    intro i g hi h1
    refine ev_br 2 [] ((10 : Int32) ≤ (nI i)) 49 9 ([some (.ref 57), some (.int ((70 : Int32))), some (.ref 65), some (.int ((10 : Int32))), some (.int ((1 : Int32))), some (.int (nI i))], [], (x_up σ 65 g)) rfl ?_ (fun c6 => ?_) (fun c6 => ?_)
    · trivial
    · refine ev_blk 3 [] 52 ([some (.ref 57), some (.int ((70 : Int32))), some (.ref 65), some (.int ((10 : Int32))), some (.int ((1 : Int32))), some (.int (nI i))], [.int ((80 : Int32))], (x_up σ 65 g)) rfl ?_ ?_
      · trivial
      refine ev_iret rfl rfl rfl ⟨rfl, fun d hd => x_up_ne hd, fun j hj => by rw [x_up_eq]; exact h1 j (by omega)⟩
    · exact absurd (show (10 : Int32) ≤ nI i from nI_le (a := 10) (by omega) (by omega)) c6
  | succ m ih =>
    intro i g hi h1
    have hix : (70 : Int32) + (nI i) = nI (70 + i) := by rw [show (70 : Int32) = nI 70 from rfl, nI_add]
    have hxc : ((70 : Int32) + (nI i)).toNatClampNeg = 70 + i := by rw [hix, nI_clamp (by omega)]
    have hic : (nI i).toNatClampNeg = i := nI_clamp (by omega)
    refine ev_br 2 [] ((10 : Int32) ≤ (nI i)) 49 9 ([some (.ref 57), some (.int ((70 : Int32))), some (.ref 65), some (.int ((10 : Int32))), some (.int ((1 : Int32))), some (.int (nI i))], [], (x_up σ 65 g)) rfl ?_ (fun c6 => ?_) (fun c6 => ?_)
    · trivial
    · exact absurd c6 (nI_ge (b := 10) (by omega) (by decide))
    · refine ev_br 1 [] ((1 : Int32) = 0) 30 14 ([some (.ref 57), some (.int ((70 : Int32))), some (.ref 65), some (.int ((10 : Int32))), some (.int ((1 : Int32))), some (.int (nI i))], [], (x_up σ 65 g)) rfl ?_ (fun c11 => ?_) (fun c11 => ?_)
      · trivial
      · exact absurd c11 (by decide)
      · refine ev_blk 12 [vp_in ((70 : Int32) + (nI i)) 320, vp_in (nI i) 10] 3 ([some (.ref 57), some (.int ((70 : Int32))), some (.ref 65), some (.int ((10 : Int32))), some (.int ((1 : Int32))), some (.int ((nI i) + (1 : Int32)))], [], (x_up (x_up σ 65 g) 65 (upd g (nI i).toNatClampNeg ((σ 73) ((70 : Int32) + (nI i)).toNatClampNeg)))) rfl ?_ ?_
        · exact ⟨(by rw [hix]; exact vp_in_nI (by omega) (by decide)), (vp_in_nI (by omega) (by decide))⟩
        rw [hxc]
        rw [hic]
        rw [nI_1, x_up_up]
        refine ih (i + 1) _ (by omega) (fun j hj => ?_)
        by_cases q : j = i
        · rw [q, upd_eq]
        · rw [upd_ne q]; exact h1 j (by omega)
set_option maxRecDepth 100000 in
theorem m_mvB65 (σ : xSg) : xCtr M_X6_moves [.ref 57, .int ((70 : Int32)), .ref 65, .int ((10 : Int32)), .int ((1 : Int32))] σ (mvB σ 65 10 70) := by
  refine ctr_ev ok_X6_moves (by decide +kernel) rfl rfl rfl ?_
  show xEv (.inl 0) M_X6_moves _ 0 ([some (.ref 57), some (.int ((70 : Int32))), some (.ref 65), some (.int ((10 : Int32))), some (.int ((1 : Int32))), none], [], σ)
  refine ev_blk 2 [] 3 ([some (.ref 57), some (.int ((70 : Int32))), some (.ref 65), some (.int ((10 : Int32))), some (.int ((1 : Int32))), some (.int ((0 : Int32)))], [], σ) rfl ?_ ?_
  · trivial
  have h := m_mvB65_lp σ 10 0 (σ 65) (by omega) (fun j hj => absurd hj (Nat.not_lt_zero j))
  rw [x_up_self] at h
  exact h
set_option maxRecDepth 100000 in
theorem m_mvT66_lp (σ : xSg) : ∀ (m i : Nat) (g : Nat → Int32), i + m = 20 → (∀ j, j < i → g (80 + j) = σ 66 j) → (∀ j, (j < 80 ∨ 100 ≤ j) → g j = σ 73 j) → xEv (.inl 0) M_X6_moves (mvT σ 66 20 80) 3 ([some (.ref 57), some (.int ((80 : Int32))), some (.ref 66), some (.int ((20 : Int32))), some (.int ((0 : Int32))), some (.int (nI i))], [], (x_up σ 73 g)) := by
  intro m
  induction m with
  | zero =>
    intro i g hi h1 h2
    refine ev_br 2 [] ((20 : Int32) ≤ (nI i)) 49 9 ([some (.ref 57), some (.int ((80 : Int32))), some (.ref 66), some (.int ((20 : Int32))), some (.int ((0 : Int32))), some (.int (nI i))], [], (x_up σ 73 g)) rfl ?_ (fun c6 => ?_) (fun c6 => ?_)
    · trivial
    · refine ev_blk 3 [] 52 ([some (.ref 57), some (.int ((80 : Int32))), some (.ref 66), some (.int ((20 : Int32))), some (.int ((0 : Int32))), some (.int (nI i))], [.int ((100 : Int32))], (x_up σ 73 g)) rfl ?_ ?_
      · trivial
      refine ev_iret rfl rfl rfl ⟨rfl, fun d hd => x_up_ne hd, fun j hj => by rw [x_up_eq]; exact h1 j (by omega), fun j hj => by rw [x_up_eq]; exact h2 j hj⟩
    · exact absurd (show (20 : Int32) ≤ nI i from nI_le (a := 20) (by omega) (by omega)) c6
  | succ m ih =>
    intro i g hi h1 h2
    have hix : (80 : Int32) + (nI i) = nI (80 + i) := by rw [show (80 : Int32) = nI 80 from rfl, nI_add]
    have hxc : ((80 : Int32) + (nI i)).toNatClampNeg = 80 + i := by rw [hix, nI_clamp (by omega)]
    have hic : (nI i).toNatClampNeg = i := nI_clamp (by omega)
    refine ev_br 2 [] ((20 : Int32) ≤ (nI i)) 49 9 ([some (.ref 57), some (.int ((80 : Int32))), some (.ref 66), some (.int ((20 : Int32))), some (.int ((0 : Int32))), some (.int (nI i))], [], (x_up σ 73 g)) rfl ?_ (fun c6 => ?_) (fun c6 => ?_)
    · trivial
    · exact absurd c6 (nI_ge (b := 20) (by omega) (by decide))
    · refine ev_br 1 [] ((0 : Int32) = 0) 30 14 ([some (.ref 57), some (.int ((80 : Int32))), some (.ref 66), some (.int ((20 : Int32))), some (.int ((0 : Int32))), some (.int (nI i))], [], (x_up σ 73 g)) rfl ?_ (fun c11 => ?_) (fun c11 => ?_)
      · trivial
      · refine ev_blk 11 [vp_in (nI i) 20, vp_in ((80 : Int32) + (nI i)) 320] 3 ([some (.ref 57), some (.int ((80 : Int32))), some (.ref 66), some (.int ((20 : Int32))), some (.int ((0 : Int32))), some (.int ((nI i) + (1 : Int32)))], [], (x_up (x_up σ 73 g) 73 (upd g ((80 : Int32) + (nI i)).toNatClampNeg ((σ 66) (nI i).toNatClampNeg)))) rfl ?_ ?_
        · exact ⟨(vp_in_nI (by omega) (by decide)), (by rw [hix]; exact vp_in_nI (by omega) (by decide))⟩
        rw [hxc]
        rw [hic]
        rw [nI_1, x_up_up]
        refine ih (i + 1) _ (by omega) (fun j hj => ?_) (fun j hj => ?_)
        · by_cases q : j = i
          · rw [q, upd_eq]
          · rw [upd_ne (by omega)]; exact h1 j (by omega)
        · rw [upd_ne (by omega)]; exact h2 j hj
      · exact absurd (by decide) c11
set_option maxRecDepth 100000 in
theorem m_mvT66 (σ : xSg) : xCtr M_X6_moves [.ref 57, .int ((80 : Int32)), .ref 66, .int ((20 : Int32)), .int ((0 : Int32))] σ (mvT σ 66 20 80) := by
  refine ctr_ev ok_X6_moves (by decide +kernel) rfl rfl rfl ?_
  show xEv (.inl 0) M_X6_moves _ 0 ([some (.ref 57), some (.int ((80 : Int32))), some (.ref 66), some (.int ((20 : Int32))), some (.int ((0 : Int32))), none], [], σ)
  refine ev_blk 2 [] 3 ([some (.ref 57), some (.int ((80 : Int32))), some (.ref 66), some (.int ((20 : Int32))), some (.int ((0 : Int32))), some (.int ((0 : Int32)))], [], σ) rfl ?_ ?_
  · trivial
  have h := m_mvT66_lp σ 20 0 (σ 73) (by omega) (fun j hj => absurd hj (Nat.not_lt_zero j)) (fun _ _ => rfl)
  rw [x_up_self] at h
  exact h
set_option maxRecDepth 100000 in
theorem m_mvB66_lp (σ : xSg) : ∀ (m i : Nat) (g : Nat → Int32), i + m = 20 → (∀ j, j < i → g j = σ 73 (80 + j)) → xEv (.inl 0) M_X6_moves (mvB σ 66 20 80) 3 ([some (.ref 57), some (.int ((80 : Int32))), some (.ref 66), some (.int ((20 : Int32))), some (.int ((1 : Int32))), some (.int (nI i))], [], (x_up σ 66 g)) := by
  intro m
  induction m with
  | zero =>
    intro i g hi h1
    refine ev_br 2 [] ((20 : Int32) ≤ (nI i)) 49 9 ([some (.ref 57), some (.int ((80 : Int32))), some (.ref 66), some (.int ((20 : Int32))), some (.int ((1 : Int32))), some (.int (nI i))], [], (x_up σ 66 g)) rfl ?_ (fun c6 => ?_) (fun c6 => ?_)
    · trivial
    · refine ev_blk 3 [] 52 ([some (.ref 57), some (.int ((80 : Int32))), some (.ref 66), some (.int ((20 : Int32))), some (.int ((1 : Int32))), some (.int (nI i))], [.int ((100 : Int32))], (x_up σ 66 g)) rfl ?_ ?_
      · trivial
      refine ev_iret rfl rfl rfl ⟨rfl, fun d hd => x_up_ne hd, fun j hj => by rw [x_up_eq]; exact h1 j (by omega)⟩
    · exact absurd (show (20 : Int32) ≤ nI i from nI_le (a := 20) (by omega) (by omega)) c6
  | succ m ih =>
    intro i g hi h1
    have hix : (80 : Int32) + (nI i) = nI (80 + i) := by rw [show (80 : Int32) = nI 80 from rfl, nI_add]
    have hxc : ((80 : Int32) + (nI i)).toNatClampNeg = 80 + i := by rw [hix, nI_clamp (by omega)]
    have hic : (nI i).toNatClampNeg = i := nI_clamp (by omega)
    refine ev_br 2 [] ((20 : Int32) ≤ (nI i)) 49 9 ([some (.ref 57), some (.int ((80 : Int32))), some (.ref 66), some (.int ((20 : Int32))), some (.int ((1 : Int32))), some (.int (nI i))], [], (x_up σ 66 g)) rfl ?_ (fun c6 => ?_) (fun c6 => ?_)
    · trivial
    · exact absurd c6 (nI_ge (b := 20) (by omega) (by decide))
    · refine ev_br 1 [] ((1 : Int32) = 0) 30 14 ([some (.ref 57), some (.int ((80 : Int32))), some (.ref 66), some (.int ((20 : Int32))), some (.int ((1 : Int32))), some (.int (nI i))], [], (x_up σ 66 g)) rfl ?_ (fun c11 => ?_) (fun c11 => ?_)
      · trivial
      · exact absurd c11 (by decide)
      · refine ev_blk 12 [vp_in ((80 : Int32) + (nI i)) 320, vp_in (nI i) 20] 3 ([some (.ref 57), some (.int ((80 : Int32))), some (.ref 66), some (.int ((20 : Int32))), some (.int ((1 : Int32))), some (.int ((nI i) + (1 : Int32)))], [], (x_up (x_up σ 66 g) 66 (upd g (nI i).toNatClampNeg ((σ 73) ((80 : Int32) + (nI i)).toNatClampNeg)))) rfl ?_ ?_
        · exact ⟨(by rw [hix]; exact vp_in_nI (by omega) (by decide)), (vp_in_nI (by omega) (by decide))⟩
        rw [hxc]
        rw [hic]
        rw [nI_1, x_up_up]
        refine ih (i + 1) _ (by omega) (fun j hj => ?_)
        by_cases q : j = i
        · rw [q, upd_eq]
        · rw [upd_ne q]; exact h1 j (by omega)
set_option maxRecDepth 100000 in
theorem m_mvB66 (σ : xSg) : xCtr M_X6_moves [.ref 57, .int ((80 : Int32)), .ref 66, .int ((20 : Int32)), .int ((1 : Int32))] σ (mvB σ 66 20 80) := by
  refine ctr_ev ok_X6_moves (by decide +kernel) rfl rfl rfl ?_
  show xEv (.inl 0) M_X6_moves _ 0 ([some (.ref 57), some (.int ((80 : Int32))), some (.ref 66), some (.int ((20 : Int32))), some (.int ((1 : Int32))), none], [], σ)
  refine ev_blk 2 [] 3 ([some (.ref 57), some (.int ((80 : Int32))), some (.ref 66), some (.int ((20 : Int32))), some (.int ((1 : Int32))), some (.int ((0 : Int32)))], [], σ) rfl ?_ ?_
  · trivial
  have h := m_mvB66_lp σ 20 0 (σ 66) (by omega) (fun j hj => absurd hj (Nat.not_lt_zero j))
  rw [x_up_self] at h
  exact h
set_option maxRecDepth 100000 in
theorem m_mvT67_lp (σ : xSg) : ∀ (m i : Nat) (g : Nat → Int32), i + m = 2 → (∀ j, j < i → g (100 + j) = σ 67 j) → (∀ j, (j < 100 ∨ 102 ≤ j) → g j = σ 73 j) → xEv (.inl 0) M_X6_moves (mvT σ 67 2 100) 3 ([some (.ref 57), some (.int ((100 : Int32))), some (.ref 67), some (.int ((2 : Int32))), some (.int ((0 : Int32))), some (.int (nI i))], [], (x_up σ 73 g)) := by
  intro m
  induction m with
  | zero =>
    intro i g hi h1 h2
    refine ev_br 2 [] ((2 : Int32) ≤ (nI i)) 49 9 ([some (.ref 57), some (.int ((100 : Int32))), some (.ref 67), some (.int ((2 : Int32))), some (.int ((0 : Int32))), some (.int (nI i))], [], (x_up σ 73 g)) rfl ?_ (fun c6 => ?_) (fun c6 => ?_)
    · trivial
    · refine ev_blk 3 [] 52 ([some (.ref 57), some (.int ((100 : Int32))), some (.ref 67), some (.int ((2 : Int32))), some (.int ((0 : Int32))), some (.int (nI i))], [.int ((102 : Int32))], (x_up σ 73 g)) rfl ?_ ?_
      · trivial
      refine ev_iret rfl rfl rfl ⟨rfl, fun d hd => x_up_ne hd, fun j hj => by rw [x_up_eq]; exact h1 j (by omega), fun j hj => by rw [x_up_eq]; exact h2 j hj⟩
    · exact absurd (show (2 : Int32) ≤ nI i from nI_le (a := 2) (by omega) (by omega)) c6
  | succ m ih =>
    intro i g hi h1 h2
    have hix : (100 : Int32) + (nI i) = nI (100 + i) := by rw [show (100 : Int32) = nI 100 from rfl, nI_add]
    have hxc : ((100 : Int32) + (nI i)).toNatClampNeg = 100 + i := by rw [hix, nI_clamp (by omega)]
    have hic : (nI i).toNatClampNeg = i := nI_clamp (by omega)
    refine ev_br 2 [] ((2 : Int32) ≤ (nI i)) 49 9 ([some (.ref 57), some (.int ((100 : Int32))), some (.ref 67), some (.int ((2 : Int32))), some (.int ((0 : Int32))), some (.int (nI i))], [], (x_up σ 73 g)) rfl ?_ (fun c6 => ?_) (fun c6 => ?_)
    · trivial
    · exact absurd c6 (nI_ge (b := 2) (by omega) (by decide))
    · refine ev_br 1 [] ((0 : Int32) = 0) 30 14 ([some (.ref 57), some (.int ((100 : Int32))), some (.ref 67), some (.int ((2 : Int32))), some (.int ((0 : Int32))), some (.int (nI i))], [], (x_up σ 73 g)) rfl ?_ (fun c11 => ?_) (fun c11 => ?_)
      · trivial
      · refine ev_blk 11 [vp_in (nI i) 2, vp_in ((100 : Int32) + (nI i)) 320] 3 ([some (.ref 57), some (.int ((100 : Int32))), some (.ref 67), some (.int ((2 : Int32))), some (.int ((0 : Int32))), some (.int ((nI i) + (1 : Int32)))], [], (x_up (x_up σ 73 g) 73 (upd g ((100 : Int32) + (nI i)).toNatClampNeg ((σ 67) (nI i).toNatClampNeg)))) rfl ?_ ?_
        · exact ⟨(vp_in_nI (by omega) (by decide)), (by rw [hix]; exact vp_in_nI (by omega) (by decide))⟩
        rw [hxc]
        rw [hic]
        rw [nI_1, x_up_up]
        refine ih (i + 1) _ (by omega) (fun j hj => ?_) (fun j hj => ?_)
        · by_cases q : j = i
          · rw [q, upd_eq]
          · rw [upd_ne (by omega)]; exact h1 j (by omega)
        · rw [upd_ne (by omega)]; exact h2 j hj
      · exact absurd (by decide) c11
set_option maxRecDepth 100000 in
theorem m_mvT67 (σ : xSg) : xCtr M_X6_moves [.ref 57, .int ((100 : Int32)), .ref 67, .int ((2 : Int32)), .int ((0 : Int32))] σ (mvT σ 67 2 100) := by
  refine ctr_ev ok_X6_moves (by decide +kernel) rfl rfl rfl ?_
  show xEv (.inl 0) M_X6_moves _ 0 ([some (.ref 57), some (.int ((100 : Int32))), some (.ref 67), some (.int ((2 : Int32))), some (.int ((0 : Int32))), none], [], σ)
  refine ev_blk 2 [] 3 ([some (.ref 57), some (.int ((100 : Int32))), some (.ref 67), some (.int ((2 : Int32))), some (.int ((0 : Int32))), some (.int ((0 : Int32)))], [], σ) rfl ?_ ?_
  · trivial
  have h := m_mvT67_lp σ 2 0 (σ 73) (by omega) (fun j hj => absurd hj (Nat.not_lt_zero j)) (fun _ _ => rfl)
  rw [x_up_self] at h
  exact h
set_option maxRecDepth 100000 in
theorem m_mvB67_lp (σ : xSg) : ∀ (m i : Nat) (g : Nat → Int32), i + m = 2 → (∀ j, j < i → g j = σ 73 (100 + j)) → xEv (.inl 0) M_X6_moves (mvB σ 67 2 100) 3 ([some (.ref 57), some (.int ((100 : Int32))), some (.ref 67), some (.int ((2 : Int32))), some (.int ((1 : Int32))), some (.int (nI i))], [], (x_up σ 67 g)) := by
  intro m
  induction m with
  | zero =>
    intro i g hi h1
    refine ev_br 2 [] ((2 : Int32) ≤ (nI i)) 49 9 ([some (.ref 57), some (.int ((100 : Int32))), some (.ref 67), some (.int ((2 : Int32))), some (.int ((1 : Int32))), some (.int (nI i))], [], (x_up σ 67 g)) rfl ?_ (fun c6 => ?_) (fun c6 => ?_)
    · trivial
    · refine ev_blk 3 [] 52 ([some (.ref 57), some (.int ((100 : Int32))), some (.ref 67), some (.int ((2 : Int32))), some (.int ((1 : Int32))), some (.int (nI i))], [.int ((102 : Int32))], (x_up σ 67 g)) rfl ?_ ?_
      · trivial
      refine ev_iret rfl rfl rfl ⟨rfl, fun d hd => x_up_ne hd, fun j hj => by rw [x_up_eq]; exact h1 j (by omega)⟩
    · exact absurd (show (2 : Int32) ≤ nI i from nI_le (a := 2) (by omega) (by omega)) c6
  | succ m ih =>
    intro i g hi h1
    have hix : (100 : Int32) + (nI i) = nI (100 + i) := by rw [show (100 : Int32) = nI 100 from rfl, nI_add]
    have hxc : ((100 : Int32) + (nI i)).toNatClampNeg = 100 + i := by rw [hix, nI_clamp (by omega)]
    have hic : (nI i).toNatClampNeg = i := nI_clamp (by omega)
    refine ev_br 2 [] ((2 : Int32) ≤ (nI i)) 49 9 ([some (.ref 57), some (.int ((100 : Int32))), some (.ref 67), some (.int ((2 : Int32))), some (.int ((1 : Int32))), some (.int (nI i))], [], (x_up σ 67 g)) rfl ?_ (fun c6 => ?_) (fun c6 => ?_)
    · trivial
    · exact absurd c6 (nI_ge (b := 2) (by omega) (by decide))
    · refine ev_br 1 [] ((1 : Int32) = 0) 30 14 ([some (.ref 57), some (.int ((100 : Int32))), some (.ref 67), some (.int ((2 : Int32))), some (.int ((1 : Int32))), some (.int (nI i))], [], (x_up σ 67 g)) rfl ?_ (fun c11 => ?_) (fun c11 => ?_)
      · trivial
      · exact absurd c11 (by decide)
      · refine ev_blk 12 [vp_in ((100 : Int32) + (nI i)) 320, vp_in (nI i) 2] 3 ([some (.ref 57), some (.int ((100 : Int32))), some (.ref 67), some (.int ((2 : Int32))), some (.int ((1 : Int32))), some (.int ((nI i) + (1 : Int32)))], [], (x_up (x_up σ 67 g) 67 (upd g (nI i).toNatClampNeg ((σ 73) ((100 : Int32) + (nI i)).toNatClampNeg)))) rfl ?_ ?_
        · exact ⟨(by rw [hix]; exact vp_in_nI (by omega) (by decide)), (vp_in_nI (by omega) (by decide))⟩
        rw [hxc]
        rw [hic]
        rw [nI_1, x_up_up]
        refine ih (i + 1) _ (by omega) (fun j hj => ?_)
        by_cases q : j = i
        · rw [q, upd_eq]
        · rw [upd_ne q]; exact h1 j (by omega)
set_option maxRecDepth 100000 in
theorem m_mvB67 (σ : xSg) : xCtr M_X6_moves [.ref 57, .int ((100 : Int32)), .ref 67, .int ((2 : Int32)), .int ((1 : Int32))] σ (mvB σ 67 2 100) := by
  refine ctr_ev ok_X6_moves (by decide +kernel) rfl rfl rfl ?_
  show xEv (.inl 0) M_X6_moves _ 0 ([some (.ref 57), some (.int ((100 : Int32))), some (.ref 67), some (.int ((2 : Int32))), some (.int ((1 : Int32))), none], [], σ)
  refine ev_blk 2 [] 3 ([some (.ref 57), some (.int ((100 : Int32))), some (.ref 67), some (.int ((2 : Int32))), some (.int ((1 : Int32))), some (.int ((0 : Int32)))], [], σ) rfl ?_ ?_
  · trivial
  have h := m_mvB67_lp σ 2 0 (σ 67) (by omega) (fun j hj => absurd hj (Nat.not_lt_zero j))
  rw [x_up_self] at h
  exact h
set_option maxRecDepth 100000 in
theorem m_mvT68_lp (σ : xSg) : ∀ (m i : Nat) (g : Nat → Int32), i + m = 5 → (∀ j, j < i → g (102 + j) = σ 68 j) → (∀ j, (j < 102 ∨ 107 ≤ j) → g j = σ 73 j) → xEv (.inl 0) M_X6_moves (mvT σ 68 5 102) 3 ([some (.ref 57), some (.int ((102 : Int32))), some (.ref 68), some (.int ((5 : Int32))), some (.int ((0 : Int32))), some (.int (nI i))], [], (x_up σ 73 g)) := by
  intro m
  induction m with
  | zero =>
    intro i g hi h1 h2
    refine ev_br 2 [] ((5 : Int32) ≤ (nI i)) 49 9 ([some (.ref 57), some (.int ((102 : Int32))), some (.ref 68), some (.int ((5 : Int32))), some (.int ((0 : Int32))), some (.int (nI i))], [], (x_up σ 73 g)) rfl ?_ (fun c6 => ?_) (fun c6 => ?_)
    · trivial
    · refine ev_blk 3 [] 52 ([some (.ref 57), some (.int ((102 : Int32))), some (.ref 68), some (.int ((5 : Int32))), some (.int ((0 : Int32))), some (.int (nI i))], [.int ((107 : Int32))], (x_up σ 73 g)) rfl ?_ ?_
      · trivial
      refine ev_iret rfl rfl rfl ⟨rfl, fun d hd => x_up_ne hd, fun j hj => by rw [x_up_eq]; exact h1 j (by omega), fun j hj => by rw [x_up_eq]; exact h2 j hj⟩
    · exact absurd (show (5 : Int32) ≤ nI i from nI_le (a := 5) (by omega) (by omega)) c6
  | succ m ih =>
    intro i g hi h1 h2
    have hix : (102 : Int32) + (nI i) = nI (102 + i) := by rw [show (102 : Int32) = nI 102 from rfl, nI_add]
    have hxc : ((102 : Int32) + (nI i)).toNatClampNeg = 102 + i := by rw [hix, nI_clamp (by omega)]
    have hic : (nI i).toNatClampNeg = i := nI_clamp (by omega)
    refine ev_br 2 [] ((5 : Int32) ≤ (nI i)) 49 9 ([some (.ref 57), some (.int ((102 : Int32))), some (.ref 68), some (.int ((5 : Int32))), some (.int ((0 : Int32))), some (.int (nI i))], [], (x_up σ 73 g)) rfl ?_ (fun c6 => ?_) (fun c6 => ?_)
    · trivial
    · exact absurd c6 (nI_ge (b := 5) (by omega) (by decide))
    · refine ev_br 1 [] ((0 : Int32) = 0) 30 14 ([some (.ref 57), some (.int ((102 : Int32))), some (.ref 68), some (.int ((5 : Int32))), some (.int ((0 : Int32))), some (.int (nI i))], [], (x_up σ 73 g)) rfl ?_ (fun c11 => ?_) (fun c11 => ?_)
      · trivial
      · refine ev_blk 11 [vp_in (nI i) 5, vp_in ((102 : Int32) + (nI i)) 320] 3 ([some (.ref 57), some (.int ((102 : Int32))), some (.ref 68), some (.int ((5 : Int32))), some (.int ((0 : Int32))), some (.int ((nI i) + (1 : Int32)))], [], (x_up (x_up σ 73 g) 73 (upd g ((102 : Int32) + (nI i)).toNatClampNeg ((σ 68) (nI i).toNatClampNeg)))) rfl ?_ ?_
        · exact ⟨(vp_in_nI (by omega) (by decide)), (by rw [hix]; exact vp_in_nI (by omega) (by decide))⟩
        rw [hxc]
        rw [hic]
        rw [nI_1, x_up_up]
        refine ih (i + 1) _ (by omega) (fun j hj => ?_) (fun j hj => ?_)
        · by_cases q : j = i
          · rw [q, upd_eq]
          · rw [upd_ne (by omega)]; exact h1 j (by omega)
        · rw [upd_ne (by omega)]; exact h2 j hj
      · exact absurd (by decide) c11
set_option maxRecDepth 100000 in
theorem m_mvT68 (σ : xSg) : xCtr M_X6_moves [.ref 57, .int ((102 : Int32)), .ref 68, .int ((5 : Int32)), .int ((0 : Int32))] σ (mvT σ 68 5 102) := by
  refine ctr_ev ok_X6_moves (by decide +kernel) rfl rfl rfl ?_
  show xEv (.inl 0) M_X6_moves _ 0 ([some (.ref 57), some (.int ((102 : Int32))), some (.ref 68), some (.int ((5 : Int32))), some (.int ((0 : Int32))), none], [], σ)
  refine ev_blk 2 [] 3 ([some (.ref 57), some (.int ((102 : Int32))), some (.ref 68), some (.int ((5 : Int32))), some (.int ((0 : Int32))), some (.int ((0 : Int32)))], [], σ) rfl ?_ ?_
  · trivial
  have h := m_mvT68_lp σ 5 0 (σ 73) (by omega) (fun j hj => absurd hj (Nat.not_lt_zero j)) (fun _ _ => rfl)
  rw [x_up_self] at h
  exact h
set_option maxRecDepth 100000 in
theorem m_mvB68_lp (σ : xSg) : ∀ (m i : Nat) (g : Nat → Int32), i + m = 5 → (∀ j, j < i → g j = σ 73 (102 + j)) → xEv (.inl 0) M_X6_moves (mvB σ 68 5 102) 3 ([some (.ref 57), some (.int ((102 : Int32))), some (.ref 68), some (.int ((5 : Int32))), some (.int ((1 : Int32))), some (.int (nI i))], [], (x_up σ 68 g)) := by
  intro m
  induction m with
  | zero =>
    intro i g hi h1
    refine ev_br 2 [] ((5 : Int32) ≤ (nI i)) 49 9 ([some (.ref 57), some (.int ((102 : Int32))), some (.ref 68), some (.int ((5 : Int32))), some (.int ((1 : Int32))), some (.int (nI i))], [], (x_up σ 68 g)) rfl ?_ (fun c6 => ?_) (fun c6 => ?_)
    · trivial
    · refine ev_blk 3 [] 52 ([some (.ref 57), some (.int ((102 : Int32))), some (.ref 68), some (.int ((5 : Int32))), some (.int ((1 : Int32))), some (.int (nI i))], [.int ((107 : Int32))], (x_up σ 68 g)) rfl ?_ ?_
      · trivial
      refine ev_iret rfl rfl rfl ⟨rfl, fun d hd => x_up_ne hd, fun j hj => by rw [x_up_eq]; exact h1 j (by omega)⟩
    · exact absurd (show (5 : Int32) ≤ nI i from nI_le (a := 5) (by omega) (by omega)) c6
  | succ m ih =>
    intro i g hi h1
    have hix : (102 : Int32) + (nI i) = nI (102 + i) := by rw [show (102 : Int32) = nI 102 from rfl, nI_add]
    have hxc : ((102 : Int32) + (nI i)).toNatClampNeg = 102 + i := by rw [hix, nI_clamp (by omega)]
    have hic : (nI i).toNatClampNeg = i := nI_clamp (by omega)
    refine ev_br 2 [] ((5 : Int32) ≤ (nI i)) 49 9 ([some (.ref 57), some (.int ((102 : Int32))), some (.ref 68), some (.int ((5 : Int32))), some (.int ((1 : Int32))), some (.int (nI i))], [], (x_up σ 68 g)) rfl ?_ (fun c6 => ?_) (fun c6 => ?_)
    · trivial
    · exact absurd c6 (nI_ge (b := 5) (by omega) (by decide))
    · refine ev_br 1 [] ((1 : Int32) = 0) 30 14 ([some (.ref 57), some (.int ((102 : Int32))), some (.ref 68), some (.int ((5 : Int32))), some (.int ((1 : Int32))), some (.int (nI i))], [], (x_up σ 68 g)) rfl ?_ (fun c11 => ?_) (fun c11 => ?_)
      · trivial
      · exact absurd c11 (by decide)
      · refine ev_blk 12 [vp_in ((102 : Int32) + (nI i)) 320, vp_in (nI i) 5] 3 ([some (.ref 57), some (.int ((102 : Int32))), some (.ref 68), some (.int ((5 : Int32))), some (.int ((1 : Int32))), some (.int ((nI i) + (1 : Int32)))], [], (x_up (x_up σ 68 g) 68 (upd g (nI i).toNatClampNeg ((σ 73) ((102 : Int32) + (nI i)).toNatClampNeg)))) rfl ?_ ?_
        · exact ⟨(by rw [hix]; exact vp_in_nI (by omega) (by decide)), (vp_in_nI (by omega) (by decide))⟩
        rw [hxc]
        rw [hic]
        rw [nI_1, x_up_up]
        refine ih (i + 1) _ (by omega) (fun j hj => ?_)
        by_cases q : j = i
        · rw [q, upd_eq]
        · rw [upd_ne q]; exact h1 j (by omega)
set_option maxRecDepth 100000 in
theorem m_mvB68 (σ : xSg) : xCtr M_X6_moves [.ref 57, .int ((102 : Int32)), .ref 68, .int ((5 : Int32)), .int ((1 : Int32))] σ (mvB σ 68 5 102) := by
  refine ctr_ev ok_X6_moves (by decide +kernel) rfl rfl rfl ?_
  show xEv (.inl 0) M_X6_moves _ 0 ([some (.ref 57), some (.int ((102 : Int32))), some (.ref 68), some (.int ((5 : Int32))), some (.int ((1 : Int32))), none], [], σ)
  refine ev_blk 2 [] 3 ([some (.ref 57), some (.int ((102 : Int32))), some (.ref 68), some (.int ((5 : Int32))), some (.int ((1 : Int32))), some (.int ((0 : Int32)))], [], σ) rfl ?_ ?_
  · trivial
  have h := m_mvB68_lp σ 5 0 (σ 68) (by omega) (fun j hj => absurd hj (Nat.not_lt_zero j))
  rw [x_up_self] at h
  exact h
set_option maxRecDepth 100000 in
theorem m_mvT70_lp (σ : xSg) : ∀ (m i : Nat) (g : Nat → Int32), i + m = 100 → (∀ j, j < i → g (107 + j) = σ 70 j) → (∀ j, (j < 107 ∨ 207 ≤ j) → g j = σ 73 j) → xEv (.inl 0) M_X6_moves (mvT σ 70 100 107) 3 ([some (.ref 57), some (.int ((107 : Int32))), some (.ref 70), some (.int ((100 : Int32))), some (.int ((0 : Int32))), some (.int (nI i))], [], (x_up σ 73 g)) := by
  intro m
  induction m with
  | zero =>
    intro i g hi h1 h2
    refine ev_br 2 [] ((100 : Int32) ≤ (nI i)) 49 9 ([some (.ref 57), some (.int ((107 : Int32))), some (.ref 70), some (.int ((100 : Int32))), some (.int ((0 : Int32))), some (.int (nI i))], [], (x_up σ 73 g)) rfl ?_ (fun c6 => ?_) (fun c6 => ?_)
    · trivial
    · refine ev_blk 3 [] 52 ([some (.ref 57), some (.int ((107 : Int32))), some (.ref 70), some (.int ((100 : Int32))), some (.int ((0 : Int32))), some (.int (nI i))], [.int ((207 : Int32))], (x_up σ 73 g)) rfl ?_ ?_
      · trivial
      refine ev_iret rfl rfl rfl ⟨rfl, fun d hd => x_up_ne hd, fun j hj => by rw [x_up_eq]; exact h1 j (by omega), fun j hj => by rw [x_up_eq]; exact h2 j hj⟩
    · exact absurd (show (100 : Int32) ≤ nI i from nI_le (a := 100) (by omega) (by omega)) c6
  | succ m ih =>
    intro i g hi h1 h2
    have hix : (107 : Int32) + (nI i) = nI (107 + i) := by rw [show (107 : Int32) = nI 107 from rfl, nI_add]
    have hxc : ((107 : Int32) + (nI i)).toNatClampNeg = 107 + i := by rw [hix, nI_clamp (by omega)]
    have hic : (nI i).toNatClampNeg = i := nI_clamp (by omega)
    refine ev_br 2 [] ((100 : Int32) ≤ (nI i)) 49 9 ([some (.ref 57), some (.int ((107 : Int32))), some (.ref 70), some (.int ((100 : Int32))), some (.int ((0 : Int32))), some (.int (nI i))], [], (x_up σ 73 g)) rfl ?_ (fun c6 => ?_) (fun c6 => ?_)
    · trivial
    · exact absurd c6 (nI_ge (b := 100) (by omega) (by decide))
    · refine ev_br 1 [] ((0 : Int32) = 0) 30 14 ([some (.ref 57), some (.int ((107 : Int32))), some (.ref 70), some (.int ((100 : Int32))), some (.int ((0 : Int32))), some (.int (nI i))], [], (x_up σ 73 g)) rfl ?_ (fun c11 => ?_) (fun c11 => ?_)
      · trivial
      · refine ev_blk 11 [vp_in (nI i) 100, vp_in ((107 : Int32) + (nI i)) 320] 3 ([some (.ref 57), some (.int ((107 : Int32))), some (.ref 70), some (.int ((100 : Int32))), some (.int ((0 : Int32))), some (.int ((nI i) + (1 : Int32)))], [], (x_up (x_up σ 73 g) 73 (upd g ((107 : Int32) + (nI i)).toNatClampNeg ((σ 70) (nI i).toNatClampNeg)))) rfl ?_ ?_
        · exact ⟨(vp_in_nI (by omega) (by decide)), (by rw [hix]; exact vp_in_nI (by omega) (by decide))⟩
        rw [hxc]
        rw [hic]
        rw [nI_1, x_up_up]
        refine ih (i + 1) _ (by omega) (fun j hj => ?_) (fun j hj => ?_)
        · by_cases q : j = i
          · rw [q, upd_eq]
          · rw [upd_ne (by omega)]; exact h1 j (by omega)
        · rw [upd_ne (by omega)]; exact h2 j hj
      · exact absurd (by decide) c11
set_option maxRecDepth 100000 in
theorem m_mvT70 (σ : xSg) : xCtr M_X6_moves [.ref 57, .int ((107 : Int32)), .ref 70, .int ((100 : Int32)), .int ((0 : Int32))] σ (mvT σ 70 100 107) := by
  refine ctr_ev ok_X6_moves (by decide +kernel) rfl rfl rfl ?_
  show xEv (.inl 0) M_X6_moves _ 0 ([some (.ref 57), some (.int ((107 : Int32))), some (.ref 70), some (.int ((100 : Int32))), some (.int ((0 : Int32))), none], [], σ)
  refine ev_blk 2 [] 3 ([some (.ref 57), some (.int ((107 : Int32))), some (.ref 70), some (.int ((100 : Int32))), some (.int ((0 : Int32))), some (.int ((0 : Int32)))], [], σ) rfl ?_ ?_
  · trivial
  have h := m_mvT70_lp σ 100 0 (σ 73) (by omega) (fun j hj => absurd hj (Nat.not_lt_zero j)) (fun _ _ => rfl)
  rw [x_up_self] at h
  exact h
set_option maxRecDepth 100000 in
theorem m_mvB70_lp (σ : xSg) : ∀ (m i : Nat) (g : Nat → Int32), i + m = 100 → (∀ j, j < i → g j = σ 73 (107 + j)) → xEv (.inl 0) M_X6_moves (mvB σ 70 100 107) 3 ([some (.ref 57), some (.int ((107 : Int32))), some (.ref 70), some (.int ((100 : Int32))), some (.int ((1 : Int32))), some (.int (nI i))], [], (x_up σ 70 g)) := by
  intro m
  induction m with
  | zero =>
    intro i g hi h1
    refine ev_br 2 [] ((100 : Int32) ≤ (nI i)) 49 9 ([some (.ref 57), some (.int ((107 : Int32))), some (.ref 70), some (.int ((100 : Int32))), some (.int ((1 : Int32))), some (.int (nI i))], [], (x_up σ 70 g)) rfl ?_ (fun c6 => ?_) (fun c6 => ?_)
    · trivial
    · refine ev_blk 3 [] 52 ([some (.ref 57), some (.int ((107 : Int32))), some (.ref 70), some (.int ((100 : Int32))), some (.int ((1 : Int32))), some (.int (nI i))], [.int ((207 : Int32))], (x_up σ 70 g)) rfl ?_ ?_
      · trivial
      refine ev_iret rfl rfl rfl ⟨rfl, fun d hd => x_up_ne hd, fun j hj => by rw [x_up_eq]; exact h1 j (by omega)⟩
    · exact absurd (show (100 : Int32) ≤ nI i from nI_le (a := 100) (by omega) (by omega)) c6
  | succ m ih =>
    intro i g hi h1
    have hix : (107 : Int32) + (nI i) = nI (107 + i) := by rw [show (107 : Int32) = nI 107 from rfl, nI_add]
    have hxc : ((107 : Int32) + (nI i)).toNatClampNeg = 107 + i := by rw [hix, nI_clamp (by omega)]
    have hic : (nI i).toNatClampNeg = i := nI_clamp (by omega)
    refine ev_br 2 [] ((100 : Int32) ≤ (nI i)) 49 9 ([some (.ref 57), some (.int ((107 : Int32))), some (.ref 70), some (.int ((100 : Int32))), some (.int ((1 : Int32))), some (.int (nI i))], [], (x_up σ 70 g)) rfl ?_ (fun c6 => ?_) (fun c6 => ?_)
    · trivial
    · exact absurd c6 (nI_ge (b := 100) (by omega) (by decide))
    · refine ev_br 1 [] ((1 : Int32) = 0) 30 14 ([some (.ref 57), some (.int ((107 : Int32))), some (.ref 70), some (.int ((100 : Int32))), some (.int ((1 : Int32))), some (.int (nI i))], [], (x_up σ 70 g)) rfl ?_ (fun c11 => ?_) (fun c11 => ?_)
      · trivial
      · exact absurd c11 (by decide)
      · refine ev_blk 12 [vp_in ((107 : Int32) + (nI i)) 320, vp_in (nI i) 100] 3 ([some (.ref 57), some (.int ((107 : Int32))), some (.ref 70), some (.int ((100 : Int32))), some (.int ((1 : Int32))), some (.int ((nI i) + (1 : Int32)))], [], (x_up (x_up σ 70 g) 70 (upd g (nI i).toNatClampNeg ((σ 73) ((107 : Int32) + (nI i)).toNatClampNeg)))) rfl ?_ ?_
        · exact ⟨(by rw [hix]; exact vp_in_nI (by omega) (by decide)), (vp_in_nI (by omega) (by decide))⟩
        rw [hxc]
        rw [hic]
        rw [nI_1, x_up_up]
        refine ih (i + 1) _ (by omega) (fun j hj => ?_)
        by_cases q : j = i
        · rw [q, upd_eq]
        · rw [upd_ne q]; exact h1 j (by omega)
set_option maxRecDepth 100000 in
theorem m_mvB70 (σ : xSg) : xCtr M_X6_moves [.ref 57, .int ((107 : Int32)), .ref 70, .int ((100 : Int32)), .int ((1 : Int32))] σ (mvB σ 70 100 107) := by
  refine ctr_ev ok_X6_moves (by decide +kernel) rfl rfl rfl ?_
  show xEv (.inl 0) M_X6_moves _ 0 ([some (.ref 57), some (.int ((107 : Int32))), some (.ref 70), some (.int ((100 : Int32))), some (.int ((1 : Int32))), none], [], σ)
  refine ev_blk 2 [] 3 ([some (.ref 57), some (.int ((107 : Int32))), some (.ref 70), some (.int ((100 : Int32))), some (.int ((1 : Int32))), some (.int ((0 : Int32)))], [], σ) rfl ?_ ?_
  · trivial
  have h := m_mvB70_lp σ 100 0 (σ 70) (by omega) (fun j hj => absurd hj (Nat.not_lt_zero j))
  rw [x_up_self] at h
  exact h
set_option maxRecDepth 100000 in
theorem m_mvT71_lp (σ : xSg) : ∀ (m i : Nat) (g : Nat → Int32), i + m = 40 → (∀ j, j < i → g (207 + j) = σ 71 j) → (∀ j, (j < 207 ∨ 247 ≤ j) → g j = σ 73 j) → xEv (.inl 0) M_X6_moves (mvT σ 71 40 207) 3 ([some (.ref 57), some (.int ((207 : Int32))), some (.ref 71), some (.int ((40 : Int32))), some (.int ((0 : Int32))), some (.int (nI i))], [], (x_up σ 73 g)) := by
  intro m
  induction m with
  | zero =>
    intro i g hi h1 h2
    refine ev_br 2 [] ((40 : Int32) ≤ (nI i)) 49 9 ([some (.ref 57), some (.int ((207 : Int32))), some (.ref 71), some (.int ((40 : Int32))), some (.int ((0 : Int32))), some (.int (nI i))], [], (x_up σ 73 g)) rfl ?_ (fun c6 => ?_) (fun c6 => ?_)
    · trivial
    · refine ev_blk 3 [] 52 ([some (.ref 57), some (.int ((207 : Int32))), some (.ref 71), some (.int ((40 : Int32))), some (.int ((0 : Int32))), some (.int (nI i))], [.int ((247 : Int32))], (x_up σ 73 g)) rfl ?_ ?_
      · trivial
      refine ev_iret rfl rfl rfl ⟨rfl, fun d hd => x_up_ne hd, fun j hj => by rw [x_up_eq]; exact h1 j (by omega), fun j hj => by rw [x_up_eq]; exact h2 j hj⟩
    · exact absurd (show (40 : Int32) ≤ nI i from nI_le (a := 40) (by omega) (by omega)) c6
  | succ m ih =>
    intro i g hi h1 h2
    have hix : (207 : Int32) + (nI i) = nI (207 + i) := by rw [show (207 : Int32) = nI 207 from rfl, nI_add]
    have hxc : ((207 : Int32) + (nI i)).toNatClampNeg = 207 + i := by rw [hix, nI_clamp (by omega)]
    have hic : (nI i).toNatClampNeg = i := nI_clamp (by omega)
    refine ev_br 2 [] ((40 : Int32) ≤ (nI i)) 49 9 ([some (.ref 57), some (.int ((207 : Int32))), some (.ref 71), some (.int ((40 : Int32))), some (.int ((0 : Int32))), some (.int (nI i))], [], (x_up σ 73 g)) rfl ?_ (fun c6 => ?_) (fun c6 => ?_)
    · trivial
    · exact absurd c6 (nI_ge (b := 40) (by omega) (by decide))
    · refine ev_br 1 [] ((0 : Int32) = 0) 30 14 ([some (.ref 57), some (.int ((207 : Int32))), some (.ref 71), some (.int ((40 : Int32))), some (.int ((0 : Int32))), some (.int (nI i))], [], (x_up σ 73 g)) rfl ?_ (fun c11 => ?_) (fun c11 => ?_)
      · trivial
      · refine ev_blk 11 [vp_in (nI i) 40, vp_in ((207 : Int32) + (nI i)) 320] 3 ([some (.ref 57), some (.int ((207 : Int32))), some (.ref 71), some (.int ((40 : Int32))), some (.int ((0 : Int32))), some (.int ((nI i) + (1 : Int32)))], [], (x_up (x_up σ 73 g) 73 (upd g ((207 : Int32) + (nI i)).toNatClampNeg ((σ 71) (nI i).toNatClampNeg)))) rfl ?_ ?_
        · exact ⟨(vp_in_nI (by omega) (by decide)), (by rw [hix]; exact vp_in_nI (by omega) (by decide))⟩
        rw [hxc]
        rw [hic]
        rw [nI_1, x_up_up]
        refine ih (i + 1) _ (by omega) (fun j hj => ?_) (fun j hj => ?_)
        · by_cases q : j = i
          · rw [q, upd_eq]
          · rw [upd_ne (by omega)]; exact h1 j (by omega)
        · rw [upd_ne (by omega)]; exact h2 j hj
      · exact absurd (by decide) c11
set_option maxRecDepth 100000 in
theorem m_mvT71 (σ : xSg) : xCtr M_X6_moves [.ref 57, .int ((207 : Int32)), .ref 71, .int ((40 : Int32)), .int ((0 : Int32))] σ (mvT σ 71 40 207) := by
  refine ctr_ev ok_X6_moves (by decide +kernel) rfl rfl rfl ?_
  show xEv (.inl 0) M_X6_moves _ 0 ([some (.ref 57), some (.int ((207 : Int32))), some (.ref 71), some (.int ((40 : Int32))), some (.int ((0 : Int32))), none], [], σ)
  refine ev_blk 2 [] 3 ([some (.ref 57), some (.int ((207 : Int32))), some (.ref 71), some (.int ((40 : Int32))), some (.int ((0 : Int32))), some (.int ((0 : Int32)))], [], σ) rfl ?_ ?_
  · trivial
  have h := m_mvT71_lp σ 40 0 (σ 73) (by omega) (fun j hj => absurd hj (Nat.not_lt_zero j)) (fun _ _ => rfl)
  rw [x_up_self] at h
  exact h
set_option maxRecDepth 100000 in
theorem m_mvB71_lp (σ : xSg) : ∀ (m i : Nat) (g : Nat → Int32), i + m = 40 → (∀ j, j < i → g j = σ 73 (207 + j)) → xEv (.inl 0) M_X6_moves (mvB σ 71 40 207) 3 ([some (.ref 57), some (.int ((207 : Int32))), some (.ref 71), some (.int ((40 : Int32))), some (.int ((1 : Int32))), some (.int (nI i))], [], (x_up σ 71 g)) := by
  intro m
  induction m with
  | zero =>
    intro i g hi h1
    refine ev_br 2 [] ((40 : Int32) ≤ (nI i)) 49 9 ([some (.ref 57), some (.int ((207 : Int32))), some (.ref 71), some (.int ((40 : Int32))), some (.int ((1 : Int32))), some (.int (nI i))], [], (x_up σ 71 g)) rfl ?_ (fun c6 => ?_) (fun c6 => ?_)
    · trivial
    · refine ev_blk 3 [] 52 ([some (.ref 57), some (.int ((207 : Int32))), some (.ref 71), some (.int ((40 : Int32))), some (.int ((1 : Int32))), some (.int (nI i))], [.int ((247 : Int32))], (x_up σ 71 g)) rfl ?_ ?_
      · trivial
      refine ev_iret rfl rfl rfl ⟨rfl, fun d hd => x_up_ne hd, fun j hj => by rw [x_up_eq]; exact h1 j (by omega)⟩
    · exact absurd (show (40 : Int32) ≤ nI i from nI_le (a := 40) (by omega) (by omega)) c6
  | succ m ih =>
    intro i g hi h1
    have hix : (207 : Int32) + (nI i) = nI (207 + i) := by rw [show (207 : Int32) = nI 207 from rfl, nI_add]
    have hxc : ((207 : Int32) + (nI i)).toNatClampNeg = 207 + i := by rw [hix, nI_clamp (by omega)]
    have hic : (nI i).toNatClampNeg = i := nI_clamp (by omega)
    refine ev_br 2 [] ((40 : Int32) ≤ (nI i)) 49 9 ([some (.ref 57), some (.int ((207 : Int32))), some (.ref 71), some (.int ((40 : Int32))), some (.int ((1 : Int32))), some (.int (nI i))], [], (x_up σ 71 g)) rfl ?_ (fun c6 => ?_) (fun c6 => ?_)
    · trivial
    · exact absurd c6 (nI_ge (b := 40) (by omega) (by decide))
    · refine ev_br 1 [] ((1 : Int32) = 0) 30 14 ([some (.ref 57), some (.int ((207 : Int32))), some (.ref 71), some (.int ((40 : Int32))), some (.int ((1 : Int32))), some (.int (nI i))], [], (x_up σ 71 g)) rfl ?_ (fun c11 => ?_) (fun c11 => ?_)
      · trivial
      · exact absurd c11 (by decide)
      · refine ev_blk 12 [vp_in ((207 : Int32) + (nI i)) 320, vp_in (nI i) 40] 3 ([some (.ref 57), some (.int ((207 : Int32))), some (.ref 71), some (.int ((40 : Int32))), some (.int ((1 : Int32))), some (.int ((nI i) + (1 : Int32)))], [], (x_up (x_up σ 71 g) 71 (upd g (nI i).toNatClampNeg ((σ 73) ((207 : Int32) + (nI i)).toNatClampNeg)))) rfl ?_ ?_
        · exact ⟨(by rw [hix]; exact vp_in_nI (by omega) (by decide)), (vp_in_nI (by omega) (by decide))⟩
        rw [hxc]
        rw [hic]
        rw [nI_1, x_up_up]
        refine ih (i + 1) _ (by omega) (fun j hj => ?_)
        by_cases q : j = i
        · rw [q, upd_eq]
        · rw [upd_ne q]; exact h1 j (by omega)
set_option maxRecDepth 100000 in
theorem m_mvB71 (σ : xSg) : xCtr M_X6_moves [.ref 57, .int ((207 : Int32)), .ref 71, .int ((40 : Int32)), .int ((1 : Int32))] σ (mvB σ 71 40 207) := by
  refine ctr_ev ok_X6_moves (by decide +kernel) rfl rfl rfl ?_
  show xEv (.inl 0) M_X6_moves _ 0 ([some (.ref 57), some (.int ((207 : Int32))), some (.ref 71), some (.int ((40 : Int32))), some (.int ((1 : Int32))), none], [], σ)
  refine ev_blk 2 [] 3 ([some (.ref 57), some (.int ((207 : Int32))), some (.ref 71), some (.int ((40 : Int32))), some (.int ((1 : Int32))), some (.int ((0 : Int32)))], [], σ) rfl ?_ ?_
  · trivial
  have h := m_mvB71_lp σ 40 0 (σ 71) (by omega) (fun j hj => absurd hj (Nat.not_lt_zero j))
  rw [x_up_self] at h
  exact h
def imT (σ σ' : xSg) : Prop := (∀ j, j < 10 → σ' 73 (0 + j) = σ 58 j) ∧ (∀ j, j < 10 → σ' 73 (10 + j) = σ 59 j) ∧ (∀ j, j < 10 → σ' 73 (20 + j) = σ 60 j) ∧ (∀ j, j < 10 → σ' 73 (30 + j) = σ 61 j) ∧ (∀ j, j < 10 → σ' 73 (40 + j) = σ 62 j) ∧ (∀ j, j < 10 → σ' 73 (50 + j) = σ 63 j) ∧ (∀ j, j < 10 → σ' 73 (60 + j) = σ 64 j) ∧ (∀ j, j < 10 → σ' 73 (70 + j) = σ 65 j) ∧ (∀ j, j < 20 → σ' 73 (80 + j) = σ 66 j) ∧ (∀ j, j < 2 → σ' 73 (100 + j) = σ 67 j) ∧ (∀ j, j < 5 → σ' 73 (102 + j) = σ 68 j) ∧ (∀ j, j < 100 → σ' 73 (107 + j) = σ 70 j) ∧ (∀ j, j < 40 → σ' 73 (207 + j) = σ 71 j)
def imB (σ σ' : xSg) : Prop := (∀ j, j < 10 → σ' 58 j = σ 73 (0 + j)) ∧ (∀ j, j < 10 → σ' 59 j = σ 73 (10 + j)) ∧ (∀ j, j < 10 → σ' 60 j = σ 73 (20 + j)) ∧ (∀ j, j < 10 → σ' 61 j = σ 73 (30 + j)) ∧ (∀ j, j < 10 → σ' 62 j = σ 73 (40 + j)) ∧ (∀ j, j < 10 → σ' 63 j = σ 73 (50 + j)) ∧ (∀ j, j < 10 → σ' 64 j = σ 73 (60 + j)) ∧ (∀ j, j < 10 → σ' 65 j = σ 73 (70 + j)) ∧ (∀ j, j < 20 → σ' 66 j = σ 73 (80 + j)) ∧ (∀ j, j < 2 → σ' 67 j = σ 73 (100 + j)) ∧ (∀ j, j < 5 → σ' 68 j = σ 73 (102 + j)) ∧ (∀ j, j < 100 → σ' 70 j = σ 73 (107 + j)) ∧ (∀ j, j < 40 → σ' 71 j = σ 73 (207 + j))
def imgT (σ : xSg) : Option Value → xSg → Prop := fun r σ' => r = none ∧ (∀ d, d ≠ 73 → σ' d = σ d) ∧ imT σ σ' ∧ (∀ i, i < 60 → σ' 73 (247 + i) = if σ 69 i = 0 then 0 else 1) ∧ σ' 73 307 = σ 57 0 ∧ σ' 73 308 = σ 57 14
def imgB (σ : xSg) : Option Value → xSg → Prop := fun r σ' => r = none ∧ (∀ d, d ∉ [58, 59, 60, 61, 62, 63, 64, 65, 66, 67, 68, 69, 70, 71] → d ≠ 57 → σ' d = σ d) ∧ (∀ i, i ≠ 0 → i ≠ 14 → σ' 57 i = σ 57 i) ∧ imB σ σ' ∧ (∀ i, i < 60 → σ' 69 i = if σ 73 (247 + i) = 1 then 1 else 0) ∧ σ' 57 0 = σ 73 307 ∧ σ' 57 14 = σ 73 308
set_option maxRecDepth 100000 in
theorem m_imgT_lp (σ1 : xSg) (Q : Option Value → xSg → Prop) (kK : ∀ g : Nat → Int32, (∀ j, j < 60 → g (247 + j) = if σ1 69 j = 0 then 0 else 1) → (∀ j, (j < 247 ∨ 307 ≤ j) → g j = σ1 73 j) → xEv (.inl 1) M_X6_images Q 233 ([some (.ref 57), some (.int ((0 : Int32))), some (.int ((247 : Int32))), none], [], (x_up σ1 73 g))) : ∀ (m i : Nat) (g : Nat → Int32), i + m = 60 → (∀ j, j < i → g (247 + j) = if σ1 69 j = 0 then 0 else 1) → (∀ j, (j < 247 ∨ 307 ≤ j) → g j = σ1 73 j) → xEv (.inl 1) M_X6_images Q 169 ([some (.ref 57), some (.int ((0 : Int32))), some (.int ((247 : Int32))), some (.int (nI i))], [], (x_up σ1 73 g)) := by
  intro m
  induction m with
  | zero =>
    intro i g hi h1 h2
    refine ev_br 2 [] ((60 : Int32) ≤ (nI i)) 233 175 ([some (.ref 57), some (.int ((0 : Int32))), some (.int ((247 : Int32))), some (.int (nI i))], [], (x_up σ1 73 g)) rfl ?_ (fun c172 => ?_) (fun c172 => ?_)
    · trivial
    · have e : i = 60 := by omega
      subst e
      refine ev_drop 3 ?_
      exact kK g h1 h2
    · exact absurd (show (60 : Int32) ≤ nI i from nI_le (a := 60) (by omega) (by omega)) c172
  | succ m ih =>
    intro i g hi h1 h2
    have hix : (247 : Int32) + (nI i) = nI (247 + i) := by rw [show (247 : Int32) = nI 247 from rfl, nI_add]
    have hxc : ((247 : Int32) + (nI i)).toNatClampNeg = 247 + i := by rw [hix, nI_clamp (by omega)]
    have hic : (nI i).toNatClampNeg = i := nI_clamp (by omega)
    refine ev_br 2 [] ((60 : Int32) ≤ (nI i)) 233 175 ([some (.ref 57), some (.int ((0 : Int32))), some (.int ((247 : Int32))), some (.int (nI i))], [], (x_up σ1 73 g)) rfl ?_ (fun c172 => ?_) (fun c172 => ?_)
    · trivial
    · exact absurd c172 (nI_ge (b := 60) (by omega) (by decide))
    · refine ev_br 1 [] ((0 : Int32) = 0) 205 179 ([some (.ref 57), some (.int ((0 : Int32))), some (.int ((247 : Int32))), some (.int (nI i))], [], (x_up σ1 73 g)) rfl ?_ (fun c176 => ?_) (fun c176 => ?_)
      · trivial
      · refine ev_br 9 [vp_in (nI i) 60] (((σ1 69) (nI i).toNatClampNeg) = 0) 225 221 ([some (.ref 57), some (.int ((0 : Int32))), some (.int ((247 : Int32))), some (.int (nI i))], [.int ((247 : Int32) + (nI i)), .ref 73], (x_up σ1 73 g)) rfl ?_ (fun c218 => ?_) (fun c218 => ?_)
        · exact (vp_in_nI (by omega) (by decide))
        · rw [hic] at c218
          refine ev_blk 4 [vp_in ((247 : Int32) + (nI i)) 320] 169 ([some (.ref 57), some (.int ((0 : Int32))), some (.int ((247 : Int32))), some (.int ((nI i) + (1 : Int32)))], [], (x_up (x_up σ1 73 g) 73 (upd g ((247 : Int32) + (nI i)).toNatClampNeg ((0 : Int32))))) rfl ?_ ?_
          · exact (by rw [hix]; exact vp_in_nI (by omega) (by decide))
          rw [hxc]
          rw [nI_1, x_up_up]
          refine ih (i + 1) _ (by omega) (fun j hj => ?_) (fun j hj => ?_)
          · by_cases q : j = i
            · rw [q, upd_eq, if_pos c218]
            · rw [upd_ne (by omega)]; exact h1 j (by omega)
          · rw [upd_ne (by omega)]; exact h2 j hj
        · rw [hic] at c218
          refine ev_blk 5 [vp_in ((247 : Int32) + (nI i)) 320] 169 ([some (.ref 57), some (.int ((0 : Int32))), some (.int ((247 : Int32))), some (.int ((nI i) + (1 : Int32)))], [], (x_up (x_up σ1 73 g) 73 (upd g ((247 : Int32) + (nI i)).toNatClampNeg ((1 : Int32))))) rfl ?_ ?_
          · exact (by rw [hix]; exact vp_in_nI (by omega) (by decide))
          rw [hxc]
          rw [nI_1, x_up_up]
          refine ih (i + 1) _ (by omega) (fun j hj => ?_) (fun j hj => ?_)
          · by_cases q : j = i
            · rw [q, upd_eq, if_neg c218]
            · rw [upd_ne (by omega)]; exact h1 j (by omega)
          · rw [upd_ne (by omega)]; exact h2 j hj
      · exact absurd (by decide) c176
set_option maxRecDepth 100000 in
theorem m_imagesT (σ : xSg) : xCtr M_X6_images [.ref 57, .int ((0 : Int32))] σ (imgT σ) := by
  refine ctr_ev ok_X6_images (by decide +kernel) rfl rfl rfl ?_
  show xEv (.inl 1) M_X6_images _ 0 ([some (.ref 57), some (.int ((0 : Int32))), none, none], [], σ)
  refine ev_blk 6 [] 9 ([some (.ref 57), some (.int ((0 : Int32))), none, none], [.int ((0 : Int32)), .int ((10 : Int32)), .ref 58, .int ((0 : Int32)), .ref 57], σ) rfl ?_ ?_
  · trivial
  refine ev_callV M_X6_moves [.int ((0 : Int32)), .ref 58, .int ((10 : Int32)), .int ((0 : Int32))] [] 57 rfl rfl ln_X6_209 k_X6_moves rfl rfl rfl rfl rfl rfl (m_mvT58 σ) ?_
  rintro r σ1 ⟨rfl, a1, b1, d1⟩
  show xEv _ _ _ 12 ([some (.ref 57), some (.int ((0 : Int32))), none, none], [.int ((10 : Int32))], σ1)
  refine ev_blk 7 [] 22 ([some (.ref 57), some (.int ((0 : Int32))), some (.int ((10 : Int32))), none], [.int ((0 : Int32)), .int ((10 : Int32)), .ref 59, .int ((10 : Int32)), .ref 57], σ1) rfl ?_ ?_
  · trivial
  refine ev_callV M_X6_moves [.int ((10 : Int32)), .ref 59, .int ((10 : Int32)), .int ((0 : Int32))] [] 57 rfl rfl ln_X6_209 k_X6_moves rfl rfl rfl rfl rfl rfl (m_mvT59 σ1) ?_
  rintro r σ2 ⟨rfl, a2, b2, d2⟩
  show xEv _ _ _ 25 ([some (.ref 57), some (.int ((0 : Int32))), some (.int ((10 : Int32))), none], [.int ((20 : Int32))], σ2)
  refine ev_blk 7 [] 35 ([some (.ref 57), some (.int ((0 : Int32))), some (.int ((20 : Int32))), none], [.int ((0 : Int32)), .int ((10 : Int32)), .ref 60, .int ((20 : Int32)), .ref 57], σ2) rfl ?_ ?_
  · trivial
  refine ev_callV M_X6_moves [.int ((20 : Int32)), .ref 60, .int ((10 : Int32)), .int ((0 : Int32))] [] 57 rfl rfl ln_X6_209 k_X6_moves rfl rfl rfl rfl rfl rfl (m_mvT60 σ2) ?_
  rintro r σ3 ⟨rfl, a3, b3, d3⟩
  show xEv _ _ _ 38 ([some (.ref 57), some (.int ((0 : Int32))), some (.int ((20 : Int32))), none], [.int ((30 : Int32))], σ3)
  refine ev_blk 7 [] 48 ([some (.ref 57), some (.int ((0 : Int32))), some (.int ((30 : Int32))), none], [.int ((0 : Int32)), .int ((10 : Int32)), .ref 61, .int ((30 : Int32)), .ref 57], σ3) rfl ?_ ?_
  · trivial
  refine ev_callV M_X6_moves [.int ((30 : Int32)), .ref 61, .int ((10 : Int32)), .int ((0 : Int32))] [] 57 rfl rfl ln_X6_209 k_X6_moves rfl rfl rfl rfl rfl rfl (m_mvT61 σ3) ?_
  rintro r σ4 ⟨rfl, a4, b4, d4⟩
  show xEv _ _ _ 51 ([some (.ref 57), some (.int ((0 : Int32))), some (.int ((30 : Int32))), none], [.int ((40 : Int32))], σ4)
  refine ev_blk 7 [] 61 ([some (.ref 57), some (.int ((0 : Int32))), some (.int ((40 : Int32))), none], [.int ((0 : Int32)), .int ((10 : Int32)), .ref 62, .int ((40 : Int32)), .ref 57], σ4) rfl ?_ ?_
  · trivial
  refine ev_callV M_X6_moves [.int ((40 : Int32)), .ref 62, .int ((10 : Int32)), .int ((0 : Int32))] [] 57 rfl rfl ln_X6_209 k_X6_moves rfl rfl rfl rfl rfl rfl (m_mvT62 σ4) ?_
  rintro r σ5 ⟨rfl, a5, b5, d5⟩
  show xEv _ _ _ 64 ([some (.ref 57), some (.int ((0 : Int32))), some (.int ((40 : Int32))), none], [.int ((50 : Int32))], σ5)
  refine ev_blk 7 [] 74 ([some (.ref 57), some (.int ((0 : Int32))), some (.int ((50 : Int32))), none], [.int ((0 : Int32)), .int ((10 : Int32)), .ref 63, .int ((50 : Int32)), .ref 57], σ5) rfl ?_ ?_
  · trivial
  refine ev_callV M_X6_moves [.int ((50 : Int32)), .ref 63, .int ((10 : Int32)), .int ((0 : Int32))] [] 57 rfl rfl ln_X6_209 k_X6_moves rfl rfl rfl rfl rfl rfl (m_mvT63 σ5) ?_
  rintro r σ6 ⟨rfl, a6, b6, d6⟩
  show xEv _ _ _ 77 ([some (.ref 57), some (.int ((0 : Int32))), some (.int ((50 : Int32))), none], [.int ((60 : Int32))], σ6)
  refine ev_blk 7 [] 87 ([some (.ref 57), some (.int ((0 : Int32))), some (.int ((60 : Int32))), none], [.int ((0 : Int32)), .int ((10 : Int32)), .ref 64, .int ((60 : Int32)), .ref 57], σ6) rfl ?_ ?_
  · trivial
  refine ev_callV M_X6_moves [.int ((60 : Int32)), .ref 64, .int ((10 : Int32)), .int ((0 : Int32))] [] 57 rfl rfl ln_X6_209 k_X6_moves rfl rfl rfl rfl rfl rfl (m_mvT64 σ6) ?_
  rintro r σ7 ⟨rfl, a7, b7, d7⟩
  show xEv _ _ _ 90 ([some (.ref 57), some (.int ((0 : Int32))), some (.int ((60 : Int32))), none], [.int ((70 : Int32))], σ7)
  refine ev_blk 7 [] 100 ([some (.ref 57), some (.int ((0 : Int32))), some (.int ((70 : Int32))), none], [.int ((0 : Int32)), .int ((10 : Int32)), .ref 65, .int ((70 : Int32)), .ref 57], σ7) rfl ?_ ?_
  · trivial
  refine ev_callV M_X6_moves [.int ((70 : Int32)), .ref 65, .int ((10 : Int32)), .int ((0 : Int32))] [] 57 rfl rfl ln_X6_209 k_X6_moves rfl rfl rfl rfl rfl rfl (m_mvT65 σ7) ?_
  rintro r σ8 ⟨rfl, a8, b8, d8⟩
  show xEv _ _ _ 103 ([some (.ref 57), some (.int ((0 : Int32))), some (.int ((70 : Int32))), none], [.int ((80 : Int32))], σ8)
  refine ev_blk 7 [] 113 ([some (.ref 57), some (.int ((0 : Int32))), some (.int ((80 : Int32))), none], [.int ((0 : Int32)), .int ((20 : Int32)), .ref 66, .int ((80 : Int32)), .ref 57], σ8) rfl ?_ ?_
  · trivial
  refine ev_callV M_X6_moves [.int ((80 : Int32)), .ref 66, .int ((20 : Int32)), .int ((0 : Int32))] [] 57 rfl rfl ln_X6_209 k_X6_moves rfl rfl rfl rfl rfl rfl (m_mvT66 σ8) ?_
  rintro r σ9 ⟨rfl, a9, b9, d9⟩
  show xEv _ _ _ 116 ([some (.ref 57), some (.int ((0 : Int32))), some (.int ((80 : Int32))), none], [.int ((100 : Int32))], σ9)
  refine ev_blk 7 [] 125 ([some (.ref 57), some (.int ((0 : Int32))), some (.int ((100 : Int32))), none], [.int ((0 : Int32)), .int ((2 : Int32)), .ref 67, .int ((100 : Int32)), .ref 57], σ9) rfl ?_ ?_
  · trivial
  refine ev_callV M_X6_moves [.int ((100 : Int32)), .ref 67, .int ((2 : Int32)), .int ((0 : Int32))] [] 57 rfl rfl ln_X6_209 k_X6_moves rfl rfl rfl rfl rfl rfl (m_mvT67 σ9) ?_
  rintro r σ10 ⟨rfl, a10, b10, d10⟩
  show xEv _ _ _ 128 ([some (.ref 57), some (.int ((0 : Int32))), some (.int ((100 : Int32))), none], [.int ((102 : Int32))], σ10)
  refine ev_blk 7 [] 137 ([some (.ref 57), some (.int ((0 : Int32))), some (.int ((102 : Int32))), none], [.int ((0 : Int32)), .int ((5 : Int32)), .ref 68, .int ((102 : Int32)), .ref 57], σ10) rfl ?_ ?_
  · trivial
  refine ev_callV M_X6_moves [.int ((102 : Int32)), .ref 68, .int ((5 : Int32)), .int ((0 : Int32))] [] 57 rfl rfl ln_X6_209 k_X6_moves rfl rfl rfl rfl rfl rfl (m_mvT68 σ10) ?_
  rintro r σ11 ⟨rfl, a11, b11, d11⟩
  show xEv _ _ _ 140 ([some (.ref 57), some (.int ((0 : Int32))), some (.int ((102 : Int32))), none], [.int ((107 : Int32))], σ11)
  refine ev_blk 7 [] 150 ([some (.ref 57), some (.int ((0 : Int32))), some (.int ((107 : Int32))), none], [.int ((0 : Int32)), .int ((100 : Int32)), .ref 70, .int ((107 : Int32)), .ref 57], σ11) rfl ?_ ?_
  · trivial
  refine ev_callV M_X6_moves [.int ((107 : Int32)), .ref 70, .int ((100 : Int32)), .int ((0 : Int32))] [] 57 rfl rfl ln_X6_209 k_X6_moves rfl rfl rfl rfl rfl rfl (m_mvT70 σ11) ?_
  rintro r σ12 ⟨rfl, a12, b12, d12⟩
  show xEv _ _ _ 153 ([some (.ref 57), some (.int ((0 : Int32))), some (.int ((107 : Int32))), none], [.int ((207 : Int32))], σ12)
  refine ev_blk 7 [] 163 ([some (.ref 57), some (.int ((0 : Int32))), some (.int ((207 : Int32))), none], [.int ((0 : Int32)), .int ((40 : Int32)), .ref 71, .int ((207 : Int32)), .ref 57], σ12) rfl ?_ ?_
  · trivial
  refine ev_callV M_X6_moves [.int ((207 : Int32)), .ref 71, .int ((40 : Int32)), .int ((0 : Int32))] [] 57 rfl rfl ln_X6_209 k_X6_moves rfl rfl rfl rfl rfl rfl (m_mvT71 σ12) ?_
  rintro r σ13 ⟨rfl, a13, b13, d13⟩
  show xEv _ _ _ 166 ([some (.ref 57), some (.int ((0 : Int32))), some (.int ((207 : Int32))), none], [.int ((247 : Int32))], σ13)
  refine ev_blk 3 [] 169 ([some (.ref 57), some (.int ((0 : Int32))), some (.int ((247 : Int32))), some (.int ((0 : Int32)))], [], σ13) rfl ?_ ?_
  · trivial
  have o : ∀ d, d ≠ 73 → σ13 d = σ d := fun d hd => by rw [a13 d hd, a12 d hd, a11 d hd, a10 d hd, a9 d hd, a8 d hd, a7 d hd, a6 d hd, a5 d hd, a4 d hd, a3 d hd, a2 d hd, a1 d hd]
  have v1 : ∀ j, j < 10 → σ13 73 (0 + j) = σ 58 j := fun j hj => by rw [d13 _ (by omega), d12 _ (by omega), d11 _ (by omega), d10 _ (by omega), d9 _ (by omega), d8 _ (by omega), d7 _ (by omega), d6 _ (by omega), d5 _ (by omega), d4 _ (by omega), d3 _ (by omega), d2 _ (by omega), b1 j hj]
  have v2 : ∀ j, j < 10 → σ13 73 (10 + j) = σ 59 j := fun j hj => by rw [d13 _ (by omega), d12 _ (by omega), d11 _ (by omega), d10 _ (by omega), d9 _ (by omega), d8 _ (by omega), d7 _ (by omega), d6 _ (by omega), d5 _ (by omega), d4 _ (by omega), d3 _ (by omega), b2 j hj, a1 59 (by decide)]
  have v3 : ∀ j, j < 10 → σ13 73 (20 + j) = σ 60 j := fun j hj => by rw [d13 _ (by omega), d12 _ (by omega), d11 _ (by omega), d10 _ (by omega), d9 _ (by omega), d8 _ (by omega), d7 _ (by omega), d6 _ (by omega), d5 _ (by omega), d4 _ (by omega), b3 j hj, a2 60 (by decide), a1 60 (by decide)]
  have v4 : ∀ j, j < 10 → σ13 73 (30 + j) = σ 61 j := fun j hj => by rw [d13 _ (by omega), d12 _ (by omega), d11 _ (by omega), d10 _ (by omega), d9 _ (by omega), d8 _ (by omega), d7 _ (by omega), d6 _ (by omega), d5 _ (by omega), b4 j hj, a3 61 (by decide), a2 61 (by decide), a1 61 (by decide)]
  have v5 : ∀ j, j < 10 → σ13 73 (40 + j) = σ 62 j := fun j hj => by rw [d13 _ (by omega), d12 _ (by omega), d11 _ (by omega), d10 _ (by omega), d9 _ (by omega), d8 _ (by omega), d7 _ (by omega), d6 _ (by omega), b5 j hj, a4 62 (by decide), a3 62 (by decide), a2 62 (by decide), a1 62 (by decide)]
  have v6 : ∀ j, j < 10 → σ13 73 (50 + j) = σ 63 j := fun j hj => by rw [d13 _ (by omega), d12 _ (by omega), d11 _ (by omega), d10 _ (by omega), d9 _ (by omega), d8 _ (by omega), d7 _ (by omega), b6 j hj, a5 63 (by decide), a4 63 (by decide), a3 63 (by decide), a2 63 (by decide), a1 63 (by decide)]
  have v7 : ∀ j, j < 10 → σ13 73 (60 + j) = σ 64 j := fun j hj => by rw [d13 _ (by omega), d12 _ (by omega), d11 _ (by omega), d10 _ (by omega), d9 _ (by omega), d8 _ (by omega), b7 j hj, a6 64 (by decide), a5 64 (by decide), a4 64 (by decide), a3 64 (by decide), a2 64 (by decide), a1 64 (by decide)]
  have v8 : ∀ j, j < 10 → σ13 73 (70 + j) = σ 65 j := fun j hj => by rw [d13 _ (by omega), d12 _ (by omega), d11 _ (by omega), d10 _ (by omega), d9 _ (by omega), b8 j hj, a7 65 (by decide), a6 65 (by decide), a5 65 (by decide), a4 65 (by decide), a3 65 (by decide), a2 65 (by decide), a1 65 (by decide)]
  have v9 : ∀ j, j < 20 → σ13 73 (80 + j) = σ 66 j := fun j hj => by rw [d13 _ (by omega), d12 _ (by omega), d11 _ (by omega), d10 _ (by omega), b9 j hj, a8 66 (by decide), a7 66 (by decide), a6 66 (by decide), a5 66 (by decide), a4 66 (by decide), a3 66 (by decide), a2 66 (by decide), a1 66 (by decide)]
  have v10 : ∀ j, j < 2 → σ13 73 (100 + j) = σ 67 j := fun j hj => by rw [d13 _ (by omega), d12 _ (by omega), d11 _ (by omega), b10 j hj, a9 67 (by decide), a8 67 (by decide), a7 67 (by decide), a6 67 (by decide), a5 67 (by decide), a4 67 (by decide), a3 67 (by decide), a2 67 (by decide), a1 67 (by decide)]
  have v11 : ∀ j, j < 5 → σ13 73 (102 + j) = σ 68 j := fun j hj => by rw [d13 _ (by omega), d12 _ (by omega), b11 j hj, a10 68 (by decide), a9 68 (by decide), a8 68 (by decide), a7 68 (by decide), a6 68 (by decide), a5 68 (by decide), a4 68 (by decide), a3 68 (by decide), a2 68 (by decide), a1 68 (by decide)]
  have v12 : ∀ j, j < 100 → σ13 73 (107 + j) = σ 70 j := fun j hj => by rw [d13 _ (by omega), b12 j hj, a11 70 (by decide), a10 70 (by decide), a9 70 (by decide), a8 70 (by decide), a7 70 (by decide), a6 70 (by decide), a5 70 (by decide), a4 70 (by decide), a3 70 (by decide), a2 70 (by decide), a1 70 (by decide)]
  have v13 : ∀ j, j < 40 → σ13 73 (207 + j) = σ 71 j := fun j hj => by rw [b13 j hj, a12 71 (by decide), a11 71 (by decide), a10 71 (by decide), a9 71 (by decide), a8 71 (by decide), a7 71 (by decide), a6 71 (by decide), a5 71 (by decide), a4 71 (by decide), a3 71 (by decide), a2 71 (by decide), a1 71 (by decide)]
  have hx := fun kK => m_imgT_lp σ13 (imgT σ) kK 60 0 (σ13 73) (by omega) (fun j hj => absurd hj (Nat.not_lt_zero j)) (fun _ _ => rfl)
  rw [x_up_self] at hx
  refine hx (fun g h1 h2 => ?_)
  refine ev_br 2 [] ((0 : Int32) = 0) 265 240 ([some (.ref 57), some (.int ((0 : Int32))), some (.int ((307 : Int32))), none], [], (x_up σ13 73 g)) rfl ?_ (fun c237 => ?_) (fun c237 => ?_)
  · trivial
  · refine ev_blk 14 [vp_in ((307 : Int32)) 320, vp_in ((308 : Int32)) 320] 287 ([some (.ref 57), some (.int ((0 : Int32))), some (.int ((307 : Int32))), none], [], (x_up (x_up (x_up σ13 73 g) 73 (upd g 307 ((σ13 57 0)))) 73 (upd (upd g 307 ((σ13 57 0))) 308 ((σ13 57 14))))) rfl ?_ ?_
    · exact ⟨vp_in_nI (n := 307) (by decide) (by decide), vp_in_nI (n := 308) (by decide) (by decide)⟩
    refine ev_vret rfl rfl ⟨rfl, fun d hd => ?_, ⟨fun j hj => ?_, fun j hj => ?_, fun j hj => ?_, fun j hj => ?_, fun j hj => ?_, fun j hj => ?_, fun j hj => ?_, fun j hj => ?_, fun j hj => ?_, fun j hj => ?_, fun j hj => ?_, fun j hj => ?_, fun j hj => ?_⟩, fun i hi => ?_, ?_, ?_⟩
    · rw [x_up_ne hd, x_up_ne hd, x_up_ne hd]; exact o d hd
    · simp only [x_up_eq]
      rw [upd_ne (by omega), upd_ne (by omega), h2 _ (by omega)]; exact v1 j hj
    · simp only [x_up_eq]
      rw [upd_ne (by omega), upd_ne (by omega), h2 _ (by omega)]; exact v2 j hj
    · simp only [x_up_eq]
      rw [upd_ne (by omega), upd_ne (by omega), h2 _ (by omega)]; exact v3 j hj
    · simp only [x_up_eq]
      rw [upd_ne (by omega), upd_ne (by omega), h2 _ (by omega)]; exact v4 j hj
    · simp only [x_up_eq]
      rw [upd_ne (by omega), upd_ne (by omega), h2 _ (by omega)]; exact v5 j hj
    · simp only [x_up_eq]
      rw [upd_ne (by omega), upd_ne (by omega), h2 _ (by omega)]; exact v6 j hj
    · simp only [x_up_eq]
      rw [upd_ne (by omega), upd_ne (by omega), h2 _ (by omega)]; exact v7 j hj
    · simp only [x_up_eq]
      rw [upd_ne (by omega), upd_ne (by omega), h2 _ (by omega)]; exact v8 j hj
    · simp only [x_up_eq]
      rw [upd_ne (by omega), upd_ne (by omega), h2 _ (by omega)]; exact v9 j hj
    · simp only [x_up_eq]
      rw [upd_ne (by omega), upd_ne (by omega), h2 _ (by omega)]; exact v10 j hj
    · simp only [x_up_eq]
      rw [upd_ne (by omega), upd_ne (by omega), h2 _ (by omega)]; exact v11 j hj
    · simp only [x_up_eq]
      rw [upd_ne (by omega), upd_ne (by omega), h2 _ (by omega)]; exact v12 j hj
    · simp only [x_up_eq]
      rw [upd_ne (by omega), upd_ne (by omega), h2 _ (by omega)]; exact v13 j hj
    · simp only [x_up_eq]
      rw [upd_ne (by omega), upd_ne (by omega), h1 i hi, o 69 (by decide)]
    · simp only [x_up_eq]
      rw [upd_ne (by omega), upd_eq]
      exact congrFun (o 57 (by decide)) 0
    · simp only [x_up_eq]
      rw [upd_eq]
      exact congrFun (o 57 (by decide)) 14
  · exact absurd (by decide) c237
set_option maxRecDepth 100000 in
theorem m_imgB_lp (σ1 : xSg) (Q : Option Value → xSg → Prop) (kK : ∀ g : Nat → Int32, (∀ j, j < 60 → g j = if σ1 73 (247 + j) = 1 then 1 else 0) → xEv (.inl 1) M_X6_images Q 233 ([some (.ref 57), some (.int ((1 : Int32))), some (.int ((247 : Int32))), none], [], (x_up σ1 69 g))) : ∀ (m i : Nat) (g : Nat → Int32), i + m = 60 → (∀ j, j < i → g j = if σ1 73 (247 + j) = 1 then 1 else 0) → xEv (.inl 1) M_X6_images Q 169 ([some (.ref 57), some (.int ((1 : Int32))), some (.int ((247 : Int32))), some (.int (nI i))], [], (x_up σ1 69 g)) := by
  intro m
  induction m with
  | zero =>
    intro i g hi h1
    refine ev_br 2 [] ((60 : Int32) ≤ (nI i)) 233 175 ([some (.ref 57), some (.int ((1 : Int32))), some (.int ((247 : Int32))), some (.int (nI i))], [], (x_up σ1 69 g)) rfl ?_ (fun c172 => ?_) (fun c172 => ?_)
    · trivial
    · have e : i = 60 := by omega
      subst e
      refine ev_drop 3 ?_
      exact kK g h1
    · exact absurd (show (60 : Int32) ≤ nI i from nI_le (a := 60) (by omega) (by omega)) c172
  | succ m ih =>
    intro i g hi h1
    have hix : (247 : Int32) + (nI i) = nI (247 + i) := by rw [show (247 : Int32) = nI 247 from rfl, nI_add]
    have hxc : ((247 : Int32) + (nI i)).toNatClampNeg = 247 + i := by rw [hix, nI_clamp (by omega)]
    have hic : (nI i).toNatClampNeg = i := nI_clamp (by omega)
    refine ev_br 2 [] ((60 : Int32) ≤ (nI i)) 233 175 ([some (.ref 57), some (.int ((1 : Int32))), some (.int ((247 : Int32))), some (.int (nI i))], [], (x_up σ1 69 g)) rfl ?_ (fun c172 => ?_) (fun c172 => ?_)
    · trivial
    · exact absurd c172 (nI_ge (b := 60) (by omega) (by decide))
    · refine ev_br 1 [] ((1 : Int32) = 0) 205 179 ([some (.ref 57), some (.int ((1 : Int32))), some (.int ((247 : Int32))), some (.int (nI i))], [], (x_up σ1 69 g)) rfl ?_ (fun c176 => ?_) (fun c176 => ?_)
      · trivial
      · exact absurd c176 (by decide)
      · refine ev_br 10 [vp_in ((247 : Int32) + (nI i)) 320] (¬ ((σ1 73) ((247 : Int32) + (nI i)).toNatClampNeg) = (1 : Int32)) 200 196 ([some (.ref 57), some (.int ((1 : Int32))), some (.int ((247 : Int32))), some (.int (nI i))], [.int (nI i), .ref 69], (x_up σ1 69 g)) rfl ?_ (fun c193 => ?_) (fun c193 => ?_)
        · exact (by rw [hix]; exact vp_in_nI (by omega) (by decide))
        · rw [hxc] at c193
          refine ev_blk 5 [vp_in (nI i) 60, (0 : Int32) = 0 ∨ (0 : Int32) = 1] 169 ([some (.ref 57), some (.int ((1 : Int32))), some (.int ((247 : Int32))), some (.int ((nI i) + (1 : Int32)))], [], (x_up (x_up σ1 69 g) 69 (upd g (nI i).toNatClampNeg ((0 : Int32))))) rfl ?_ ?_
          · exact ⟨(vp_in_nI (by omega) (by decide)), (Or.inl rfl)⟩
          rw [hic]
          rw [nI_1, x_up_up]
          refine ih (i + 1) _ (by omega) (fun j hj => ?_)
          by_cases q : j = i
          · rw [q, upd_eq, if_neg c193]
          · rw [upd_ne q]; exact h1 j (by omega)
        · rw [hxc] at c193
          refine ev_blk 6 [vp_in (nI i) 60, (1 : Int32) = 0 ∨ (1 : Int32) = 1] 169 ([some (.ref 57), some (.int ((1 : Int32))), some (.int ((247 : Int32))), some (.int ((nI i) + (1 : Int32)))], [], (x_up (x_up σ1 69 g) 69 (upd g (nI i).toNatClampNeg ((1 : Int32))))) rfl ?_ ?_
          · exact ⟨(vp_in_nI (by omega) (by decide)), (Or.inr rfl)⟩
          rw [hic]
          rw [nI_1, x_up_up]
          refine ih (i + 1) _ (by omega) (fun j hj => ?_)
          by_cases q : j = i
          · rw [q, upd_eq, if_pos (Classical.byContradiction c193)]
          · rw [upd_ne q]; exact h1 j (by omega)
set_option maxRecDepth 100000 in
theorem m_imagesB (σ : xSg) : xCtr M_X6_images [.ref 57, .int ((1 : Int32))] σ (imgB σ) := by
  refine ctr_ev ok_X6_images (by decide +kernel) rfl rfl rfl ?_
  show xEv (.inl 1) M_X6_images _ 0 ([some (.ref 57), some (.int ((1 : Int32))), none, none], [], σ)
  refine ev_blk 6 [] 9 ([some (.ref 57), some (.int ((1 : Int32))), none, none], [.int ((1 : Int32)), .int ((10 : Int32)), .ref 58, .int ((0 : Int32)), .ref 57], σ) rfl ?_ ?_
  · trivial
  refine ev_callV M_X6_moves [.int ((0 : Int32)), .ref 58, .int ((10 : Int32)), .int ((1 : Int32))] [] 57 rfl rfl ln_X6_209 k_X6_moves rfl rfl rfl rfl rfl rfl (m_mvB58 σ) ?_
  rintro r σ1 ⟨rfl, a1, b1⟩
  show xEv _ _ _ 12 ([some (.ref 57), some (.int ((1 : Int32))), none, none], [.int ((10 : Int32))], σ1)
  refine ev_blk 7 [] 22 ([some (.ref 57), some (.int ((1 : Int32))), some (.int ((10 : Int32))), none], [.int ((1 : Int32)), .int ((10 : Int32)), .ref 59, .int ((10 : Int32)), .ref 57], σ1) rfl ?_ ?_
  · trivial
  refine ev_callV M_X6_moves [.int ((10 : Int32)), .ref 59, .int ((10 : Int32)), .int ((1 : Int32))] [] 57 rfl rfl ln_X6_209 k_X6_moves rfl rfl rfl rfl rfl rfl (m_mvB59 σ1) ?_
  rintro r σ2 ⟨rfl, a2, b2⟩
  show xEv _ _ _ 25 ([some (.ref 57), some (.int ((1 : Int32))), some (.int ((10 : Int32))), none], [.int ((20 : Int32))], σ2)
  refine ev_blk 7 [] 35 ([some (.ref 57), some (.int ((1 : Int32))), some (.int ((20 : Int32))), none], [.int ((1 : Int32)), .int ((10 : Int32)), .ref 60, .int ((20 : Int32)), .ref 57], σ2) rfl ?_ ?_
  · trivial
  refine ev_callV M_X6_moves [.int ((20 : Int32)), .ref 60, .int ((10 : Int32)), .int ((1 : Int32))] [] 57 rfl rfl ln_X6_209 k_X6_moves rfl rfl rfl rfl rfl rfl (m_mvB60 σ2) ?_
  rintro r σ3 ⟨rfl, a3, b3⟩
  show xEv _ _ _ 38 ([some (.ref 57), some (.int ((1 : Int32))), some (.int ((20 : Int32))), none], [.int ((30 : Int32))], σ3)
  refine ev_blk 7 [] 48 ([some (.ref 57), some (.int ((1 : Int32))), some (.int ((30 : Int32))), none], [.int ((1 : Int32)), .int ((10 : Int32)), .ref 61, .int ((30 : Int32)), .ref 57], σ3) rfl ?_ ?_
  · trivial
  refine ev_callV M_X6_moves [.int ((30 : Int32)), .ref 61, .int ((10 : Int32)), .int ((1 : Int32))] [] 57 rfl rfl ln_X6_209 k_X6_moves rfl rfl rfl rfl rfl rfl (m_mvB61 σ3) ?_
  rintro r σ4 ⟨rfl, a4, b4⟩
  show xEv _ _ _ 51 ([some (.ref 57), some (.int ((1 : Int32))), some (.int ((30 : Int32))), none], [.int ((40 : Int32))], σ4)
  refine ev_blk 7 [] 61 ([some (.ref 57), some (.int ((1 : Int32))), some (.int ((40 : Int32))), none], [.int ((1 : Int32)), .int ((10 : Int32)), .ref 62, .int ((40 : Int32)), .ref 57], σ4) rfl ?_ ?_
  · trivial
  refine ev_callV M_X6_moves [.int ((40 : Int32)), .ref 62, .int ((10 : Int32)), .int ((1 : Int32))] [] 57 rfl rfl ln_X6_209 k_X6_moves rfl rfl rfl rfl rfl rfl (m_mvB62 σ4) ?_
  rintro r σ5 ⟨rfl, a5, b5⟩
  show xEv _ _ _ 64 ([some (.ref 57), some (.int ((1 : Int32))), some (.int ((40 : Int32))), none], [.int ((50 : Int32))], σ5)
  refine ev_blk 7 [] 74 ([some (.ref 57), some (.int ((1 : Int32))), some (.int ((50 : Int32))), none], [.int ((1 : Int32)), .int ((10 : Int32)), .ref 63, .int ((50 : Int32)), .ref 57], σ5) rfl ?_ ?_
  · trivial
  refine ev_callV M_X6_moves [.int ((50 : Int32)), .ref 63, .int ((10 : Int32)), .int ((1 : Int32))] [] 57 rfl rfl ln_X6_209 k_X6_moves rfl rfl rfl rfl rfl rfl (m_mvB63 σ5) ?_
  rintro r σ6 ⟨rfl, a6, b6⟩
  show xEv _ _ _ 77 ([some (.ref 57), some (.int ((1 : Int32))), some (.int ((50 : Int32))), none], [.int ((60 : Int32))], σ6)
  refine ev_blk 7 [] 87 ([some (.ref 57), some (.int ((1 : Int32))), some (.int ((60 : Int32))), none], [.int ((1 : Int32)), .int ((10 : Int32)), .ref 64, .int ((60 : Int32)), .ref 57], σ6) rfl ?_ ?_
  · trivial
  refine ev_callV M_X6_moves [.int ((60 : Int32)), .ref 64, .int ((10 : Int32)), .int ((1 : Int32))] [] 57 rfl rfl ln_X6_209 k_X6_moves rfl rfl rfl rfl rfl rfl (m_mvB64 σ6) ?_
  rintro r σ7 ⟨rfl, a7, b7⟩
  show xEv _ _ _ 90 ([some (.ref 57), some (.int ((1 : Int32))), some (.int ((60 : Int32))), none], [.int ((70 : Int32))], σ7)
  refine ev_blk 7 [] 100 ([some (.ref 57), some (.int ((1 : Int32))), some (.int ((70 : Int32))), none], [.int ((1 : Int32)), .int ((10 : Int32)), .ref 65, .int ((70 : Int32)), .ref 57], σ7) rfl ?_ ?_
  · trivial
  refine ev_callV M_X6_moves [.int ((70 : Int32)), .ref 65, .int ((10 : Int32)), .int ((1 : Int32))] [] 57 rfl rfl ln_X6_209 k_X6_moves rfl rfl rfl rfl rfl rfl (m_mvB65 σ7) ?_
  rintro r σ8 ⟨rfl, a8, b8⟩
  show xEv _ _ _ 103 ([some (.ref 57), some (.int ((1 : Int32))), some (.int ((70 : Int32))), none], [.int ((80 : Int32))], σ8)
  refine ev_blk 7 [] 113 ([some (.ref 57), some (.int ((1 : Int32))), some (.int ((80 : Int32))), none], [.int ((1 : Int32)), .int ((20 : Int32)), .ref 66, .int ((80 : Int32)), .ref 57], σ8) rfl ?_ ?_
  · trivial
  refine ev_callV M_X6_moves [.int ((80 : Int32)), .ref 66, .int ((20 : Int32)), .int ((1 : Int32))] [] 57 rfl rfl ln_X6_209 k_X6_moves rfl rfl rfl rfl rfl rfl (m_mvB66 σ8) ?_
  rintro r σ9 ⟨rfl, a9, b9⟩
  show xEv _ _ _ 116 ([some (.ref 57), some (.int ((1 : Int32))), some (.int ((80 : Int32))), none], [.int ((100 : Int32))], σ9)
  refine ev_blk 7 [] 125 ([some (.ref 57), some (.int ((1 : Int32))), some (.int ((100 : Int32))), none], [.int ((1 : Int32)), .int ((2 : Int32)), .ref 67, .int ((100 : Int32)), .ref 57], σ9) rfl ?_ ?_
  · trivial
  refine ev_callV M_X6_moves [.int ((100 : Int32)), .ref 67, .int ((2 : Int32)), .int ((1 : Int32))] [] 57 rfl rfl ln_X6_209 k_X6_moves rfl rfl rfl rfl rfl rfl (m_mvB67 σ9) ?_
  rintro r σ10 ⟨rfl, a10, b10⟩
  show xEv _ _ _ 128 ([some (.ref 57), some (.int ((1 : Int32))), some (.int ((100 : Int32))), none], [.int ((102 : Int32))], σ10)
  refine ev_blk 7 [] 137 ([some (.ref 57), some (.int ((1 : Int32))), some (.int ((102 : Int32))), none], [.int ((1 : Int32)), .int ((5 : Int32)), .ref 68, .int ((102 : Int32)), .ref 57], σ10) rfl ?_ ?_
  · trivial
  refine ev_callV M_X6_moves [.int ((102 : Int32)), .ref 68, .int ((5 : Int32)), .int ((1 : Int32))] [] 57 rfl rfl ln_X6_209 k_X6_moves rfl rfl rfl rfl rfl rfl (m_mvB68 σ10) ?_
  rintro r σ11 ⟨rfl, a11, b11⟩
  show xEv _ _ _ 140 ([some (.ref 57), some (.int ((1 : Int32))), some (.int ((102 : Int32))), none], [.int ((107 : Int32))], σ11)
  refine ev_blk 7 [] 150 ([some (.ref 57), some (.int ((1 : Int32))), some (.int ((107 : Int32))), none], [.int ((1 : Int32)), .int ((100 : Int32)), .ref 70, .int ((107 : Int32)), .ref 57], σ11) rfl ?_ ?_
  · trivial
  refine ev_callV M_X6_moves [.int ((107 : Int32)), .ref 70, .int ((100 : Int32)), .int ((1 : Int32))] [] 57 rfl rfl ln_X6_209 k_X6_moves rfl rfl rfl rfl rfl rfl (m_mvB70 σ11) ?_
  rintro r σ12 ⟨rfl, a12, b12⟩
  show xEv _ _ _ 153 ([some (.ref 57), some (.int ((1 : Int32))), some (.int ((107 : Int32))), none], [.int ((207 : Int32))], σ12)
  refine ev_blk 7 [] 163 ([some (.ref 57), some (.int ((1 : Int32))), some (.int ((207 : Int32))), none], [.int ((1 : Int32)), .int ((40 : Int32)), .ref 71, .int ((207 : Int32)), .ref 57], σ12) rfl ?_ ?_
  · trivial
  refine ev_callV M_X6_moves [.int ((207 : Int32)), .ref 71, .int ((40 : Int32)), .int ((1 : Int32))] [] 57 rfl rfl ln_X6_209 k_X6_moves rfl rfl rfl rfl rfl rfl (m_mvB71 σ12) ?_
  rintro r σ13 ⟨rfl, a13, b13⟩
  show xEv _ _ _ 166 ([some (.ref 57), some (.int ((1 : Int32))), some (.int ((207 : Int32))), none], [.int ((247 : Int32))], σ13)
  refine ev_blk 3 [] 169 ([some (.ref 57), some (.int ((1 : Int32))), some (.int ((247 : Int32))), some (.int ((0 : Int32)))], [], σ13) rfl ?_ ?_
  · trivial
  have o : ∀ d, d ∉ [58, 59, 60, 61, 62, 63, 64, 65, 66, 67, 68, 70, 71] → σ13 d = σ d := fun d hd => by
    have f : ∀ k, k ∈ [58, 59, 60, 61, 62, 63, 64, 65, 66, 67, 68, 70, 71] → d ≠ k := fun k hk z => hd (by rw [z]; exact hk)
    rw [a13 d (f 71 (by decide)), a12 d (f 70 (by decide)), a11 d (f 68 (by decide)), a10 d (f 67 (by decide)), a9 d (f 66 (by decide)), a8 d (f 65 (by decide)), a7 d (f 64 (by decide)), a6 d (f 63 (by decide)), a5 d (f 62 (by decide)), a4 d (f 61 (by decide)), a3 d (f 60 (by decide)), a2 d (f 59 (by decide)), a1 d (f 58 (by decide))]
  have v1 : ∀ j, j < 10 → σ13 58 j = σ 73 (0 + j) := fun j hj => by rw [a13 58 (by decide), a12 58 (by decide), a11 58 (by decide), a10 58 (by decide), a9 58 (by decide), a8 58 (by decide), a7 58 (by decide), a6 58 (by decide), a5 58 (by decide), a4 58 (by decide), a3 58 (by decide), a2 58 (by decide), b1 j hj]
  have v2 : ∀ j, j < 10 → σ13 59 j = σ 73 (10 + j) := fun j hj => by rw [a13 59 (by decide), a12 59 (by decide), a11 59 (by decide), a10 59 (by decide), a9 59 (by decide), a8 59 (by decide), a7 59 (by decide), a6 59 (by decide), a5 59 (by decide), a4 59 (by decide), a3 59 (by decide), b2 j hj, a1 73 (by decide)]
  have v3 : ∀ j, j < 10 → σ13 60 j = σ 73 (20 + j) := fun j hj => by rw [a13 60 (by decide), a12 60 (by decide), a11 60 (by decide), a10 60 (by decide), a9 60 (by decide), a8 60 (by decide), a7 60 (by decide), a6 60 (by decide), a5 60 (by decide), a4 60 (by decide), b3 j hj, a2 73 (by decide), a1 73 (by decide)]
  have v4 : ∀ j, j < 10 → σ13 61 j = σ 73 (30 + j) := fun j hj => by rw [a13 61 (by decide), a12 61 (by decide), a11 61 (by decide), a10 61 (by decide), a9 61 (by decide), a8 61 (by decide), a7 61 (by decide), a6 61 (by decide), a5 61 (by decide), b4 j hj, a3 73 (by decide), a2 73 (by decide), a1 73 (by decide)]
  have v5 : ∀ j, j < 10 → σ13 62 j = σ 73 (40 + j) := fun j hj => by rw [a13 62 (by decide), a12 62 (by decide), a11 62 (by decide), a10 62 (by decide), a9 62 (by decide), a8 62 (by decide), a7 62 (by decide), a6 62 (by decide), b5 j hj, a4 73 (by decide), a3 73 (by decide), a2 73 (by decide), a1 73 (by decide)]
  have v6 : ∀ j, j < 10 → σ13 63 j = σ 73 (50 + j) := fun j hj => by rw [a13 63 (by decide), a12 63 (by decide), a11 63 (by decide), a10 63 (by decide), a9 63 (by decide), a8 63 (by decide), a7 63 (by decide), b6 j hj, a5 73 (by decide), a4 73 (by decide), a3 73 (by decide), a2 73 (by decide), a1 73 (by decide)]
  have v7 : ∀ j, j < 10 → σ13 64 j = σ 73 (60 + j) := fun j hj => by rw [a13 64 (by decide), a12 64 (by decide), a11 64 (by decide), a10 64 (by decide), a9 64 (by decide), a8 64 (by decide), b7 j hj, a6 73 (by decide), a5 73 (by decide), a4 73 (by decide), a3 73 (by decide), a2 73 (by decide), a1 73 (by decide)]
  have v8 : ∀ j, j < 10 → σ13 65 j = σ 73 (70 + j) := fun j hj => by rw [a13 65 (by decide), a12 65 (by decide), a11 65 (by decide), a10 65 (by decide), a9 65 (by decide), b8 j hj, a7 73 (by decide), a6 73 (by decide), a5 73 (by decide), a4 73 (by decide), a3 73 (by decide), a2 73 (by decide), a1 73 (by decide)]
  have v9 : ∀ j, j < 20 → σ13 66 j = σ 73 (80 + j) := fun j hj => by rw [a13 66 (by decide), a12 66 (by decide), a11 66 (by decide), a10 66 (by decide), b9 j hj, a8 73 (by decide), a7 73 (by decide), a6 73 (by decide), a5 73 (by decide), a4 73 (by decide), a3 73 (by decide), a2 73 (by decide), a1 73 (by decide)]
  have v10 : ∀ j, j < 2 → σ13 67 j = σ 73 (100 + j) := fun j hj => by rw [a13 67 (by decide), a12 67 (by decide), a11 67 (by decide), b10 j hj, a9 73 (by decide), a8 73 (by decide), a7 73 (by decide), a6 73 (by decide), a5 73 (by decide), a4 73 (by decide), a3 73 (by decide), a2 73 (by decide), a1 73 (by decide)]
  have v11 : ∀ j, j < 5 → σ13 68 j = σ 73 (102 + j) := fun j hj => by rw [a13 68 (by decide), a12 68 (by decide), b11 j hj, a10 73 (by decide), a9 73 (by decide), a8 73 (by decide), a7 73 (by decide), a6 73 (by decide), a5 73 (by decide), a4 73 (by decide), a3 73 (by decide), a2 73 (by decide), a1 73 (by decide)]
  have v12 : ∀ j, j < 100 → σ13 70 j = σ 73 (107 + j) := fun j hj => by rw [a13 70 (by decide), b12 j hj, a11 73 (by decide), a10 73 (by decide), a9 73 (by decide), a8 73 (by decide), a7 73 (by decide), a6 73 (by decide), a5 73 (by decide), a4 73 (by decide), a3 73 (by decide), a2 73 (by decide), a1 73 (by decide)]
  have v13 : ∀ j, j < 40 → σ13 71 j = σ 73 (207 + j) := fun j hj => by rw [b13 j hj, a12 73 (by decide), a11 73 (by decide), a10 73 (by decide), a9 73 (by decide), a8 73 (by decide), a7 73 (by decide), a6 73 (by decide), a5 73 (by decide), a4 73 (by decide), a3 73 (by decide), a2 73 (by decide), a1 73 (by decide)]
  have hx := fun kK => m_imgB_lp σ13 (imgB σ) kK 60 0 (σ13 69) (by omega) (fun j hj => absurd hj (Nat.not_lt_zero j))
  rw [x_up_self] at hx
  refine hx (fun g h1 => ?_)
  refine ev_br 2 [] ((1 : Int32) = 0) 265 240 ([some (.ref 57), some (.int ((1 : Int32))), some (.int ((307 : Int32))), none], [], (x_up σ13 69 g)) rfl ?_ (fun c237 => ?_) (fun c237 => ?_)
  · trivial
  · exact absurd c237 (by decide)
  · refine ev_blk 15 [vp_in ((307 : Int32)) 320, vp_in ((308 : Int32)) 320] 287 ([some (.ref 57), some (.int ((1 : Int32))), some (.int ((307 : Int32))), none], [], (x_up (x_up (x_up σ13 69 g) 57 (upd (σ13 57) 0 ((σ13 73) 307))) 57 (upd (upd (σ13 57) 0 ((σ13 73) 307)) 14 ((σ13 73) 308)))) rfl ?_ ?_
    · exact ⟨vp_in_nI (n := 307) (by decide) (by decide), vp_in_nI (n := 308) (by decide) (by decide)⟩
    refine ev_vret rfl rfl ⟨rfl, fun d hd hn => ?_, fun i h0 h14 => ?_, ⟨fun j hj => ?_, fun j hj => ?_, fun j hj => ?_, fun j hj => ?_, fun j hj => ?_, fun j hj => ?_, fun j hj => ?_, fun j hj => ?_, fun j hj => ?_, fun j hj => ?_, fun j hj => ?_, fun j hj => ?_, fun j hj => ?_⟩, fun i hi => ?_, ?_, ?_⟩
    · have h69 : d ≠ 69 := fun z => hd (by rw [z]; decide)
      simp only [x_up_ne hn, x_up_ne h69]
      exact o d (fun z => hd (by revert z; simp only [List.mem_cons, List.not_mem_nil, or_false]; omega))
    · simp only [x_up_eq]
      rw [upd_ne h14]
      rw [upd_ne h0]
      exact congrFun (o 57 (by decide)) i
    · simp only [x_up_ne (show (58 : Nat) ≠ 57 by decide), x_up_ne (show (58 : Nat) ≠ 69 by decide)]; exact v1 j hj
    · simp only [x_up_ne (show (59 : Nat) ≠ 57 by decide), x_up_ne (show (59 : Nat) ≠ 69 by decide)]; exact v2 j hj
    · simp only [x_up_ne (show (60 : Nat) ≠ 57 by decide), x_up_ne (show (60 : Nat) ≠ 69 by decide)]; exact v3 j hj
    · simp only [x_up_ne (show (61 : Nat) ≠ 57 by decide), x_up_ne (show (61 : Nat) ≠ 69 by decide)]; exact v4 j hj
    · simp only [x_up_ne (show (62 : Nat) ≠ 57 by decide), x_up_ne (show (62 : Nat) ≠ 69 by decide)]; exact v5 j hj
    · simp only [x_up_ne (show (63 : Nat) ≠ 57 by decide), x_up_ne (show (63 : Nat) ≠ 69 by decide)]; exact v6 j hj
    · simp only [x_up_ne (show (64 : Nat) ≠ 57 by decide), x_up_ne (show (64 : Nat) ≠ 69 by decide)]; exact v7 j hj
    · simp only [x_up_ne (show (65 : Nat) ≠ 57 by decide), x_up_ne (show (65 : Nat) ≠ 69 by decide)]; exact v8 j hj
    · simp only [x_up_ne (show (66 : Nat) ≠ 57 by decide), x_up_ne (show (66 : Nat) ≠ 69 by decide)]; exact v9 j hj
    · simp only [x_up_ne (show (67 : Nat) ≠ 57 by decide), x_up_ne (show (67 : Nat) ≠ 69 by decide)]; exact v10 j hj
    · simp only [x_up_ne (show (68 : Nat) ≠ 57 by decide), x_up_ne (show (68 : Nat) ≠ 69 by decide)]; exact v11 j hj
    · simp only [x_up_ne (show (70 : Nat) ≠ 57 by decide), x_up_ne (show (70 : Nat) ≠ 69 by decide)]; exact v12 j hj
    · simp only [x_up_ne (show (71 : Nat) ≠ 57 by decide), x_up_ne (show (71 : Nat) ≠ 69 by decide)]; exact v13 j hj
    · simp only [x_up_ne (show (69 : Nat) ≠ 57 by decide), x_up_eq]
      rw [h1 i hi, o 73 (by decide)]
    · simp only [x_up_eq]
      rw [upd_ne (by decide), upd_eq]
      exact congrFun (o 73 (by decide)) 307
    · simp only [x_up_eq]
      rw [upd_eq]
      exact congrFun (o 73 (by decide)) 308
