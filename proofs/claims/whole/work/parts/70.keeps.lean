theorem n43 (i : Nat) : (43 : Int32) * (nI i) = nI (43 * i) := (Int32.ofNat_mul 43 i).symm
/-- what a deed keeps, of the state σ, in the row f at p -/
def kpR (σ : xSg) (f : Nat → Int32) (p : Nat) : Prop := (∀ j, j < 10 → f (p + j) = σ 64 j ∧ f (p + 10 + j) = σ 65 j) ∧ (∀ j, j < 20 → f (p + 20 + j) = σ 66 j) ∧ f (p + 40) = σ 67 0 ∧ f (p + 41) = σ 67 1 ∧ f (p + 42) = σ 57 14
def kpM (σ : xSg) (D : Nat) : Option Value → xSg → Prop := fun r σ' => r = none ∧ σ' 57 16 = nI ((if D < 6 then D else 5) + 1) ∧ xFm [72] [16] σ σ' ∧ kpR σ (σ' 72) (43 * (if D < 6 then D else 5)) ∧ ∀ j, j < 43 * (if D < 6 then D else 5) → σ' 72 j = if D < 6 then σ 72 j else σ 72 (j + 43)
def kp1 (σ : xSg) (D : Nat) (σ' : xSg) : Prop := σ' 57 16 = nI (D + 1) ∧ xFm [72] [16] σ σ' ∧ kpR σ (σ' 72) (43 * D) ∧ ∀ j, j < 43 * D → σ' 72 j = σ 72 j
set_option maxRecDepth 100000 in
theorem m_keeps_e (σ : xSg) (D : Nat) (hD : σ 57 16 = nI D) (hD5 : D ≤ 5) (Q : Option Value → xSg → Prop) (hQ : ∀ σ' : xSg, kp1 σ D σ' → Q none σ') (g : Nat → Int32) (h1 : ∀ j, j < 10 → g (43 * D + j) = σ 64 j ∧ g (43 * D + 10 + j) = σ 65 j) (h2 : ∀ j, j < 20 → g (43 * D + 20 + j) = σ 66 j) (h3 : ∀ j, j < 43 * D → g j = σ 72 j) : xEv (.inl 0) M_X6_keeps Q 134 ([some (.ref 57), some (.int (nI (43 * D))), none], [], (x_up σ 72 g)) := by
  have i40 : (nI (43 * D)) + (40 : Int32) = nI (43 * D + 40) := by rw [show (40 : Int32) = nI 40 from rfl, nI_add]
  have i40c : ((nI (43 * D)) + (40 : Int32)).toNatClampNeg = 43 * D + 40 := by rw [i40, nI_clamp (by omega)]
  have i41 : (nI (43 * D)) + (41 : Int32) = nI (43 * D + 41) := by rw [show (41 : Int32) = nI 41 from rfl, nI_add]
  have i41c : ((nI (43 * D)) + (41 : Int32)).toNatClampNeg = 43 * D + 41 := by rw [i41, nI_clamp (by omega)]
  have i42 : (nI (43 * D)) + (42 : Int32) = nI (43 * D + 42) := by rw [show (42 : Int32) = nI 42 from rfl, nI_add]
  have i42c : ((nI (43 * D)) + (42 : Int32)).toNatClampNeg = 43 * D + 42 := by rw [i42, nI_clamp (by omega)]
  refine ev_blk 34 [vp_in ((0 : Int32)) 2, vp_in ((nI (43 * D)) + (40 : Int32)) 258, vp_in ((1 : Int32)) 2, vp_in ((nI (43 * D)) + (41 : Int32)) 258, vp_in ((nI (43 * D)) + (42 : Int32)) 258] 187 ([some (.ref 57), some (.int (nI (43 * D))), none], [], (x_up (x_up (x_up (x_up (x_up σ 72 g) 72 (upd g ((nI (43 * D)) + (40 : Int32)).toNatClampNeg ((σ 67) 0))) 72 (upd (upd g ((nI (43 * D)) + (40 : Int32)).toNatClampNeg ((σ 67) 0)) ((nI (43 * D)) + (41 : Int32)).toNatClampNeg ((σ 67) 1))) 72 (upd (upd (upd g ((nI (43 * D)) + (40 : Int32)).toNatClampNeg ((σ 67) 0)) ((nI (43 * D)) + (41 : Int32)).toNatClampNeg ((σ 67) 1)) ((nI (43 * D)) + (42 : Int32)).toNatClampNeg ((σ 57 14)))) 57 (upd (σ 57) 16 ((σ 57 16) + (1 : Int32))))) rfl ?_ ?_
  · exact ⟨(vp_in_nI (n := 0) (by decide) (by decide)), (by rw [i40]; exact vp_in_nI (by omega) (by decide)), (vp_in_nI (n := 1) (by decide) (by decide)), (by rw [i41]; exact vp_in_nI (by omega) (by decide)), (by rw [i42]; exact vp_in_nI (by omega) (by decide))⟩
  rw [i40c]
  rw [i41c]
  rw [i42c]
  refine ev_vret rfl rfl (hQ _ ⟨?_, ⟨fun c hc hn => ?_, fun i hi => ?_⟩, ⟨fun j hj => ?_, fun j hj => ?_, ?_, ?_, ?_⟩, fun j hj => ?_⟩)
  · simp [x_up, upd, hD, nI_1]
  · have h72 : c ≠ 72 := fun z => hc (by rw [z]; decide)
    simp [x_up, h72, hn]
  · have h16 : i ≠ 16 := fun z => hi (by rw [z]; decide)
    simp [x_up, upd, h16]
  · have a := h1 j hj
    rw [x_up_ne (by decide)]
    simp only [x_up_eq]
    rw [upd_ne (by omega), upd_ne (by omega), upd_ne (by omega), upd_ne (by omega), upd_ne (by omega), upd_ne (by omega)]
    exact a
  · have a := h2 j hj
    rw [x_up_ne (by decide)]
    simp only [x_up_eq]
    rw [upd_ne (by omega), upd_ne (by omega), upd_ne (by omega)]
    exact a
  · simp [x_up, upd]
  · simp [x_up, upd]
  · simp [x_up, upd]
  · have a := h3 j hj
    rw [x_up_ne (by decide)]
    simp only [x_up_eq]
    rw [upd_ne (by omega), upd_ne (by omega), upd_ne (by omega)]
    exact a
set_option maxRecDepth 100000 in
theorem m_keeps_l (σ : xSg) (D : Nat) (hD : σ 57 16 = nI D) (hD5 : D ≤ 5) (Q : Option Value → xSg → Prop) (hQ : ∀ σ' : xSg, kp1 σ D σ' → Q none σ') : ∀ (m k : Nat) (g : Nat → Int32), k + m = 20 → (∀ j, j < 10 → g (43 * D + j) = σ 64 j ∧ g (43 * D + 10 + j) = σ 65 j) → (∀ j, j < k → g (43 * D + 20 + j) = σ 66 j) → (∀ j, j < 43 * D → g j = σ 72 j) → xEv (.inl 0) M_X6_keeps Q 105 ([some (.ref 57), some (.int (nI (43 * D))), some (.int (nI k))], [], (x_up σ 72 g)) := by
  intro m
  induction m with
  | zero =>
    intro k g hk h1 h2 h3
    refine ev_br 2 [] ((20 : Int32) ≤ (nI k)) 134 111 ([some (.ref 57), some (.int (nI (43 * D))), some (.int (nI k))], [], (x_up σ 72 g)) rfl ?_ (fun c108 => ?_) (fun c108 => ?_)
    · trivial
    · refine ev_drop 2 ?_
      exact m_keeps_e σ D hD hD5 Q hQ g h1 (fun j hj => h2 j (by omega)) h3
    · exact absurd (show (20 : Int32) ≤ nI k from nI_le (a := 20) (by omega) (by omega)) c108
  | succ m ih =>
    intro k g hk h1 h2 h3
    have ix : ((nI (43 * D)) + (20 : Int32)) + (nI k) = nI (43 * D + 20 + k) := by rw [show (20 : Int32) = nI 20 from rfl, nI_add, nI_add]
    have ixc : (((nI (43 * D)) + (20 : Int32)) + (nI k)).toNatClampNeg = 43 * D + 20 + k := by rw [ix, nI_clamp (by omega)]
    have hkc : (nI k).toNatClampNeg = k := nI_clamp (by omega)
    refine ev_br 2 [] ((20 : Int32) ≤ (nI k)) 134 111 ([some (.ref 57), some (.int (nI (43 * D))), some (.int (nI k))], [], (x_up σ 72 g)) rfl ?_ (fun c108 => ?_) (fun c108 => ?_)
    · trivial
    · exact absurd c108 (nI_ge (b := 20) (by omega) (by decide))
    · refine ev_blk 14 [vp_in (nI k) 20, vp_in (((nI (43 * D)) + (20 : Int32)) + (nI k)) 258] 105 ([some (.ref 57), some (.int (nI (43 * D))), some (.int ((nI k) + (1 : Int32)))], [], (x_up (x_up σ 72 g) 72 (upd g (((nI (43 * D)) + (20 : Int32)) + (nI k)).toNatClampNeg ((σ 66) (nI k).toNatClampNeg)))) rfl ?_ ?_
      · exact ⟨(vp_in_nI (by omega) (by decide)), (by rw [ix]; exact vp_in_nI (by omega) (by decide))⟩
      rw [ixc]
      rw [hkc]
      rw [nI_1, x_up_up]
      refine ih (k + 1) _ (by omega) (fun j hj => ?_) (fun j hj => ?_) (fun j hj => ?_)
      · rw [upd_ne (by omega), upd_ne (by omega)]; exact h1 j hj
      · by_cases q : j = k
        · rw [q, upd_eq]
        · rw [upd_ne (by omega)]; exact h2 j (by omega)
      · rw [upd_ne (by omega)]; exact h3 j hj
set_option maxRecDepth 100000 in
theorem m_keeps_s (σ : xSg) (D : Nat) (hD : σ 57 16 = nI D) (hD5 : D ≤ 5) (Q : Option Value → xSg → Prop) (hQ : ∀ σ' : xSg, kp1 σ D σ' → Q none σ') : ∀ (m k : Nat) (g : Nat → Int32), k + m = 10 → (∀ j, j < k → g (43 * D + j) = σ 64 j ∧ g (43 * D + 10 + j) = σ 65 j) → (∀ j, j < 43 * D → g j = σ 72 j) → xEv (.inl 0) M_X6_keeps Q 60 ([some (.ref 57), some (.int (nI (43 * D))), some (.int (nI k))], [], (x_up σ 72 g)) := by
  intro m
  induction m with
  | zero =>
    intro k g hk h1 h3
    refine ev_br 2 [] ((10 : Int32) ≤ (nI k)) 103 66 ([some (.ref 57), some (.int (nI (43 * D))), some (.int (nI k))], [], (x_up σ 72 g)) rfl ?_ (fun c63 => ?_) (fun c63 => ?_)
    · trivial
    · refine ev_blk 2 [] 105 ([some (.ref 57), some (.int (nI (43 * D))), some (.int ((0 : Int32)))], [], (x_up σ 72 g)) rfl ?_ ?_
      · trivial
      exact m_keeps_l σ D hD hD5 Q hQ 20 0 g (by omega) (fun j hj => h1 j (by omega)) (fun j hj => absurd hj (Nat.not_lt_zero j)) h3
    · exact absurd (show (10 : Int32) ≤ nI k from nI_le (a := 10) (by omega) (by omega)) c63
  | succ m ih =>
    intro k g hk h1 h3
    have ia : (nI (43 * D)) + (nI k) = nI (43 * D + k) := nI_add _ _
    have iac : ((nI (43 * D)) + (nI k)).toNatClampNeg = 43 * D + k := by rw [ia, nI_clamp (by omega)]
    have ib : ((nI (43 * D)) + (10 : Int32)) + (nI k) = nI (43 * D + 10 + k) := by rw [show (10 : Int32) = nI 10 from rfl, nI_add, nI_add]
    have ibc : (((nI (43 * D)) + (10 : Int32)) + (nI k)).toNatClampNeg = 43 * D + 10 + k := by rw [ib, nI_clamp (by omega)]
    have hkc : (nI k).toNatClampNeg = k := nI_clamp (by omega)
    refine ev_br 2 [] ((10 : Int32) ≤ (nI k)) 103 66 ([some (.ref 57), some (.int (nI (43 * D))), some (.int (nI k))], [], (x_up σ 72 g)) rfl ?_ (fun c63 => ?_) (fun c63 => ?_)
    · trivial
    · exact absurd c63 (nI_ge (b := 10) (by omega) (by decide))
    · refine ev_blk 24 [vp_in (nI k) 10, vp_in ((nI (43 * D)) + (nI k)) 258, vp_in (nI k) 10, vp_in (((nI (43 * D)) + (10 : Int32)) + (nI k)) 258] 60 ([some (.ref 57), some (.int (nI (43 * D))), some (.int ((nI k) + (1 : Int32)))], [], (x_up (x_up (x_up σ 72 g) 72 (upd g ((nI (43 * D)) + (nI k)).toNatClampNeg ((σ 64) (nI k).toNatClampNeg))) 72 (upd (upd g ((nI (43 * D)) + (nI k)).toNatClampNeg ((σ 64) (nI k).toNatClampNeg)) (((nI (43 * D)) + (10 : Int32)) + (nI k)).toNatClampNeg ((σ 65) (nI k).toNatClampNeg)))) rfl ?_ ?_
      · exact ⟨(vp_in_nI (by omega) (by decide)), (by rw [ia]; exact vp_in_nI (by omega) (by decide)), (vp_in_nI (by omega) (by decide)), (by rw [ib]; exact vp_in_nI (by omega) (by decide))⟩
      rw [iac]
      rw [ibc]
      rw [hkc]
      rw [nI_1, x_up_up, x_up_up]
      refine ih (k + 1) _ (by omega) (fun j hj => ?_) (fun j hj => ?_)
      · by_cases q : j = k
        · subst q
          refine ⟨?_, ?_⟩
          · rw [upd_ne (by omega), upd_eq]
          · rw [upd_eq]
        · have a := h1 j (by omega)
          refine ⟨?_, ?_⟩
          · rw [upd_ne (by omega), upd_ne (by omega)]; exact a.1
          · rw [upd_ne (by omega), upd_ne (by omega)]; exact a.2
      · rw [upd_ne (by omega), upd_ne (by omega)]; exact h3 j hj
set_option maxRecDepth 100000 in
theorem m_keeps_2 (σ : xSg) (D : Nat) (hD : σ 57 16 = nI D) (hD5 : D ≤ 5) (Q : Option Value → xSg → Prop) (hQ : ∀ σ' : xSg, kp1 σ D σ' → Q none σ') : xEv (.inl 0) M_X6_keeps Q 50 ([some (.ref 57), none, none], [], σ) := by
  refine ev_blk 7 [] 60 ([some (.ref 57), some (.int ((43 : Int32) * (σ 57 16))), some (.int ((0 : Int32)))], [], σ) rfl ?_ ?_
  · trivial
  rw [hD, n43]
  have h := m_keeps_s σ D hD hD5 Q hQ 10 0 (σ 72) (by omega) (fun j hj => absurd hj (Nat.not_lt_zero j)) (fun _ _ => rfl)
  rw [x_up_self] at h
  exact h
set_option maxRecDepth 100000 in
theorem m_keeps_1 (σ : xSg) (hD : σ 57 16 = nI 6) : ∀ (m k : Nat) (g : Nat → Int32), k + m = 258 → 43 ≤ k → (∀ j, g j = if j + 43 < k then σ 72 (j + 43) else σ 72 j) → xEv (.inl 0) M_X6_keeps (kpM σ 6) 12 ([some (.ref 57), some (.int (nI k)), none], [], (x_up σ 72 g)) := by
  intro m
  induction m with
  | zero =>
    intro k g hk hk2 hg
    refine ev_br 2 [] ((258 : Int32) ≤ (nI k)) 40 19 ([some (.ref 57), some (.int (nI k)), none], [], (x_up σ 72 g)) rfl ?_ (fun c16 => ?_) (fun c16 => ?_)
    · trivial
    · refine ev_blk 6 [] 50 ([some (.ref 57), some (.int (nI k)), none], [], (x_up (x_up σ 72 g) 57 (upd (σ 57) 16 ((σ 57 16) - (1 : Int32))))) rfl ?_ ?_
      · trivial
      refine ev_drop 1 ?_
      have h16 : ((x_up (x_up σ 72 g) 57 (upd (σ 57) 16 ((σ 57 16) - (1 : Int32))))) 57 16 = nI 5 := by simp [x_up, upd, hD]; decide
      refine m_keeps_2 _ 5 h16 (by decide) (kpM σ 6) (fun σ' hq => ?_)
      obtain ⟨q1, q2, q3, q4⟩ := hq
      have e : ∀ c, c ≠ 72 → c ≠ 57 → ((x_up (x_up σ 72 g) 57 (upd (σ 57) 16 ((σ 57 16) - (1 : Int32))))) c = σ c := fun c a b => by simp [x_up, a, b]
      have e57 : ∀ i, i ≠ 16 → ((x_up (x_up σ 72 g) 57 (upd (σ 57) 16 ((σ 57 16) - (1 : Int32))))) 57 i = σ 57 i := fun i a => by simp [x_up, upd, a]
      refine ⟨rfl, q1, ⟨fun c hc hn => (q2.1 c hc hn).trans (e c (fun z => hc (by rw [z]; decide)) hn), fun i hi => (q2.2 i hi).trans (e57 i (fun z => hi (by rw [z]; decide)))⟩, ?_, fun j hj => ?_⟩
      · obtain ⟨a1, a2, a3, a4, a5⟩ := q3
        rw [e 64 (by decide) (by decide), e 65 (by decide) (by decide)] at a1
        rw [e 66 (by decide) (by decide)] at a2
        rw [e 67 (by decide) (by decide)] at a3 a4
        rw [e57 14 (by decide)] at a5
        exact ⟨a1, a2, a3, a4, a5⟩
      · rw [q4 j hj, x_up_ne (by decide), x_up_eq, hg]
        have hj2 : j < 215 := hj
        rw [if_pos (by omega)]
        rfl
    · exact absurd (show (258 : Int32) ≤ nI k from nI_le (a := 258) (by omega) (by omega)) c16
  | succ m ih =>
    intro k g hk hk2 hg
    have hix : (nI k) - (43 : Int32) = nI (k - 43) := i_sub (b := 43) hk2
    have hic : ((nI k) - (43 : Int32)).toNatClampNeg = k - 43 := by rw [hix, nI_clamp (by omega)]
    have hkc : (nI k).toNatClampNeg = k := nI_clamp (by omega)
    refine ev_br 2 [] ((258 : Int32) ≤ (nI k)) 40 19 ([some (.ref 57), some (.int (nI k)), none], [], (x_up σ 72 g)) rfl ?_ (fun c16 => ?_) (fun c16 => ?_)
    · trivial
    · exact absurd c16 (nI_ge (b := 258) (by omega) (by decide))
    · refine ev_blk 12 [vp_in (nI k) 258, vp_in ((nI k) - (43 : Int32)) 258] 12 ([some (.ref 57), some (.int ((nI k) + (1 : Int32))), none], [], (x_up (x_up σ 72 g) 72 (upd g ((nI k) - (43 : Int32)).toNatClampNeg (g (nI k).toNatClampNeg)))) rfl ?_ ?_
      · exact ⟨(vp_in_nI (by omega) (by decide)), (by rw [hix]; exact vp_in_nI (by omega) (by decide))⟩
      rw [hic]
      rw [hkc]
      rw [nI_1, x_up_up]
      refine ih (k + 1) _ (by omega) (by omega) (fun j => ?_)
      unfold upd
      by_cases q : j = k - 43
      · rw [if_pos q, if_pos (by omega), hg, if_neg (by omega)]; congr 1; omega
      · rw [if_neg q, hg]
        by_cases q2 : j + 43 < k
        · rw [if_pos q2, if_pos (by omega)]
        · rw [if_neg q2, if_neg (by omega)]
set_option maxRecDepth 100000 in
theorem m_keeps (σ : xSg) (D : Nat) (hD : σ 57 16 = nI D) (hD6 : D ≤ 6) : xCtr M_X6_keeps [.ref 57] σ (kpM σ D) := by
  refine ctr_ev ok_X6_keeps (by decide +kernel) rfl rfl rfl ?_
  show xEv (.inl 0) M_X6_keeps _ 0 ([some (.ref 57), none, none], [], σ)
  refine ev_br 3 [] (¬ (σ 57 16) = (6 : Int32)) 50 9 ([some (.ref 57), none, none], [], σ) rfl ?_ (fun c6 => ?_) (fun c6 => ?_)
  · trivial
  · have hlt : D < 6 := by
      rcases Nat.lt_or_ge D 6 with z | z
      · exact z
      · exact absurd (by rw [hD, show D = 6 by omega]; rfl) c6
    refine m_keeps_2 σ D hD (by omega) (kpM σ D) (fun σ' hq => ?_)
    obtain ⟨q1, q2, q3, q4⟩ := hq
    unfold kpM
    rw [if_pos hlt]
    exact ⟨rfl, q1, q2, q3, fun j hj => by rw [if_pos hlt]; exact q4 j hj⟩
  · refine ev_blk 2 [] 12 ([some (.ref 57), some (.int ((43 : Int32))), none], [], σ) rfl ?_ ?_
    · trivial
    have e : D = 6 := (nI_eq (b := 6) (by omega) (by decide)).mp (hD.symm.trans (Classical.byContradiction c6))
    subst e
    have h := m_keeps_1 σ hD 215 43 (σ 72) (by omega) (by omega) (fun j => by rw [if_neg (by omega)])
    rw [x_up_self] at h
    exact h
