def udM (σ : xSg) (D : Nat) : Option Value → xSg → Prop := fun r σ' => (D = 0 ∧ r = some (.int (-3)) ∧ σ' = σ) ∨ (0 < D ∧ r = some (.int (nI (D - 1))) ∧ σ' 57 16 = nI (D - 1) ∧ kpR σ' (σ 72) (43 * (D - 1)) ∧ xFm [64, 65, 66, 67] [14, 16] σ σ')
set_option maxRecDepth 100000 in
theorem m_undo_e (σ : xSg) (D : Nat) (hD0 : 0 < D) (hD6 : D ≤ 6) (σ1 : xSg) (hb : ∀ c, c ∉ [57, 64, 65, 66, 67] → σ1 c = σ c) (hb2 : σ1 57 = upd (σ 57) 16 (nI (D - 1))) (h1 : ∀ j, j < 10 → σ1 64 j = σ 72 ((43 * (D - 1)) + j) ∧ σ1 65 j = σ 72 ((43 * (D - 1)) + 10 + j)) (h2 : ∀ j, j < 20 → σ1 66 j = σ 72 ((43 * (D - 1)) + 20 + j)) : xEv (.inl 0) M_X6_undo (udM σ D) 104 ([some (.ref 57), some (.int (nI (43 * (D - 1)))), none], [], σ1) := by
  have e72 : σ1 72 = σ 72 := hb 72 (by decide)
  have i40 : (nI (43 * (D - 1))) + (40 : Int32) = nI ((43 * (D - 1)) + 40) := by rw [show (40 : Int32) = nI 40 from rfl, nI_add]
  have i40c : ((nI (43 * (D - 1))) + (40 : Int32)).toNatClampNeg = (43 * (D - 1)) + 40 := by rw [i40, nI_clamp (by omega)]
  have i41 : (nI (43 * (D - 1))) + (41 : Int32) = nI ((43 * (D - 1)) + 41) := by rw [show (41 : Int32) = nI 41 from rfl, nI_add]
  have i41c : ((nI (43 * (D - 1))) + (41 : Int32)).toNatClampNeg = (43 * (D - 1)) + 41 := by rw [i41, nI_clamp (by omega)]
  have i42 : (nI (43 * (D - 1))) + (42 : Int32) = nI ((43 * (D - 1)) + 42) := by rw [show (42 : Int32) = nI 42 from rfl, nI_add]
  have i42c : ((nI (43 * (D - 1))) + (42 : Int32)).toNatClampNeg = (43 * (D - 1)) + 42 := by rw [i42, nI_clamp (by omega)]
  refine ev_blk 30 [vp_in ((nI (43 * (D - 1))) + (40 : Int32)) 258, vp_in ((0 : Int32)) 2, vp_in ((nI (43 * (D - 1))) + (41 : Int32)) 258, vp_in ((1 : Int32)) 2, vp_in ((nI (43 * (D - 1))) + (42 : Int32)) 258] 151 ([some (.ref 57), some (.int (nI (43 * (D - 1)))), none], [.int ((σ1 57 16))], (x_up (x_up (x_up σ1 67 (upd (σ1 67) 0 ((σ1 72) ((nI (43 * (D - 1))) + (40 : Int32)).toNatClampNeg))) 67 (upd (upd (σ1 67) 0 ((σ1 72) ((nI (43 * (D - 1))) + (40 : Int32)).toNatClampNeg)) 1 ((σ1 72) ((nI (43 * (D - 1))) + (41 : Int32)).toNatClampNeg))) 57 (upd (σ1 57) 14 ((σ1 72) ((nI (43 * (D - 1))) + (42 : Int32)).toNatClampNeg)))) rfl ?_ ?_
  · exact ⟨(by rw [i40]; exact vp_in_nI (by omega) (by decide)), (vp_in_nI (n := 0) (by decide) (by decide)), (by rw [i41]; exact vp_in_nI (by omega) (by decide)), (vp_in_nI (n := 1) (by decide) (by decide)), (by rw [i42]; exact vp_in_nI (by omega) (by decide))⟩
  rw [i40c]
  rw [i41c]
  rw [i42c]
  refine ev_iret rfl rfl rfl (Or.inr ⟨hD0, ?_, ?_, ⟨fun j hj => ?_, fun j hj => ?_, ?_, ?_, ?_⟩, ⟨fun c hc hn => ?_, fun i hi => ?_⟩⟩)
  · simp [x_up, upd, hb2]
  · simp [x_up, upd, hb2]
  · have a := h1 j hj; simp [x_up, a]
  · have a := h2 j hj; simp [x_up, a]
  · simp [x_up, upd, e72]
  · simp [x_up, upd, e72]
  · simp [x_up, upd, e72]
  · have h67 : c ≠ 67 := fun z => hc (by rw [z]; decide)
    simp only [x_up_ne hn, x_up_ne h67]
    exact hb c (fun z => by rcases List.mem_cons.mp z with z | z; exact hn z; exact hc z)
  · have h14 : i ≠ 14 := fun z => hi (by rw [z]; decide)
    have h16 : i ≠ 16 := fun z => hi (by rw [z]; decide)
    simp [x_up, upd, hb2, h14, h16]
set_option maxRecDepth 100000 in
theorem m_undo_l (σ : xSg) (D : Nat) (hD0 : 0 < D) (hD6 : D ≤ 6) : ∀ (m k : Nat) (σ1 : xSg) (hb : ∀ c, c ∉ [57, 64, 65, 66, 67] → σ1 c = σ c) (hb2 : σ1 57 = upd (σ 57) 16 (nI (D - 1))), k + m = 20 → (∀ j, j < 10 → σ1 64 j = σ 72 ((43 * (D - 1)) + j) ∧ σ1 65 j = σ 72 ((43 * (D - 1)) + 10 + j)) → (∀ j, j < k → σ1 66 j = σ 72 ((43 * (D - 1)) + 20 + j)) → xEv (.inl 0) M_X6_undo (udM σ D) 75 ([some (.ref 57), some (.int (nI (43 * (D - 1)))), some (.int (nI k))], [], σ1) := by
  intro m
  induction m with
  | zero =>
    intro k σ1 hb hb2 hk h1 h2
    refine ev_br 2 [] ((20 : Int32) ≤ (nI k)) 104 81 ([some (.ref 57), some (.int (nI (43 * (D - 1)))), some (.int (nI k))], [], σ1) rfl ?_ (fun c78 => ?_) (fun c78 => ?_)
    · trivial
    · refine ev_drop 2 ?_
      exact m_undo_e σ D hD0 hD6 σ1 hb hb2 h1 (fun j hj => h2 j (by omega))
    · exact absurd (show (20 : Int32) ≤ nI k from nI_le (a := 20) (by omega) (by omega)) c78
  | succ m ih =>
    intro k σ1 hb hb2 hk h1 h2
    have ix : ((nI (43 * (D - 1))) + (20 : Int32)) + (nI k) = nI ((43 * (D - 1)) + 20 + k) := by rw [show (20 : Int32) = nI 20 from rfl, nI_add, nI_add]
    have ixc : (((nI (43 * (D - 1))) + (20 : Int32)) + (nI k)).toNatClampNeg = (43 * (D - 1)) + 20 + k := by rw [ix, nI_clamp (by omega)]
    have hkc : (nI k).toNatClampNeg = k := nI_clamp (by omega)
    have e72 : σ1 72 = σ 72 := hb 72 (by decide)
    refine ev_br 2 [] ((20 : Int32) ≤ (nI k)) 104 81 ([some (.ref 57), some (.int (nI (43 * (D - 1)))), some (.int (nI k))], [], σ1) rfl ?_ (fun c78 => ?_) (fun c78 => ?_)
    · trivial
    · exact absurd c78 (nI_ge (b := 20) (by omega) (by decide))
    · refine ev_blk 14 [vp_in (((nI (43 * (D - 1))) + (20 : Int32)) + (nI k)) 258, vp_in (nI k) 20] 75 ([some (.ref 57), some (.int (nI (43 * (D - 1)))), some (.int ((nI k) + (1 : Int32)))], [], (x_up σ1 66 (upd (σ1 66) (nI k).toNatClampNeg ((σ1 72) (((nI (43 * (D - 1))) + (20 : Int32)) + (nI k)).toNatClampNeg)))) rfl ?_ ?_
      · exact ⟨(by rw [ix]; exact vp_in_nI (by omega) (by decide)), (vp_in_nI (by omega) (by decide))⟩
      rw [ixc]
      rw [hkc]
      rw [nI_1]
      refine ih (k + 1) _ (fun c hc => by rw [x_up_ne (fun z => hc (by rw [z]; decide))]; exact hb c hc) (by rw [x_up_ne (by decide)]; exact hb2) (by omega) (fun j hj => by rw [x_up_ne (by decide), x_up_ne (by decide)]; exact h1 j hj) (fun j hj => ?_)
      rw [x_up_eq]
      by_cases q : j = k
      · rw [q, upd_eq, e72]
      · rw [upd_ne q]; exact h2 j (by omega)
set_option maxRecDepth 100000 in
theorem m_undo_s (σ : xSg) (D : Nat) (hD0 : 0 < D) (hD6 : D ≤ 6) : ∀ (m k : Nat) (σ1 : xSg) (hb : ∀ c, c ∉ [57, 64, 65, 66, 67] → σ1 c = σ c) (hb2 : σ1 57 = upd (σ 57) 16 (nI (D - 1))), k + m = 10 → (∀ j, j < k → σ1 64 j = σ 72 ((43 * (D - 1)) + j) ∧ σ1 65 j = σ 72 ((43 * (D - 1)) + 10 + j)) → xEv (.inl 0) M_X6_undo (udM σ D) 30 ([some (.ref 57), some (.int (nI (43 * (D - 1)))), some (.int (nI k))], [], σ1) := by
  intro m
  induction m with
  | zero =>
    intro k σ1 hb hb2 hk h1
    refine ev_br 2 [] ((10 : Int32) ≤ (nI k)) 73 36 ([some (.ref 57), some (.int (nI (43 * (D - 1)))), some (.int (nI k))], [], σ1) rfl ?_ (fun c33 => ?_) (fun c33 => ?_)
    · trivial
    · refine ev_blk 2 [] 75 ([some (.ref 57), some (.int (nI (43 * (D - 1)))), some (.int ((0 : Int32)))], [], σ1) rfl ?_ ?_
      · trivial
      exact m_undo_l σ D hD0 hD6 20 0 σ1 hb hb2 (by omega) (fun j hj => h1 j (by omega)) (fun j hj => absurd hj (Nat.not_lt_zero j))
    · exact absurd (show (10 : Int32) ≤ nI k from nI_le (a := 10) (by omega) (by omega)) c33
  | succ m ih =>
    intro k σ1 hb hb2 hk h1
    have ia : (nI (43 * (D - 1))) + (nI k) = nI ((43 * (D - 1)) + k) := nI_add _ _
    have iac : ((nI (43 * (D - 1))) + (nI k)).toNatClampNeg = (43 * (D - 1)) + k := by rw [ia, nI_clamp (by omega)]
    have ib : ((nI (43 * (D - 1))) + (10 : Int32)) + (nI k) = nI ((43 * (D - 1)) + 10 + k) := by rw [show (10 : Int32) = nI 10 from rfl, nI_add, nI_add]
    have ibc : (((nI (43 * (D - 1))) + (10 : Int32)) + (nI k)).toNatClampNeg = (43 * (D - 1)) + 10 + k := by rw [ib, nI_clamp (by omega)]
    have hkc : (nI k).toNatClampNeg = k := nI_clamp (by omega)
    have e72 : σ1 72 = σ 72 := hb 72 (by decide)
    refine ev_br 2 [] ((10 : Int32) ≤ (nI k)) 73 36 ([some (.ref 57), some (.int (nI (43 * (D - 1)))), some (.int (nI k))], [], σ1) rfl ?_ (fun c33 => ?_) (fun c33 => ?_)
    · trivial
    · exact absurd c33 (nI_ge (b := 10) (by omega) (by decide))
    · refine ev_blk 24 [vp_in ((nI (43 * (D - 1))) + (nI k)) 258, vp_in (nI k) 10, vp_in (((nI (43 * (D - 1))) + (10 : Int32)) + (nI k)) 258, vp_in (nI k) 10] 30 ([some (.ref 57), some (.int (nI (43 * (D - 1)))), some (.int ((nI k) + (1 : Int32)))], [], (x_up (x_up σ1 64 (upd (σ1 64) (nI k).toNatClampNeg ((σ1 72) ((nI (43 * (D - 1))) + (nI k)).toNatClampNeg))) 65 (upd (σ1 65) (nI k).toNatClampNeg ((σ1 72) (((nI (43 * (D - 1))) + (10 : Int32)) + (nI k)).toNatClampNeg)))) rfl ?_ ?_
      · exact ⟨(by rw [ia]; exact vp_in_nI (by omega) (by decide)), (vp_in_nI (by omega) (by decide)), (by rw [ib]; exact vp_in_nI (by omega) (by decide)), (vp_in_nI (by omega) (by decide))⟩
      rw [iac]
      rw [ibc]
      rw [hkc]
      rw [nI_1]
      refine ih (k + 1) _ (fun c hc => ?_) ?_ (by omega) (fun j hj => ?_)
      · rw [x_up_ne (fun z => hc (by rw [z]; decide)), x_up_ne (fun z => hc (by rw [z]; decide))]; exact hb c hc
      · rw [x_up_ne (by decide), x_up_ne (by decide)]; exact hb2
      · by_cases q : j = k
        · subst q; simp [x_up, upd, e72]
        · have a := h1 j (by omega); simp [x_up, upd, q, a]
set_option maxRecDepth 100000 in
theorem m_undo (σ : xSg) (D : Nat) (hD : σ 57 16 = nI D) (hD6 : D ≤ 6) : xCtr M_X6_undo [.ref 57] σ (udM σ D) := by
  refine ctr_ev ok_X6_undo (by decide +kernel) rfl rfl rfl ?_
  show xEv (.inl 0) M_X6_undo _ 0 ([some (.ref 57), none, none], [], σ)
  refine ev_br 2 [] (¬ (σ 57 16) = 0) 10 7 ([some (.ref 57), none, none], [], σ) rfl ?_ (fun c4 => ?_) (fun c4 => ?_)
  · trivial
  · refine ev_blk 13 [] 30 ([some (.ref 57), some (.int ((43 : Int32) * ((σ 57 16) - (1 : Int32)))), some (.int ((0 : Int32)))], [], (x_up σ 57 (upd (σ 57) 16 ((σ 57 16) - (1 : Int32))))) rfl ?_ ?_
    · trivial
    have hD0 : 0 < D := Nat.pos_of_ne_zero (fun z => c4 (by rw [hD, z]; rfl))
    have e1 : (σ 57 16) - (1 : Int32) = nI (D - 1) := by rw [hD]; exact i_sub (b := 1) (by omega)
    rw [e1, n43]
    exact m_undo_s σ D hD0 hD6 10 0 _ (fun c hc => x_up_ne (fun z => hc (by rw [z]; decide))) x_up_eq (by omega) (fun j hj => absurd hj (Nat.not_lt_zero j))
  · refine ev_blk 1 [] 9 ([some (.ref 57), none, none], [.int ((-3 : Int32))], σ) rfl ?_ ?_
    · trivial
    have h0 : D = 0 := by
      rcases Nat.eq_zero_or_pos D with z | z
      · exact z
      · exact absurd (hD.symm.trans (Classical.byContradiction c4)) (nI_ne0 z (by omega))
    exact ev_iret rfl rfl rfl (Or.inl ⟨h0, rfl, rfl⟩)
theorem n10 (i : Nat) : (10 : Int32) * (nI i) = nI (10 * i) := (Int32.ofNat_mul 10 i).symm
/-- the lane L without x, in the row f from b on, with k of L looked at -/
def lvI (f0 f : Nat → Int32) (b : Nat) (L : List Nat) (x k : Nat) : Prop := (∀ (j y : Nat), ((L.take k).filter (fun z => !decide (z = x)))[j]? = some y → f (b + j) = nI y) ∧ (∀ j, k ≤ j → f (b + j) = f0 (b + j)) ∧ ∀ j, (j < b ∨ b + 10 ≤ j) → f j = f0 j
def lvM (σ : xSg) (n D : Nat) (A B : List Nat) (x : Int32) : Option Value → xSg → Prop := fun r σ' => (¬ iN n x ∧ r = some (.int (-2)) ∧ σ' = σ) ∨ (∃ j, j < n ∧ x = nI j ∧ ((¬ σ 64 j = 0 ∧ r = some (.int (-3)) ∧ σ' = σ) ∨ (σ 64 j = 0 ∧
  r = some (.int (nI ((A.filter (fun z => !decide (z = j))).length + (B.filter (fun z => !decide (z = j))).length))) ∧ σ' 64 = upd (σ 64) j 2 ∧ LR σ' (A.filter (fun z => !decide (z = j))) (B.filter (fun z => !decide (z = j))) ∧ xFm [64, 66, 67, 72] [16] σ σ' ∧ ∃ σ1, kpM σ D none σ1 ∧ σ' 72 = σ1 72 ∧ σ' 57 = σ1 57)))
set_option maxRecDepth 100000 in
theorem m_leave_lp0 (σ1 : xSg) (L : List Nat) (x : Nat) (hx : x < 10) (hl10 : L.length ≤ 10) (hL : ∀ y ∈ L, y < 10) (h66 : rowL (σ1 66) 0 L) (h67 : σ1 67 0 = nI L.length) (Q : Option Value → xSg → Prop) (kK : ∀ g : Nat → Int32, rowL g 0 (L.filter (fun z => !decide (z = x))) → (∀ j, (j < 0 ∨ 10 ≤ j) → g j = σ1 66 j) → xEv (.inl 2) M_X6_leave Q 105 ([some (.ref 57), some (.int (nI x)), some (.int ((0 : Int32))), some (.int (nI (L.filter (fun z => !decide (z = x))).length)), none], [], (x_up σ1 66 g))) : ∀ (m k : Nat) (g : Nat → Int32), k + m = L.length → lvI (σ1 66) g 0 L x k → xEv (.inl 2) M_X6_leave Q 46 ([some (.ref 57), some (.int (nI x)), some (.int ((0 : Int32))), some (.int (nI ((L.take k).filter (fun z => !decide (z = x))).length)), some (.int (nI k))], [], (x_up σ1 66 g)) := by
  intro m
  induction m with
  | zero =>
    intro k g hk hI
    refine ev_br 5 [vp_in ((0 : Int32)) 2] (((σ1 67) 0) ≤ (nI k)) 105 57 ([some (.ref 57), some (.int (nI x)), some (.int ((0 : Int32))), some (.int (nI ((L.take k).filter (fun z => !decide (z = x))).length)), some (.int (nI k))], [], (x_up σ1 66 g)) rfl ?_ (fun c54 => ?_) (fun c54 => ?_)
    · exact (vp_in_nI (n := 0) (by decide) (by decide))
    · have hk2 : L.take k = L := List.take_of_length_le (by omega)
      obtain ⟨i1, i2, i3⟩ := hI
      rw [hk2] at i1 ⊢
      refine ev_drop 4 ?_
      exact kK g i1 i3
    · exact absurd (show σ1 67 0 ≤ nI k by rw [h67]; exact nI_le (by omega) (by omega)) c54
  | succ m ih =>
    intro k g hk hI
    obtain ⟨i1, i2, i3⟩ := hI
    obtain ⟨y, hy⟩ : ∃ y, L[k]? = some y := ⟨_, List.getElem?_eq_getElem (by omega)⟩
    have hy10 : y < 10 := hL y (List.mem_of_getElem? hy)
    have hfl : ((L.take k).filter (fun z => !decide (z = x))).length ≤ k := by have := List.length_filter_le (fun z => !decide (z = x)) (L.take k); rw [List.length_take] at this; omega
    have ik : (0 : Int32) + (nI k) = nI (0 + k) := by rw [show (0 : Int32) = nI 0 from rfl, nI_add]
    have is : (0 : Int32) + (nI ((L.take k).filter (fun z => !decide (z = x))).length) = nI (0 + ((L.take k).filter (fun z => !decide (z = x))).length) := by rw [show (0 : Int32) = nI 0 from rfl, nI_add]
    have ikc : ((0 : Int32) + (nI k)).toNatClampNeg = 0 + k := by rw [ik, nI_clamp (by omega)]
    have isc : ((0 : Int32) + (nI ((L.take k).filter (fun z => !decide (z = x))).length)).toNatClampNeg = 0 + ((L.take k).filter (fun z => !decide (z = x))).length := by rw [is, nI_clamp (by omega)]
    have gv : g (0 + k) = nI y := by rw [i2 k (Nat.le_refl _)]; exact h66 k y hy
    have hnx : (L.take (k + 1)).filter (fun z => !decide (z = x)) = ((L.take k).filter (fun z => !decide (z = x))) ++ (if y = x then [] else [y]) := by
      rw [take_snoc hy, List.filter_append]
      congr 1
      by_cases q : y = x
      · rw [if_pos q]; simp [q]
      · rw [if_neg q]; simp [q]
    refine ev_br 5 [vp_in ((0 : Int32)) 2] (((σ1 67) 0) ≤ (nI k)) 105 57 ([some (.ref 57), some (.int (nI x)), some (.int ((0 : Int32))), some (.int (nI ((L.take k).filter (fun z => !decide (z = x))).length)), some (.int (nI k))], [], (x_up σ1 66 g)) rfl ?_ (fun c54 => ?_) (fun c54 => ?_)
    · exact (vp_in_nI (n := 0) (by decide) (by decide))
    · exact absurd c54 (show ¬ σ1 67 0 ≤ nI k by rw [h67]; exact nI_ge (by omega) (by omega))
    · refine ev_br 9 [vp_in ((0 : Int32) + (nI k)) 20] ((g ((0 : Int32) + (nI k)).toNatClampNeg) = (nI x)) 99 73 ([some (.ref 57), some (.int (nI x)), some (.int ((0 : Int32))), some (.int (nI ((L.take k).filter (fun z => !decide (z = x))).length)), some (.int (nI k))], [], (x_up σ1 66 g)) rfl ?_ (fun c70 => ?_) (fun c70 => ?_)
      · exact (by rw [ik]; exact vp_in_nI (by omega) (by decide))
      · rw [ikc] at c70
        refine ev_blk 2 [] 46 ([some (.ref 57), some (.int (nI x)), some (.int ((0 : Int32))), some (.int (nI ((L.take k).filter (fun z => !decide (z = x))).length)), some (.int ((nI k) + (1 : Int32)))], [], (x_up σ1 66 g)) rfl ?_ ?_
        · trivial
        have e : y = x := (nI_eq (by omega) (by omega)).mp (by rw [← gv]; exact c70)
        rw [if_pos e, List.append_nil] at hnx
        rw [nI_1]
        have h := ih (k + 1) g (by omega) ⟨by rw [hnx]; exact i1, fun j hj => i2 j (by omega), i3⟩
        rw [hnx] at h
        exact h
      · rw [ikc] at c70
        refine ev_blk 19 [vp_in ((0 : Int32) + (nI k)) 20, vp_in ((0 : Int32) + (nI ((L.take k).filter (fun z => !decide (z = x))).length)) 20] 46 ([some (.ref 57), some (.int (nI x)), some (.int ((0 : Int32))), some (.int ((nI ((L.take k).filter (fun z => !decide (z = x))).length) + (1 : Int32))), some (.int ((nI k) + (1 : Int32)))], [], (x_up (x_up σ1 66 g) 66 (upd g ((0 : Int32) + (nI ((L.take k).filter (fun z => !decide (z = x))).length)).toNatClampNeg (g ((0 : Int32) + (nI k)).toNatClampNeg)))) rfl ?_ ?_
        · exact ⟨(by rw [ik]; exact vp_in_nI (by omega) (by decide)), (by rw [is]; exact vp_in_nI (by omega) (by decide))⟩
        rw [ikc]
        rw [isc]
        have e : ¬ y = x := fun q => c70 (by rw [gv, q])
        rw [if_neg e] at hnx
        rw [nI_1, nI_1, x_up_up, gv]
        have h := ih (k + 1) (upd g (0 + ((L.take k).filter (fun z => !decide (z = x))).length) (nI y)) (by omega) ⟨fun j z hj => ?_, fun j hj => ?_, fun j hj => ?_⟩
        · rw [hnx, List.length_append] at h
          exact h
        · rw [hnx] at hj
          rcases Nat.lt_or_ge j ((L.take k).filter (fun z => !decide (z = x))).length with q | q
          · rw [List.getElem?_append_left q] at hj
            rw [upd_ne (by omega)]
            exact i1 j z hj
          · rw [List.getElem?_append_right q] at hj
            have hj0 : j - ((L.take k).filter (fun z => !decide (z = x))).length = 0 := by
              have := (List.getElem?_eq_some_iff.mp hj).1
              simp at this
              omega
            rw [hj0] at hj
            simp only [List.getElem?_cons_zero, Option.some.injEq] at hj
            rw [show j = ((L.take k).filter (fun z => !decide (z = x))).length by omega, upd_eq, hj]
        · rw [upd_ne (by omega)]; exact i2 j (by omega)
        · rw [upd_ne (by omega)]; exact i3 j hj
set_option maxRecDepth 100000 in
theorem m_leave_lp1 (σ1 : xSg) (L : List Nat) (x : Nat) (hx : x < 10) (hl10 : L.length ≤ 10) (hL : ∀ y ∈ L, y < 10) (h66 : rowL (σ1 66) 10 L) (h67 : σ1 67 1 = nI L.length) (Q : Option Value → xSg → Prop) (kK : ∀ g : Nat → Int32, rowL g 10 (L.filter (fun z => !decide (z = x))) → (∀ j, (j < 10 ∨ 20 ≤ j) → g j = σ1 66 j) → xEv (.inl 2) M_X6_leave Q 105 ([some (.ref 57), some (.int (nI x)), some (.int ((1 : Int32))), some (.int (nI (L.filter (fun z => !decide (z = x))).length)), none], [], (x_up σ1 66 g))) : ∀ (m k : Nat) (g : Nat → Int32), k + m = L.length → lvI (σ1 66) g 10 L x k → xEv (.inl 2) M_X6_leave Q 46 ([some (.ref 57), some (.int (nI x)), some (.int ((1 : Int32))), some (.int (nI ((L.take k).filter (fun z => !decide (z = x))).length)), some (.int (nI k))], [], (x_up σ1 66 g)) := by
  intro m
  induction m with
  | zero =>
    intro k g hk hI
    refine ev_br 5 [vp_in ((1 : Int32)) 2] (((σ1 67) 1) ≤ (nI k)) 105 57 ([some (.ref 57), some (.int (nI x)), some (.int ((1 : Int32))), some (.int (nI ((L.take k).filter (fun z => !decide (z = x))).length)), some (.int (nI k))], [], (x_up σ1 66 g)) rfl ?_ (fun c54 => ?_) (fun c54 => ?_)
    · exact (vp_in_nI (n := 1) (by decide) (by decide))
    · have hk2 : L.take k = L := List.take_of_length_le (by omega)
      obtain ⟨i1, i2, i3⟩ := hI
      rw [hk2] at i1 ⊢
      refine ev_drop 4 ?_
      exact kK g i1 i3
    · exact absurd (show σ1 67 1 ≤ nI k by rw [h67]; exact nI_le (by omega) (by omega)) c54
  | succ m ih =>
    intro k g hk hI
    obtain ⟨i1, i2, i3⟩ := hI
    obtain ⟨y, hy⟩ : ∃ y, L[k]? = some y := ⟨_, List.getElem?_eq_getElem (by omega)⟩
    have hy10 : y < 10 := hL y (List.mem_of_getElem? hy)
    have hfl : ((L.take k).filter (fun z => !decide (z = x))).length ≤ k := by have := List.length_filter_le (fun z => !decide (z = x)) (L.take k); rw [List.length_take] at this; omega
    have ik : (10 : Int32) + (nI k) = nI (10 + k) := by rw [show (10 : Int32) = nI 10 from rfl, nI_add]
    have is : (10 : Int32) + (nI ((L.take k).filter (fun z => !decide (z = x))).length) = nI (10 + ((L.take k).filter (fun z => !decide (z = x))).length) := by rw [show (10 : Int32) = nI 10 from rfl, nI_add]
    have ikc : ((10 : Int32) + (nI k)).toNatClampNeg = 10 + k := by rw [ik, nI_clamp (by omega)]
    have isc : ((10 : Int32) + (nI ((L.take k).filter (fun z => !decide (z = x))).length)).toNatClampNeg = 10 + ((L.take k).filter (fun z => !decide (z = x))).length := by rw [is, nI_clamp (by omega)]
    have gv : g (10 + k) = nI y := by rw [i2 k (Nat.le_refl _)]; exact h66 k y hy
    have hnx : (L.take (k + 1)).filter (fun z => !decide (z = x)) = ((L.take k).filter (fun z => !decide (z = x))) ++ (if y = x then [] else [y]) := by
      rw [take_snoc hy, List.filter_append]
      congr 1
      by_cases q : y = x
      · rw [if_pos q]; simp [q]
      · rw [if_neg q]; simp [q]
    refine ev_br 5 [vp_in ((1 : Int32)) 2] (((σ1 67) 1) ≤ (nI k)) 105 57 ([some (.ref 57), some (.int (nI x)), some (.int ((1 : Int32))), some (.int (nI ((L.take k).filter (fun z => !decide (z = x))).length)), some (.int (nI k))], [], (x_up σ1 66 g)) rfl ?_ (fun c54 => ?_) (fun c54 => ?_)
    · exact (vp_in_nI (n := 1) (by decide) (by decide))
    · exact absurd c54 (show ¬ σ1 67 1 ≤ nI k by rw [h67]; exact nI_ge (by omega) (by omega))
    · refine ev_br 9 [vp_in ((10 : Int32) + (nI k)) 20] ((g ((10 : Int32) + (nI k)).toNatClampNeg) = (nI x)) 99 73 ([some (.ref 57), some (.int (nI x)), some (.int ((1 : Int32))), some (.int (nI ((L.take k).filter (fun z => !decide (z = x))).length)), some (.int (nI k))], [], (x_up σ1 66 g)) rfl ?_ (fun c70 => ?_) (fun c70 => ?_)
      · exact (by rw [ik]; exact vp_in_nI (by omega) (by decide))
      · rw [ikc] at c70
        refine ev_blk 2 [] 46 ([some (.ref 57), some (.int (nI x)), some (.int ((1 : Int32))), some (.int (nI ((L.take k).filter (fun z => !decide (z = x))).length)), some (.int ((nI k) + (1 : Int32)))], [], (x_up σ1 66 g)) rfl ?_ ?_
        · trivial
        have e : y = x := (nI_eq (by omega) (by omega)).mp (by rw [← gv]; exact c70)
        rw [if_pos e, List.append_nil] at hnx
        rw [nI_1]
        have h := ih (k + 1) g (by omega) ⟨by rw [hnx]; exact i1, fun j hj => i2 j (by omega), i3⟩
        rw [hnx] at h
        exact h
      · rw [ikc] at c70
        refine ev_blk 19 [vp_in ((10 : Int32) + (nI k)) 20, vp_in ((10 : Int32) + (nI ((L.take k).filter (fun z => !decide (z = x))).length)) 20] 46 ([some (.ref 57), some (.int (nI x)), some (.int ((1 : Int32))), some (.int ((nI ((L.take k).filter (fun z => !decide (z = x))).length) + (1 : Int32))), some (.int ((nI k) + (1 : Int32)))], [], (x_up (x_up σ1 66 g) 66 (upd g ((10 : Int32) + (nI ((L.take k).filter (fun z => !decide (z = x))).length)).toNatClampNeg (g ((10 : Int32) + (nI k)).toNatClampNeg)))) rfl ?_ ?_
        · exact ⟨(by rw [ik]; exact vp_in_nI (by omega) (by decide)), (by rw [is]; exact vp_in_nI (by omega) (by decide))⟩
        rw [ikc]
        rw [isc]
        have e : ¬ y = x := fun q => c70 (by rw [gv, q])
        rw [if_neg e] at hnx
        rw [nI_1, nI_1, x_up_up, gv]
        have h := ih (k + 1) (upd g (10 + ((L.take k).filter (fun z => !decide (z = x))).length) (nI y)) (by omega) ⟨fun j z hj => ?_, fun j hj => ?_, fun j hj => ?_⟩
        · rw [hnx, List.length_append] at h
          exact h
        · rw [hnx] at hj
          rcases Nat.lt_or_ge j ((L.take k).filter (fun z => !decide (z = x))).length with q | q
          · rw [List.getElem?_append_left q] at hj
            rw [upd_ne (by omega)]
            exact i1 j z hj
          · rw [List.getElem?_append_right q] at hj
            have hj0 : j - ((L.take k).filter (fun z => !decide (z = x))).length = 0 := by
              have := (List.getElem?_eq_some_iff.mp hj).1
              simp at this
              omega
            rw [hj0] at hj
            simp only [List.getElem?_cons_zero, Option.some.injEq] at hj
            rw [show j = ((L.take k).filter (fun z => !decide (z = x))).length by omega, upd_eq, hj]
        · rw [upd_ne (by omega)]; exact i2 j (by omega)
        · rw [upd_ne (by omega)]; exact i3 j hj
set_option maxRecDepth 100000 in
theorem m_leave (σ : xSg) (n : Nat) (A B : List Nat) (hM : mOk σ n A B) (hL : LR σ A B) (hn : σ 57 0 = nI n) (D : Nat) (hD : σ 57 16 = nI D) (hD6 : D ≤ 6) (hA : ∀ x ∈ A, σ 63 x = 0) (hB : ∀ x ∈ B, σ 63 x = 1) (x : Int32) : xCtr M_X6_leave [.ref 57, .int (x)] σ (lvM σ n D A B x) := by
  refine ctr_ev ok_X6_leave (by decide +kernel) rfl rfl rfl ?_
  show xEv (.inl 2) M_X6_leave _ 0 ([some (.ref 57), some (.int (x)), none, none, none], [], σ)
  have hn10 := hM.1.1
  have hAB := hM.2.2.2.2.1
  refine ev_blk 2 [] 2 ([some (.ref 57), some (.int (x)), none, none, none], [.int (x), .ref 57], σ) rfl ?_ ?_
  · trivial
  refine ev_callV M_X6_isShip [.int (x)] [] 57 rfl rfl ln_X6_136 k_X6_isShip rfl rfl rfl rfl rfl rfl (m_isShip _ _) ?_
  refine pu_k ?_
  show xEv _ _ _ 5 ([some (.ref 57), some (.int (x)), none, none, none], [.int (zi (¬ x < 0 ∧ ¬ σ 57 0 - 1 < x))], σ)
  refine ev_br 0 [] (¬ (zi (¬ x < 0 ∧ ¬ σ 57 0 - 1 < x)) = 0) 11 8 ([some (.ref 57), some (.int (x)), none, none, none], [], σ) rfl ?_ (fun c5 => ?_) (fun c5 => ?_)
  · trivial
  · replace c5 := zi_1.mp c5
    have hx := (show iN n x from by rw [hn] at c5; exact (mSh hn10).mp c5)
    obtain ⟨j, hj, hj31, rfl⟩ := iN_of hx
    have hjc : (nI j).toNatClampNeg = j := nI_clamp hj31
    have hin : vp_in (nI j) 10 := vp_in_nI (by omega) (by decide)
    refine ev_br 4 [vp_in (nI j) 10] (((σ 64) (nI j).toNatClampNeg) = 0) 23 20 ([some (.ref 57), some (.int (nI j)), none, none, none], [], σ) rfl ?_ (fun c17 => ?_) (fun c17 => ?_)
    · exact hin
    · rw [hjc] at c17
      refine ev_blk 1 [] 24 ([some (.ref 57), some (.int (nI j)), none, none, none], [.ref 57], σ) rfl ?_ ?_
      · trivial
      refine ev_callV M_X6_keeps [] [] 57 rfl rfl ln_X6_175 k_X6_keeps rfl rfl rfl rfl rfl rfl (m_keeps σ D hD hD6) ?_
      rintro r σ1 hk
      obtain rfl := hk.1
      have e1 : ∀ c, c ≠ 72 → c ≠ 57 → σ1 c = σ c := fun c a b => hk.2.2.1.1 c (by simpa using a) b
      show xEv _ _ _ 27 ([some (.ref 57), some (.int (nI j)), none, none, none], [], σ1)
      refine ev_blk 14 [vp_in (nI j) 10, vp_in (nI j) 10] 46 ([some (.ref 57), some (.int (nI j)), some (.int ((σ1 63) (nI j).toNatClampNeg)), some (.int ((0 : Int32))), some (.int ((0 : Int32)))], [], (x_up σ1 64 (upd (σ1 64) (nI j).toNatClampNeg ((2 : Int32))))) rfl ?_ ?_
      · exact ⟨hin, hin⟩
      rw [hjc]
      have e2 : ∀ c, c ≠ 64 → c ≠ 72 → c ≠ 57 → (x_up σ1 64 (upd (σ1 64) j ((2 : Int32)))) c = σ c := fun c a b d => (x_up_ne a).trans (e1 c b d)
      have e63 : (σ1 63) j = σ 63 j := congrFun (e1 63 (by decide) (by decide)) j
      have hla := rg01 (hM.1.2.1 j hj).2.2.2.2.2
      have hla2 : σ 63 j = 0 ∨ σ 63 j = 1 := hla
      rcases hla2 with hl | hl
      · have elit : (σ1 63) j = (0 : Int32) := e63.trans hl
        rw [elit]
        have hlen := hL.1
        have hx66 := fun kK => m_leave_lp0 (x_up σ1 64 (upd (σ1 64) j ((2 : Int32)))) A j (by omega) hlen (fun y hy => by have := hM.2.2.1 y hy; omega) (by rw [e2 66 (by decide) (by decide) (by decide)]; exact fun i y hi => by rw [Nat.zero_add]; exact hL.2.2.1 i y hi) (by rw [e2 67 (by decide) (by decide) (by decide)]; exact hL.2.2.2.2.1) (lvM σ n D A B (nI j)) kK A.length 0 ((x_up σ1 64 (upd (σ1 64) j ((2 : Int32)))) 66) (by omega) ⟨fun i y hi => by simp at hi, fun _ _ => rfl, fun _ _ => rfl⟩
        rw [x_up_self] at hx66
        refine hx66 (fun g hr ho => ?_)
        refine ev_blk 14 [vp_in ((0 : Int32)) 2, vp_in ((0 : Int32)) 2, vp_in ((1 : Int32)) 2] 125 ([some (.ref 57), some (.int (nI j)), some (.int ((0 : Int32))), some (.int (nI (A.filter (fun z => !decide (z = j))).length)), none], [.int (((upd ((x_up σ1 64 (upd (σ1 64) j ((2 : Int32)))) 67) 0 (nI (A.filter (fun z => !decide (z = j))).length)) 0) + ((upd ((x_up σ1 64 (upd (σ1 64) j ((2 : Int32)))) 67) 0 (nI (A.filter (fun z => !decide (z = j))).length)) 1))], (x_up (x_up (x_up σ1 64 (upd (σ1 64) j ((2 : Int32)))) 66 g) 67 (upd ((x_up σ1 64 (upd (σ1 64) j ((2 : Int32)))) 67) 0 (nI (A.filter (fun z => !decide (z = j))).length)))) rfl ?_ ?_
        · exact ⟨(vp_in_nI (n := 0) (by decide) (by decide)), (vp_in_nI (n := 0) (by decide) (by decide)), (vp_in_nI (n := 1) (by decide) (by decide))⟩
        have hoth : B.filter (fun z => !decide (z = j)) = B := List.filter_eq_self.mpr (fun y hy => by simp only [Bool.not_eq_true', decide_eq_false_iff_not]; rintro rfl; have := hB _ hy; rw [hl] at this; exact absurd this (by decide))
        have c67 : (x_up σ1 64 (upd (σ1 64) j ((2 : Int32)))) 67 = σ 67 := e2 67 (by decide) (by decide) (by decide)
        have c66 : (x_up σ1 64 (upd (σ1 64) j ((2 : Int32)))) 66 = σ 66 := e2 66 (by decide) (by decide) (by decide)
        have hlL := hL.1
        have hlG : (A.filter (fun z => !decide (z = j))).length ≤ A.length := List.length_filter_le _ _
        refine ev_iret rfl rfl rfl (Or.inr ⟨j, hj, rfl, Or.inr ⟨c17, ?_, ?_, ?_, ⟨fun c hc hn => ?_, fun i hi => ?_⟩, σ1, hk, ?_, ?_⟩⟩)
        · have k0 : σ 67 1 = nI B.length := hL.2.2.2.2.2
          rw [hoth]
          have kk : ((x_up (x_up (x_up σ1 64 (upd (σ1 64) j ((2 : Int32)))) 66 g) 67 (upd ((x_up σ1 64 (upd (σ1 64) j ((2 : Int32)))) 67) 0 (nI (A.filter (fun z => !decide (z = j))).length))) 67) 1 = nI B.length := by rw [show (x_up (x_up (x_up σ1 64 (upd (σ1 64) j ((2 : Int32)))) 66 g) 67 (upd ((x_up σ1 64 (upd (σ1 64) j ((2 : Int32)))) 67) 0 (nI (A.filter (fun z => !decide (z = j))).length))) 67 = upd ((x_up σ1 64 (upd (σ1 64) j ((2 : Int32)))) 67) 0 (nI (A.filter (fun z => !decide (z = j))).length) from x_up_eq, upd_ne (by decide), c67]; exact k0
          have kj : ((x_up (x_up (x_up σ1 64 (upd (σ1 64) j ((2 : Int32)))) 66 g) 67 (upd ((x_up σ1 64 (upd (σ1 64) j ((2 : Int32)))) 67) 0 (nI (A.filter (fun z => !decide (z = j))).length))) 67) 0 = nI (A.filter (fun z => !decide (z = j))).length := by rw [show (x_up (x_up (x_up σ1 64 (upd (σ1 64) j ((2 : Int32)))) 66 g) 67 (upd ((x_up σ1 64 (upd (σ1 64) j ((2 : Int32)))) 67) 0 (nI (A.filter (fun z => !decide (z = j))).length))) 67 = upd ((x_up σ1 64 (upd (σ1 64) j ((2 : Int32)))) 67) 0 (nI (A.filter (fun z => !decide (z = j))).length) from x_up_eq, upd_eq]
          show some (Value.int (((x_up (x_up (x_up σ1 64 (upd (σ1 64) j ((2 : Int32)))) 66 g) 67 (upd ((x_up σ1 64 (upd (σ1 64) j ((2 : Int32)))) 67) 0 (nI (A.filter (fun z => !decide (z = j))).length))) 67) 0 + ((x_up (x_up (x_up σ1 64 (upd (σ1 64) j ((2 : Int32)))) 66 g) 67 (upd ((x_up σ1 64 (upd (σ1 64) j ((2 : Int32)))) 67) 0 (nI (A.filter (fun z => !decide (z = j))).length))) 67) 1)) = _
          rw [kj, kk, nI_add]
        · rw [x_up_ne (by decide), x_up_ne (by decide), x_up_eq, e1 64 (by decide) (by decide)]
        · rw [hoth]
          have hf0 := List.length_filter_le (fun z => !decide (z = j)) A
          have hlO := hL.2.1
          refine ⟨by omega, hlO, fun i y hi => ?_, fun i y hi => ?_, ?_, ?_⟩
          · have := hr i y hi
            rw [Nat.zero_add] at this
            rw [x_up_ne (by decide), x_up_eq]; exact this
          · have hil := (List.getElem?_eq_some_iff.mp hi).1
            rw [x_up_ne (by decide), x_up_eq, ho _ (by omega), c66]; exact hL.2.2.2.1 i y hi
          · rw [x_up_eq, upd_eq]
          · rw [x_up_eq, upd_ne (by decide), c67]; exact hL.2.2.2.2.2
        · have h64 : c ≠ 64 := fun z => hc (by rw [z]; decide)
          have h66 : c ≠ 66 := fun z => hc (by rw [z]; decide)
          have h67 : c ≠ 67 := fun z => hc (by rw [z]; decide)
          have h72 : c ≠ 72 := fun z => hc (by rw [z]; decide)
          rw [x_up_ne h67, x_up_ne h66, x_up_ne h64]
          exact e1 c h72 hn
        · rw [x_up_ne (by decide), x_up_ne (by decide), x_up_ne (by decide)]; exact hk.2.2.1.2 i hi
        · rw [x_up_ne (by decide), x_up_ne (by decide), x_up_ne (by decide)]
        · rw [x_up_ne (by decide), x_up_ne (by decide), x_up_ne (by decide)]
      · have elit : (σ1 63) j = (1 : Int32) := e63.trans hl
        rw [elit]
        have hlen := hL.2.1
        have hx66 := fun kK => m_leave_lp1 (x_up σ1 64 (upd (σ1 64) j ((2 : Int32)))) B j (by omega) hlen (fun y hy => by have := hM.2.2.2.1 y hy; omega) (by rw [e2 66 (by decide) (by decide) (by decide)]; exact hL.2.2.2.1) (by rw [e2 67 (by decide) (by decide) (by decide)]; exact hL.2.2.2.2.2) (lvM σ n D A B (nI j)) kK B.length 0 ((x_up σ1 64 (upd (σ1 64) j ((2 : Int32)))) 66) (by omega) ⟨fun i y hi => by simp at hi, fun _ _ => rfl, fun _ _ => rfl⟩
        rw [x_up_self] at hx66
        refine hx66 (fun g hr ho => ?_)
        refine ev_blk 14 [vp_in ((1 : Int32)) 2, vp_in ((0 : Int32)) 2, vp_in ((1 : Int32)) 2] 125 ([some (.ref 57), some (.int (nI j)), some (.int ((1 : Int32))), some (.int (nI (B.filter (fun z => !decide (z = j))).length)), none], [.int (((upd ((x_up σ1 64 (upd (σ1 64) j ((2 : Int32)))) 67) 1 (nI (B.filter (fun z => !decide (z = j))).length)) 0) + ((upd ((x_up σ1 64 (upd (σ1 64) j ((2 : Int32)))) 67) 1 (nI (B.filter (fun z => !decide (z = j))).length)) 1))], (x_up (x_up (x_up σ1 64 (upd (σ1 64) j ((2 : Int32)))) 66 g) 67 (upd ((x_up σ1 64 (upd (σ1 64) j ((2 : Int32)))) 67) 1 (nI (B.filter (fun z => !decide (z = j))).length)))) rfl ?_ ?_
        · exact ⟨(vp_in_nI (n := 1) (by decide) (by decide)), (vp_in_nI (n := 0) (by decide) (by decide)), (vp_in_nI (n := 1) (by decide) (by decide))⟩
        have hoth : A.filter (fun z => !decide (z = j)) = A := List.filter_eq_self.mpr (fun y hy => by simp only [Bool.not_eq_true', decide_eq_false_iff_not]; rintro rfl; have := hA _ hy; rw [hl] at this; exact absurd this (by decide))
        have c67 : (x_up σ1 64 (upd (σ1 64) j ((2 : Int32)))) 67 = σ 67 := e2 67 (by decide) (by decide) (by decide)
        have c66 : (x_up σ1 64 (upd (σ1 64) j ((2 : Int32)))) 66 = σ 66 := e2 66 (by decide) (by decide) (by decide)
        have hlL := hL.2.1
        have hlG : (B.filter (fun z => !decide (z = j))).length ≤ B.length := List.length_filter_le _ _
        refine ev_iret rfl rfl rfl (Or.inr ⟨j, hj, rfl, Or.inr ⟨c17, ?_, ?_, ?_, ⟨fun c hc hn => ?_, fun i hi => ?_⟩, σ1, hk, ?_, ?_⟩⟩)
        · have k0 : σ 67 0 = nI A.length := hL.2.2.2.2.1
          rw [hoth]
          have kk : ((x_up (x_up (x_up σ1 64 (upd (σ1 64) j ((2 : Int32)))) 66 g) 67 (upd ((x_up σ1 64 (upd (σ1 64) j ((2 : Int32)))) 67) 1 (nI (B.filter (fun z => !decide (z = j))).length))) 67) 0 = nI A.length := by rw [show (x_up (x_up (x_up σ1 64 (upd (σ1 64) j ((2 : Int32)))) 66 g) 67 (upd ((x_up σ1 64 (upd (σ1 64) j ((2 : Int32)))) 67) 1 (nI (B.filter (fun z => !decide (z = j))).length))) 67 = upd ((x_up σ1 64 (upd (σ1 64) j ((2 : Int32)))) 67) 1 (nI (B.filter (fun z => !decide (z = j))).length) from x_up_eq, upd_ne (by decide), c67]; exact k0
          have kj : ((x_up (x_up (x_up σ1 64 (upd (σ1 64) j ((2 : Int32)))) 66 g) 67 (upd ((x_up σ1 64 (upd (σ1 64) j ((2 : Int32)))) 67) 1 (nI (B.filter (fun z => !decide (z = j))).length))) 67) 1 = nI (B.filter (fun z => !decide (z = j))).length := by rw [show (x_up (x_up (x_up σ1 64 (upd (σ1 64) j ((2 : Int32)))) 66 g) 67 (upd ((x_up σ1 64 (upd (σ1 64) j ((2 : Int32)))) 67) 1 (nI (B.filter (fun z => !decide (z = j))).length))) 67 = upd ((x_up σ1 64 (upd (σ1 64) j ((2 : Int32)))) 67) 1 (nI (B.filter (fun z => !decide (z = j))).length) from x_up_eq, upd_eq]
          show some (Value.int (((x_up (x_up (x_up σ1 64 (upd (σ1 64) j ((2 : Int32)))) 66 g) 67 (upd ((x_up σ1 64 (upd (σ1 64) j ((2 : Int32)))) 67) 1 (nI (B.filter (fun z => !decide (z = j))).length))) 67) 0 + ((x_up (x_up (x_up σ1 64 (upd (σ1 64) j ((2 : Int32)))) 66 g) 67 (upd ((x_up σ1 64 (upd (σ1 64) j ((2 : Int32)))) 67) 1 (nI (B.filter (fun z => !decide (z = j))).length))) 67) 1)) = _
          rw [kk, kj, nI_add]
        · rw [x_up_ne (by decide), x_up_ne (by decide), x_up_eq, e1 64 (by decide) (by decide)]
        · rw [hoth]
          have hf0 := List.length_filter_le (fun z => !decide (z = j)) B
          have hlO := hL.1
          refine ⟨hlO, by omega, fun i y hi => ?_, fun i y hi => ?_, ?_, ?_⟩
          · have hil := (List.getElem?_eq_some_iff.mp hi).1
            rw [x_up_ne (by decide), x_up_eq, ho _ (by omega), c66]; exact hL.2.2.1 i y hi
          · rw [x_up_ne (by decide), x_up_eq]; exact hr i y hi
          · rw [x_up_eq, upd_ne (by decide), c67]; exact hL.2.2.2.2.1
          · rw [x_up_eq, upd_eq]
        · have h64 : c ≠ 64 := fun z => hc (by rw [z]; decide)
          have h66 : c ≠ 66 := fun z => hc (by rw [z]; decide)
          have h67 : c ≠ 67 := fun z => hc (by rw [z]; decide)
          have h72 : c ≠ 72 := fun z => hc (by rw [z]; decide)
          rw [x_up_ne h67, x_up_ne h66, x_up_ne h64]
          exact e1 c h72 hn
        · rw [x_up_ne (by decide), x_up_ne (by decide), x_up_ne (by decide)]; exact hk.2.2.1.2 i hi
        · rw [x_up_ne (by decide), x_up_ne (by decide), x_up_ne (by decide)]
        · rw [x_up_ne (by decide), x_up_ne (by decide), x_up_ne (by decide)]
    · rw [hjc] at c17
      refine ev_blk 1 [] 22 ([some (.ref 57), some (.int (nI j)), none, none, none], [.int ((-3 : Int32))], σ) rfl ?_ ?_
      · trivial
      exact ev_iret rfl rfl rfl (Or.inr ⟨j, hj, rfl, Or.inl ⟨c17, rfl, rfl⟩⟩)
  · replace c5 := zi_n.mp c5
    refine ev_blk 1 [] 10 ([some (.ref 57), some (.int (x)), none, none, none], [.int ((-2 : Int32))], σ) rfl ?_ ?_
    · trivial
    exact ev_iret rfl rfl rfl (Or.inl ⟨fun q => c5 (by rw [hn]; exact (mSh hn10).mpr q), rfl, rfl⟩)
