def imM (σ : xSg) : Option Value → xSg → Prop := fun r σ' => r = some (.int (σ 57 0)) ∧ σ' 57 18 = 1 ∧ (∀ i, i ≠ 18 → σ' 57 i = σ 57 i) ∧ (∀ d, d ≠ 73 → d ≠ 57 → σ' d = σ d) ∧ imT σ σ' ∧ (∀ i, i < 60 → σ' 73 (247 + i) = if σ 69 i = 0 then 0 else 1) ∧ σ' 73 307 = σ 57 0 ∧ σ' 73 308 = σ 57 14
def bkM (σ : xSg) : Option Value → xSg → Prop := fun r σ' => (σ 57 18 = 0 ∧ r = some (.int (-3)) ∧ σ' = σ) ∨ (¬ σ 57 18 = 0 ∧ r = some (.int (σ 73 307)) ∧ (∀ d, d ∉ [58, 59, 60, 61, 62, 63, 64, 65, 66, 67, 68, 69, 70, 71] → d ≠ 57 → σ' d = σ d) ∧ (∀ i, i ≠ 0 → i ≠ 14 → i ≠ 16 → σ' 57 i = σ 57 i) ∧ imB σ σ' ∧ (∀ i, i < 60 → σ' 69 i = if σ 73 (247 + i) = 1 then 1 else 0) ∧ σ' 57 0 = σ 73 307 ∧ σ' 57 14 = σ 73 308 ∧ σ' 57 16 = 0)
set_option maxRecDepth 100000 in
theorem m_image (σ : xSg) : xCtr M_X6_image [.ref 57] σ (imM σ) := by
  refine ctr_ev ok_X6_image (by decide +kernel) rfl rfl rfl ?_
  show xEv (.inl 2) M_X6_image _ 0 ([some (.ref 57)], [], σ)
  refine ev_blk 5 [(1 : Int32) = 0 ∨ (1 : Int32) = 1] 7 ([some (.ref 57)], [.int ((0 : Int32)), .ref 57], (x_up σ 57 (upd (σ 57) 18 ((1 : Int32))))) rfl ?_ ?_
  · exact Or.inr rfl
  refine ev_callV M_X6_images [.int ((0 : Int32))] [] 57 rfl rfl ln_X6_217 k_X6_images rfl rfl rfl rfl rfl rfl (m_imagesT _) ?_
  rintro r σ1 ⟨rfl, q1, q2, q3, q4, q5⟩
  show xEv _ _ _ 10 ([some (.ref 57)], [], σ1)
  refine ev_blk 2 [] 14 ([some (.ref 57)], [.int ((σ1 57 0))], σ1) rfl ?_ ?_
  · trivial
  have e57 := q1 57 (by decide)
  refine ev_iret rfl rfl rfl ⟨?_, ?_, fun i hi => ?_, fun d a b => ?_, ?_, fun i hi => ?_, ?_, ?_⟩
  · rw [e57]; rfl
  · rw [e57, x_up_eq, upd_eq]
  · rw [e57, x_up_eq, upd_ne hi]
  · rw [q1 d a, x_up_ne b]
  · exact q2
  · exact q3 i hi
  · exact q4
  · exact q5
set_option maxRecDepth 100000 in
theorem m_back (σ : xSg) : xCtr M_X6_back [.ref 57] σ (bkM σ) := by
  refine ctr_ev ok_X6_back (by decide +kernel) rfl rfl rfl ?_
  show xEv (.inl 2) M_X6_back _ 0 ([some (.ref 57)], [], σ)
  refine ev_br 2 [] (¬ (σ 57 18) = 0) 10 7 ([some (.ref 57)], [], σ) rfl ?_ (fun c4 => ?_) (fun c4 => ?_)
  · trivial
  · refine ev_blk 2 [] 12 ([some (.ref 57)], [.int ((1 : Int32)), .ref 57], σ) rfl ?_ ?_
    · trivial
    refine ev_callV M_X6_images [.int ((1 : Int32))] [] 57 rfl rfl ln_X6_217 k_X6_images rfl rfl rfl rfl rfl rfl (m_imagesB _) ?_
    rintro r σ1 ⟨rfl, q1, q2, q3, q4, q5, q6⟩
    show xEv _ _ _ 15 ([some (.ref 57)], [], σ1)
    refine ev_blk 5 [] 24 ([some (.ref 57)], [.int ((σ1 57 0))], (x_up σ1 57 (upd (σ1 57) 16 ((0 : Int32))))) rfl ?_ ?_
    · trivial
    refine ev_iret rfl rfl rfl (Or.inr ⟨c4, ?_, fun d a b => ?_, fun i a b c => ?_, ?_, fun i hi => ?_, ?_, ?_, ?_⟩)
    · simp [upd, q5]
    · rw [x_up_ne b]; exact q1 d a b
    · rw [x_up_eq, upd_ne c]; exact q2 i a b
    · simp only [imB, x_up_ne (show (58 : Nat) ≠ 57 by decide), x_up_ne (show (59 : Nat) ≠ 57 by decide), x_up_ne (show (60 : Nat) ≠ 57 by decide), x_up_ne (show (61 : Nat) ≠ 57 by decide), x_up_ne (show (62 : Nat) ≠ 57 by decide), x_up_ne (show (63 : Nat) ≠ 57 by decide), x_up_ne (show (64 : Nat) ≠ 57 by decide), x_up_ne (show (65 : Nat) ≠ 57 by decide), x_up_ne (show (66 : Nat) ≠ 57 by decide), x_up_ne (show (67 : Nat) ≠ 57 by decide), x_up_ne (show (68 : Nat) ≠ 57 by decide), x_up_ne (show (70 : Nat) ≠ 57 by decide), x_up_ne (show (71 : Nat) ≠ 57 by decide)]; exact q3
    · rw [x_up_ne (by decide)]; exact q4 i hi
    · rw [x_up_eq, upd_ne (by decide)]; exact q5
    · rw [x_up_eq, upd_ne (by decide)]; exact q6
    · rw [x_up_eq, upd_eq]
  · refine ev_blk 1 [] 9 ([some (.ref 57)], [.int ((-3 : Int32))], σ) rfl ?_ ?_
    · trivial
    exact ev_iret rfl rfl rfl (Or.inl ⟨Classical.byContradiction c4, rfl, rfl⟩)
