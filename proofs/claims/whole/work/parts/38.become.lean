def kpQ (s d : Nat) (σ : xSg) : Option Value → xSg → Prop := fun r σ' => r = none ∧ (∀ c, (c < d ∨ d + 11 < c) → σ' c = σ c) ∧ (∀ i, i = 0 ∨ i = 1 ∨ i = 2 ∨ i = 13 → σ' d i = σ s i) ∧ (∀ j i, 1 ≤ j → j ≤ 7 → i < 10 → σ' (d + j) i = σ (s + j) i) ∧ (∀ i, i < 5 → σ' (d + 8) i = σ (s + 8) i) ∧ (∀ i, i < 3 → σ' (d + 9) i = σ (s + 9) i) ∧ (∀ i, i < 100 → σ' (d + 10) i = σ (s + 10) i) ∧ ∀ i, i < 40 → σ' (d + 11) i = σ (s + 11) i
set_option maxRecDepth 100000 in
theorem c_become13 (σ : xSg) : xCtr M_X3_become [.ref 13, .ref 1] σ (kpQ 1 13 σ) := by
  refine ctr_ev ok_X3_become (by decide +kernel) rfl rfl rfl ?_
  show xEv (.inl 1) M_X3_become _ 0 ([some (.ref 13), some (.ref 1)], [], σ)
  refine ev_blk 104 [¬ (0 : Int32) < 0, ¬ (0 : Int32) < 0, ¬ (10 : Int32) < 0, 0 + 10 ≤ 10, 0 + 10 ≤ 10, ¬ (0 : Int32) < 0, ¬ (0 : Int32) < 0, ¬ (10 : Int32) < 0, 0 + 10 ≤ 10, 0 + 10 ≤ 10, ¬ (0 : Int32) < 0, ¬ (0 : Int32) < 0, ¬ (10 : Int32) < 0, 0 + 10 ≤ 10, 0 + 10 ≤ 10, ¬ (0 : Int32) < 0, ¬ (0 : Int32) < 0, ¬ (10 : Int32) < 0, 0 + 10 ≤ 10, 0 + 10 ≤ 10, ¬ (0 : Int32) < 0, ¬ (0 : Int32) < 0, ¬ (10 : Int32) < 0, 0 + 10 ≤ 10, 0 + 10 ≤ 10, ¬ (0 : Int32) < 0, ¬ (0 : Int32) < 0, ¬ (10 : Int32) < 0, 0 + 10 ≤ 10, 0 + 10 ≤ 10, ¬ (0 : Int32) < 0, ¬ (0 : Int32) < 0, ¬ (10 : Int32) < 0, 0 + 10 ≤ 10, 0 + 10 ≤ 10, ¬ (0 : Int32) < 0, ¬ (0 : Int32) < 0, ¬ (5 : Int32) < 0, 0 + 5 ≤ 5, 0 + 5 ≤ 5, ¬ (0 : Int32) < 0, ¬ (0 : Int32) < 0, ¬ (3 : Int32) < 0, 0 + 3 ≤ 3, 0 + 3 ≤ 3, ¬ (0 : Int32) < 0, ¬ (0 : Int32) < 0, ¬ (100 : Int32) < 0, 0 + 100 ≤ 100, 0 + 100 ≤ 100, ¬ (0 : Int32) < 0, ¬ (0 : Int32) < 0, ¬ (40 : Int32) < 0, 0 + 40 ≤ 40, 0 + 40 ≤ 40] 195 ([some (.ref 13), some (.ref 1)], [], (x_up (x_up (x_up (x_up (x_up (x_up (x_up (x_up (x_up (x_up (x_up (x_up (x_up (x_up (x_up σ 13 (upd (σ 13) 0 ((σ 1 0)))) 13 (upd (upd (σ 13) 0 ((σ 1 0))) 1 ((σ 1 1)))) 13 (upd (upd (upd (σ 13) 0 ((σ 1 0))) 1 ((σ 1 1))) 2 ((σ 1 2)))) 13 (upd (upd (upd (upd (σ 13) 0 ((σ 1 0))) 1 ((σ 1 1))) 2 ((σ 1 2))) 13 ((σ 1 13)))) 14 (va_cpy (σ 2) (σ 14) 0 0 10)) 15 (va_cpy (σ 3) (σ 15) 0 0 10)) 16 (va_cpy (σ 4) (σ 16) 0 0 10)) 17 (va_cpy (σ 5) (σ 17) 0 0 10)) 18 (va_cpy (σ 6) (σ 18) 0 0 10)) 19 (va_cpy (σ 7) (σ 19) 0 0 10)) 20 (va_cpy (σ 8) (σ 20) 0 0 10)) 21 (va_cpy (σ 9) (σ 21) 0 0 5)) 22 (va_cpy (σ 10) (σ 22) 0 0 3)) 23 (va_cpy (σ 11) (σ 23) 0 0 100)) 24 (va_cpy (σ 12) (σ 24) 0 0 40))) rfl ?_ ?_
  · exact ⟨by decide, by decide, by decide, by decide, by decide, by decide, by decide, by decide, by decide, by decide, by decide, by decide, by decide, by decide, by decide, by decide, by decide, by decide, by decide, by decide, by decide, by decide, by decide, by decide, by decide, by decide, by decide, by decide, by decide, by decide, by decide, by decide, by decide, by decide, by decide, by decide, by decide, by decide, by decide, by decide, by decide, by decide, by decide, by decide, by decide, by decide, by decide, by decide, by decide, by decide, by decide, by decide, by decide, by decide, (show 0 + 40 ≤ 40 by decide)⟩
  refine ev_vret rfl rfl ⟨rfl, fun c h => ?_, fun i h => ?_, fun j i h1 h2 h3 => ?_, fun i hi => ?_, fun i hi => ?_, fun i hi => ?_, fun i hi => ?_⟩
  · have hne : ∀ k, 13 ≤ k → k ≤ 24 → c ≠ k := fun k a b q => by omega
    simp only [x_up]
    rw [if_neg (hne 24 (by decide) (by decide)), if_neg (hne 23 (by decide) (by decide)), if_neg (hne 22 (by decide) (by decide)), if_neg (hne 21 (by decide) (by decide)), if_neg (hne 20 (by decide) (by decide)), if_neg (hne 19 (by decide) (by decide)), if_neg (hne 18 (by decide) (by decide)), if_neg (hne 17 (by decide) (by decide)), if_neg (hne 16 (by decide) (by decide)), if_neg (hne 15 (by decide) (by decide)), if_neg (hne 14 (by decide) (by decide)), if_neg (hne 13 (by decide) (by decide)), if_neg (hne 13 (by decide) (by decide)), if_neg (hne 13 (by decide) (by decide)), if_neg (hne 13 (by decide) (by decide))]
  · rcases h with rfl | rfl | rfl | rfl <;> simp [x_up, upd]
  · rcases (show j = 1 ∨ j = 2 ∨ j = 3 ∨ j = 4 ∨ j = 5 ∨ j = 6 ∨ j = 7 by omega) with rfl | rfl | rfl | rfl | rfl | rfl | rfl
    · show va_cpy (σ 2) (σ 14) 0 0 10 i = σ 2 i
      rw [pk_cpy_in (by omega) (by omega)]
      simp
    · show va_cpy (σ 3) (σ 15) 0 0 10 i = σ 3 i
      rw [pk_cpy_in (by omega) (by omega)]
      simp
    · show va_cpy (σ 4) (σ 16) 0 0 10 i = σ 4 i
      rw [pk_cpy_in (by omega) (by omega)]
      simp
    · show va_cpy (σ 5) (σ 17) 0 0 10 i = σ 5 i
      rw [pk_cpy_in (by omega) (by omega)]
      simp
    · show va_cpy (σ 6) (σ 18) 0 0 10 i = σ 6 i
      rw [pk_cpy_in (by omega) (by omega)]
      simp
    · show va_cpy (σ 7) (σ 19) 0 0 10 i = σ 7 i
      rw [pk_cpy_in (by omega) (by omega)]
      simp
    · show va_cpy (σ 8) (σ 20) 0 0 10 i = σ 8 i
      rw [pk_cpy_in (by omega) (by omega)]
      simp
  · show va_cpy (σ 9) (σ 21) 0 0 5 i = σ 9 i
    rw [pk_cpy_in (by omega) (by omega)]
    simp
  · show va_cpy (σ 10) (σ 22) 0 0 3 i = σ 10 i
    rw [pk_cpy_in (by omega) (by omega)]
    simp
  · show va_cpy (σ 11) (σ 23) 0 0 100 i = σ 11 i
    rw [pk_cpy_in (by omega) (by omega)]
    simp
  · show va_cpy (σ 12) (σ 24) 0 0 40 i = σ 12 i
    rw [pk_cpy_in (by omega) (by omega)]
    simp
set_option maxRecDepth 100000 in
theorem c_become1 (σ : xSg) : xCtr M_X3_become [.ref 1, .ref 13] σ (kpQ 13 1 σ) := by
  refine ctr_ev ok_X3_become (by decide +kernel) rfl rfl rfl ?_
  show xEv (.inl 1) M_X3_become _ 0 ([some (.ref 1), some (.ref 13)], [], σ)
  refine ev_blk 104 [¬ (0 : Int32) < 0, ¬ (0 : Int32) < 0, ¬ (10 : Int32) < 0, 0 + 10 ≤ 10, 0 + 10 ≤ 10, ¬ (0 : Int32) < 0, ¬ (0 : Int32) < 0, ¬ (10 : Int32) < 0, 0 + 10 ≤ 10, 0 + 10 ≤ 10, ¬ (0 : Int32) < 0, ¬ (0 : Int32) < 0, ¬ (10 : Int32) < 0, 0 + 10 ≤ 10, 0 + 10 ≤ 10, ¬ (0 : Int32) < 0, ¬ (0 : Int32) < 0, ¬ (10 : Int32) < 0, 0 + 10 ≤ 10, 0 + 10 ≤ 10, ¬ (0 : Int32) < 0, ¬ (0 : Int32) < 0, ¬ (10 : Int32) < 0, 0 + 10 ≤ 10, 0 + 10 ≤ 10, ¬ (0 : Int32) < 0, ¬ (0 : Int32) < 0, ¬ (10 : Int32) < 0, 0 + 10 ≤ 10, 0 + 10 ≤ 10, ¬ (0 : Int32) < 0, ¬ (0 : Int32) < 0, ¬ (10 : Int32) < 0, 0 + 10 ≤ 10, 0 + 10 ≤ 10, ¬ (0 : Int32) < 0, ¬ (0 : Int32) < 0, ¬ (5 : Int32) < 0, 0 + 5 ≤ 5, 0 + 5 ≤ 5, ¬ (0 : Int32) < 0, ¬ (0 : Int32) < 0, ¬ (3 : Int32) < 0, 0 + 3 ≤ 3, 0 + 3 ≤ 3, ¬ (0 : Int32) < 0, ¬ (0 : Int32) < 0, ¬ (100 : Int32) < 0, 0 + 100 ≤ 100, 0 + 100 ≤ 100, ¬ (0 : Int32) < 0, ¬ (0 : Int32) < 0, ¬ (40 : Int32) < 0, 0 + 40 ≤ 40, 0 + 40 ≤ 40] 195 ([some (.ref 1), some (.ref 13)], [], (x_up (x_up (x_up (x_up (x_up (x_up (x_up (x_up (x_up (x_up (x_up (x_up (x_up (x_up (x_up σ 1 (upd (σ 1) 0 ((σ 13 0)))) 1 (upd (upd (σ 1) 0 ((σ 13 0))) 1 ((σ 13 1)))) 1 (upd (upd (upd (σ 1) 0 ((σ 13 0))) 1 ((σ 13 1))) 2 ((σ 13 2)))) 1 (upd (upd (upd (upd (σ 1) 0 ((σ 13 0))) 1 ((σ 13 1))) 2 ((σ 13 2))) 13 ((σ 13 13)))) 2 (va_cpy (σ 14) (σ 2) 0 0 10)) 3 (va_cpy (σ 15) (σ 3) 0 0 10)) 4 (va_cpy (σ 16) (σ 4) 0 0 10)) 5 (va_cpy (σ 17) (σ 5) 0 0 10)) 6 (va_cpy (σ 18) (σ 6) 0 0 10)) 7 (va_cpy (σ 19) (σ 7) 0 0 10)) 8 (va_cpy (σ 20) (σ 8) 0 0 10)) 9 (va_cpy (σ 21) (σ 9) 0 0 5)) 10 (va_cpy (σ 22) (σ 10) 0 0 3)) 11 (va_cpy (σ 23) (σ 11) 0 0 100)) 12 (va_cpy (σ 24) (σ 12) 0 0 40))) rfl ?_ ?_
  · exact ⟨by decide, by decide, by decide, by decide, by decide, by decide, by decide, by decide, by decide, by decide, by decide, by decide, by decide, by decide, by decide, by decide, by decide, by decide, by decide, by decide, by decide, by decide, by decide, by decide, by decide, by decide, by decide, by decide, by decide, by decide, by decide, by decide, by decide, by decide, by decide, by decide, by decide, by decide, by decide, by decide, by decide, by decide, by decide, by decide, by decide, by decide, by decide, by decide, by decide, by decide, by decide, by decide, by decide, by decide, (show 0 + 40 ≤ 40 by decide)⟩
  refine ev_vret rfl rfl ⟨rfl, fun c h => ?_, fun i h => ?_, fun j i h1 h2 h3 => ?_, fun i hi => ?_, fun i hi => ?_, fun i hi => ?_, fun i hi => ?_⟩
  · have hne : ∀ k, 1 ≤ k → k ≤ 12 → c ≠ k := fun k a b q => by omega
    simp only [x_up]
    rw [if_neg (hne 12 (by decide) (by decide)), if_neg (hne 11 (by decide) (by decide)), if_neg (hne 10 (by decide) (by decide)), if_neg (hne 9 (by decide) (by decide)), if_neg (hne 8 (by decide) (by decide)), if_neg (hne 7 (by decide) (by decide)), if_neg (hne 6 (by decide) (by decide)), if_neg (hne 5 (by decide) (by decide)), if_neg (hne 4 (by decide) (by decide)), if_neg (hne 3 (by decide) (by decide)), if_neg (hne 2 (by decide) (by decide)), if_neg (hne 1 (by decide) (by decide)), if_neg (hne 1 (by decide) (by decide)), if_neg (hne 1 (by decide) (by decide)), if_neg (hne 1 (by decide) (by decide))]
  · rcases h with rfl | rfl | rfl | rfl <;> simp [x_up, upd]
  · rcases (show j = 1 ∨ j = 2 ∨ j = 3 ∨ j = 4 ∨ j = 5 ∨ j = 6 ∨ j = 7 by omega) with rfl | rfl | rfl | rfl | rfl | rfl | rfl
    · show va_cpy (σ 14) (σ 2) 0 0 10 i = σ 14 i
      rw [pk_cpy_in (by omega) (by omega)]
      simp
    · show va_cpy (σ 15) (σ 3) 0 0 10 i = σ 15 i
      rw [pk_cpy_in (by omega) (by omega)]
      simp
    · show va_cpy (σ 16) (σ 4) 0 0 10 i = σ 16 i
      rw [pk_cpy_in (by omega) (by omega)]
      simp
    · show va_cpy (σ 17) (σ 5) 0 0 10 i = σ 17 i
      rw [pk_cpy_in (by omega) (by omega)]
      simp
    · show va_cpy (σ 18) (σ 6) 0 0 10 i = σ 18 i
      rw [pk_cpy_in (by omega) (by omega)]
      simp
    · show va_cpy (σ 19) (σ 7) 0 0 10 i = σ 19 i
      rw [pk_cpy_in (by omega) (by omega)]
      simp
    · show va_cpy (σ 20) (σ 8) 0 0 10 i = σ 20 i
      rw [pk_cpy_in (by omega) (by omega)]
      simp
  · show va_cpy (σ 21) (σ 9) 0 0 5 i = σ 21 i
    rw [pk_cpy_in (by omega) (by omega)]
    simp
  · show va_cpy (σ 22) (σ 10) 0 0 3 i = σ 22 i
    rw [pk_cpy_in (by omega) (by omega)]
    simp
  · show va_cpy (σ 23) (σ 11) 0 0 100 i = σ 23 i
    rw [pk_cpy_in (by omega) (by omega)]
    simp
  · show va_cpy (σ 24) (σ 12) 0 0 40 i = σ 24 i
    rw [pk_cpy_in (by omega) (by omega)]
    simp
