theorem n40 (W : Nat) : (40 : Int32) * (nI W) = nI (40 * W) := (Int32.ofNat_mul 40 W).symm
def shPM (S : List Nat) (P : List Nat) (σ : xSg) (X : Int32 × (Nat → shD)) : Option Value → xSg → Prop := fun r σ' => r = some (.int X.1) ∧ shM σ' X.2 ∧ xFm S P σ σ'
theorem shM_put {σ σ' : xSg} {D : Nat → shD} {W : Nat} {d : shD} (h : shM σ D) (ho : shOk d) (h0 : ∀ i, i < 4 → σ' 86 i = if i = W then d.1 + 1 else σ 86 i) (h1 : ∀ i, i < 4 → σ' 87 i = if i = W then nI d.2.1 else σ 87 i) (hi : ∀ j, j < 40 → σ' 88 (40 * W + j) = d.2.2 j) (hf : ∀ k, (k < 40 * W ∨ 40 * W + 40 ≤ k) → σ' 88 k = σ 88 k) : shM σ' (updD D W d) := by
  intro i hi4
  unfold updD
  by_cases e : i = W
  · subst e
    simp only [if_true]
    exact ⟨ho, by rw [h0 i hi4, if_pos rfl], by rw [h1 i hi4, if_pos rfl], hi⟩
  · simp only [if_neg e]
    obtain ⟨a, b, c, d⟩ := h i hi4
    exact ⟨a, by rw [h0 i hi4, if_neg e]; exact b, by rw [h1 i hi4, if_neg e]; exact c, fun j hj => by rw [hf _ (by omega)]; exact d j hj⟩
theorem so_in {so : Int32} : (¬ so < -1 ∧ ¬ 1 < so) ↔ (so = -1 ∨ so = 0 ∨ so = 1) := by
  rw [Int32.lt_iff_toInt_lt, Int32.lt_iff_toInt_lt, ← Int32.toInt_inj, ← Int32.toInt_inj, ← Int32.toInt_inj, show ((-1 : Int32)).toInt = -1 by decide, show ((1 : Int32)).toInt = 1 by decide, show ((0 : Int32)).toInt = 0 by decide]
  omega
theorem mSh40 {n : Nat} {x : Int32} (hn : n ≤ 40) : (¬ x < 0 ∧ ¬ nI n - 1 < x) ↔ iN n x := by
  constructor
  · rintro ⟨a, b⟩
    obtain ⟨j, hj, rfl⟩ := nI_of a
    cases n with
    | zero => exact absurd (show nI 0 - 1 < nI j from Int32.lt_of_lt_of_le (show nI 0 - 1 < 0 by decide) (Int32.not_lt.mp a)) b
    | succ n =>
      rw [show nI (n + 1) - 1 = nI n from i_sub (b := 1) (by omega)] at b
      exact ⟨a, nI_ge (by have := mt (fun z => nI_lt (a := n) (b := j) z hj) b; omega) (by omega)⟩
  · rintro ⟨a, b⟩
    obtain ⟨j, hj, rfl⟩ := nI_of a
    have hjn : j < n := Nat.lt_of_not_le (fun z => b (nI_le z hj))
    refine ⟨a, ?_⟩
    rw [show nI n - 1 = nI (n - 1) from i_sub (b := 1) (by omega)]
    exact nI_nlt (by omega) (by omega)
theorem iN_of {n : Nat} {x : Int32} (h : iN n x) : ∃ j, j < n ∧ j < 2 ^ 31 ∧ x = nI j := by
  obtain ⟨j, hj, rfl⟩ := nI_of h.1
  exact ⟨j, Nat.lt_of_not_le (fun z => h.2 (nI_le z hj)), hj, rfl⟩
theorem so_p1 : ∀ {so : Int32}, (so = -1 ∨ so = 0 ∨ so = 1) → (so + 1 = 0 ↔ so = -1) ∧ (so + 1 = 1 ↔ so = 0) := by
  rintro so (rfl | rfl | rfl) <;> decide
theorem so_eq : ∀ {so st : Int32}, (so + 1 = st + 1 ↔ so = st) := by
  intro so st
  constructor
  · intro h
    have := congrArg (· - 1) h
    simpa [Int32.add_sub_cancel] using this
  · rintro rfl; rfl
theorem iN4 {x : Int32} : (¬ x < 0 ∧ ¬ (3 : Int32) < x) ↔ iN 4 x := by
  show _ ↔ ¬ x < 0 ∧ ¬ (4 : Int32) ≤ x
  rw [Int32.lt_iff_toInt_lt, Int32.lt_iff_toInt_lt, Int32.le_iff_toInt_le, show ((3 : Int32)).toInt = 3 by decide, show ((4 : Int32)).toInt = 4 by decide]
  omega
set_option maxRecDepth 100000 in
theorem m_sheet_lp (σ0 : xSg) (W : Nat) (hW : W < 4) (so n : Int32) (Q : Option Value → xSg → Prop) (kK : ∀ g : Nat → Int32, (∀ j, j < 40 → g (40 * W + j) = 0) → (∀ k, (k < 40 * W ∨ 40 * W + 40 ≤ k) → g k = σ0 88 k) → xEv (.inl 2) M_X6_sheet Q 93 ([some (.ref 57), some (.int (nI W)), some (.int (so)), some (.int (n)), none], [], (x_up σ0 88 g))) : ∀ (m i : Nat) (g : Nat → Int32), i + m = 40 → (∀ j, j < i → g (40 * W + j) = 0) → (∀ k, (k < 40 * W ∨ 40 * W + 40 ≤ k) → g k = σ0 88 k) → xEv (.inl 2) M_X6_sheet Q 67 ([some (.ref 57), some (.int (nI W)), some (.int (so)), some (.int (n)), some (.int (nI i))], [], (x_up σ0 88 g)) := by
  intro m
  induction m with
  | zero =>
    intro i g hi h0 h1
    refine ev_br 2 [] ((40 : Int32) ≤ (nI i)) 93 74 ([some (.ref 57), some (.int (nI W)), some (.int (so)), some (.int (n)), some (.int (nI i))], [], (x_up σ0 88 g)) rfl ?_ (fun c71 => ?_) (fun c71 => ?_)
    · trivial
    · refine ev_drop 4 ?_
      exact kK g (fun j hj => h0 j (by omega)) h1
    · exact absurd (show (40 : Int32) ≤ nI i from nI_le (a := 40) (by omega) (by omega)) c71
  | succ m ih =>
    intro i g hi h0 h1
    have hix : ((40 : Int32) * (nI W)) + (nI i) = nI (40 * W + i) := by rw [n40, nI_add]
    have hic : (((40 : Int32) * (nI W)) + (nI i)).toNatClampNeg = 40 * W + i := by rw [hix, nI_clamp (by omega)]
    refine ev_br 2 [] ((40 : Int32) ≤ (nI i)) 93 74 ([some (.ref 57), some (.int (nI W)), some (.int (so)), some (.int (n)), some (.int (nI i))], [], (x_up σ0 88 g)) rfl ?_ (fun c71 => ?_) (fun c71 => ?_)
    · trivial
    · exact absurd c71 (nI_ge (b := 40) (by omega) (by decide))
    · refine ev_blk 11 [vp_in (((40 : Int32) * (nI W)) + (nI i)) 160] 67 ([some (.ref 57), some (.int (nI W)), some (.int (so)), some (.int (n)), some (.int ((nI i) + (1 : Int32)))], [], (x_up (x_up σ0 88 g) 88 (upd g (((40 : Int32) * (nI W)) + (nI i)).toNatClampNeg ((0 : Int32))))) rfl ?_ ?_
      · rw [hix]; exact vp_in_nI (by omega) (by decide)
      rw [hic]
      rw [nI_1, x_up_up]
      refine ih (i + 1) _ (by omega) (fun j hj => ?_) (fun k hk => ?_)
      · by_cases hji : j = i
        · rw [hji, upd_eq]
        · rw [upd_ne (by omega)]; exact h0 j (by omega)
      · rw [upd_ne (by omega)]; exact h1 k hk
set_option maxRecDepth 100000 in
theorem m_sheet (σ : xSg) (D : Nat → shD) (hD : shM σ D) (s so n : Int32) : xCtr M_X6_sheet [.ref 57, .int (s), .int (so), .int (n)] σ (shPM [86, 87, 88] [] σ (s_sheet D s so n)) := by
  refine ctr_ev ok_X6_sheet (by decide +kernel) rfl rfl rfl ?_
  show xEv (.inl 2) M_X6_sheet _ 0 ([some (.ref 57), some (.int (s)), some (.int (so)), some (.int (n)), none], [], σ)
  refine ev_blk 1 [] 1 ([some (.ref 57), some (.int (s)), some (.int (so)), some (.int (n)), none], [.int (s)], σ) rfl ?_ ?_
  · trivial
  refine ev_callS M_X6_isSheet [.int (s)] [] rfl rfl ln_X6_203 k_X6_isSheet rfl rfl rfl (m_isSheet _ _) ?_
  refine pu_k ?_
  show xEv _ _ _ 4 ([some (.ref 57), some (.int (s)), some (.int (so)), some (.int (n)), none], [.int (zi (¬ s < 0 ∧ ¬ (3 : Int32) < s))], σ)
  refine ev_br 0 [] ((zi (¬ s < 0 ∧ ¬ (3 : Int32) < s)) = 0) 26 7 ([some (.ref 57), some (.int (s)), some (.int (so)), some (.int (n)), none], [], σ) rfl ?_ (fun c4 => ?_) (fun c4 => ?_)
  · trivial
  · replace c4 := zi_0.mp c4
    refine ev_blk 1 [] 28 ([some (.ref 57), some (.int (s)), some (.int (so)), some (.int (n)), none], [.int ((-2 : Int32))], σ) rfl ?_ ?_
    · trivial
    have e : s_sheet D s so n = (-2, D) := by rw [s_sheet, if_pos (fun q => c4 (iN4.mpr q))]
    rw [e]
    exact ev_iret rfl rfl rfl ⟨rfl, hD, xFm.rf⟩
  · replace c4 := zi_1.mp c4
    refine ev_blk 3 [] 10 ([some (.ref 57), some (.int (s)), some (.int (so)), some (.int (n)), none], [.int ((1 : Int32)), .int ((-1 : Int32)), .int (so)], σ) rfl ?_ ?_
    · trivial
    refine ev_callS M_X6_within [.int (so), .int ((-1 : Int32)), .int ((1 : Int32))] [] rfl rfl ln_X6_110 k_X6_within rfl rfl rfl (m_within _ _ _ _) ?_
    refine pu_k ?_
    show xEv _ _ _ 13 ([some (.ref 57), some (.int (s)), some (.int (so)), some (.int (n)), none], [.int (zi (¬ so < (-1 : Int32) ∧ ¬ (1 : Int32) < so))], σ)
    refine ev_br 0 [] ((zi (¬ so < (-1 : Int32) ∧ ¬ (1 : Int32) < so)) = 0) 26 16 ([some (.ref 57), some (.int (s)), some (.int (so)), some (.int (n)), none], [], σ) rfl ?_ (fun c13 => ?_) (fun c13 => ?_)
    · trivial
    · replace c13 := zi_0.mp c13
      refine ev_blk 1 [] 28 ([some (.ref 57), some (.int (s)), some (.int (so)), some (.int (n)), none], [.int ((-2 : Int32))], σ) rfl ?_ ?_
      · trivial
      have e : s_sheet D s so n = (-2, D) := by rw [s_sheet, if_neg (fun q => q (iN4.mp c4)), if_pos (fun q => c13 (so_in.mpr q))]
      rw [e]
      exact ev_iret rfl rfl rfl ⟨rfl, hD, xFm.rf⟩
    · replace c13 := zi_1.mp c13
      have hs := iN4.mp c4
      obtain ⟨W, hW, _, rfl⟩ := iN_of hs
      have hWc : (nI W).toNatClampNeg = W := nI_clamp (by omega)
      have hin : vp_in (nI W) 4 := vp_in_nI hW (by decide)
      have hso := so_in.mp c13
      rcases hso with rfl | rfl | rfl
      · show xEv _ _ _ 16 ([some (.ref 57), some (.int (nI W)), some (.int ((-1 : Int32))), some (.int (n)), none], [], σ)
        refine ev_br 1 [] ((-1 : Int32) < 0) 29 20 ([some (.ref 57), some (.int (nI W)), some (.int ((-1 : Int32))), some (.int (n)), none], [], σ) rfl ?_ (fun c17 => ?_) (fun c17 => ?_)
        · trivial
        · refine ev_br 1 [] ((-1 : Int32) < 0) 40 33 ([some (.ref 57), some (.int (nI W)), some (.int ((-1 : Int32))), some (.int (n)), none], [], σ) rfl ?_ (fun c30 => ?_) (fun c30 => ?_)
          · trivial
          · refine ev_br 11 [vp_in (nI W) 4] (0 ≤ (-1 : Int32)) 62 58 ([some (.ref 57), some (.int (nI W)), some (.int ((-1 : Int32))), some (.int (n)), none], [.int (nI W), .ref 87], (x_up σ 86 (upd (σ 86) (nI W).toNatClampNeg ((0 : Int32))))) rfl ?_ (fun c55 => ?_) (fun c55 => ?_)
            · exact hin
            · exact absurd c55 (by decide)
            · rw [hWc]
              refine ev_blk 5 [vp_in (nI W) 4] 67 ([some (.ref 57), some (.int (nI W)), some (.int ((-1 : Int32))), some (.int (n)), some (.int ((0 : Int32)))], [], (x_up (x_up σ 86 (upd (σ 86) W ((0 : Int32)))) 87 (upd (σ 87) (nI W).toNatClampNeg ((0 : Int32))))) rfl ?_ ?_
              · exact hin
              rw [hWc]
              have e : s_sheet D (nI W) (-1) n = (1, updD D W (-1, 0, fun _ => 0)) := by rw [s_sheet, if_neg (fun q => q hs), if_neg (fun q => q (by decide)), if_pos rfl, hWc]
              rw [e]
              have hl := fun kK => m_sheet_lp (x_up (x_up σ 86 (upd (σ 86) W ((0 : Int32)))) 87 (upd (σ 87) W ((0 : Int32)))) W hW (-1) n (shPM [86, 87, 88] [] σ (1, updD D W (-1, 0, fun _ => 0))) kK 40 0 ((x_up (x_up σ 86 (upd (σ 86) W ((0 : Int32)))) 87 (upd (σ 87) W ((0 : Int32)))) 88) (by omega) (fun j hj => absurd hj (Nat.not_lt_zero j)) (fun _ _ => rfl)
              rw [x_up_self] at hl
              refine hl (fun g k0 k1 => ?_)
              refine ev_blk 1 [] 94 ([some (.ref 57), some (.int (nI W)), some (.int ((-1 : Int32))), some (.int (n)), none], [.int ((1 : Int32))], (x_up (x_up (x_up σ 86 (upd (σ 86) W ((0 : Int32)))) 87 (upd (σ 87) W ((0 : Int32)))) 88 g)) rfl ?_ ?_
              · trivial
              refine ev_iret rfl rfl rfl ⟨rfl, shM_put (W := W) hD ⟨Or.inl rfl, by show 0 ≤ 40; omega⟩ (fun i hi => ?_) (fun i hi => ?_) k0 (fun k hk => (k1 k hk).trans ?_), ⟨fun c hc hn => ?_, fun i _ => ?_⟩⟩
              · by_cases e2 : i = W <;> simp [x_up, upd, e2]
              · by_cases e2 : i = W
                · simp [x_up, upd, e2]; rfl
                · simp [x_up, upd, e2]
              · simp [x_up]
              · simp only [List.mem_cons, List.not_mem_nil, or_false, not_or] at hc; simp [x_up, hc]
              · simp [x_up]
          · exact absurd (by decide) c30
        · exact absurd (by decide) c17
      · show xEv _ _ _ 16 ([some (.ref 57), some (.int (nI W)), some (.int ((0 : Int32))), some (.int (n)), none], [], σ)
        refine ev_br 1 [] ((0 : Int32) < 0) 29 20 ([some (.ref 57), some (.int (nI W)), some (.int ((0 : Int32))), some (.int (n)), none], [], σ) rfl ?_ (fun c17 => ?_) (fun c17 => ?_)
        · trivial
        · exact absurd c17 (by decide)
        · refine ev_br 2 [] (n ≤ (40 : Int32)) 29 26 ([some (.ref 57), some (.int (nI W)), some (.int ((0 : Int32))), some (.int (n)), none], [], σ) rfl ?_ (fun c23 => ?_) (fun c23 => ?_)
          · trivial
          · refine ev_br 1 [] ((0 : Int32) < 0) 40 33 ([some (.ref 57), some (.int (nI W)), some (.int ((0 : Int32))), some (.int (n)), none], [], σ) rfl ?_ (fun c30 => ?_) (fun c30 => ?_)
            · trivial
            · exact absurd c30 (by decide)
            · refine ev_br 1 [] (0 ≤ n) 40 37 ([some (.ref 57), some (.int (nI W)), some (.int ((0 : Int32))), some (.int (n)), none], [], σ) rfl ?_ (fun c34 => ?_) (fun c34 => ?_)
              · trivial
              · refine ev_br 11 [vp_in (nI W) 4] (0 ≤ (0 : Int32)) 62 58 ([some (.ref 57), some (.int (nI W)), some (.int ((0 : Int32))), some (.int (n)), none], [.int (nI W), .ref 87], (x_up σ 86 (upd (σ 86) (nI W).toNatClampNeg ((1 : Int32))))) rfl ?_ (fun c55 => ?_) (fun c55 => ?_)
                · exact hin
                · rw [hWc]
                  refine ev_blk 4 [vp_in (nI W) 4] 67 ([some (.ref 57), some (.int (nI W)), some (.int ((0 : Int32))), some (.int (n)), some (.int ((0 : Int32)))], [], (x_up (x_up σ 86 (upd (σ 86) W ((1 : Int32)))) 87 (upd (σ 87) (nI W).toNatClampNeg (n)))) rfl ?_ ?_
                  · exact hin
                  rw [hWc]
                  obtain ⟨m, hm, rfl⟩ := n_40 (Int32.not_lt.mpr c34) (Int32.not_lt.mpr c23)
                  have hmc : (nI m).toNatClampNeg = m := nI_clamp (by omega)
                  have e : s_sheet D (nI W) (0) (nI m) = (1, updD D W (0, m, fun _ => 0)) := by rw [s_sheet, if_neg (fun q => q hs), if_neg (fun q => q (by decide)), if_neg (by decide), if_neg (Int32.not_lt.mpr c23), if_neg (Int32.not_lt.mpr c34), hWc, hmc]
                  rw [e]
                  have hl := fun kK => m_sheet_lp (x_up (x_up σ 86 (upd (σ 86) W ((1 : Int32)))) 87 (upd (σ 87) W (nI m))) W hW (0) (nI m) (shPM [86, 87, 88] [] σ (1, updD D W (0, m, fun _ => 0))) kK 40 0 ((x_up (x_up σ 86 (upd (σ 86) W ((1 : Int32)))) 87 (upd (σ 87) W (nI m))) 88) (by omega) (fun j hj => absurd hj (Nat.not_lt_zero j)) (fun _ _ => rfl)
                  rw [x_up_self] at hl
                  refine hl (fun g k0 k1 => ?_)
                  refine ev_blk 1 [] 94 ([some (.ref 57), some (.int (nI W)), some (.int ((0 : Int32))), some (.int (nI m)), none], [.int ((1 : Int32))], (x_up (x_up (x_up σ 86 (upd (σ 86) W ((1 : Int32)))) 87 (upd (σ 87) W (nI m))) 88 g)) rfl ?_ ?_
                  · trivial
                  refine ev_iret rfl rfl rfl ⟨rfl, shM_put (W := W) hD ⟨Or.inr (Or.inl rfl), by show m ≤ 40; omega⟩ (fun i hi => ?_) (fun i hi => ?_) k0 (fun k hk => (k1 k hk).trans ?_), ⟨fun c hc hn => ?_, fun i _ => ?_⟩⟩
                  · by_cases e2 : i = W <;> simp [x_up, upd, e2]
                  · by_cases e2 : i = W
                    · simp [x_up, upd, e2]
                    · simp [x_up, upd, e2]
                  · simp [x_up]
                  · simp only [List.mem_cons, List.not_mem_nil, or_false, not_or] at hc; simp [x_up, hc]
                  · simp [x_up]
                · exact absurd (by decide) c55
              · refine ev_blk 1 [] 39 ([some (.ref 57), some (.int (nI W)), some (.int ((0 : Int32))), some (.int (n)), none], [.int ((-14 : Int32))], σ) rfl ?_ ?_
                · trivial
                have e : s_sheet D (nI W) (0) n = (-14, D) := by rw [s_sheet, if_neg (fun q => q hs), if_neg (fun q => q (by decide)), if_neg (by decide), if_neg (Int32.not_lt.mpr c23), if_pos (Int32.not_le.mp c34)]
                rw [e]
                exact ev_iret rfl rfl rfl ⟨rfl, hD, xFm.rf⟩
          · refine ev_blk 1 [] 28 ([some (.ref 57), some (.int (nI W)), some (.int ((0 : Int32))), some (.int (n)), none], [.int ((-2 : Int32))], σ) rfl ?_ ?_
            · trivial
            have e : s_sheet D (nI W) (0) n = (-2, D) := by rw [s_sheet, if_neg (fun q => q hs), if_neg (fun q => q (by decide)), if_neg (by decide), if_pos (Int32.not_le.mp c23)]
            rw [e]
            exact ev_iret rfl rfl rfl ⟨rfl, hD, xFm.rf⟩
      · show xEv _ _ _ 16 ([some (.ref 57), some (.int (nI W)), some (.int ((1 : Int32))), some (.int (n)), none], [], σ)
        refine ev_br 1 [] ((1 : Int32) < 0) 29 20 ([some (.ref 57), some (.int (nI W)), some (.int ((1 : Int32))), some (.int (n)), none], [], σ) rfl ?_ (fun c17 => ?_) (fun c17 => ?_)
        · trivial
        · exact absurd c17 (by decide)
        · refine ev_br 2 [] (n ≤ (40 : Int32)) 29 26 ([some (.ref 57), some (.int (nI W)), some (.int ((1 : Int32))), some (.int (n)), none], [], σ) rfl ?_ (fun c23 => ?_) (fun c23 => ?_)
          · trivial
          · refine ev_br 1 [] ((1 : Int32) < 0) 40 33 ([some (.ref 57), some (.int (nI W)), some (.int ((1 : Int32))), some (.int (n)), none], [], σ) rfl ?_ (fun c30 => ?_) (fun c30 => ?_)
            · trivial
            · exact absurd c30 (by decide)
            · refine ev_br 1 [] (0 ≤ n) 40 37 ([some (.ref 57), some (.int (nI W)), some (.int ((1 : Int32))), some (.int (n)), none], [], σ) rfl ?_ (fun c34 => ?_) (fun c34 => ?_)
              · trivial
              · refine ev_br 11 [vp_in (nI W) 4] (0 ≤ (1 : Int32)) 62 58 ([some (.ref 57), some (.int (nI W)), some (.int ((1 : Int32))), some (.int (n)), none], [.int (nI W), .ref 87], (x_up σ 86 (upd (σ 86) (nI W).toNatClampNeg ((2 : Int32))))) rfl ?_ (fun c55 => ?_) (fun c55 => ?_)
                · exact hin
                · rw [hWc]
                  refine ev_blk 4 [vp_in (nI W) 4] 67 ([some (.ref 57), some (.int (nI W)), some (.int ((1 : Int32))), some (.int (n)), some (.int ((0 : Int32)))], [], (x_up (x_up σ 86 (upd (σ 86) W ((2 : Int32)))) 87 (upd (σ 87) (nI W).toNatClampNeg (n)))) rfl ?_ ?_
                  · exact hin
                  rw [hWc]
                  obtain ⟨m, hm, rfl⟩ := n_40 (Int32.not_lt.mpr c34) (Int32.not_lt.mpr c23)
                  have hmc : (nI m).toNatClampNeg = m := nI_clamp (by omega)
                  have e : s_sheet D (nI W) (1) (nI m) = (1, updD D W (1, m, fun _ => 0)) := by rw [s_sheet, if_neg (fun q => q hs), if_neg (fun q => q (by decide)), if_neg (by decide), if_neg (Int32.not_lt.mpr c23), if_neg (Int32.not_lt.mpr c34), hWc, hmc]
                  rw [e]
                  have hl := fun kK => m_sheet_lp (x_up (x_up σ 86 (upd (σ 86) W ((2 : Int32)))) 87 (upd (σ 87) W (nI m))) W hW (1) (nI m) (shPM [86, 87, 88] [] σ (1, updD D W (1, m, fun _ => 0))) kK 40 0 ((x_up (x_up σ 86 (upd (σ 86) W ((2 : Int32)))) 87 (upd (σ 87) W (nI m))) 88) (by omega) (fun j hj => absurd hj (Nat.not_lt_zero j)) (fun _ _ => rfl)
                  rw [x_up_self] at hl
                  refine hl (fun g k0 k1 => ?_)
                  refine ev_blk 1 [] 94 ([some (.ref 57), some (.int (nI W)), some (.int ((1 : Int32))), some (.int (nI m)), none], [.int ((1 : Int32))], (x_up (x_up (x_up σ 86 (upd (σ 86) W ((2 : Int32)))) 87 (upd (σ 87) W (nI m))) 88 g)) rfl ?_ ?_
                  · trivial
                  refine ev_iret rfl rfl rfl ⟨rfl, shM_put (W := W) hD ⟨Or.inr (Or.inr rfl), by show m ≤ 40; omega⟩ (fun i hi => ?_) (fun i hi => ?_) k0 (fun k hk => (k1 k hk).trans ?_), ⟨fun c hc hn => ?_, fun i _ => ?_⟩⟩
                  · by_cases e2 : i = W <;> simp [x_up, upd, e2]
                  · by_cases e2 : i = W
                    · simp [x_up, upd, e2]
                    · simp [x_up, upd, e2]
                  · simp [x_up]
                  · simp only [List.mem_cons, List.not_mem_nil, or_false, not_or] at hc; simp [x_up, hc]
                  · simp [x_up]
                · exact absurd (by decide) c55
              · refine ev_blk 1 [] 39 ([some (.ref 57), some (.int (nI W)), some (.int ((1 : Int32))), some (.int (n)), none], [.int ((-14 : Int32))], σ) rfl ?_ ?_
                · trivial
                have e : s_sheet D (nI W) (1) n = (-14, D) := by rw [s_sheet, if_neg (fun q => q hs), if_neg (fun q => q (by decide)), if_neg (by decide), if_neg (Int32.not_lt.mpr c23), if_pos (Int32.not_le.mp c34)]
                rw [e]
                exact ev_iret rfl rfl rfl ⟨rfl, hD, xFm.rf⟩
          · refine ev_blk 1 [] 28 ([some (.ref 57), some (.int (nI W)), some (.int ((1 : Int32))), some (.int (n)), none], [.int ((-2 : Int32))], σ) rfl ?_ ?_
            · trivial
            have e : s_sheet D (nI W) (1) n = (-2, D) := by rw [s_sheet, if_neg (fun q => q hs), if_neg (fun q => q (by decide)), if_neg (by decide), if_pos (Int32.not_le.mp c23)]
            rw [e]
            exact ev_iret rfl rfl rfl ⟨rfl, hD, xFm.rf⟩
